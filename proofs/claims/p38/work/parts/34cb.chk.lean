/-! The contexts are right. -/
set_option maxRecDepth 1000000 in
theorem ck_34_t1_3 : ab_smQ tb_X11_next (ab_ev2 ab_ME2 1000000 1) sm_34 1 (kk_sl tb_X11_next (ab_ev2 ab_ME2 1000000 1) 20000 (none) 0 0 sm_34.2.2.1 2 3 1) = true := by decide +kernel
theorem ck_34_t1 : ab_smP tb_X11_next (ab_ev2 ab_ME2 1000000 1) 1000000 (none) 0 0 sm_34 1 = true := ab_tpl_sl (F := 20000) (k := 2) (N := 4) (L := [(0, 1), (1, 1), (2, 1), (3, 1)]) (by decide +kernel) (by decide) ck_34_t1_h (List.forall_mem_cons.mpr ⟨ck_34_t1_0, List.forall_mem_cons.mpr ⟨ck_34_t1_1, List.forall_mem_cons.mpr ⟨ck_34_t1_2, List.forall_mem_cons.mpr ⟨ck_34_t1_3, fun _ h => nomatch h⟩⟩⟩⟩)
theorem ck_34 : ab_smC tb_X11_next (ab_ev2 ab_ME2 1000000 1) 1000000 (none) 0 0 0 sm_34 = true := ab_smC_of 2 rfl ck_34_e (fun i hi => (show ∀ j ∈ List.range 2, ab_smP tb_X11_next (ab_ev2 ab_ME2 1000000 1) 1000000 (none) 0 0 sm_34 j = true from by
    have e : List.range 2 = [0, 1] := by decide
    rw [e]
    exact List.forall_mem_cons.mpr ⟨ck_34_t0, List.forall_mem_cons.mpr ⟨ck_34_t1, fun _ h => nomatch h⟩⟩) i (List.mem_range.mpr hi))
set_option maxRecDepth 1000000 in
theorem ck_35 : ab_smC tb_X11_nots (ab_ev2 ab_ME2 1000000 1) 1000000 (none) 0 0 0 sm_35 = true := by decide +kernel
set_option maxRecDepth 1000000 in
theorem ck_36_e_h : ab_smR sm_36 (kk_hd tb_X11_restore (ab_ev2 ab_ME2 1000000 1) (some .boolean) 0 0 sm_36.2.2.1 1493 2) = true := by decide +kernel
set_option maxRecDepth 1000000 in
theorem ck_36_e_0 : ab_smR sm_36 (kk_sl tb_X11_restore (ab_ev2 ab_ME2 1000000 1) 20000 (some .boolean) 0 0 sm_36.2.2.1 1493 0 1) = true := by decide +kernel
set_option maxRecDepth 1000000 in
theorem ck_36_e_1 : ab_smR sm_36 (kk_sl tb_X11_restore (ab_ev2 ab_ME2 1000000 1) 20000 (some .boolean) 0 0 sm_36.2.2.1 1493 1 1) = true := by decide +kernel
set_option maxRecDepth 1000000 in
theorem ck_36_e : ab_smE tb_X11_restore (ab_ev2 ab_ME2 1000000 1) 1000000 (some .boolean) 0 0 0 sm_36 = true := ab_ent_sl (F := 20000) (k := 1493) (N := 2) (L := [(0, 1), (1, 1)]) (by decide +kernel) (by decide) ck_36_e_h (List.forall_mem_cons.mpr ⟨ck_36_e_0, List.forall_mem_cons.mpr ⟨ck_36_e_1, fun _ h => nomatch h⟩⟩) (by decide +kernel)
set_option maxRecDepth 1000000 in
theorem ck_36_t0 : ab_smP tb_X11_restore (ab_ev2 ab_ME2 1000000 1) 1000000 (some .boolean) 0 0 sm_36 0 = true := by decide +kernel
theorem ck_36 : ab_smC tb_X11_restore (ab_ev2 ab_ME2 1000000 1) 1000000 (some .boolean) 0 0 0 sm_36 = true := ab_smC_of 1 rfl ck_36_e (fun i hi => (show ∀ j ∈ List.range 1, ab_smP tb_X11_restore (ab_ev2 ab_ME2 1000000 1) 1000000 (some .boolean) 0 0 sm_36 j = true from by
    have e : List.range 1 = [0] := by decide
    rw [e]
    exact List.forall_mem_cons.mpr ⟨ck_36_t0, fun _ h => nomatch h⟩) i (List.mem_range.mpr hi))
set_option maxRecDepth 1000000 in
theorem ck_37_e_h : ab_smR sm_37 (kk_hd tb_X11_restore (ab_ev2 ab_ME2 1000000 1) (some .boolean) 0 0 sm_37.2.2.1 1493 2) = true := by decide +kernel
set_option maxRecDepth 1000000 in
theorem ck_37_e_0 : ab_smR sm_37 (kk_sl tb_X11_restore (ab_ev2 ab_ME2 1000000 1) 20000 (some .boolean) 0 0 sm_37.2.2.1 1493 0 1) = true := by decide +kernel
set_option maxRecDepth 1000000 in
theorem ck_37_e_1 : ab_smR sm_37 (kk_sl tb_X11_restore (ab_ev2 ab_ME2 1000000 1) 20000 (some .boolean) 0 0 sm_37.2.2.1 1493 1 1) = true := by decide +kernel
set_option maxRecDepth 1000000 in
theorem ck_37_e : ab_smE tb_X11_restore (ab_ev2 ab_ME2 1000000 1) 1000000 (some .boolean) 0 0 0 sm_37 = true := ab_ent_sl (F := 20000) (k := 1493) (N := 2) (L := [(0, 1), (1, 1)]) (by decide +kernel) (by decide) ck_37_e_h (List.forall_mem_cons.mpr ⟨ck_37_e_0, List.forall_mem_cons.mpr ⟨ck_37_e_1, fun _ h => nomatch h⟩⟩) (by decide +kernel)
set_option maxRecDepth 1000000 in
theorem ck_37_t0 : ab_smP tb_X11_restore (ab_ev2 ab_ME2 1000000 1) 1000000 (some .boolean) 0 0 sm_37 0 = true := by decide +kernel
theorem ck_37 : ab_smC tb_X11_restore (ab_ev2 ab_ME2 1000000 1) 1000000 (some .boolean) 0 0 0 sm_37 = true := ab_smC_of 1 rfl ck_37_e (fun i hi => (show ∀ j ∈ List.range 1, ab_smP tb_X11_restore (ab_ev2 ab_ME2 1000000 1) 1000000 (some .boolean) 0 0 sm_37 j = true from by
    have e : List.range 1 = [0] := by decide
    rw [e]
    exact List.forall_mem_cons.mpr ⟨ck_37_t0, fun _ h => nomatch h⟩) i (List.mem_range.mpr hi))
set_option maxRecDepth 1000000 in
theorem ck_38 : ab_smC tb_X11_restore (ab_ev2 ab_ME2 1000000 1) 1000000 (some .boolean) 0 0 0 sm_38 = true := by decide +kernel
set_option maxRecDepth 1000000 in
theorem ck_39 : ab_smC tb_X11_restore (ab_ev2 ab_ME2 1000000 1) 1000000 (some .boolean) 0 0 0 sm_39 = true := by decide +kernel
set_option maxRecDepth 1000000 in
theorem ck_40 : ab_smC tb_X11_spells (ab_ev2 ab_ME2 1000000 1) 1000000 (none) 0 0 0 sm_40 = true := by decide +kernel
set_option maxRecDepth 1000000 in
theorem ck_41 : ab_smC tb_X11_spells (ab_ev2 ab_ME2 1000000 1) 1000000 (none) 0 0 0 sm_41 = true := by decide +kernel
set_option maxRecDepth 1000000 in
theorem ck_42 : ab_smC tb_X11_spells (ab_ev2 ab_ME2 1000000 1) 1000000 (none) 0 0 0 sm_42 = true := by decide +kernel
set_option maxRecDepth 1000000 in
theorem ck_43 : ab_smC tb_X11_sumOf (ab_ev2 ab_ME2 1000000 1) 1000000 (some .int) 0 0 0 sm_43 = true := by decide +kernel
set_option maxRecDepth 1000000 in
theorem ck_44 : ab_smC tb_X11_tries (ab_ev2 ab_ME2 1000000 1) 1000000 (none) 0 0 0 sm_44 = true := by decide +kernel
set_option maxRecDepth 1000000 in
theorem ck_45 : ab_smC tb_X11_undo (ab_ev2 ab_ME2 1000000 1) 1000000 (some .int) 0 0 0 sm_45 = true := by decide +kernel
set_option maxRecDepth 1000000 in
theorem ck_46 : ab_smC tb_X11_whyBend (ab_ev2 ab_ME2 1000000 1) 1000000 (some .int) 0 0 0 sm_46 = true := by decide +kernel
set_option maxRecDepth 1000000 in
theorem ck_47 : ab_smC tb_X4_readRun (ab_ev2 ab_ME2 1000000 1) 1000000 (none) 0 0 0 sm_47 = true := by decide +kernel
set_option maxRecDepth 1000000 in
theorem ck_48 : ab_smC tb_X4_toldWord (ab_ev2 ab_ME2 1000000 1) 1000000 (some .int) 0 0 0 sm_48 = true := by decide +kernel
set_option maxRecDepth 1000000 in
theorem ck_49 : ab_smC tb_X5_search (ab_ev2 ab_ME2 1000000 1) 1000000 (none) 0 0 0 sm_49 = true := by decide +kernel
set_option maxRecDepth 1000000 in
theorem ck_50 : ab_smC tb_X5_search (ab_ev2 ab_ME2 1000000 1) 1000000 (none) 0 0 0 sm_50 = true := by decide +kernel
set_option maxRecDepth 1000000 in
theorem ck_51 : ab_smC tb_X5_takeIfBetter (ab_ev2 ab_ME2 1000000 1) 1000000 (none) 0 0 0 sm_51 = true := by decide +kernel
set_option maxRecDepth 1000000 in
theorem ck_52 : ab_smC tb_X6_addStep (ab_ev2 ab_ME2 1000000 1) 1000000 (none) 0 0 0 sm_52 = true := by decide +kernel
set_option maxRecDepth 1000000 in
theorem ck_53 : ab_smC tb_X6_addStep (ab_ev2 ab_ME2 1000000 1) 1000000 (none) 0 0 0 sm_53 = true := by decide +kernel
set_option maxRecDepth 1000000 in
theorem ck_54 : ab_smC tb_X6_addStep (ab_ev2 ab_ME2 1000000 1) 1000000 (none) 0 0 0 sm_54 = true := by decide +kernel
set_option maxRecDepth 1000000 in
theorem ck_55 : ab_smC tb_X6_addStep (ab_ev2 ab_ME2 1000000 1) 1000000 (none) 0 0 0 sm_55 = true := by decide +kernel
set_option maxRecDepth 1000000 in
theorem ck_56 : ab_smC tb_X6_addStep (ab_ev2 ab_ME2 1000000 1) 1000000 (none) 0 0 0 sm_56 = true := by decide +kernel
set_option maxRecDepth 1000000 in
theorem ck_57 : ab_smC tb_X6_addStep (ab_ev2 ab_ME2 1000000 1) 1000000 (none) 0 0 0 sm_57 = true := by decide +kernel
set_option maxRecDepth 1000000 in
theorem ck_58 : ab_smC tb_X6_compares (ab_ev2 ab_ME2 1000000 1) 1000000 (some .boolean) 0 0 0 sm_58 = true := by decide +kernel
set_option maxRecDepth 1000000 in
theorem ck_59 : ab_smC tb_X6_compares (ab_ev2 ab_ME2 1000000 1) 1000000 (some .boolean) 0 0 0 sm_59 = true := by decide +kernel
set_option maxRecDepth 1000000 in
theorem ck_60 : ab_smC tb_X6_readOne (ab_ev2 ab_ME2 1000000 1) 1000000 (some .boolean) 0 0 0 sm_60 = true := by decide +kernel
set_option maxRecDepth 1000000 in
theorem ck_61 : ab_smC tb_X6_readOne (ab_ev2 ab_ME2 1000000 1) 1000000 (some .boolean) 0 0 0 sm_61 = true := by decide +kernel
set_option maxRecDepth 1000000 in
theorem ck_62 : ab_smC tb_X6_readOne (ab_ev2 ab_ME2 1000000 1) 1000000 (some .boolean) 0 0 0 sm_62 = true := by decide +kernel
set_option maxRecDepth 1000000 in
theorem ck_63 : ab_smC tb_X6_readOne (ab_ev2 ab_ME2 1000000 1) 1000000 (some .boolean) 0 0 0 sm_63 = true := by decide +kernel
set_option maxRecDepth 1000000 in
theorem ck_64 : ab_smC tb_X7_beginIn (ab_ev2 ab_ME2 1000000 1) 1000000 (none) 0 0 0 sm_64 = true := by decide +kernel
set_option maxRecDepth 1000000 in
theorem ck_65 : ab_smC tb_X7_beginIn (ab_ev2 ab_ME2 1000000 1) 1000000 (none) 0 0 0 sm_65 = true := by decide +kernel
set_option maxRecDepth 1000000 in
theorem ck_66 : ab_smC tb_X7_copyFrom (ab_ev2 ab_ME2 1000000 1) 1000000 (none) 0 0 0 sm_66 = true := by decide +kernel
set_option maxRecDepth 1000000 in
theorem ck_67 : ab_smC tb_X7_copyFrom (ab_ev2 ab_ME2 1000000 1) 1000000 (none) 0 0 0 sm_67 = true := by decide +kernel
set_option maxRecDepth 1000000 in
theorem ck_68 : ab_smC tb_X7_copyFrom (ab_ev2 ab_ME2 1000000 1) 1000000 (none) 0 0 0 sm_68 = true := by decide +kernel
set_option maxRecDepth 1000000 in
theorem ck_69 : ab_smC tb_X7_copyFrom (ab_ev2 ab_ME2 1000000 1) 1000000 (none) 0 0 0 sm_69 = true := by decide +kernel
set_option maxRecDepth 1000000 in
theorem ck_70 : ab_smC tb_X7_copyFrom (ab_ev2 ab_ME2 1000000 1) 1000000 (none) 0 0 0 sm_70 = true := by decide +kernel
set_option maxRecDepth 1000000 in
theorem ck_71 : ab_smC tb_X7_copyFrom (ab_ev2 ab_ME2 1000000 1) 1000000 (none) 0 0 0 sm_71 = true := by decide +kernel
set_option maxRecDepth 1000000 in
theorem ck_72 : ab_smC tb_X7_copyFrom (ab_ev2 ab_ME2 1000000 1) 1000000 (none) 0 0 0 sm_72 = true := by decide +kernel
set_option maxRecDepth 1000000 in
theorem ck_73 : ab_smC tb_X7_copyFrom (ab_ev2 ab_ME2 1000000 1) 1000000 (none) 0 0 0 sm_73 = true := by decide +kernel
set_option maxRecDepth 1000000 in
theorem ck_74 : ab_smC tb_X7_copyFrom (ab_ev2 ab_ME2 1000000 1) 1000000 (none) 0 0 0 sm_74 = true := by decide +kernel
set_option maxRecDepth 1000000 in
theorem ck_75 : ab_smC tb_X7_copyFrom (ab_ev2 ab_ME2 1000000 1) 1000000 (none) 0 0 0 sm_75 = true := by decide +kernel
set_option maxRecDepth 1000000 in
theorem ck_76 : ab_smC tb_X7_copyFrom (ab_ev2 ab_ME2 1000000 1) 1000000 (none) 0 0 0 sm_76 = true := by decide +kernel
set_option maxRecDepth 1000000 in
theorem ck_77 : ab_smC tb_X7_copyFrom (ab_ev2 ab_ME2 1000000 1) 1000000 (none) 0 0 0 sm_77 = true := by decide +kernel
set_option maxRecDepth 1000000 in
theorem ck_78 : ab_smC tb_X7_copyFrom (ab_ev2 ab_ME2 1000000 1) 1000000 (none) 0 0 0 sm_78 = true := by decide +kernel
set_option maxRecDepth 1000000 in
theorem ck_79 : ab_smC tb_X7_copyFrom (ab_ev2 ab_ME2 1000000 1) 1000000 (none) 0 0 0 sm_79 = true := by decide +kernel
set_option maxRecDepth 1000000 in
theorem ck_80 : ab_smC tb_X7_copyFrom (ab_ev2 ab_ME2 1000000 1) 1000000 (none) 0 0 0 sm_80 = true := by decide +kernel
set_option maxRecDepth 1000000 in
theorem ck_81 : ab_smC tb_X7_copyFrom (ab_ev2 ab_ME2 1000000 1) 1000000 (none) 0 0 0 sm_81 = true := by decide +kernel
set_option maxRecDepth 1000000 in
theorem ck_82 : ab_smC tb_X7_copyFrom (ab_ev2 ab_ME2 1000000 1) 1000000 (none) 0 0 0 sm_82 = true := by decide +kernel
set_option maxRecDepth 1000000 in
theorem ck_83 : ab_smC tb_X7_copyFrom (ab_ev2 ab_ME2 1000000 1) 1000000 (none) 0 0 0 sm_83 = true := by decide +kernel
set_option maxRecDepth 1000000 in
theorem ck_84 : ab_smC tb_X7_copyFrom (ab_ev2 ab_ME2 1000000 1) 1000000 (none) 0 0 0 sm_84 = true := by decide +kernel
set_option maxRecDepth 1000000 in
theorem ck_85 : ab_smC tb_X7_copyFrom (ab_ev2 ab_ME2 1000000 1) 1000000 (none) 0 0 0 sm_85 = true := by decide +kernel
set_option maxRecDepth 1000000 in
theorem ck_86 : ab_smC tb_X7_copyFrom (ab_ev2 ab_ME2 1000000 1) 1000000 (none) 0 0 0 sm_86 = true := by decide +kernel
set_option maxRecDepth 1000000 in
theorem ck_87 : ab_smC tb_X7_copyFrom (ab_ev2 ab_ME2 1000000 1) 1000000 (none) 0 0 0 sm_87 = true := by decide +kernel
set_option maxRecDepth 1000000 in
theorem ck_88 : ab_smC tb_X7_noonsUpTo (ab_ev2 ab_ME2 1000000 1) 1000000 (some .int) 0 0 0 sm_88 = true := by decide +kernel
set_option maxRecDepth 1000000 in
theorem ck_89 : ab_smC tb_X7_noonsUpTo (ab_ev2 ab_ME2 1000000 1) 1000000 (some .int) 0 0 0 sm_89 = true := by decide +kernel
set_option maxRecDepth 1000000 in
theorem ck_90 : ab_smC tb_X7_noonsUpTo (ab_ev2 ab_ME2 1000000 1) 1000000 (some .int) 0 0 0 sm_90 = true := by decide +kernel
set_option maxRecDepth 1000000 in
theorem ck_91 : ab_smC tb_X7_noonsUpTo (ab_ev2 ab_ME2 1000000 1) 1000000 (some .int) 0 0 0 sm_91 = true := by decide +kernel
set_option maxRecDepth 1000000 in
theorem ck_92 : ab_smC tb_X7_springBack (ab_ev2 ab_ME2 1000000 1) 1000000 (some .int) 0 0 0 sm_92 = true := by decide +kernel
set_option maxRecDepth 1000000 in
theorem ck_93 : ab_smC tb_X7_springBack (ab_ev2 ab_ME2 1000000 1) 1000000 (some .int) 0 0 0 sm_93 = true := by decide +kernel
set_option maxRecDepth 1000000 in
theorem ck_94 : ab_smC tb_X7_springBack (ab_ev2 ab_ME2 1000000 1) 1000000 (some .int) 0 0 0 sm_94 = true := by decide +kernel
set_option maxRecDepth 1000000 in
theorem ck_95 : ab_smC tb_X7_springBack (ab_ev2 ab_ME2 1000000 1) 1000000 (some .int) 0 0 0 sm_95 = true := by decide +kernel
set_option maxRecDepth 1000000 in
theorem ck_96 : ab_smC tb_X8_copyFrom (ab_ev2 ab_ME2 1000000 1) 1000000 (none) 0 0 0 sm_96 = true := by decide +kernel
set_option maxRecDepth 1000000 in
theorem ck_97 : ab_smC tb_X8_copyFrom (ab_ev2 ab_ME2 1000000 1) 1000000 (none) 0 0 0 sm_97 = true := by decide +kernel
set_option maxRecDepth 1000000 in
theorem ck_98 : ab_smC tb_X8_copyFrom (ab_ev2 ab_ME2 1000000 1) 1000000 (none) 0 0 0 sm_98 = true := by decide +kernel
set_option maxRecDepth 1000000 in
theorem ck_99 : ab_smC tb_X8_copyFrom (ab_ev2 ab_ME2 1000000 1) 1000000 (none) 0 0 0 sm_99 = true := by decide +kernel
set_option maxRecDepth 1000000 in
theorem ck_100 : ab_smC tb_X8_copyFrom (ab_ev2 ab_ME2 1000000 1) 1000000 (none) 0 0 0 sm_100 = true := by decide +kernel
set_option maxRecDepth 1000000 in
theorem ck_101 : ab_smC tb_X8_copyFrom (ab_ev2 ab_ME2 1000000 1) 1000000 (none) 0 0 0 sm_101 = true := by decide +kernel
set_option maxRecDepth 1000000 in
theorem ck_102 : ab_smC tb_X8_copyFrom (ab_ev2 ab_ME2 1000000 1) 1000000 (none) 0 0 0 sm_102 = true := by decide +kernel
set_option maxRecDepth 1000000 in
theorem ck_103 : ab_smC tb_X8_copyFrom (ab_ev2 ab_ME2 1000000 1) 1000000 (none) 0 0 0 sm_103 = true := by decide +kernel
set_option maxRecDepth 1000000 in
theorem ck_104 : ab_smC tb_X8_dueOn (ab_ev2 ab_ME2 1000000 1) 1000000 (some .int) 0 0 0 sm_104 = true := by decide +kernel
set_option maxRecDepth 1000000 in
theorem ck_105 : ab_smC tb_X8_dueOn (ab_ev2 ab_ME2 1000000 1) 1000000 (some .int) 0 0 0 sm_105 = true := by decide +kernel
set_option maxRecDepth 1000000 in
theorem ck_106 : ab_smC tb_X8_townNamed (ab_ev2 ab_ME2 1000000 1) 1000000 (some .int) 0 0 0 sm_106 = true := by decide +kernel
set_option maxRecDepth 1000000 in
theorem ck_107 : ab_smC tb_X8_townNamed (ab_ev2 ab_ME2 1000000 1) 1000000 (some .int) 0 0 0 sm_107 = true := by decide +kernel
set_option maxRecDepth 1000000 in
theorem ck_108 : ab_smC tb_X10_bendsAdded (ab_ev2 ab_ME2 1000000 2) 1000000 (some .int) 0 0 0 sm_108 = true := by decide +kernel
set_option maxRecDepth 1000000 in
theorem ck_109 : ab_smC tb_X10_due (ab_ev2 ab_ME2 1000000 2) 1000000 (some .int) 1 6 1 sm_109 = true := by decide +kernel
set_option maxRecDepth 1000000 in
theorem ck_110 : ab_smC tb_X10_hasDue (ab_ev2 ab_ME2 1000000 2) 1000000 (some .boolean) 0 0 0 sm_110 = true := by decide +kernel
set_option maxRecDepth 1000000 in
theorem ck_111 : ab_smC tb_X10_image (ab_ev2 ab_ME2 1000000 2) 1000000 (some .boolean) 0 0 0 sm_111 = true := by decide +kernel
set_option maxRecDepth 1000000 in
theorem ck_112 : ab_smC tb_X10_image (ab_ev2 ab_ME2 1000000 2) 1000000 (some .boolean) 0 0 0 sm_112 = true := by decide +kernel
