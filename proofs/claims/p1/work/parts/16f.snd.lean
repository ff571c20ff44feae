/-! Each table is sound. -/
set_option maxRecDepth 100000 in
set_option maxHeartbeats 4000000 in
theorem sn_X10_evenAt {l : Launch} {X : ab_X} {D : va_G} : ab_snd l X D ab_MEL (yX10_evenAt, cX10_evenAt, 2, some .int, 1, 6, 1, [], tb_X10_evenAt) := fun d => ⟨by decide +kernel, ⟨rfl, fun cal K p e R s m args below meth c Q z0 C hmn hd1 hd2 hmR hsR =>
  bc (tc0 (so_iload_n (k := 1) C rfl (by decide +kernel)) <| tc0 (so_if_lt (off := 11) C (by decide +kernel) (by decide)) <| tc0 (so_iload_n (k := 1) C rfl (by decide +kernel)) <| tc0 (so_aload_n (k := 0) C rfl (by decide +kernel)) <| tc0 (so_getf C hc_X10 hin_X10 (by decide) tg_598 (by decide +kernel)) <| tc0 (so_icmp_lt (off := 14) C (by decide +kernel) (by decide)) <| tc3 (⟨131, 276, 10, _, rfl, tg_1169, (by decide +kernel), (by decide +kernel), Or.inr ⟨(by decide +kernel), (by decide +kernel), (by decide +kernel)⟩⟩) <| tcn) <|
  bc (tc1 (by decide +kernel) <| tcn) <|
  bn⟩⟩
set_option maxRecDepth 100000 in
set_option maxHeartbeats 4000000 in
theorem sn_X11_evenAt {l : Launch} {X : ab_X} {D : va_G} : ab_snd l X D ab_MEL (yX11_evenAt, cX11_evenAt, 2, some .int, 0, 0, 0, [], tb_X11_evenAt) := fun d => ⟨by decide +kernel, fun cal K p e R s m args below meth c Q z0 C hmn hd1 hd2 hmR hsR =>
  bc (tc0 (so_aload_n (k := 0) C rfl (by decide +kernel)) <| tc0 (so_iload_n (k := 1) C rfl (by decide +kernel)) <| tc0 (so_iconst C (by decide +kernel)) <| tc0 (so_aload_n (k := 0) C rfl (by decide +kernel)) <| tc0 (so_getf C hc_X11 hin_X11 (by decide) tg_1406 (by decide +kernel)) <| tc0 (so_iconst C (by decide +kernel)) <| tc0 (so_isub C (by decide +kernel)) <| tc0 (so_callS C K me_X11_isIn hmR hsR hd1 hd2 (by decide) hy_X11_isIn tg_1593 rfl tg_1591 tg_1592 tg_158 (by decide +kernel)) <| tc0 (so_if_ne (off := 7) C (by decide +kernel) (by decide)) <| tc0 (so_iconst C (by decide +kernel)) <| tcn) <|
  bc (tc0 (so_goto (off := 4) C (by decide +kernel) (by decide)) <| tc0 (so_callV C K me_X11_throwsIf hmR hsR hd1 hd2 (by decide) hy_X11_throwsIf tg_1644 hc_X11 rfl rfl tg_1641 tg_1643 tg_103 tg_158 (by decide +kernel)) <| tc0 (so_if_eq (off := 7) C (by decide +kernel) (by decide)) <| tc0 (so_iconst C (by decide +kernel)) <| tc0 (so_goto (off := 9) C (by decide +kernel) (by decide)) <| tcn) <|
  bc (tc1 (by decide +kernel) <| tcn) <|
  bn⟩
set_option maxRecDepth 100000 in
set_option maxHeartbeats 4000000 in
theorem sn_X10_kept {l : Launch} {X : ab_X} {D : va_G} : ab_snd l X D ab_MEL (yX10_kept, cX10_kept, 2, some .int, 0, 0, 0, [], tb_X10_kept) := fun d => ⟨by decide +kernel, fun cal K p e R s m args below meth c Q z0 C hmn hd1 hd2 hmR hsR =>
  bc (tc0 (so_aload_n (k := 0) C rfl (by decide +kernel)) <| tc0 (so_getf C hc_X10 hin_X10 (by decide) tg_589 (by decide +kernel)) <| tc0 (so_aload_n (k := 0) C rfl (by decide +kernel)) <| tc0 (so_getf C hc_X10 hin_X10 (by decide) tg_588 (by decide +kernel)) <| tc0 (so_callVN C K me_X7_copyFrom hmR hsR hd1 hd2 (by decide) hy_X7_copyFrom tg_782 hc_X7 rfl tn_878 tg_781 tg_28 tg_151 (by decide +kernel)) <| tc0 (so_iconst C (by decide +kernel)) <| tc0 (so_istore_n (k := 1) C rfl (by decide) (by decide +kernel)) <| tc0 (so_iload_n (k := 1) C rfl (by decide +kernel)) <| tc0 (so_sipush C (by decide +kernel) (by decide +kernel)) <| tcn) <|
  bc (tc0 (so_icmp_ge (off := 68) C (by decide +kernel) (by decide)) <| tc0 (so_aload_n (k := 0) C rfl (by decide +kernel)) <| tc0 (so_getf C hc_X10 hin_X10 (by decide) tg_589 (by decide +kernel)) <| tc0 (so_getfN C hc_X7 hin_X7 (by decide) tn_403 (by decide +kernel)) <| tc0 (so_sipush C (by decide +kernel) (by decide +kernel)) <| tc0 (so_icmp_ge (off := 55) C (by decide +kernel) (by decide)) <| tcn) <|
  bc (tc0 (so_aload_n (k := 0) C rfl (by decide +kernel)) <| tc0 (so_getf C hc_X10 hin_X10 (by decide) tg_589 (by decide +kernel)) <| tc0 (so_aload_n (k := 0) C rfl (by decide +kernel)) <| tc0 (so_getf C hc_X10 hin_X10 (by decide) tg_586 (by decide +kernel)) <| tc0 (so_callVN C K me_X7_bendToDues hmR hsR hd1 hd2 (by decide) hy_X7_bendToDues tg_882 hc_X7 rfl tn_879 tg_881 tg_42 tg_151 (by decide +kernel)) <| tc0 (so_aload_n (k := 0) C rfl (by decide +kernel)) <| tc0 (so_getf C hc_X10 hin_X10 (by decide) tg_589 (by decide +kernel)) <| tcn) <|
  bc (tc0 (so_aload_n (k := 0) C rfl (by decide +kernel)) <| tc0 (so_getf C hc_X10 hin_X10 (by decide) tg_586 (by decide +kernel)) <| tc0 (so_callVN C K me_X7_breachBits hmR hsR hd1 hd2 (by decide) hy_X7_breachBits tg_888 hc_X7 rfl tn_885 tg_887 tg_43 tg_151 (by decide +kernel)) <| tc0 (so_if_ne (off := 11) C (by decide +kernel) (by decide)) <| tc0 (so_aload_n (k := 0) C rfl (by decide +kernel)) <| tc0 (so_getf C hc_X10 hin_X10 (by decide) tg_589 (by decide +kernel)) <| tc0 (so_getfN C hc_X7 hin_X7 (by decide) tn_403 (by decide +kernel)) <| tcn) <|
  bc (tc1 (by decide +kernel) <| tcn) <|
  bc (tc1 (by decide +kernel) <| tcn) <|
  bn⟩
set_option maxRecDepth 100000 in
set_option maxHeartbeats 4000000 in
theorem sn_X7_bendToDues {l : Launch} {X : ab_X} {D : va_G} : ab_snd l X D ab_MEL (yX7_bendToDues, cX7_bendToDues, 5, none, 0, 0, 0, [], tb_X7_bendToDues) := fun d => ⟨by decide +kernel, fun cal K p e R s m args below meth c Q z0 C hmn hd1 hd2 hmR hsR =>
  bc (tc0 (so_iconst C (by decide +kernel)) <| tc0 (so_istore_n (k := 2) C rfl (by decide) (by decide +kernel)) <| tc0 (so_iload_n (k := 2) C rfl (by decide +kernel)) <| tc0 (so_aload_n (k := 1) C rfl (by decide +kernel)) <| tc0 (so_getfN C hc_X8 hin_X8 (by decide) tn_313 (by decide +kernel)) <| tc0 (so_icmp_ge (off := 62) C (by decide +kernel) (by decide)) <| tcn) <|
  bc ( tcn) <|
  bc ( tcn) <|
  bc ( tcn) <|
  bc (tc2 (by decide +kernel) <| tcn) <|
  bn⟩
set_option maxRecDepth 100000 in
set_option maxHeartbeats 4000000 in
theorem sn_X11_kept {l : Launch} {X : ab_X} {D : va_G} : ab_snd l X D ab_MEL (yX11_kept, cX11_kept, 3, some .int, 0, 0, 0, [], tb_X11_kept) := fun d => ⟨by decide +kernel, fun cal K p e R s m args below meth c Q z0 C hmn hd1 hd2 hmR hsR =>
  bc (tc0 (so_aload_n (k := 0) C rfl (by decide +kernel)) <| tc0 (so_iconst C (by decide +kernel)) <| tc0 (so_putf C hc_X11 hin_X11 (by decide) tyX11_ok nmX11 tg_1379 rfl (by decide +kernel)) <| tc0 (so_aload_n (k := 0) C rfl (by decide +kernel)) <| tc0 (so_callV C K me_X11_tries hmR hsR hd1 hd2 (by decide) hy_X11_tries tg_1782 hc_X11 rfl rfl tg_1779 tg_1781 tg_121 tg_158 (by decide +kernel)) <| tc0 (so_iconst C (by decide +kernel)) <| tc0 (so_istore_n (k := 1) C rfl (by decide) (by decide +kernel)) <| tc0 (so_iconst C (by decide +kernel)) <| tc0 (so_istore_n (k := 2) C rfl (by decide) (by decide +kernel)) <| tc0 (so_iload_n (k := 2) C rfl (by decide +kernel)) <| tc0 (so_sipush C (by decide +kernel) (by decide +kernel)) <| tcn) <|
  bc (tc0 (so_icmp_ge (off := 56) C (by decide +kernel) (by decide)) <| tc0 (so_iload_n (k := 1) C rfl (by decide +kernel)) <| tc0 (so_if_ge (off := 52) C (by decide +kernel) (by decide)) <| tc0 (so_aload_n (k := 0) C rfl (by decide +kernel)) <| tc0 (so_getf C hc_X11 hin_X11 (by decide) tg_1385 (by decide +kernel)) <| tc0 (so_bipush C (by decide +kernel) (by decide +kernel)) <| tc0 (so_iald C (by decide +kernel)) <| tc0 (so_sipush C (by decide +kernel) (by decide +kernel)) <| tcn) <|
  bc (tc0 (so_icmp_ge (off := 39) C (by decide +kernel) (by decide)) <| tc0 (so_aload_n (k := 0) C rfl (by decide +kernel)) <| tc0 (so_callV C K me_X11_movesToDues hmR hsR hd1 hd2 (by decide) hy_X11_movesToDues tg_1786 hc_X11 rfl rfl tg_1783 tg_1785 tg_122 tg_158 (by decide +kernel)) <| tc0 (so_aload_n (k := 0) C rfl (by decide +kernel)) <| tc0 (so_callV C K me_X11_breachSet hmR hsR hd1 hd2 (by decide) hy_X11_breachSet tg_1700 hc_X11 rfl rfl tg_1697 tg_1699 tg_113 tg_158 (by decide +kernel)) <| tc0 (so_if_ne (off := 11) C (by decide +kernel) (by decide)) <| tcn) <|
  bc (tc0 (so_aload_n (k := 0) C rfl (by decide +kernel)) <| tc0 (so_getf C hc_X11 hin_X11 (by decide) tg_1385 (by decide +kernel)) <| tc0 (so_bipush C (by decide +kernel) (by decide +kernel)) <| tc0 (so_iald C (by decide +kernel)) <| tc0 (so_istore_n (k := 1) C rfl (by decide) (by decide +kernel)) <| tc0 (so_aload_n (k := 0) C rfl (by decide +kernel)) <| tc0 (so_getf C hc_X11 hin_X11 (by decide) tg_1385 (by decide +kernel)) <| tc0 (so_bipush C (by decide +kernel) (by decide +kernel)) <| tc0 (so_dup2 C (by decide +kernel)) <| tc0 (so_iald C (by decide +kernel)) <| tcn) <|
  bc (tc0 (so_iconst C (by decide +kernel)) <| tc0 (so_iadd C (by decide +kernel)) <| tc0 (so_iast C (by decide +kernel)) <| tc0 (so_iinc C (by decide) (by decide +kernel)) <| tc0 (so_goto (off := (-57)) C (by decide +kernel) (by decide)) <| tc0 (so_aload_n (k := 0) C rfl (by decide +kernel)) <| tc0 (so_callV C K me_X11_back hmR hsR hd1 hd2 (by decide) hy_X11_back tg_1793 hc_X11 rfl rfl tg_1790 tg_1792 tg_123 tg_158 (by decide +kernel)) <| tc0 (so_iload_n (k := 1) C rfl (by decide +kernel)) <| tc1 (by decide +kernel) <| tcn) <|
  bn⟩
set_option maxRecDepth 100000 in
set_option maxHeartbeats 4000000 in
theorem sn_X11_tries {l : Launch} {X : ab_X} {D : va_G} : ab_snd l X D ab_MEL (yX11_tries, cX11_tries, 2, none, 0, 0, 0, [], tb_X11_tries) := fun d => ⟨by decide +kernel, fun cal K p e R s m args below meth c Q z0 C hmn hd1 hd2 hmR hsR =>
  bc (tc0 (so_iconst C (by decide +kernel)) <| tc0 (so_istore_n (k := 1) C rfl (by decide) (by decide +kernel)) <| tc0 (so_iload_n (k := 1) C rfl (by decide +kernel)) <| tc0 (so_bipush C (by decide +kernel) (by decide +kernel)) <| tc0 (so_icmp_ge (off := 24) C (by decide +kernel) (by decide)) <| tc0 (so_aload_n (k := 0) C rfl (by decide +kernel)) <| tc0 (so_getf C hc_X11 hin_X11 (by decide) tg_1401 (by decide +kernel)) <| tc0 (so_iload_n (k := 1) C rfl (by decide +kernel)) <| tc0 (so_aload_n (k := 0) C rfl (by decide +kernel)) <| tc0 (so_getf C hc_X11 hin_X11 (by decide) tg_1385 (by decide +kernel)) <| tcn) <|
  bc (tc0 (so_bipush C (by decide +kernel) (by decide +kernel)) <| tc0 (so_iload_n (k := 1) C rfl (by decide +kernel)) <| tc0 (so_iadd C (by decide +kernel)) <| tc0 (so_iald C (by decide +kernel)) <| tc0 (so_iast C (by decide +kernel)) <| tc0 (so_iinc C (by decide) (by decide +kernel)) <| tc0 (so_goto (off := (-24)) C (by decide +kernel) (by decide)) <| tc2 (by decide +kernel) <| tcn) <|
  bn⟩
set_option maxRecDepth 100000 in
set_option maxHeartbeats 4000000 in
theorem sn_X11_movesToDues {l : Launch} {X : ab_X} {D : va_G} : ab_snd l X D ab_MEL (yX11_movesToDues, cX11_movesToDues, 3, none, 0, 0, 0, [], tb_X11_movesToDues) := fun d => ⟨by decide +kernel, fun cal K p e R s m args below meth c Q z0 C hmn hd1 hd2 hmR hsR =>
  bc (tc0 (so_iconst C (by decide +kernel)) <| tc0 (so_istore_n (k := 1) C rfl (by decide) (by decide +kernel)) <| tc0 (so_iload_n (k := 1) C rfl (by decide +kernel)) <| tc0 (so_aload_n (k := 0) C rfl (by decide +kernel)) <| tc0 (so_getf C hc_X11 hin_X11 (by decide) tg_1385 (by decide +kernel)) <| tc0 (so_iconst C (by decide +kernel)) <| tc0 (so_iald C (by decide +kernel)) <| tc0 (so_icmp_ge (off := 84) C (by decide +kernel) (by decide)) <| tcn) <|
  bc ( tcn) <|
  bc ( tcn) <|
  bc ( tcn) <|
  bc ( tcn) <|
  bc (tc2 (by decide +kernel) <| tcn) <|
  bn⟩
set_option maxRecDepth 100000 in
set_option maxHeartbeats 4000000 in
theorem sn_X11_back {l : Launch} {X : ab_X} {D : va_G} : ab_snd l X D ab_MEL (yX11_back, cX11_back, 2, none, 0, 0, 0, [], tb_X11_back) := fun d => ⟨by decide +kernel, fun cal K p e R s m args below meth c Q z0 C hmn hd1 hd2 hmR hsR =>
  bc (tc0 (so_iconst C (by decide +kernel)) <| tc0 (so_istore_n (k := 1) C rfl (by decide) (by decide +kernel)) <| tc0 (so_iload_n (k := 1) C rfl (by decide +kernel)) <| tc0 (so_bipush C (by decide +kernel) (by decide +kernel)) <| tc0 (so_icmp_ge (off := 24) C (by decide +kernel) (by decide)) <| tc0 (so_aload_n (k := 0) C rfl (by decide +kernel)) <| tc0 (so_getf C hc_X11 hin_X11 (by decide) tg_1385 (by decide +kernel)) <| tc0 (so_bipush C (by decide +kernel) (by decide +kernel)) <| tc0 (so_iload_n (k := 1) C rfl (by decide +kernel)) <| tc0 (so_iadd C (by decide +kernel)) <| tcn) <|
  bc (tc0 (so_aload_n (k := 0) C rfl (by decide +kernel)) <| tc0 (so_getf C hc_X11 hin_X11 (by decide) tg_1401 (by decide +kernel)) <| tc0 (so_iload_n (k := 1) C rfl (by decide +kernel)) <| tc0 (so_iald C (by decide +kernel)) <| tc0 (so_iast C (by decide +kernel)) <| tc0 (so_iinc C (by decide) (by decide +kernel)) <| tc0 (so_goto (off := (-24)) C (by decide +kernel) (by decide)) <| tc2 (by decide +kernel) <| tcn) <|
  bn⟩
set_option maxRecDepth 100000 in
set_option maxHeartbeats 4000000 in
theorem sn_X10_worst {l : Launch} {X : ab_X} {D : va_G} : ab_snd l X D ab_MEL (yX10_worst, cX10_worst, 6, some .int, 0, 0, 0, [], tb_X10_worst) := fun d => ⟨by decide +kernel, fun cal K p e R s m args below meth c Q z0 C hmn hd1 hd2 hmR hsR =>
  bc (tc0 (so_iload_n (k := 1) C rfl (by decide +kernel)) <| tc0 (so_iconst C (by decide +kernel)) <| tc0 (so_icmp_lt (off := 9) C (by decide +kernel) (by decide)) <| tc0 (so_iload_n (k := 1) C rfl (by decide +kernel)) <| tc0 (so_bipush C (by decide +kernel) (by decide +kernel)) <| tc0 (so_icmp_le (off := 5) C (by decide +kernel) (by decide)) <| tc0 (so_iconst C (by decide +kernel)) <| tc1 (by decide +kernel) <| tc0 (so_aload_n (k := 0) C rfl (by decide +kernel)) <| tc0 (so_getf C hc_X10 hin_X10 (by decide) tg_589 (by decide +kernel)) <| tcn) <|
  bc (tc0 (so_aload_n (k := 0) C rfl (by decide +kernel)) <| tc0 (so_getf C hc_X10 hin_X10 (by decide) tg_588 (by decide +kernel)) <| tc0 (so_callVN C K me_X7_copyFrom hmR hsR hd1 hd2 (by decide) hy_X7_copyFrom tg_782 hc_X7 rfl tn_878 tg_781 tg_28 tg_151 (by decide +kernel)) <| tc0 (so_aload_n (k := 0) C rfl (by decide +kernel)) <| tc0 (so_getf C hc_X10 hin_X10 (by decide) tg_589 (by decide +kernel)) <| tc0 (so_aload_n (k := 0) C rfl (by decide +kernel)) <| tc0 (so_getf C hc_X10 hin_X10 (by decide) tg_586 (by decide +kernel)) <| tcn) <|
  bc (tc0 (so_iload_n (k := 1) C rfl (by decide +kernel)) <| tc0 (so_callVN C K me_X7_passDays hmR hsR hd1 hd2 (by decide) hy_X7_passDays tg_827 hc_X7 rfl tn_824 tg_826 tg_33 tg_151 (by decide +kernel)) <| tc0 (so_iconst C (by decide +kernel)) <| tc0 (so_istore_n (k := 2) C rfl (by decide) (by decide +kernel)) <| tc0 (so_iconst C (by decide +kernel)) <| tc0 (so_istore_n (k := 3) C rfl (by decide) (by decide +kernel)) <| tc0 (so_iconst C (by decide +kernel)) <| tc0 (so_istore C (by decide) (by decide +kernel)) <| tc0 (so_iload C (by decide +kernel)) <| tc0 (so_aload_n (k := 0) C rfl (by decide +kernel)) <| tc0 (so_getf C hc_X10 hin_X10 (by decide) tg_586 (by decide +kernel)) <| tcn) <|
  bc (tc0 (so_getfN C hc_X8 hin_X8 (by decide) tn_315 (by decide +kernel)) <| tc0 (so_icmp_ge (off := 44) C (by decide +kernel) (by decide)) <| tcn) <|
  bc ( tcn) <|
  bc ( tcn) <|
  bc (tc0 (so_iload_n (k := 2) C rfl (by decide +kernel)) <| tc1 (by decide +kernel) <| tcn) <|
  bn⟩
set_option maxRecDepth 100000 in
set_option maxHeartbeats 4000000 in
theorem sn_X11_worst {l : Launch} {X : ab_X} {D : va_G} : ab_snd l X D ab_MEL (yX11_worst, cX11_worst, 6, some .int, 0, 0, 0, [], tb_X11_worst) := fun d => ⟨by decide +kernel, fun cal K p e R s m args below meth c Q z0 C hmn hd1 hd2 hmR hsR =>
  bc (tc0 (so_aload_n (k := 0) C rfl (by decide +kernel)) <| tc0 (so_iconst C (by decide +kernel)) <| tc0 (so_putf C hc_X11 hin_X11 (by decide) tyX11_ok nmX11 tg_1379 rfl (by decide +kernel)) <| tc0 (so_iload_n (k := 1) C rfl (by decide +kernel)) <| tc0 (so_iconst C (by decide +kernel)) <| tc0 (so_bipush C (by decide +kernel) (by decide +kernel)) <| tc0 (so_callS C K me_X11_isIn hmR hsR hd1 hd2 (by decide) hy_X11_isIn tg_1593 rfl tg_1591 tg_1592 tg_158 (by decide +kernel)) <| tc0 (so_if_ne (off := 5) C (by decide +kernel) (by decide)) <| tc0 (so_iconst C (by decide +kernel)) <| tcn) <|
  bc (tc1 (by decide +kernel) <| tc0 (so_aload_n (k := 0) C rfl (by decide +kernel)) <| tc0 (so_callV C K me_X11_tries hmR hsR hd1 hd2 (by decide) hy_X11_tries tg_1782 hc_X11 rfl rfl tg_1779 tg_1781 tg_121 tg_158 (by decide +kernel)) <| tc0 (so_aload_n (k := 0) C rfl (by decide +kernel)) <| tc0 (so_iload_n (k := 1) C rfl (by decide +kernel)) <| tc0 (so_callV C K me_X11_goesOn hmR hsR hd1 hd2 (by decide) hy_X11_goesOn tg_1743 hc_X11 rfl rfl tg_1740 tg_1742 tg_118 tg_158 (by decide +kernel)) <| tc0 (so_pop C (by decide +kernel)) <| tc0 (so_iconst C (by decide +kernel)) <| tc0 (so_istore_n (k := 2) C rfl (by decide) (by decide +kernel)) <| tc0 (so_iconst C (by decide +kernel)) <| tc0 (so_istore_n (k := 3) C rfl (by decide) (by decide +kernel)) <| tc0 (so_iconst C (by decide +kernel)) <| tcn) <|
  bc (tc0 (so_istore C (by decide) (by decide +kernel)) <| tc0 (so_iload C (by decide +kernel)) <| tc0 (so_aload_n (k := 0) C rfl (by decide +kernel)) <| tc0 (so_getf C hc_X11 hin_X11 (by decide) tg_1385 (by decide +kernel)) <| tc0 (so_iconst C (by decide +kernel)) <| tc0 (so_iald C (by decide +kernel)) <| tc0 (so_icmp_ge (off := 47) C (by decide +kernel) (by decide)) <| tcn) <|
  bc ( tcn) <|
  bc ( tcn) <|
  bc (tc0 (so_aload_n (k := 0) C rfl (by decide +kernel)) <| tc0 (so_callV C K me_X11_back hmR hsR hd1 hd2 (by decide) hy_X11_back tg_1793 hc_X11 rfl rfl tg_1790 tg_1792 tg_123 tg_158 (by decide +kernel)) <| tc0 (so_iload_n (k := 2) C rfl (by decide +kernel)) <| tc1 (by decide +kernel) <| tcn) <|
  bn⟩
set_option maxRecDepth 100000 in
set_option maxHeartbeats 4000000 in
theorem sn_L_spare {l : Launch} {X : ab_X} {D : va_G} : ab_snd l X D ab_MEL (yL_spare, cL_spare, 5, some .int, 1, 6, 2, [(0, 10, 13, 13)], tb_L_spare) := fun d => ⟨by decide +kernel, fun cal K p e R s m args below meth c Q z0 C htab hd1 hd2 hmR hsR =>
  bc (tc0 (so_aload_n (k := 3) C rfl (by decide +kernel)) <| tc0 (so_iconst C (by decide +kernel)) <| tc0 (so_aload_n (k := 0) C rfl (by decide +kernel)) <| tc0 (so_iload_n (k := 1) C rfl (by decide +kernel)) <| tc0 (so_iload_n (k := 2) C rfl (by decide +kernel)) <| tc0 (so_callx C K me_X10_spare hmR hsR hd1 hd2 (by decide) hy_X10_spare tg_1312 hc_X10 rfl rfl tg_1309 tg_1310 tg_1311 tg_143 (by decide +kernel) htab (by decide +kernel) (by decide) tg_1164 tn_1171 (by decide) (Or.inl ⟨(by decide +kernel), rfl⟩)) <| tc0 (so_iconst C (by decide +kernel)) <| tcn) <|
  bc (tc1 (by decide +kernel) <| tc1 (by decide +kernel) <| tcn) <|
  bn⟩
set_option maxRecDepth 100000 in
set_option maxHeartbeats 4000000 in
theorem sn_X10_spare {l : Launch} {X : ab_X} {D : va_G} : ab_snd l X D ab_MEL (yX10_spare, cX10_spare, 3, some .int, 1, 6, 1, [], tb_X10_spare) := fun d => ⟨by decide +kernel, ⟨rfl, fun cal K p e R s m args below meth c Q z0 C hmn hd1 hd2 hmR hsR =>
  bc (tc0 (so_aload_n (k := 0) C rfl (by decide +kernel)) <| tc0 (so_iload_n (k := 1) C rfl (by decide +kernel)) <| tc0 (so_callV C K me_X10_hasTrain hmR hsR hd1 hd2 (by decide) hy_X10_hasTrain tg_1257 hc_X10 rfl rfl tg_1254 tg_1256 tg_78 tg_143 (by decide +kernel)) <| tc0 (so_if_eq (off := 32) C (by decide +kernel) (by decide)) <| tcn) <|
  bc ( tcn) <|
  bc (tc3 (⟨131, 284, 11, _, rfl, tg_1169, (by decide +kernel), (by decide +kernel), Or.inr ⟨(by decide +kernel), (by decide +kernel), (by decide +kernel)⟩⟩) <| tcn) <|
  bc ( tcn) <|
  bc ( tcn) <|
  bc (tc1 (by decide +kernel) <| tcn) <|
  bn⟩⟩
set_option maxRecDepth 100000 in
set_option maxHeartbeats 4000000 in
theorem sn_X11_spare {l : Launch} {X : ab_X} {D : va_G} : ab_snd l X D ab_MEL (yX11_spare, cX11_spare, 3, some .int, 0, 0, 0, [], tb_X11_spare) := fun d => ⟨by decide +kernel, fun cal K p e R s m args below meth c Q z0 C hmn hd1 hd2 hmR hsR =>
  bc (tc0 (so_aload_n (k := 0) C rfl (by decide +kernel)) <| tc0 (so_aload_n (k := 0) C rfl (by decide +kernel)) <| tc0 (so_iload_n (k := 1) C rfl (by decide +kernel)) <| tc0 (so_callV C K me_X11_isTrain hmR hsR hd1 hd2 (by decide) hy_X11_isTrain tg_1676 hc_X11 rfl rfl tg_1673 tg_1675 tg_109 tg_158 (by decide +kernel)) <| tc0 (so_if_eq (off := 32) C (by decide +kernel) (by decide)) <| tcn) <|
  bc ( tcn) <|
  bc (tc0 (so_iconst C (by decide +kernel)) <| tc0 (so_goto (off := 4) C (by decide +kernel) (by decide)) <| tc0 (so_callV C K me_X11_throwsIf hmR hsR hd1 hd2 (by decide) hy_X11_throwsIf tg_1644 hc_X11 rfl rfl tg_1641 tg_1643 tg_103 tg_158 (by decide +kernel)) <| tc0 (so_if_eq (off := 5) C (by decide +kernel) (by decide)) <| tcn) <|
  bc (tc0 (so_iconst C (by decide +kernel)) <| tc1 (by decide +kernel) <| tcn) <|
  bc (tc1 (by decide +kernel) <| tcn) <|
  bn⟩
set_option maxRecDepth 100000 in
set_option maxHeartbeats 4000000 in
theorem sn_X10_route {l : Launch} {X : ab_X} {D : va_G} : ab_snd l X D ab_MEL (yX10_route, cX10_route, 4, some .int, 0, 0, 0, [], tb_X10_route) := fun d => ⟨by decide +kernel, fun cal K p e R s m args below meth c Q z0 C hmn hd1 hd2 hmR hsR =>
  bc (tc0 (so_aload_n (k := 0) C rfl (by decide +kernel)) <| tc0 (so_iload_n (k := 1) C rfl (by decide +kernel)) <| tc0 (so_callV C K me_X10_hasTown hmR hsR hd1 hd2 (by decide) hy_X10_hasTown tg_759 hc_X10 rfl rfl tg_756 tg_758 tg_23 tg_143 (by decide +kernel)) <| tc0 (so_if_eq (off := 27) C (by decide +kernel) (by decide)) <| tcn) <|
  bc ( tcn) <|
  bc (tc0 (so_iconst C (by decide +kernel)) <| tc1 (by decide +kernel) <| tcn) <|
  bc (tc1 (by decide +kernel) <| tcn) <|
  bn⟩
set_option maxRecDepth 100000 in
set_option maxHeartbeats 4000000 in
theorem sn_X11_route {l : Launch} {X : ab_X} {D : va_G} : ab_snd l X D ab_MEL (yX11_route, cX11_route, 11, some .int, 0, 0, 0, [], tb_X11_route) := fun d => ⟨by decide +kernel, fun cal K p e R s m args below meth c Q z0 C hmn hd1 hd2 hmR hsR =>
  bc (tc0 (so_aload_n (k := 0) C rfl (by decide +kernel)) <| tc0 (so_iconst C (by decide +kernel)) <| tc0 (so_putf C hc_X11 hin_X11 (by decide) tyX11_ok nmX11 tg_1379 rfl (by decide +kernel)) <| tc0 (so_aload_n (k := 0) C rfl (by decide +kernel)) <| tc0 (so_iload_n (k := 1) C rfl (by decide +kernel)) <| tc0 (so_callV C K me_X11_isTown hmR hsR hd1 hd2 (by decide) hy_X11_isTown tg_1640 hc_X11 rfl rfl tg_1637 tg_1639 tg_102 tg_158 (by decide +kernel)) <| tc0 (so_if_eq (off := 27) C (by decide +kernel) (by decide)) <| tcn) <|
  bc ( tcn) <|
  bc (tc0 (so_iconst C (by decide +kernel)) <| tc1 (by decide +kernel) <| tcn) <|
  bc ( tcn) <|
  bc ( tcn) <|
  bc ( tcn) <|
  bc ( tcn) <|
  bc ( tcn) <|
  bc ( tcn) <|
  bc ( tcn) <|
  bc ( tcn) <|
  bc ( tcn) <|
  bc ( tcn) <|
  bc ( tcn) <|
  bc ( tcn) <|
  bc ( tcn) <|
  bc ( tcn) <|
  bc ( tcn) <|
  bc ( tcn) <|
  bc (tc1 (by decide +kernel) <| tc1 (by decide +kernel) <| tcn) <|
  bn⟩
set_option maxRecDepth 100000 in
set_option maxHeartbeats 4000000 in
theorem sn_X10_routeAt {l : Launch} {X : ab_X} {D : va_G} : ab_snd l X D ab_MEL (yX10_routeAt, cX10_routeAt, 2, some .int, 0, 0, 0, [], tb_X10_routeAt) := fun d => ⟨by decide +kernel, fun cal K p e R s m args below meth c Q z0 C hmn hd1 hd2 hmR hsR =>
  bc (tc0 (so_iload_n (k := 1) C rfl (by decide +kernel)) <| tc0 (so_if_lt (off := 26) C (by decide +kernel) (by decide)) <| tc0 (so_iload_n (k := 1) C rfl (by decide +kernel)) <| tc0 (so_aload_n (k := 0) C rfl (by decide +kernel)) <| tc0 (so_getf C hc_X10 hin_X10 (by decide) tg_594 (by decide +kernel)) <| tc0 (so_getfN C hc_X5 hin_X5 (by decide) tn_525 (by decide +kernel)) <| tc0 (so_icmp_ge (off := 15) C (by decide +kernel) (by decide)) <| tcn) <|
  bc (tc0 (so_iconst C (by decide +kernel)) <| tc1 (by decide +kernel) <| tcn) <|
  bn⟩
set_option maxRecDepth 100000 in
set_option maxHeartbeats 4000000 in
theorem sn_X11_routeAt {l : Launch} {X : ab_X} {D : va_G} : ab_snd l X D ab_MEL (yX11_routeAt, cX11_routeAt, 2, some .int, 0, 0, 0, [], tb_X11_routeAt) := fun d => ⟨by decide +kernel, fun cal K p e R s m args below meth c Q z0 C hmn hd1 hd2 hmR hsR =>
  bc (tc0 (so_aload_n (k := 0) C rfl (by decide +kernel)) <| tc0 (so_iconst C (by decide +kernel)) <| tc0 (so_putf C hc_X11 hin_X11 (by decide) tyX11_ok nmX11 tg_1379 rfl (by decide +kernel)) <| tc0 (so_iload_n (k := 1) C rfl (by decide +kernel)) <| tc0 (so_iconst C (by decide +kernel)) <| tc0 (so_aload_n (k := 0) C rfl (by decide +kernel)) <| tc0 (so_getf C hc_X11 hin_X11 (by decide) tg_1413 (by decide +kernel)) <| tc0 (so_iconst C (by decide +kernel)) <| tc0 (so_isub C (by decide +kernel)) <| tc0 (so_callS C K me_X11_isIn hmR hsR hd1 hd2 (by decide) hy_X11_isIn tg_1593 rfl tg_1591 tg_1592 tg_158 (by decide +kernel)) <| tcn) <|
  bc (tc0 (so_if_eq (off := 12) C (by decide +kernel) (by decide)) <| tc0 (so_iconst C (by decide +kernel)) <| tc1 (by decide +kernel) <| tcn) <|
  bn⟩
set_option maxRecDepth 100000 in
set_option maxHeartbeats 4000000 in
theorem sn_X10_shadows {l : Launch} {X : ab_X} {D : va_G} : ab_snd l X D ab_MEL (yX10_shadows, cX10_shadows, 5, some .int, 0, 0, 0, [], tb_X10_shadows) := fun d => ⟨by decide +kernel, fun cal K p e R s m args below meth c Q z0 C hmn hd1 hd2 hmR hsR =>
  bc (tc0 (so_aload_n (k := 0) C rfl (by decide +kernel)) <| tc0 (so_getf C hc_X10 hin_X10 (by decide) tg_584 (by decide +kernel)) <| tc0 (so_getfN C hc_X4 hin_X4 (by decide) tn_232 (by decide +kernel)) <| tc0 (so_istore_n (k := 1) C rfl (by decide) (by decide +kernel)) <| tc0 (so_aload_n (k := 0) C rfl (by decide +kernel)) <| tc0 (so_getf C hc_X10 hin_X10 (by decide) tg_584 (by decide +kernel)) <| tc0 (so_iconst C (by decide +kernel)) <| tc0 (so_putfN C hc_X4 hin_X4 (by decide) tyX4_ok nmX4 tn_232 rfl (by decide +kernel)) <| tcn) <|
  bc (tc0 (so_iload_n (k := 1) C rfl (by decide +kernel)) <| tc0 (so_iconst C (by decide +kernel)) <| tc0 (so_icmp_lt (off := 15) C (by decide +kernel) (by decide)) <| tcn) <|
  bc (tc0 (so_iconst C (by decide +kernel)) <| tc1 (by decide +kernel) <| tcn) <|
  bc ( tcn) <|
  bc (tc1 (by decide +kernel) <| tcn) <|
  bc ( tcn) <|
  bc ( tcn) <|
  bc (tc1 (by decide +kernel) <| tcn) <|
  bc ( tcn) <|
  bc (tc1 (by decide +kernel) <| tcn) <|
  bn⟩
set_option maxRecDepth 100000 in
set_option maxHeartbeats 4000000 in
theorem sn_X11_shadows {l : Launch} {X : ab_X} {D : va_G} : ab_snd l X D ab_MEL (yX11_shadows, cX11_shadows, 2, some .int, 0, 0, 0, [], tb_X11_shadows) := fun d => ⟨by decide +kernel, fun cal K p e R s m args below meth c Q z0 C hmn hd1 hd2 hmR hsR =>
  bc (tc0 (so_aload_n (k := 0) C rfl (by decide +kernel)) <| tc0 (so_iconst C (by decide +kernel)) <| tc0 (so_putf C hc_X11 hin_X11 (by decide) tyX11_ok nmX11 tg_1379 rfl (by decide +kernel)) <| tc0 (so_aload_n (k := 0) C rfl (by decide +kernel)) <| tc0 (so_sipush C (by decide +kernel) (by decide +kernel)) <| tc0 (so_callV C K me_X11_taken hmR hsR hd1 hd2 (by decide) hy_X11_taken tg_1540 hc_X11 rfl rfl tg_1537 tg_1539 tg_82 tg_158 (by decide +kernel)) <| tc0 (so_aload_n (k := 0) C rfl (by decide +kernel)) <| tc0 (so_getf C hc_X11 hin_X11 (by decide) tg_1382 (by decide +kernel)) <| tcn) <|
  bc (tc0 (so_iconst C (by decide +kernel)) <| tc0 (so_bipush C (by decide +kernel) (by decide +kernel)) <| tc0 (so_callS C K me_X11_isIn hmR hsR hd1 hd2 (by decide) hy_X11_isIn tg_1593 rfl tg_1591 tg_1592 tg_158 (by decide +kernel)) <| tc0 (so_if_eq (off := 13) C (by decide +kernel) (by decide)) <| tcn) <|
  bc (tc0 (so_iconst C (by decide +kernel)) <| tc1 (by decide +kernel) <| tcn) <|
  bc ( tcn) <|
  bc ( tcn) <|
  bc (tc1 (by decide +kernel) <| tcn) <|
  bc ( tcn) <|
  bc ( tcn) <|
  bc ( tcn) <|
  bc ( tcn) <|
  bc (tc1 (by decide +kernel) <| tcn) <|
  bn⟩
set_option maxRecDepth 100000 in
set_option maxHeartbeats 4000000 in
theorem sn_L_votes {l : Launch} {X : ab_X} {D : va_G} : ab_snd l X D ab_MEL (yL_votes, cL_votes, 5, some .int, 1, 6, 2, [(0, 10, 13, 13)], tb_L_votes) := fun d => ⟨by decide +kernel, fun cal K p e R s m args below meth c Q z0 C htab hd1 hd2 hmR hsR =>
  bc (tc0 (so_aload_n (k := 3) C rfl (by decide +kernel)) <| tc0 (so_iconst C (by decide +kernel)) <| tc0 (so_aload_n (k := 0) C rfl (by decide +kernel)) <| tc0 (so_iload_n (k := 1) C rfl (by decide +kernel)) <| tc0 (so_iload_n (k := 2) C rfl (by decide +kernel)) <| tc0 (so_callx C K me_X10_votes hmR hsR hd1 hd2 (by decide) hy_X10_votes tg_1320 hc_X10 rfl rfl tg_1317 tg_1318 tg_1319 tg_143 (by decide +kernel) htab (by decide +kernel) (by decide) tg_1164 tn_1171 (by decide) (Or.inl ⟨(by decide +kernel), rfl⟩)) <| tc0 (so_iconst C (by decide +kernel)) <| tcn) <|
  bc (tc1 (by decide +kernel) <| tc1 (by decide +kernel) <| tcn) <|
  bn⟩
set_option maxRecDepth 100000 in
set_option maxHeartbeats 4000000 in
theorem sn_X10_votes {l : Launch} {X : ab_X} {D : va_G} : ab_snd l X D ab_MEL (yX10_votes, cX10_votes, 7, some .int, 1, 6, 1, [], tb_X10_votes) := fun d => ⟨by decide +kernel, ⟨rfl, fun cal K p e R s m args below meth c Q z0 C hmn hd1 hd2 hmR hsR =>
  bc (tc0 (so_aload_n (k := 0) C rfl (by decide +kernel)) <| tc0 (so_iload_n (k := 1) C rfl (by decide +kernel)) <| tc0 (so_callV C K me_X10_hasTown hmR hsR hd1 hd2 (by decide) hy_X10_hasTown tg_759 hc_X10 rfl rfl tg_756 tg_758 tg_23 tg_143 (by decide +kernel)) <| tc0 (so_if_eq (off := 15) C (by decide +kernel) (by decide)) <| tcn) <|
  bc (tc3 (⟨131, 302, 12, _, rfl, tg_1169, (by decide +kernel), (by decide +kernel), Or.inr ⟨(by decide +kernel), (by decide +kernel), (by decide +kernel)⟩⟩) <| tcn) <|
  bc ( tcn) <|
  bc ( tcn) <|
  bc ( tcn) <|
  bc ( tcn) <|
  bc (tc1 (by decide +kernel) <| tcn) <|
  bn⟩⟩
set_option maxRecDepth 100000 in
set_option maxHeartbeats 4000000 in
theorem sn_X11_votes {l : Launch} {X : ab_X} {D : va_G} : ab_snd l X D ab_MEL (yX11_votes, cX11_votes, 7, some .int, 0, 0, 0, [], tb_X11_votes) := fun d => ⟨by decide +kernel, fun cal K p e R s m args below meth c Q z0 C hmn hd1 hd2 hmR hsR =>
  bc (tc0 (so_aload_n (k := 0) C rfl (by decide +kernel)) <| tc0 (so_aload_n (k := 0) C rfl (by decide +kernel)) <| tc0 (so_iload_n (k := 1) C rfl (by decide +kernel)) <| tc0 (so_callV C K me_X11_isTown hmR hsR hd1 hd2 (by decide) hy_X11_isTown tg_1640 hc_X11 rfl rfl tg_1637 tg_1639 tg_102 tg_158 (by decide +kernel)) <| tc0 (so_if_eq (off := 14) C (by decide +kernel) (by decide)) <| tcn) <|
  bc (tc0 (so_iconst C (by decide +kernel)) <| tc0 (so_goto (off := 4) C (by decide +kernel) (by decide)) <| tc0 (so_callV C K me_X11_throwsIf hmR hsR hd1 hd2 (by decide) hy_X11_throwsIf tg_1644 hc_X11 rfl rfl tg_1641 tg_1643 tg_103 tg_158 (by decide +kernel)) <| tc0 (so_if_eq (off := 5) C (by decide +kernel) (by decide)) <| tc0 (so_iconst C (by decide +kernel)) <| tcn) <|
  bc (tc1 (by decide +kernel) <| tcn) <|
  bc ( tcn) <|
  bc ( tcn) <|
  bc ( tcn) <|
  bc ( tcn) <|
  bc (tc1 (by decide +kernel) <| tcn) <|
  bn⟩
set_option maxRecDepth 100000 in
set_option maxHeartbeats 4000000 in
theorem sn_X10_nearer {l : Launch} {X : ab_X} {D : va_G} : ab_snd l X D ab_MEL (yX10_nearer, cX10_nearer, 4, some .int, 0, 0, 0, [], tb_X10_nearer) := fun d => ⟨by decide +kernel, fun cal K p e R s m args below meth c Q z0 C hmn hd1 hd2 hmR hsR =>
  bc (tc0 (so_aload_n (k := 0) C rfl (by decide +kernel)) <| tc0 (so_getf C hc_X10 hin_X10 (by decide) tg_589 (by decide +kernel)) <| tc0 (so_aload_n (k := 0) C rfl (by decide +kernel)) <| tc0 (so_getf C hc_X10 hin_X10 (by decide) tg_588 (by decide +kernel)) <| tc0 (so_callVN C K me_X7_copyFrom hmR hsR hd1 hd2 (by decide) hy_X7_copyFrom tg_782 hc_X7 rfl tn_878 tg_781 tg_28 tg_151 (by decide +kernel)) <| tc0 (so_iconst C (by decide +kernel)) <| tc0 (so_istore_n (k := 1) C rfl (by decide) (by decide +kernel)) <| tc0 (so_iconst C (by decide +kernel)) <| tc0 (so_istore_n (k := 2) C rfl (by decide) (by decide +kernel)) <| tc0 (so_iload_n (k := 2) C rfl (by decide +kernel)) <| tcn) <|
  bc (tc0 (so_if_eq (off := 27) C (by decide +kernel) (by decide)) <| tc0 (so_iload_n (k := 1) C rfl (by decide +kernel)) <| tc0 (so_bipush C (by decide +kernel) (by decide +kernel)) <| tc0 (so_icmp_ge (off := 21) C (by decide +kernel) (by decide)) <| tc0 (so_aload_n (k := 0) C rfl (by decide +kernel)) <| tc0 (so_getf C hc_X10 hin_X10 (by decide) tg_589 (by decide +kernel)) <| tc0 (so_aload_n (k := 0) C rfl (by decide +kernel)) <| tc0 (so_getf C hc_X10 hin_X10 (by decide) tg_586 (by decide +kernel)) <| tcn) <|
  bc (tc0 (so_callVN C K me_X7_comeNearer hmR hsR hd1 hd2 (by decide) hy_X7_comeNearer tg_942 hc_X7 rfl tn_939 tg_941 tg_51 tg_151 (by decide +kernel)) <| tc0 (so_istore_n (k := 2) C rfl (by decide) (by decide +kernel)) <| tc0 (so_iinc C (by decide) (by decide +kernel)) <| tc0 (so_goto (off := (-25)) C (by decide +kernel) (by decide)) <| tc0 (so_iconst C (by decide +kernel)) <| tc0 (so_istore_n (k := 3) C rfl (by decide) (by decide +kernel)) <| tc0 (so_iload_n (k := 3) C rfl (by decide +kernel)) <| tc0 (so_aload_n (k := 0) C rfl (by decide +kernel)) <| tc0 (so_getf C hc_X10 hin_X10 (by decide) tg_586 (by decide +kernel)) <| tcn) <|
  bc (tc0 (so_getfN C hc_X8 hin_X8 (by decide) tn_315 (by decide +kernel)) <| tc0 (so_icmp_ge (off := 24) C (by decide +kernel) (by decide)) <| tcn) <|
  bc (tc0 (so_aload_n (k := 0) C rfl (by decide +kernel)) <| tc0 (so_aload_n (k := 0) C rfl (by decide +kernel)) <| tc0 (so_getf C hc_X10 hin_X10 (by decide) tg_586 (by decide +kernel)) <| tcn) <|
  bc (tc0 (so_getfN C hc_X8 hin_X8 (by decide) tn_315 (by decide +kernel)) <| tc0 (so_putf C hc_X10 hin_X10 (by decide) tyX10_ok nmX10 tg_600 rfl (by decide +kernel)) <| tc0 (so_iload_n (k := 1) C rfl (by decide +kernel)) <| tc1 (by decide +kernel) <| tcn) <|
  bn⟩
set_option maxRecDepth 100000 in
set_option maxHeartbeats 4000000 in
theorem sn_X7_comeNearer {l : Launch} {X : ab_X} {D : va_G} : ab_snd l X D ab_MEL (yX7_comeNearer, cX7_comeNearer, 6, some .boolean, 0, 0, 0, [], tb_X7_comeNearer) := fun d => ⟨by decide +kernel, fun cal K p e R s m args below meth c Q z0 C hmn hd1 hd2 hmR hsR =>
  bc (tc0 (so_iconst C (by decide +kernel)) <| tc0 (so_istore_n (k := 2) C rfl (by decide) (by decide +kernel)) <| tc0 (so_iconst C (by decide +kernel)) <| tc0 (so_istore_n (k := 3) C rfl (by decide) (by decide +kernel)) <| tc0 (so_iload_n (k := 3) C rfl (by decide +kernel)) <| tc0 (so_aload_n (k := 1) C rfl (by decide +kernel)) <| tc0 (so_getfN C hc_X8 hin_X8 (by decide) tn_313 (by decide +kernel)) <| tc0 (so_icmp_ge (off := 99) C (by decide +kernel) (by decide)) <| tcn) <|
  bc ( tcn) <|
  bc ( tcn) <|
  bc ( tcn) <|
  bc ( tcn) <|
  bc ( tcn) <|
  bc (tc0 (so_iload_n (k := 2) C rfl (by decide +kernel)) <| tc1 (by decide +kernel) <| tcn) <|
  bn⟩
set_option maxRecDepth 100000 in
set_option maxHeartbeats 4000000 in
theorem sn_X11_nearer {l : Launch} {X : ab_X} {D : va_G} : ab_snd l X D ab_MEL (yX11_nearer, cX11_nearer, 4, some .int, 0, 0, 0, [], tb_X11_nearer) := fun d => ⟨by decide +kernel, fun cal K p e R s m args below meth c Q z0 C hmn hd1 hd2 hmR hsR =>
  bc (tc0 (so_aload_n (k := 0) C rfl (by decide +kernel)) <| tc0 (so_iconst C (by decide +kernel)) <| tc0 (so_putf C hc_X11 hin_X11 (by decide) tyX11_ok nmX11 tg_1379 rfl (by decide +kernel)) <| tc0 (so_aload_n (k := 0) C rfl (by decide +kernel)) <| tc0 (so_callV C K me_X11_tries hmR hsR hd1 hd2 (by decide) hy_X11_tries tg_1782 hc_X11 rfl rfl tg_1779 tg_1781 tg_121 tg_158 (by decide +kernel)) <| tc0 (so_iconst C (by decide +kernel)) <| tc0 (so_istore_n (k := 1) C rfl (by decide) (by decide +kernel)) <| tc0 (so_iconst C (by decide +kernel)) <| tc0 (so_istore_n (k := 2) C rfl (by decide) (by decide +kernel)) <| tc0 (so_iload_n (k := 2) C rfl (by decide +kernel)) <| tc0 (so_if_eq (off := 45) C (by decide +kernel) (by decide)) <| tcn) <|
  bc (tc0 (so_iload_n (k := 1) C rfl (by decide +kernel)) <| tc0 (so_bipush C (by decide +kernel) (by decide +kernel)) <| tc0 (so_icmp_ge (off := 39) C (by decide +kernel) (by decide)) <| tc0 (so_iconst C (by decide +kernel)) <| tc0 (so_istore_n (k := 2) C rfl (by decide) (by decide +kernel)) <| tc0 (so_iconst C (by decide +kernel)) <| tc0 (so_istore_n (k := 3) C rfl (by decide) (by decide +kernel)) <| tc0 (so_iload_n (k := 3) C rfl (by decide +kernel)) <| tc0 (so_aload_n (k := 0) C rfl (by decide +kernel)) <| tc0 (so_getf C hc_X11 hin_X11 (by decide) tg_1385 (by decide +kernel)) <| tcn) <|
  bc (tc0 (so_iconst C (by decide +kernel)) <| tc0 (so_iald C (by decide +kernel)) <| tc0 (so_icmp_ge (off := 19) C (by decide +kernel) (by decide)) <| tcn) <|
  bc (tc0 (so_iinc C (by decide) (by decide +kernel)) <| tc0 (so_goto (off := (-43)) C (by decide +kernel) (by decide)) <| tc0 (so_aload_n (k := 0) C rfl (by decide +kernel)) <| tc0 (so_aload_n (k := 0) C rfl (by decide +kernel)) <| tc0 (so_getf C hc_X11 hin_X11 (by decide) tg_1385 (by decide +kernel)) <| tcn) <|
  bc (tc0 (so_iconst C (by decide +kernel)) <| tc0 (so_iald C (by decide +kernel)) <| tc0 (so_putf C hc_X11 hin_X11 (by decide) tyX11_ok nmX11 tg_1407 rfl (by decide +kernel)) <| tc0 (so_iconst C (by decide +kernel)) <| tc0 (so_istore_n (k := 3) C rfl (by decide) (by decide +kernel)) <| tc0 (so_iload_n (k := 3) C rfl (by decide +kernel)) <| tc0 (so_aload_n (k := 0) C rfl (by decide +kernel)) <| tc0 (so_getf C hc_X11 hin_X11 (by decide) tg_1385 (by decide +kernel)) <| tc0 (so_iconst C (by decide +kernel)) <| tc0 (so_iald C (by decide +kernel)) <| tc0 (so_icmp_ge (off := 24) C (by decide +kernel) (by decide)) <| tcn) <|
  bc ( tcn) <|
  bc (tc0 (so_aload_n (k := 0) C rfl (by decide +kernel)) <| tc0 (so_callV C K me_X11_back hmR hsR hd1 hd2 (by decide) hy_X11_back tg_1793 hc_X11 rfl rfl tg_1790 tg_1792 tg_123 tg_158 (by decide +kernel)) <| tc0 (so_iload_n (k := 1) C rfl (by decide +kernel)) <| tc1 (by decide +kernel) <| tcn) <|
  bn⟩
