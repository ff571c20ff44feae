/-! Each table is sound. -/
set_option maxRecDepth 100000 in
set_option maxHeartbeats 4000000 in
theorem sn_X7_springBack {l : Launch} {X : ab_X} {D : va_G} : ab_snd l X D ab_MEL (yX7_springBack, cX7_springBack, 4, some .int, 0, 0, 0, [], tb_X7_springBack) := fun d => ⟨by decide +kernel, fun cal K p e R s m args below meth c Q z0 C hmn hd1 hd2 hmR hsR =>
  bc (tc0 (so_iconst C (by decide +kernel)) <| tc0 (so_istore_n (k := 2) C rfl (by decide) (by decide +kernel)) <| tc0 (so_iconst C (by decide +kernel)) <| tc0 (so_istore_n (k := 3) C rfl (by decide) (by decide +kernel)) <| tc0 (so_iload_n (k := 3) C rfl (by decide +kernel)) <| tc0 (so_aload_n (k := 1) C rfl (by decide +kernel)) <| tc0 (so_getfN C hc_X8 hin_X8 (by decide) tn_313 (by decide +kernel)) <| tc0 (so_icmp_ge (off := 49) C (by decide +kernel) (by decide)) <| tcn) <|
  bc ( tcn) <|
  bc ( tcn) <|
  bc (tc0 (so_iload_n (k := 2) C rfl (by decide +kernel)) <| tc1 (by decide +kernel) <| tcn) <|
  bn⟩
set_option maxRecDepth 100000 in
set_option maxHeartbeats 4000000 in
theorem sn_X11_freeze {l : Launch} {X : ab_X} {D : va_G} : ab_snd l X D ab_MEL (yX11_freeze, cX11_freeze, 1, some .int, 0, 0, 0, [], tb_X11_freeze) := fun d => ⟨by decide +kernel, fun cal K p e R s m args below meth c Q z0 C hmn hd1 hd2 hmR hsR =>
  bc (tc0 (so_aload_n (k := 0) C rfl (by decide +kernel)) <| tc0 (so_iconst C (by decide +kernel)) <| tc0 (so_putf C hc_X11 hin_X11 (by decide) tyX11_ok nmX11 tg_1379 rfl (by decide +kernel)) <| tc0 (so_aload_n (k := 0) C rfl (by decide +kernel)) <| tc0 (so_callV C K me_X11_keep hmR hsR hd1 hd2 (by decide) hy_X11_keep tg_1715 hc_X11 rfl rfl tg_1712 tg_1714 tg_115 tg_158 (by decide +kernel)) <| tc0 (so_aload_n (k := 0) C rfl (by decide +kernel)) <| tc0 (so_callV C K me_X11_freezes hmR hsR hd1 hd2 (by decide) hy_X11_freezes tg_1735 hc_X11 rfl rfl tg_1732 tg_1734 tg_117 tg_158 (by decide +kernel)) <| tc1 (by decide +kernel) <| tcn) <|
  bn⟩
set_option maxRecDepth 100000 in
set_option maxHeartbeats 4000000 in
theorem sn_X11_keep {l : Launch} {X : ab_X} {D : va_G} : ab_snd l X D ab_MEL (yX11_keep, cX11_keep, 2, none, 0, 0, 0, [], tb_X11_keep) := fun d => ⟨by decide +kernel, fun cal K p e R s m args below meth c Q z0 C hmn hd1 hd2 hmR hsR =>
  bc (tc0 (so_aload_n (k := 0) C rfl (by decide +kernel)) <| tc0 (so_getf C hc_X11 hin_X11 (by decide) tg_1402 (by decide +kernel)) <| tc0 (so_bipush C (by decide +kernel) (by decide +kernel)) <| tc0 (so_icmp_ne (off := 39) C (by decide +kernel) (by decide)) <| tcn) <|
  bc ( tcn) <|
  bc (tc0 (so_iconst C (by decide +kernel)) <| tc0 (so_istore_n (k := 1) C rfl (by decide) (by decide +kernel)) <| tc0 (so_iload_n (k := 1) C rfl (by decide +kernel)) <| tcn) <|
  bc (tc0 (so_bipush C (by decide +kernel) (by decide +kernel)) <| tc0 (so_icmp_ge (off := 32) C (by decide +kernel) (by decide)) <| tc0 (so_aload_n (k := 0) C rfl (by decide +kernel)) <| tc0 (so_getf C hc_X11 hin_X11 (by decide) tg_1400 (by decide +kernel)) <| tc0 (so_bipush C (by decide +kernel) (by decide +kernel)) <| tc0 (so_aload_n (k := 0) C rfl (by decide +kernel)) <| tc0 (so_getf C hc_X11 hin_X11 (by decide) tg_1402 (by decide +kernel)) <| tc0 (so_imul C (by decide +kernel)) <| tcn) <|
  bc (tc0 (so_iload_n (k := 1) C rfl (by decide +kernel)) <| tc0 (so_iadd C (by decide +kernel)) <| tc0 (so_aload_n (k := 0) C rfl (by decide +kernel)) <| tc0 (so_getf C hc_X11 hin_X11 (by decide) tg_1385 (by decide +kernel)) <| tc0 (so_bipush C (by decide +kernel) (by decide +kernel)) <| tc0 (so_iload_n (k := 1) C rfl (by decide +kernel)) <| tc0 (so_iadd C (by decide +kernel)) <| tc0 (so_iald C (by decide +kernel)) <| tc0 (so_iast C (by decide +kernel)) <| tc0 (so_iinc C (by decide) (by decide +kernel)) <| tc0 (so_goto (off := (-32)) C (by decide +kernel) (by decide)) <| tcn) <|
  bc (tc0 (so_aload_n (k := 0) C rfl (by decide +kernel)) <| tc0 (so_dup C (by decide +kernel)) <| tc0 (so_getf C hc_X11 hin_X11 (by decide) tg_1402 (by decide +kernel)) <| tc0 (so_iconst C (by decide +kernel)) <| tc0 (so_iadd C (by decide +kernel)) <| tc0 (so_putf C hc_X11 hin_X11 (by decide) tyX11_ok nmX11 tg_1402 rfl (by decide +kernel)) <| tc2 (by decide +kernel) <| tcn) <|
  bn⟩
set_option maxRecDepth 100000 in
set_option maxHeartbeats 4000000 in
theorem sn_X11_freezes {l : Launch} {X : ab_X} {D : va_G} : ab_snd l X D ab_MEL (yX11_freezes, cX11_freezes, 4, some .int, 0, 0, 0, [], tb_X11_freezes) := fun d => ⟨by decide +kernel, fun cal K p e R s m args below meth c Q z0 C hmn hd1 hd2 hmR hsR =>
  bc (tc0 (so_iconst C (by decide +kernel)) <| tc0 (so_istore_n (k := 1) C rfl (by decide) (by decide +kernel)) <| tc0 (so_iconst C (by decide +kernel)) <| tc0 (so_istore_n (k := 2) C rfl (by decide) (by decide +kernel)) <| tc0 (so_iload_n (k := 2) C rfl (by decide +kernel)) <| tc0 (so_aload_n (k := 0) C rfl (by decide +kernel)) <| tc0 (so_getf C hc_X11 hin_X11 (by decide) tg_1385 (by decide +kernel)) <| tc0 (so_iconst C (by decide +kernel)) <| tc0 (so_iald C (by decide +kernel)) <| tc0 (so_icmp_ge (off := 64) C (by decide +kernel) (by decide)) <| tcn) <|
  bc ( tcn) <|
  bc ( tcn) <|
  bc ( tcn) <|
  bc (tc0 (so_iload_n (k := 1) C rfl (by decide +kernel)) <| tc1 (by decide +kernel) <| tcn) <|
  bn⟩
set_option maxRecDepth 100000 in
set_option maxHeartbeats 4000000 in
theorem sn_X10_days {l : Launch} {X : ab_X} {D : va_G} : ab_snd l X D ab_MEL (yX10_days, cX10_days, 3, some .int, 0, 0, 0, [], tb_X10_days) := fun d => ⟨by decide +kernel, fun cal K p e R s m args below meth c Q z0 C hmn hd1 hd2 hmR hsR =>
  bc (tc0 (so_iload_n (k := 1) C rfl (by decide +kernel)) <| tc0 (so_iconst C (by decide +kernel)) <| tc0 (so_icmp_lt (off := 9) C (by decide +kernel) (by decide)) <| tc0 (so_iload_n (k := 1) C rfl (by decide +kernel)) <| tc0 (so_bipush C (by decide +kernel) (by decide +kernel)) <| tc0 (so_icmp_le (off := 5) C (by decide +kernel) (by decide)) <| tc0 (so_iconst C (by decide +kernel)) <| tc1 (by decide +kernel) <| tc0 (so_iload_n (k := 1) C rfl (by decide +kernel)) <| tc0 (so_sipush C (by decide +kernel) (by decide +kernel)) <| tcn) <|
  bc (tc0 (so_aload_n (k := 0) C rfl (by decide +kernel)) <| tc0 (so_getf C hc_X10 hin_X10 (by decide) tg_588 (by decide +kernel)) <| tc0 (so_getfN C hc_X7 hin_X7 (by decide) tn_403 (by decide +kernel)) <| tc0 (so_isub C (by decide +kernel)) <| tc0 (so_mmin C hmR hsR tg_821 tg_822 tg_163 (by decide +kernel)) <| tc0 (so_istore_n (k := 2) C rfl (by decide) (by decide +kernel)) <| tc0 (so_iload_n (k := 2) C rfl (by decide +kernel)) <| tc0 (so_if_le (off := 14) C (by decide +kernel) (by decide)) <| tcn) <|
  bc (tc0 (so_aload_n (k := 0) C rfl (by decide +kernel)) <| tc0 (so_getf C hc_X10 hin_X10 (by decide) tg_590 (by decide +kernel)) <| tc0 (so_aload_n (k := 0) C rfl (by decide +kernel)) <| tc0 (so_getf C hc_X10 hin_X10 (by decide) tg_588 (by decide +kernel)) <| tc0 (so_callVN C K me_X1_keep hmR hsR hd1 hd2 (by decide) hy_X1_keep tg_778 hc_X1 rfl tn_775 tg_777 tg_27 tg_152 (by decide +kernel)) <| tc0 (so_aload_n (k := 0) C rfl (by decide +kernel)) <| tc0 (so_getf C hc_X10 hin_X10 (by decide) tg_588 (by decide +kernel)) <| tcn) <|
  bc (tc0 (so_aload_n (k := 0) C rfl (by decide +kernel)) <| tc0 (so_getf C hc_X10 hin_X10 (by decide) tg_586 (by decide +kernel)) <| tc0 (so_iload_n (k := 2) C rfl (by decide +kernel)) <| tc0 (so_callVN C K me_X7_passDays hmR hsR hd1 hd2 (by decide) hy_X7_passDays tg_827 hc_X7 rfl tn_824 tg_826 tg_33 tg_151 (by decide +kernel)) <| tc0 (so_iload_n (k := 2) C rfl (by decide +kernel)) <| tc1 (by decide +kernel) <| tcn) <|
  bn⟩
set_option maxRecDepth 100000 in
set_option maxHeartbeats 4000000 in
theorem sn_X7_passDays {l : Launch} {X : ab_X} {D : va_G} : ab_snd l X D ab_MEL (yX7_passDays, cX7_passDays, 4, none, 0, 0, 0, [], tb_X7_passDays) := fun d => ⟨by decide +kernel, fun cal K p e R s m args below meth c Q z0 C hmn hd1 hd2 hmR hsR =>
  bc (tc0 (so_iconst C (by decide +kernel)) <| tc0 (so_istore_n (k := 3) C rfl (by decide) (by decide +kernel)) <| tc0 (so_iload_n (k := 3) C rfl (by decide +kernel)) <| tc0 (so_iload_n (k := 2) C rfl (by decide +kernel)) <| tc0 (so_icmp_ge (off := 24) C (by decide +kernel) (by decide)) <| tc0 (so_aload_n (k := 0) C rfl (by decide +kernel)) <| tc0 (so_getf C hc_X7 hin_X7 (by decide) tg_401 (by decide +kernel)) <| tc0 (so_sipush C (by decide +kernel) (by decide +kernel)) <| tc0 (so_icmp_ge (off := 14) C (by decide +kernel) (by decide)) <| tcn) <|
  bc (tc0 (so_aload_n (k := 0) C rfl (by decide +kernel)) <| tc0 (so_aload_n (k := 1) C rfl (by decide +kernel)) <| tc0 (so_callV C K me_X7_passDay hmR hsR hd1 hd2 (by decide) hy_X7_passDay tg_831 hc_X7 rfl rfl tg_828 tg_830 tg_34 tg_151 (by decide +kernel)) <| tc0 (so_iinc C (by decide) (by decide +kernel)) <| tc0 (so_goto (off := (-23)) C (by decide +kernel) (by decide)) <| tc2 (by decide +kernel) <| tcn) <|
  bn⟩
set_option maxRecDepth 100000 in
set_option maxHeartbeats 4000000 in
theorem sn_X7_passDay {l : Launch} {X : ab_X} {D : va_G} : ab_snd l X D ab_MEL (yX7_passDay, cX7_passDay, 3, none, 0, 0, 0, [], tb_X7_passDay) := fun d => ⟨by decide +kernel, fun cal K p e R s m args below meth c Q z0 C hmn hd1 hd2 hmR hsR =>
  bc (tc0 (so_iconst C (by decide +kernel)) <| tc0 (so_istore_n (k := 2) C rfl (by decide) (by decide +kernel)) <| tc0 (so_iload_n (k := 2) C rfl (by decide +kernel)) <| tc0 (so_aload_n (k := 1) C rfl (by decide +kernel)) <| tc0 (so_getfN C hc_X8 hin_X8 (by decide) tn_313 (by decide +kernel)) <| tc0 (so_icmp_ge (off := 36) C (by decide +kernel) (by decide)) <| tcn) <|
  bc ( tcn) <|
  bc (tc0 (so_aload_n (k := 0) C rfl (by decide +kernel)) <| tc0 (so_dup C (by decide +kernel)) <| tc0 (so_getf C hc_X7 hin_X7 (by decide) tg_401 (by decide +kernel)) <| tcn) <|
  bc (tc0 (so_iconst C (by decide +kernel)) <| tc0 (so_iadd C (by decide +kernel)) <| tc0 (so_putf C hc_X7 hin_X7 (by decide) tyX7_ok nmX7 tg_401 rfl (by decide +kernel)) <| tc0 (so_aload_n (k := 0) C rfl (by decide +kernel)) <| tc0 (so_iconst C (by decide +kernel)) <| tc0 (so_putf C hc_X7 hin_X7 (by decide) tyX7_ok nmX7 tg_406 rfl (by decide +kernel)) <| tc2 (by decide +kernel) <| tcn) <|
  bn⟩
set_option maxRecDepth 100000 in
set_option maxHeartbeats 4000000 in
theorem sn_X11_days {l : Launch} {X : ab_X} {D : va_G} : ab_snd l X D ab_MEL (yX11_days, cX11_days, 2, some .int, 0, 0, 0, [], tb_X11_days) := fun d => ⟨by decide +kernel, fun cal K p e R s m args below meth c Q z0 C hmn hd1 hd2 hmR hsR =>
  bc (tc0 (so_aload_n (k := 0) C rfl (by decide +kernel)) <| tc0 (so_iconst C (by decide +kernel)) <| tc0 (so_putf C hc_X11 hin_X11 (by decide) tyX11_ok nmX11 tg_1379 rfl (by decide +kernel)) <| tc0 (so_iload_n (k := 1) C rfl (by decide +kernel)) <| tc0 (so_iconst C (by decide +kernel)) <| tc0 (so_bipush C (by decide +kernel) (by decide +kernel)) <| tc0 (so_callS C K me_X11_isIn hmR hsR hd1 hd2 (by decide) hy_X11_isIn tg_1593 rfl tg_1591 tg_1592 tg_158 (by decide +kernel)) <| tc0 (so_if_ne (off := 5) C (by decide +kernel) (by decide)) <| tc0 (so_iconst C (by decide +kernel)) <| tcn) <|
  bc (tc1 (by decide +kernel) <| tc0 (so_aload_n (k := 0) C rfl (by decide +kernel)) <| tc0 (so_getf C hc_X11 hin_X11 (by decide) tg_1385 (by decide +kernel)) <| tc0 (so_bipush C (by decide +kernel) (by decide +kernel)) <| tc0 (so_iald C (by decide +kernel)) <| tc0 (so_sipush C (by decide +kernel) (by decide +kernel)) <| tc0 (so_icmp_ne (off := 5) C (by decide +kernel) (by decide)) <| tc1 (by decide +kernel) <| tcn) <|
  bc (tc0 (so_aload_n (k := 0) C rfl (by decide +kernel)) <| tc0 (so_callV C K me_X11_keep hmR hsR hd1 hd2 (by decide) hy_X11_keep tg_1715 hc_X11 rfl rfl tg_1712 tg_1714 tg_115 tg_158 (by decide +kernel)) <| tc0 (so_aload_n (k := 0) C rfl (by decide +kernel)) <| tc0 (so_iload_n (k := 1) C rfl (by decide +kernel)) <| tc0 (so_callV C K me_X11_goesOn hmR hsR hd1 hd2 (by decide) hy_X11_goesOn tg_1743 hc_X11 rfl rfl tg_1740 tg_1742 tg_118 tg_158 (by decide +kernel)) <| tc1 (by decide +kernel) <| tcn) <|
  bn⟩
set_option maxRecDepth 100000 in
set_option maxHeartbeats 4000000 in
theorem sn_X11_goesOn {l : Launch} {X : ab_X} {D : va_G} : ab_snd l X D ab_MEL (yX11_goesOn, cX11_goesOn, 4, some .int, 0, 0, 0, [], tb_X11_goesOn) := fun d => ⟨by decide +kernel, fun cal K p e R s m args below meth c Q z0 C hmn hd1 hd2 hmR hsR =>
  bc (tc0 (so_iconst C (by decide +kernel)) <| tc0 (so_istore_n (k := 2) C rfl (by decide) (by decide +kernel)) <| tc0 (so_iload_n (k := 2) C rfl (by decide +kernel)) <| tc0 (so_iload_n (k := 1) C rfl (by decide +kernel)) <| tc0 (so_icmp_ge (off := 92) C (by decide +kernel) (by decide)) <| tc0 (so_aload_n (k := 0) C rfl (by decide +kernel)) <| tc0 (so_getf C hc_X11 hin_X11 (by decide) tg_1385 (by decide +kernel)) <| tc0 (so_bipush C (by decide +kernel) (by decide +kernel)) <| tc0 (so_iald C (by decide +kernel)) <| tc0 (so_sipush C (by decide +kernel) (by decide +kernel)) <| tcn) <|
  bc (tc0 (so_icmp_ge (off := 79) C (by decide +kernel) (by decide)) <| tc0 (so_iconst C (by decide +kernel)) <| tc0 (so_istore_n (k := 3) C rfl (by decide) (by decide +kernel)) <| tc0 (so_iload_n (k := 3) C rfl (by decide +kernel)) <| tc0 (so_aload_n (k := 0) C rfl (by decide +kernel)) <| tc0 (so_getf C hc_X11 hin_X11 (by decide) tg_1385 (by decide +kernel)) <| tc0 (so_iconst C (by decide +kernel)) <| tc0 (so_iald C (by decide +kernel)) <| tc0 (so_icmp_ge (off := 42) C (by decide +kernel) (by decide)) <| tcn) <|
  bc ( tcn) <|
  bc ( tcn) <|
  bc (tc0 (so_aload_n (k := 0) C rfl (by decide +kernel)) <| tc0 (so_getf C hc_X11 hin_X11 (by decide) tg_1385 (by decide +kernel)) <| tc0 (so_bipush C (by decide +kernel) (by decide +kernel)) <| tc0 (so_iconst C (by decide +kernel)) <| tc0 (so_iast C (by decide +kernel)) <| tc0 (so_aload_n (k := 0) C rfl (by decide +kernel)) <| tcn) <|
  bc (tc0 (so_getf C hc_X11 hin_X11 (by decide) tg_1385 (by decide +kernel)) <| tc0 (so_bipush C (by decide +kernel) (by decide +kernel)) <| tc0 (so_dup2 C (by decide +kernel)) <| tc0 (so_iald C (by decide +kernel)) <| tc0 (so_iconst C (by decide +kernel)) <| tc0 (so_iadd C (by decide +kernel)) <| tc0 (so_iast C (by decide +kernel)) <| tc0 (so_iinc C (by decide) (by decide +kernel)) <| tc0 (so_goto (off := (-91)) C (by decide +kernel) (by decide)) <| tcn) <|
  bc (tc0 (so_iload_n (k := 2) C rfl (by decide +kernel)) <| tc1 (by decide +kernel) <| tcn) <|
  bn⟩
set_option maxRecDepth 100000 in
set_option maxHeartbeats 4000000 in
theorem sn_X10_undo {l : Launch} {X : ab_X} {D : va_G} : ab_snd l X D ab_MEL (yX10_undo, cX10_undo, 1, some .int, 0, 0, 0, [], tb_X10_undo) := fun d => ⟨by decide +kernel, fun cal K p e R s m args below meth c Q z0 C hmn hd1 hd2 hmR hsR =>
  bc (tc0 (so_aload_n (k := 0) C rfl (by decide +kernel)) <| tc0 (so_getf C hc_X10 hin_X10 (by decide) tg_590 (by decide +kernel)) <| tc0 (so_aload_n (k := 0) C rfl (by decide +kernel)) <| tc0 (so_getf C hc_X10 hin_X10 (by decide) tg_588 (by decide +kernel)) <| tc0 (so_callVN C K me_X1_takeBack hmR hsR hd1 hd2 (by decide) hy_X1_takeBack tg_848 hc_X1 rfl tn_845 tg_847 tg_37 tg_152 (by decide +kernel)) <| tc1 (by decide +kernel) <| tcn) <|
  bn⟩
set_option maxRecDepth 100000 in
set_option maxHeartbeats 4000000 in
theorem sn_X1_takeBack {l : Launch} {X : ab_X} {D : va_G} : ab_snd l X D ab_MEL (yX1_takeBack, cX1_takeBack, 2, some .int, 0, 0, 0, [], tb_X1_takeBack) := fun d => ⟨by decide +kernel, fun cal K p e R s m args below meth c Q z0 C hmn hd1 hd2 hmR hsR =>
  bc (tc0 (so_aload_n (k := 0) C rfl (by decide +kernel)) <| tc0 (so_getf C hc_X1 hin_X1 (by decide) tg_441 (by decide +kernel)) <| tc0 (so_if_gt (off := 5) C (by decide +kernel) (by decide)) <| tc0 (so_iconst C (by decide +kernel)) <| tc1 (by decide +kernel) <| tcn) <|
  bc ( tcn) <|
  bc (tc1 (by decide +kernel) <| tcn) <|
  bn⟩
set_option maxRecDepth 100000 in
set_option maxHeartbeats 4000000 in
theorem sn_X11_undo {l : Launch} {X : ab_X} {D : va_G} : ab_snd l X D ab_MEL (yX11_undo, cX11_undo, 2, some .int, 0, 0, 0, [], tb_X11_undo) := fun d => ⟨by decide +kernel, fun cal K p e R s m args below meth c Q z0 C hmn hd1 hd2 hmR hsR =>
  bc (tc0 (so_aload_n (k := 0) C rfl (by decide +kernel)) <| tc0 (so_iconst C (by decide +kernel)) <| tc0 (so_putf C hc_X11 hin_X11 (by decide) tyX11_ok nmX11 tg_1379 rfl (by decide +kernel)) <| tc0 (so_aload_n (k := 0) C rfl (by decide +kernel)) <| tc0 (so_getf C hc_X11 hin_X11 (by decide) tg_1402 (by decide +kernel)) <| tc0 (so_if_ne (off := 5) C (by decide +kernel) (by decide)) <| tc0 (so_iconst C (by decide +kernel)) <| tc1 (by decide +kernel) <| tcn) <|
  bc ( tcn) <|
  bc ( tcn) <|
  bc ( tcn) <|
  bc (tc1 (by decide +kernel) <| tcn) <|
  bn⟩
set_option maxRecDepth 100000 in
set_option maxHeartbeats 4000000 in
theorem sn_L_noonLong {l : Launch} {X : ab_X} {D : va_G} : ab_snd l X D ab_MEL (yL_noonLong, cL_noonLong, 3, some .int, 1, 6, 2, [(0, 8, 11, 13)], tb_L_noonLong) := fun d => ⟨by decide +kernel, fun cal K p e R s m args below meth c Q z0 C htab hd1 hd2 hmR hsR =>
  bc (tc0 (so_aload_n (k := 1) C rfl (by decide +kernel)) <| tc0 (so_iconst C (by decide +kernel)) <| tc0 (so_aload_n (k := 0) C rfl (by decide +kernel)) <| tc0 (so_callx C K me_X10_noonLong hmR hsR hd1 hd2 (by decide) hy_X10_noonLong tg_1288 hc_X10 rfl rfl tg_1285 tg_1286 tg_1287 tg_143 (by decide +kernel) htab (by decide +kernel) (by decide) tg_1164 tn_1171 (by decide) (Or.inr ⟨2, rfl, (by decide +kernel), rfl⟩)) <| tc0 (so_iconst C (by decide +kernel)) <| tc1 (by decide +kernel) <| tc1 (by decide +kernel) <| tcn) <|
  bn⟩
set_option maxRecDepth 100000 in
set_option maxHeartbeats 4000000 in
theorem sn_X10_noonLong {l : Launch} {X : ab_X} {D : va_G} : ab_snd l X D ab_MEL (yX10_noonLong, cX10_noonLong, 4, some .int, 1, 6, 1, [], tb_X10_noonLong) := fun d => ⟨by decide +kernel, ⟨rfl, fun cal K p e R s m args below meth c Q z0 C hmn hd1 hd2 hmR hsR =>
  bc (tc0 (so_sipush C (by decide +kernel) (by decide +kernel)) <| tc0 (so_istore_n (k := 1) C rfl (by decide) (by decide +kernel)) <| tc0 (so_sipush C (by decide +kernel) (by decide +kernel)) <| tc0 (so_istore_n (k := 2) C rfl (by decide) (by decide +kernel)) <| tc0 (so_iconst C (by decide +kernel)) <| tc0 (so_istore_n (k := 3) C rfl (by decide) (by decide +kernel)) <| tc0 (so_iload_n (k := 3) C rfl (by decide +kernel)) <| tc0 (so_aload_n (k := 0) C rfl (by decide +kernel)) <| tc0 (so_getf C hc_X10 hin_X10 (by decide) tg_586 (by decide +kernel)) <| tc0 (so_getfN C hc_X8 hin_X8 (by decide) tn_315 (by decide +kernel)) <| tcn) <|
  bc (tc0 (so_icmp_ge (off := 54) C (by decide +kernel) (by decide)) <| tcn) <|
  bc ( tcn) <|
  bc ( tcn) <|
  bc (tc0 (so_iload_n (k := 1) C rfl (by decide +kernel)) <| tc0 (so_sipush C (by decide +kernel) (by decide +kernel)) <| tc0 (so_icmp_ne (off := 14) C (by decide +kernel) (by decide)) <| tc3 (⟨131, 264, 9, _, rfl, tg_1169, (by decide +kernel), (by decide +kernel), Or.inr ⟨(by decide +kernel), (by decide +kernel), (by decide +kernel)⟩⟩) <| tcn) <|
  bc (tc1 (by decide +kernel) <| tcn) <|
  bn⟩⟩
set_option maxRecDepth 100000 in
set_option maxHeartbeats 4000000 in
theorem sn_X11_noonLong {l : Launch} {X : ab_X} {D : va_G} : ab_snd l X D ab_MEL (yX11_noonLong, cX11_noonLong, 2, some .int, 0, 0, 0, [], tb_X11_noonLong) := fun d => ⟨by decide +kernel, fun cal K p e R s m args below meth c Q z0 C hmn hd1 hd2 hmR hsR =>
  bc (tc0 (so_aload_n (k := 0) C rfl (by decide +kernel)) <| tc0 (so_iconst C (by decide +kernel)) <| tc0 (so_callV C K me_X11_sorts hmR hsR hd1 hd2 (by decide) hy_X11_sorts tg_1755 hc_X11 rfl rfl tg_1752 tg_1754 tg_119 tg_158 (by decide +kernel)) <| tc0 (so_istore_n (k := 1) C rfl (by decide) (by decide +kernel)) <| tc0 (so_aload_n (k := 0) C rfl (by decide +kernel)) <| tc0 (so_iload_n (k := 1) C rfl (by decide +kernel)) <| tc0 (so_if_ne (off := 7) C (by decide +kernel) (by decide)) <| tc0 (so_iconst C (by decide +kernel)) <| tc0 (so_goto (off := 4) C (by decide +kernel) (by decide)) <| tcn) <|
  bc (tc0 (so_callV C K me_X11_throwsIf hmR hsR hd1 hd2 (by decide) hy_X11_throwsIf tg_1644 hc_X11 rfl rfl tg_1641 tg_1643 tg_103 tg_158 (by decide +kernel)) <| tc0 (so_if_eq (off := 7) C (by decide +kernel) (by decide)) <| tc0 (so_iconst C (by decide +kernel)) <| tc0 (so_goto (off := 18) C (by decide +kernel) (by decide)) <| tcn) <|
  bc (tc1 (by decide +kernel) <| tcn) <|
  bn⟩
set_option maxRecDepth 100000 in
set_option maxHeartbeats 4000000 in
theorem sn_X11_sorts {l : Launch} {X : ab_X} {D : va_G} : ab_snd l X D ab_MEL (yX11_sorts, cX11_sorts, 5, some .int, 0, 0, 0, [], tb_X11_sorts) := fun d => ⟨by decide +kernel, fun cal K p e R s m args below meth c Q z0 C hmn hd1 hd2 hmR hsR =>
  bc (tc0 (so_iconst C (by decide +kernel)) <| tc0 (so_istore_n (k := 2) C rfl (by decide) (by decide +kernel)) <| tc0 (so_iconst C (by decide +kernel)) <| tc0 (so_istore_n (k := 3) C rfl (by decide) (by decide +kernel)) <| tc0 (so_iload_n (k := 3) C rfl (by decide +kernel)) <| tc0 (so_aload_n (k := 0) C rfl (by decide +kernel)) <| tc0 (so_getf C hc_X11 hin_X11 (by decide) tg_1385 (by decide +kernel)) <| tc0 (so_iconst C (by decide +kernel)) <| tc0 (so_iald C (by decide +kernel)) <| tc0 (so_icmp_ge (off := 87) C (by decide +kernel) (by decide)) <| tcn) <|
  bc ( tcn) <|
  bc ( tcn) <|
  bc ( tcn) <|
  bc ( tcn) <|
  bc ( tcn) <|
  bc (tc0 (so_iload_n (k := 2) C rfl (by decide +kernel)) <| tc1 (by decide +kernel) <| tcn) <|
  bn⟩
set_option maxRecDepth 100000 in
set_option maxHeartbeats 4000000 in
theorem sn_L_oneNoon {l : Launch} {X : ab_X} {D : va_G} : ab_snd l X D ab_MEL (yL_oneNoon, cL_oneNoon, 3, some .int, 1, 6, 2, [(0, 8, 11, 13)], tb_L_oneNoon) := fun d => ⟨by decide +kernel, fun cal K p e R s m args below meth c Q z0 C htab hd1 hd2 hmR hsR =>
  bc (tc0 (so_aload_n (k := 1) C rfl (by decide +kernel)) <| tc0 (so_iconst C (by decide +kernel)) <| tc0 (so_aload_n (k := 0) C rfl (by decide +kernel)) <| tc0 (so_callx C K me_X10_oneNoon hmR hsR hd1 hd2 (by decide) hy_X10_oneNoon tg_1296 hc_X10 rfl rfl tg_1293 tg_1294 tg_1295 tg_143 (by decide +kernel) htab (by decide +kernel) (by decide) tg_1164 tn_1171 (by decide) (Or.inr ⟨2, rfl, (by decide +kernel), rfl⟩)) <| tc0 (so_iconst C (by decide +kernel)) <| tc1 (by decide +kernel) <| tc1 (by decide +kernel) <| tcn) <|
  bn⟩
set_option maxRecDepth 100000 in
set_option maxHeartbeats 4000000 in
theorem sn_X10_oneNoon {l : Launch} {X : ab_X} {D : va_G} : ab_snd l X D ab_MEL (yX10_oneNoon, cX10_oneNoon, 2, some .int, 1, 6, 1, [], tb_X10_oneNoon) := fun d => ⟨by decide +kernel, ⟨rfl, fun cal K p e R s m args below meth c Q z0 C hmn hd1 hd2 hmR hsR =>
  bc (tc0 (so_aload_n (k := 0) C rfl (by decide +kernel)) <| tc0 (so_getf C hc_X10 hin_X10 (by decide) tg_588 (by decide +kernel)) <| tc0 (so_aload_n (k := 0) C rfl (by decide +kernel)) <| tc0 (so_getf C hc_X10 hin_X10 (by decide) tg_586 (by decide +kernel)) <| tc0 (so_iconst C (by decide +kernel)) <| tc0 (so_callVN C K me_X7_middleNoon hmR hsR hd1 hd2 (by decide) hy_X7_middleNoon tg_946 hc_X7 rfl tn_1297 tg_945 tg_52 tg_151 (by decide +kernel)) <| tc0 (so_istore_n (k := 1) C rfl (by decide) (by decide +kernel)) <| tc0 (so_iload_n (k := 1) C rfl (by decide +kernel)) <| tc0 (so_sipush C (by decide +kernel) (by decide +kernel)) <| tcn) <|
  bc (tc0 (so_icmp_ne (off := 14) C (by decide +kernel) (by decide)) <| tc3 (⟨131, 264, 9, _, rfl, tg_1169, (by decide +kernel), (by decide +kernel), Or.inr ⟨(by decide +kernel), (by decide +kernel), (by decide +kernel)⟩⟩) <| tcn) <|
  bc (tc1 (by decide +kernel) <| tcn) <|
  bn⟩⟩
set_option maxRecDepth 100000 in
set_option maxHeartbeats 4000000 in
theorem sn_X7_middleNoon {l : Launch} {X : ab_X} {D : va_G} : ab_snd l X D ab_MEL (yX7_middleNoon, cX7_middleNoon, 7, some .int, 0, 0, 0, [], tb_X7_middleNoon) := fun d => ⟨by decide +kernel, fun cal K p e R s m args below meth c Q z0 C hmn hd1 hd2 hmR hsR =>
  bc (tc0 (so_iconst C (by decide +kernel)) <| tc0 (so_istore_n (k := 3) C rfl (by decide) (by decide +kernel)) <| tc0 (so_iconst C (by decide +kernel)) <| tc0 (so_istore C (by decide) (by decide +kernel)) <| tc0 (so_iload C (by decide +kernel)) <| tc0 (so_aload_n (k := 1) C rfl (by decide +kernel)) <| tc0 (so_getfN C hc_X8 hin_X8 (by decide) tn_313 (by decide +kernel)) <| tc0 (so_icmp_ge (off := 27) C (by decide +kernel) (by decide)) <| tcn) <|
  bc ( tcn) <|
  bc (tc0 (so_sipush C (by decide +kernel) (by decide +kernel)) <| tc0 (so_istore C (by decide) (by decide +kernel)) <| tc0 (so_iconst C (by decide +kernel)) <| tc0 (so_istore C (by decide) (by decide +kernel)) <| tc0 (so_iload C (by decide +kernel)) <| tcn) <|
  bc (tc0 (so_aload_n (k := 1) C rfl (by decide +kernel)) <| tc0 (so_getfN C hc_X8 hin_X8 (by decide) tn_313 (by decide +kernel)) <| tc0 (so_icmp_ge (off := 58) C (by decide +kernel) (by decide)) <| tcn) <|
  bc ( tcn) <|
  bc ( tcn) <|
  bc (tc0 (so_iload C (by decide +kernel)) <| tcn) <|
  bc (tc1 (by decide +kernel) <| tcn) <|
  bn⟩
set_option maxRecDepth 100000 in
set_option maxHeartbeats 4000000 in
theorem sn_X11_oneNoon {l : Launch} {X : ab_X} {D : va_G} : ab_snd l X D ab_MEL (yX11_oneNoon, cX11_oneNoon, 2, some .int, 0, 0, 0, [], tb_X11_oneNoon) := fun d => ⟨by decide +kernel, fun cal K p e R s m args below meth c Q z0 C hmn hd1 hd2 hmR hsR =>
  bc (tc0 (so_aload_n (k := 0) C rfl (by decide +kernel)) <| tc0 (so_iconst C (by decide +kernel)) <| tc0 (so_callV C K me_X11_sorts hmR hsR hd1 hd2 (by decide) hy_X11_sorts tg_1755 hc_X11 rfl rfl tg_1752 tg_1754 tg_119 tg_158 (by decide +kernel)) <| tc0 (so_istore_n (k := 1) C rfl (by decide) (by decide +kernel)) <| tc0 (so_aload_n (k := 0) C rfl (by decide +kernel)) <| tc0 (so_iload_n (k := 1) C rfl (by decide +kernel)) <| tc0 (so_if_ne (off := 7) C (by decide +kernel) (by decide)) <| tc0 (so_iconst C (by decide +kernel)) <| tc0 (so_goto (off := 4) C (by decide +kernel) (by decide)) <| tcn) <|
  bc (tc0 (so_callV C K me_X11_throwsIf hmR hsR hd1 hd2 (by decide) hy_X11_throwsIf tg_1644 hc_X11 rfl rfl tg_1641 tg_1643 tg_103 tg_158 (by decide +kernel)) <| tc0 (so_if_eq (off := 7) C (by decide +kernel) (by decide)) <| tc0 (so_iconst C (by decide +kernel)) <| tc0 (so_goto (off := 13) C (by decide +kernel) (by decide)) <| tcn) <|
  bc (tc1 (by decide +kernel) <| tcn) <|
  bn⟩
set_option maxRecDepth 100000 in
set_option maxHeartbeats 4000000 in
theorem sn_X10_even {l : Launch} {X : ab_X} {D : va_G} : ab_snd l X D ab_MEL (yX10_even, cX10_even, 8, some .int, 0, 0, 0, [], tb_X10_even) := fun d => ⟨by decide +kernel, fun cal K p e R s m args below meth c Q z0 C hmn hd1 hd2 hmR hsR =>
  bc (tc0 (so_aload_n (k := 0) C rfl (by decide +kernel)) <| tc0 (so_callV C K me_X10_bendsAdded hmR hsR hd1 hd2 (by decide) hy_X10_bendsAdded tg_856 hc_X10 rfl rfl tg_853 tg_855 tg_38 tg_143 (by decide +kernel)) <| tc0 (so_istore_n (k := 1) C rfl (by decide) (by decide +kernel)) <| tc0 (so_iload_n (k := 1) C rfl (by decide +kernel)) <| tc0 (so_if_le (off := 7) C (by decide +kernel) (by decide)) <| tc0 (so_iconst C (by decide +kernel)) <| tc0 (so_istore_n (k := 2) C rfl (by decide) (by decide +kernel)) <| tc0 (so_iload_n (k := 1) C rfl (by decide +kernel)) <| tcn) <|
  bc (tc0 (so_mabs C hmR hsR tg_861 tg_769 tg_163 (by decide +kernel)) <| tc0 (so_istore_n (k := 3) C rfl (by decide) (by decide +kernel)) <| tc0 (so_iconst C (by decide +kernel)) <| tc0 (so_istore C (by decide) (by decide +kernel)) <| tc0 (so_iconst C (by decide +kernel)) <| tc0 (so_istore C (by decide) (by decide +kernel)) <| tc0 (so_iload C (by decide +kernel)) <| tc0 (so_aload_n (k := 0) C rfl (by decide +kernel)) <| tc0 (so_getf C hc_X10 hin_X10 (by decide) tg_586 (by decide +kernel)) <| tcn) <|
  bc (tc0 (so_getfN C hc_X8 hin_X8 (by decide) tn_315 (by decide +kernel)) <| tc0 (so_icmp_ge (off := 21) C (by decide +kernel) (by decide)) <| tcn) <|
  bc (tc0 (so_iload C (by decide +kernel)) <| tc0 (so_iload_n (k := 3) C rfl (by decide +kernel)) <| tc0 (so_icmp_ge (off := 5) C (by decide +kernel) (by decide)) <| tc1 (by decide +kernel) <| tcn) <|
  bc (tc0 (so_iload_n (k := 3) C rfl (by decide +kernel)) <| tc0 (so_istore C (by decide) (by decide +kernel)) <| tc0 (so_iconst C (by decide +kernel)) <| tc0 (so_istore C (by decide) (by decide +kernel)) <| tc0 (so_iload C (by decide +kernel)) <| tc0 (so_aload_n (k := 0) C rfl (by decide +kernel)) <| tc0 (so_getf C hc_X10 hin_X10 (by decide) tg_586 (by decide +kernel)) <| tc0 (so_getfN C hc_X8 hin_X8 (by decide) tn_315 (by decide +kernel)) <| tc0 (so_icmp_ge (off := 50) C (by decide +kernel) (by decide)) <| tcn) <|
  bc ( tcn) <|
  bc ( tcn) <|
  bc ( tcn) <|
  bc (tc0 (so_aload_n (k := 0) C rfl (by decide +kernel)) <| tc0 (so_aload_n (k := 0) C rfl (by decide +kernel)) <| tc0 (so_getf C hc_X10 hin_X10 (by decide) tg_586 (by decide +kernel)) <| tc0 (so_getfN C hc_X8 hin_X8 (by decide) tn_315 (by decide +kernel)) <| tc0 (so_putf C hc_X10 hin_X10 (by decide) tyX10_ok nmX10 tg_598 rfl (by decide +kernel)) <| tc0 (so_iload_n (k := 3) C rfl (by decide +kernel)) <| tc1 (by decide +kernel) <| tcn) <|
  bn⟩
set_option maxRecDepth 100000 in
set_option maxHeartbeats 4000000 in
theorem sn_X11_even {l : Launch} {X : ab_X} {D : va_G} : ab_snd l X D ab_MEL (yX11_even, cX11_even, 7, some .int, 0, 0, 0, [], tb_X11_even) := fun d => ⟨by decide +kernel, fun cal K p e R s m args below meth c Q z0 C hmn hd1 hd2 hmR hsR =>
  bc (tc0 (so_aload_n (k := 0) C rfl (by decide +kernel)) <| tc0 (so_iconst C (by decide +kernel)) <| tc0 (so_putf C hc_X11 hin_X11 (by decide) tyX11_ok nmX11 tg_1379 rfl (by decide +kernel)) <| tc0 (so_aload_n (k := 0) C rfl (by decide +kernel)) <| tc0 (so_bipush C (by decide +kernel) (by decide +kernel)) <| tc0 (so_callV C K me_X11_sumOf hmR hsR hd1 hd2 (by decide) hy_X11_sumOf tg_1696 hc_X11 rfl rfl tg_1693 tg_1695 tg_112 tg_158 (by decide +kernel)) <| tc0 (so_istore_n (k := 1) C rfl (by decide) (by decide +kernel)) <| tc0 (so_iload_n (k := 1) C rfl (by decide +kernel)) <| tc0 (so_if_ge (off := 7) C (by decide +kernel) (by decide)) <| tcn) <|
  bc (tc0 (so_iconst C (by decide +kernel)) <| tc0 (so_istore_n (k := 2) C rfl (by decide) (by decide +kernel)) <| tc0 (so_iload_n (k := 1) C rfl (by decide +kernel)) <| tc0 (so_callS C K me_X11_absolute hmR hsR hd1 hd2 (by decide) hy_X11_absolute tg_1703 rfl tg_1701 tg_1702 tg_158 (by decide +kernel)) <| tc0 (so_istore_n (k := 3) C rfl (by decide) (by decide +kernel)) <| tc0 (so_iconst C (by decide +kernel)) <| tc0 (so_istore C (by decide) (by decide +kernel)) <| tc0 (so_iconst C (by decide +kernel)) <| tc0 (so_istore C (by decide) (by decide +kernel)) <| tcn) <|
  bc (tc0 (so_iload C (by decide +kernel)) <| tc0 (so_aload_n (k := 0) C rfl (by decide +kernel)) <| tc0 (so_getf C hc_X11 hin_X11 (by decide) tg_1385 (by decide +kernel)) <| tc0 (so_iconst C (by decide +kernel)) <| tc0 (so_iald C (by decide +kernel)) <| tc0 (so_icmp_ge (off := 21) C (by decide +kernel) (by decide)) <| tcn) <|
  bc (tc0 (so_iload C (by decide +kernel)) <| tcn) <|
  bc (tc0 (so_iload_n (k := 3) C rfl (by decide +kernel)) <| tc0 (so_icmp_ge (off := 5) C (by decide +kernel) (by decide)) <| tc1 (by decide +kernel) <| tc0 (so_aload_n (k := 0) C rfl (by decide +kernel)) <| tc0 (so_aload_n (k := 0) C rfl (by decide +kernel)) <| tc0 (so_getf C hc_X11 hin_X11 (by decide) tg_1385 (by decide +kernel)) <| tc0 (so_iconst C (by decide +kernel)) <| tc0 (so_iald C (by decide +kernel)) <| tc0 (so_putf C hc_X11 hin_X11 (by decide) tyX11_ok nmX11 tg_1406 rfl (by decide +kernel)) <| tcn) <|
  bc (tc0 (so_iconst C (by decide +kernel)) <| tc0 (so_istore C (by decide) (by decide +kernel)) <| tc0 (so_iload C (by decide +kernel)) <| tc0 (so_aload_n (k := 0) C rfl (by decide +kernel)) <| tc0 (so_getf C hc_X11 hin_X11 (by decide) tg_1385 (by decide +kernel)) <| tc0 (so_iconst C (by decide +kernel)) <| tc0 (so_iald C (by decide +kernel)) <| tc0 (so_icmp_ge (off := 55) C (by decide +kernel) (by decide)) <| tcn) <|
  bc ( tcn) <|
  bc ( tcn) <|
  bc ( tcn) <|
  bc (tc0 (so_iload_n (k := 1) C rfl (by decide +kernel)) <| tc0 (so_callS C K me_X11_absolute hmR hsR hd1 hd2 (by decide) hy_X11_absolute tg_1703 rfl tg_1701 tg_1702 tg_158 (by decide +kernel)) <| tc1 (by decide +kernel) <| tcn) <|
  bn⟩
set_option maxRecDepth 100000 in
set_option maxHeartbeats 4000000 in
theorem sn_X11_absolute {l : Launch} {X : ab_X} {D : va_G} : ab_snd l X D ab_MEL (yX11_absolute, cX11_absolute, 1, some .int, 0, 0, 0, [], tb_X11_absolute) := fun d => ⟨by decide +kernel, fun cal K p e R s m args below meth c Q z0 C hmn hd1 hd2 hmR hsR =>
  bc (tc0 (so_iload_n (k := 0) C rfl (by decide +kernel)) <| tc0 (so_if_ge (off := 8) C (by decide +kernel) (by decide)) <| tc0 (so_iload_n (k := 0) C rfl (by decide +kernel)) <| tc1 (by decide +kernel) <| tcn) <|
  bn⟩
set_option maxRecDepth 100000 in
set_option maxHeartbeats 4000000 in
theorem sn_L_evenAt {l : Launch} {X : ab_X} {D : va_G} : ab_snd l X D ab_MEL (yL_evenAt, cL_evenAt, 4, some .int, 1, 6, 2, [(0, 9, 12, 13)], tb_L_evenAt) := fun d => ⟨by decide +kernel, fun cal K p e R s m args below meth c Q z0 C htab hd1 hd2 hmR hsR =>
  bc (tc0 (so_aload_n (k := 2) C rfl (by decide +kernel)) <| tc0 (so_iconst C (by decide +kernel)) <| tc0 (so_aload_n (k := 0) C rfl (by decide +kernel)) <| tc0 (so_iload_n (k := 1) C rfl (by decide +kernel)) <| tc0 (so_callx C K me_X10_evenAt hmR hsR hd1 hd2 (by decide) hy_X10_evenAt tg_1304 hc_X10 rfl rfl tg_1301 tg_1302 tg_1303 tg_143 (by decide +kernel) htab (by decide +kernel) (by decide) tg_1164 tn_1171 (by decide) (Or.inr ⟨3, rfl, (by decide +kernel), rfl⟩)) <| tc0 (so_iconst C (by decide +kernel)) <| tc1 (by decide +kernel) <| tcn) <|
  bc (tc1 (by decide +kernel) <| tcn) <|
  bn⟩
