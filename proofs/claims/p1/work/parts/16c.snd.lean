/-! Each table is sound. -/
set_option maxRecDepth 100000 in
set_option maxHeartbeats 4000000 in
theorem sn_X10_end {l : Launch} {X : ab_X} {D : va_G} : ab_snd l X D ab_MEL (yX10_end, cX10_end, 2, some .boolean, 0, 0, 0, [], tb_X10_end) := fun d => ⟨by decide +kernel, fun cal K p e R s m args below meth c Q z0 C hmn hd1 hd2 hmR hsR =>
  bc (tc0 (so_iload_n (k := 1) C rfl (by decide +kernel)) <| tc0 (so_if_lt (off := 14) C (by decide +kernel) (by decide)) <| tc0 (so_iload_n (k := 1) C rfl (by decide +kernel)) <| tc0 (so_aload_n (k := 0) C rfl (by decide +kernel)) <| tc0 (so_getf C hc_X10 hin_X10 (by decide) tg_584 (by decide +kernel)) <| tc0 (so_getfN C hc_X4 hin_X4 (by decide) tn_232 (by decide +kernel)) <| tc0 (so_icmp_le (off := 5) C (by decide +kernel) (by decide)) <| tc0 (so_iconst C (by decide +kernel)) <| tcn) <|
  bc (tc1 (by decide +kernel) <| tc0 (so_aload_n (k := 0) C rfl (by decide +kernel)) <| tc0 (so_getf C hc_X10 hin_X10 (by decide) tg_584 (by decide +kernel)) <| tc0 (so_iload_n (k := 1) C rfl (by decide +kernel)) <| tc0 (so_putfN C hc_X4 hin_X4 (by decide) tyX4_ok nmX4 tn_232 rfl (by decide +kernel)) <| tc0 (so_iconst C (by decide +kernel)) <| tc1 (by decide +kernel) <| tcn) <|
  bn⟩
set_option maxRecDepth 100000 in
set_option maxHeartbeats 4000000 in
theorem sn_X11_end {l : Launch} {X : ab_X} {D : va_G} : ab_snd l X D ab_MEL (yX11_end, cX11_end, 2, some .boolean, 0, 0, 0, [], tb_X11_end) := fun d => ⟨by decide +kernel, fun cal K p e R s m args below meth c Q z0 C hmn hd1 hd2 hmR hsR =>
  bc (tc0 (so_aload_n (k := 0) C rfl (by decide +kernel)) <| tc0 (so_iconst C (by decide +kernel)) <| tc0 (so_putf C hc_X11 hin_X11 (by decide) tyX11_ok nmX11 tg_1379 rfl (by decide +kernel)) <| tc0 (so_iload_n (k := 1) C rfl (by decide +kernel)) <| tc0 (so_if_lt (off := 11) C (by decide +kernel) (by decide)) <| tc0 (so_iload_n (k := 1) C rfl (by decide +kernel)) <| tc0 (so_aload_n (k := 0) C rfl (by decide +kernel)) <| tc0 (so_getf C hc_X11 hin_X11 (by decide) tg_1381 (by decide +kernel)) <| tc0 (so_icmp_le (off := 5) C (by decide +kernel) (by decide)) <| tcn) <|
  bc (tc0 (so_iconst C (by decide +kernel)) <| tc1 (by decide +kernel) <| tc0 (so_aload_n (k := 0) C rfl (by decide +kernel)) <| tc0 (so_iload_n (k := 1) C rfl (by decide +kernel)) <| tc0 (so_putf C hc_X11 hin_X11 (by decide) tyX11_ok nmX11 tg_1381 rfl (by decide +kernel)) <| tc0 (so_iconst C (by decide +kernel)) <| tc1 (by decide +kernel) <| tcn) <|
  bn⟩
set_option maxRecDepth 100000 in
set_option maxHeartbeats 4000000 in
theorem sn_X10_valley {l : Launch} {X : ab_X} {D : va_G} : ab_snd l X D ab_MEL (yX10_valley, cX10_valley, 3, some .int, 0, 0, 0, [], tb_X10_valley) := fun d => ⟨by decide +kernel, fun cal K p e R s m args below meth c Q z0 C hmn hd1 hd2 hmR hsR =>
  bc (tc0 (so_aload_n (k := 0) C rfl (by decide +kernel)) <| tc0 (so_getf C hc_X10 hin_X10 (by decide) tg_585 (by decide +kernel)) <| tc0 (so_aload_n (k := 0) C rfl (by decide +kernel)) <| tc0 (so_getf C hc_X10 hin_X10 (by decide) tg_587 (by decide +kernel)) <| tc0 (so_aload_n (k := 0) C rfl (by decide +kernel)) <| tc0 (so_getf C hc_X10 hin_X10 (by decide) tg_584 (by decide +kernel)) <| tc0 (so_callVN C K me_X9_readInto hmR hsR hd1 hd2 (by decide) hy_X9_readInto tg_655 hc_X9 rfl tn_652 tg_654 tg_1 tg_149 (by decide +kernel)) <| tc0 (so_istore_n (k := 1) C rfl (by decide) (by decide +kernel)) <| tcn) <|
  bc (tc0 (so_aload_n (k := 0) C rfl (by decide +kernel)) <| tc0 (so_getf C hc_X10 hin_X10 (by decide) tg_584 (by decide +kernel)) <| tc0 (so_iconst C (by decide +kernel)) <| tc0 (so_putfN C hc_X4 hin_X4 (by decide) tyX4_ok nmX4 tn_232 rfl (by decide +kernel)) <| tc0 (so_iload_n (k := 1) C rfl (by decide +kernel)) <| tc0 (so_iconst C (by decide +kernel)) <| tc0 (so_icmp_ne (off := 13) C (by decide +kernel) (by decide)) <| tcn) <|
  bc (tc1 (by decide +kernel) <| tc0 (so_aload_n (k := 0) C rfl (by decide +kernel)) <| tc0 (so_getf C hc_X10 hin_X10 (by decide) tg_586 (by decide +kernel)) <| tc0 (so_astore_n (k := 2) C rfl (by decide) (by decide +kernel)) <| tc0 (so_aload_n (k := 0) C rfl (by decide +kernel)) <| tc0 (so_aload_n (k := 0) C rfl (by decide +kernel)) <| tc0 (so_getf C hc_X10 hin_X10 (by decide) tg_587 (by decide +kernel)) <| tcn) <|
  bc (tc0 (so_putf C hc_X10 hin_X10 (by decide) tyX10_ok nmX10 tg_586 rfl (by decide +kernel)) <| tc0 (so_aload_n (k := 0) C rfl (by decide +kernel)) <| tc0 (so_aload_n (k := 2) C rfl (by decide +kernel)) <| tc0 (so_putf C hc_X10 hin_X10 (by decide) tyX10_ok nmX10 tg_587 rfl (by decide +kernel)) <| tc0 (so_aload_n (k := 0) C rfl (by decide +kernel)) <| tc0 (so_getf C hc_X10 hin_X10 (by decide) tg_588 (by decide +kernel)) <| tc0 (so_aload_n (k := 0) C rfl (by decide +kernel)) <| tc0 (so_getf C hc_X10 hin_X10 (by decide) tg_586 (by decide +kernel)) <| tcn) <|
  bc (tc0 (so_callVN C K me_X7_beginIn hmR hsR hd1 hd2 (by decide) hy_X7_beginIn tg_747 hc_X7 rfl tn_744 tg_746 tg_22 tg_151 (by decide +kernel)) <| tc0 (so_aload_n (k := 0) C rfl (by decide +kernel)) <| tc0 (so_getf C hc_X10 hin_X10 (by decide) tg_591 (by decide +kernel)) <| tc0 (so_iconst C (by decide +kernel)) <| tc0 (so_putfN C hc_X6 hin_X6 (by decide) tyX6_ok nmX6 tn_458 rfl (by decide +kernel)) <| tc0 (so_aload_n (k := 0) C rfl (by decide +kernel)) <| tc0 (so_getf C hc_X10 hin_X10 (by decide) tg_590 (by decide +kernel)) <| tcn) <|
  bc (tc0 (so_iconst C (by decide +kernel)) <| tc0 (so_putfN C hc_X1 hin_X1 (by decide) tyX1_ok nmX1 tn_442 rfl (by decide +kernel)) <| tc0 (so_iload_n (k := 1) C rfl (by decide +kernel)) <| tc1 (by decide +kernel) <| tcn) <|
  bn⟩
set_option maxRecDepth 100000 in
set_option maxHeartbeats 4000000 in
theorem sn_X9_readInto {l : Launch} {X : ab_X} {D : va_G} : ab_snd l X D ab_MEL (yX9_readInto, cX9_readInto, 4, some .int, 0, 0, 0, [], tb_X9_readInto) := fun d => ⟨by decide +kernel, fun cal K p e R s m args below meth c Q z0 C hmn hd1 hd2 hmR hsR =>
  bc (tc0 (so_aload_n (k := 1) C rfl (by decide +kernel)) <| tc0 (so_callVN C K me_X8_makeEmpty hmR hsR hd1 hd2 (by decide) hy_X8_makeEmpty tg_659 hc_X8 rfl tn_656 tg_658 tg_2 tg_150 (by decide +kernel)) <| tc0 (so_iconst C (by decide +kernel)) <| tc0 (so_istore_n (k := 3) C rfl (by decide) (by decide +kernel)) <| tc0 (so_iload_n (k := 3) C rfl (by decide +kernel)) <| tc0 (so_aload_n (k := 0) C rfl (by decide +kernel)) <| tc0 (so_getf C hc_X9 hin_X9 (by decide) tg_301 (by decide +kernel)) <| tc0 (so_len C (by decide +kernel)) <| tc0 (so_icmp_ge (off := 16) C (by decide +kernel) (by decide)) <| tc0 (so_aload_n (k := 0) C rfl (by decide +kernel)) <| tcn) <|
  bc (tc0 (so_getf C hc_X9 hin_X9 (by decide) tg_301 (by decide +kernel)) <| tc0 (so_iload_n (k := 3) C rfl (by decide +kernel)) <| tc0 (so_iconst C (by decide +kernel)) <| tc0 (so_zast C (by decide +kernel)) <| tc0 (so_iinc C (by decide) (by decide +kernel)) <| tc0 (so_goto (off := (-19)) C (by decide +kernel) (by decide)) <| tc0 (so_aload_n (k := 2) C rfl (by decide +kernel)) <| tc0 (so_sipush C (by decide +kernel) (by decide +kernel)) <| tcn) <|
  bc (tc0 (so_callVN C K me_X4_begin hmR hsR hd1 hd2 (by decide) hy_X4_begin tg_663 hc_X4 rfl tn_660 tg_662 tg_3 tg_144 (by decide +kernel)) <| tc0 (so_iconst C (by decide +kernel)) <| tc0 (so_istore_n (k := 3) C rfl (by decide) (by decide +kernel)) <| tc0 (so_aload_n (k := 2) C rfl (by decide +kernel)) <| tc0 (so_callVN C K me_X4_atEnd hmR hsR hd1 hd2 (by decide) hy_X4_atEnd tg_682 hc_X4 rfl tn_679 tg_681 tg_7 tg_144 (by decide +kernel)) <| tc0 (so_if_ne (off := 36) C (by decide +kernel) (by decide)) <| tcn) <|
  bc ( tcn) <|
  bc (tc1 (by decide +kernel) <| tc0 (so_iload_n (k := 3) C rfl (by decide +kernel)) <| tc1 (by decide +kernel) <| tcn) <|
  bn⟩
set_option maxRecDepth 100000 in
set_option maxHeartbeats 4000000 in
theorem sn_X8_makeEmpty {l : Launch} {X : ab_X} {D : va_G} : ab_snd l X D ab_MEL (yX8_makeEmpty, cX8_makeEmpty, 1, none, 0, 0, 0, [], tb_X8_makeEmpty) := fun d => ⟨by decide +kernel, fun cal K p e R s m args below meth c Q z0 C hmn hd1 hd2 hmR hsR =>
  bc (tc0 (so_aload_n (k := 0) C rfl (by decide +kernel)) <| tc0 (so_iconst C (by decide +kernel)) <| tc0 (so_putf C hc_X8 hin_X8 (by decide) tyX8_ok nmX8 tg_312 rfl (by decide +kernel)) <| tc0 (so_aload_n (k := 0) C rfl (by decide +kernel)) <| tc0 (so_iconst C (by decide +kernel)) <| tc0 (so_putf C hc_X8 hin_X8 (by decide) tyX8_ok nmX8 tg_326 rfl (by decide +kernel)) <| tc0 (so_aload_n (k := 0) C rfl (by decide +kernel)) <| tc0 (so_iconst C (by decide +kernel)) <| tc0 (so_putf C hc_X8 hin_X8 (by decide) tyX8_ok nmX8 tg_337 rfl (by decide +kernel)) <| tc0 (so_aload_n (k := 0) C rfl (by decide +kernel)) <| tcn) <|
  bc (tc0 (so_getf C hc_X8 hin_X8 (by decide) tg_360 (by decide +kernel)) <| tc0 (so_iconst C (by decide +kernel)) <| tc0 (so_iconst C (by decide +kernel)) <| tc0 (so_iast C (by decide +kernel)) <| tc0 (so_aload_n (k := 0) C rfl (by decide +kernel)) <| tc0 (so_getf C hc_X8 hin_X8 (by decide) tg_360 (by decide +kernel)) <| tc0 (so_iconst C (by decide +kernel)) <| tc0 (so_iconst C (by decide +kernel)) <| tc0 (so_iast C (by decide +kernel)) <| tc0 (so_aload_n (k := 0) C rfl (by decide +kernel)) <| tc0 (so_getf C hc_X8 hin_X8 (by decide) tg_360 (by decide +kernel)) <| tcn) <|
  bc (tc0 (so_iconst C (by decide +kernel)) <| tc0 (so_iconst C (by decide +kernel)) <| tc0 (so_iast C (by decide +kernel)) <| tc2 (by decide +kernel) <| tcn) <|
  bn⟩
set_option maxRecDepth 100000 in
set_option maxHeartbeats 4000000 in
theorem sn_X4_begin {l : Launch} {X : ab_X} {D : va_G} : ab_snd l X D ab_MEL (yX4_begin, cX4_begin, 2, none, 0, 0, 0, [], tb_X4_begin) := fun d => ⟨by decide +kernel, fun cal K p e R s m args below meth c Q z0 C hmn hd1 hd2 hmR hsR =>
  bc (tc0 (so_aload_n (k := 0) C rfl (by decide +kernel)) <| tc0 (so_iload_n (k := 1) C rfl (by decide +kernel)) <| tc0 (so_putf C hc_X4 hin_X4 (by decide) tyX4_ok nmX4 tg_233 rfl (by decide +kernel)) <| tc0 (so_aload_n (k := 0) C rfl (by decide +kernel)) <| tc0 (so_iconst C (by decide +kernel)) <| tc0 (so_putf C hc_X4 hin_X4 (by decide) tyX4_ok nmX4 tg_234 rfl (by decide +kernel)) <| tc0 (so_aload_n (k := 0) C rfl (by decide +kernel)) <| tc0 (so_iconst C (by decide +kernel)) <| tc0 (so_putf C hc_X4 hin_X4 (by decide) tyX4_ok nmX4 tg_254 rfl (by decide +kernel)) <| tc0 (so_aload_n (k := 0) C rfl (by decide +kernel)) <| tcn) <|
  bc (tc0 (so_iconst C (by decide +kernel)) <| tc0 (so_putf C hc_X4 hin_X4 (by decide) tyX4_ok nmX4 tg_256 rfl (by decide +kernel)) <| tc0 (so_aload_n (k := 0) C rfl (by decide +kernel)) <| tc0 (so_callV C K me_X4_next hmR hsR hd1 hd2 (by decide) hy_X4_next tg_667 hc_X4 rfl rfl tg_664 tg_666 tg_4 tg_144 (by decide +kernel)) <| tc2 (by decide +kernel) <| tcn) <|
  bn⟩
set_option maxRecDepth 100000 in
set_option maxHeartbeats 4000000 in
theorem sn_X4_next {l : Launch} {X : ab_X} {D : va_G} : ab_snd l X D ab_MEL (yX4_next, cX4_next, 1, none, 0, 0, 0, [], tb_X4_next) := fun d => ⟨by decide +kernel, fun cal K p e R s m args below meth c Q z0 C hmn hd1 hd2 hmR hsR =>
  bc (tc0 (so_aload_n (k := 0) C rfl (by decide +kernel)) <| tc0 (so_getf C hc_X4 hin_X4 (by decide) tg_234 (by decide +kernel)) <| tc0 (so_aload_n (k := 0) C rfl (by decide +kernel)) <| tc0 (so_getf C hc_X4 hin_X4 (by decide) tg_231 (by decide +kernel)) <| tc0 (so_icmp_ge (off := 44) C (by decide +kernel) (by decide)) <| tcn) <|
  bc ( tcn) <|
  bc ( tcn) <|
  bc (tc0 (so_aload_n (k := 0) C rfl (by decide +kernel)) <| tc0 (so_aload_n (k := 0) C rfl (by decide +kernel)) <| tc0 (so_getf C hc_X4 hin_X4 (by decide) tg_234 (by decide +kernel)) <| tc0 (so_putf C hc_X4 hin_X4 (by decide) tyX4_ok nmX4 tg_235 rfl (by decide +kernel)) <| tc0 (so_aload_n (k := 0) C rfl (by decide +kernel)) <| tc0 (so_iconst C (by decide +kernel)) <| tc0 (so_putf C hc_X4 hin_X4 (by decide) tyX4_ok nmX4 tg_236 rfl (by decide +kernel)) <| tcn) <|
  bc (tc0 (so_aload_n (k := 0) C rfl (by decide +kernel)) <| tc0 (so_iconst C (by decide +kernel)) <| tc0 (so_putf C hc_X4 hin_X4 (by decide) tyX4_ok nmX4 tg_241 rfl (by decide +kernel)) <| tc0 (so_aload_n (k := 0) C rfl (by decide +kernel)) <| tc0 (so_getf C hc_X4 hin_X4 (by decide) tg_231 (by decide +kernel)) <| tc0 (so_aload_n (k := 0) C rfl (by decide +kernel)) <| tc0 (so_getf C hc_X4 hin_X4 (by decide) tg_233 (by decide +kernel)) <| tc0 (so_icmp_le (off := 25) C (by decide +kernel) (by decide)) <| tcn) <|
  bc ( tcn) <|
  bc (tc0 (so_aload_n (k := 0) C rfl (by decide +kernel)) <| tc0 (so_getf C hc_X4 hin_X4 (by decide) tg_235 (by decide +kernel)) <| tc0 (so_aload_n (k := 0) C rfl (by decide +kernel)) <| tc0 (so_getf C hc_X4 hin_X4 (by decide) tg_231 (by decide +kernel)) <| tc0 (so_icmp_lt (off := 11) C (by decide +kernel) (by decide)) <| tcn) <|
  bc (tc0 (so_aload_n (k := 0) C rfl (by decide +kernel)) <| tc0 (so_iconst C (by decide +kernel)) <| tc0 (so_putf C hc_X4 hin_X4 (by decide) tyX4_ok nmX4 tg_236 rfl (by decide +kernel)) <| tc0 (so_goto (off := 68) C (by decide +kernel) (by decide)) <| tcn) <|
  bc ( tcn) <|
  bc ( tcn) <|
  bc ( tcn) <|
  bc (tc2 (by decide +kernel) <| tcn) <|
  bn⟩
set_option maxRecDepth 100000 in
set_option maxHeartbeats 4000000 in
theorem sn_X4_atEnd {l : Launch} {X : ab_X} {D : va_G} : ab_snd l X D ab_MEL (yX4_atEnd, cX4_atEnd, 1, some .boolean, 0, 0, 0, [], tb_X4_atEnd) := fun d => ⟨by decide +kernel, fun cal K p e R s m args below meth c Q z0 C hmn hd1 hd2 hmR hsR =>
  bc (tc0 (so_aload_n (k := 0) C rfl (by decide +kernel)) <| tc0 (so_getf C hc_X4 hin_X4 (by decide) tg_236 (by decide +kernel)) <| tc0 (so_iconst C (by decide +kernel)) <| tc0 (so_icmp_ne (off := 7) C (by decide +kernel) (by decide)) <| tc0 (so_iconst C (by decide +kernel)) <| tc0 (so_goto (off := 4) C (by decide +kernel) (by decide)) <| tc1 (by decide +kernel) <| tcn) <|
  bn⟩
set_option maxRecDepth 100000 in
set_option maxHeartbeats 4000000 in
theorem sn_X7_beginIn {l : Launch} {X : ab_X} {D : va_G} : ab_snd l X D ab_MEL (yX7_beginIn, cX7_beginIn, 3, none, 0, 0, 0, [], tb_X7_beginIn) := fun d => ⟨by decide +kernel, fun cal K p e R s m args below meth c Q z0 C hmn hd1 hd2 hmR hsR =>
  bc (tc0 (so_aload_n (k := 0) C rfl (by decide +kernel)) <| tc0 (so_iconst C (by decide +kernel)) <| tc0 (so_putf C hc_X7 hin_X7 (by decide) tyX7_ok nmX7 tg_401 rfl (by decide +kernel)) <| tc0 (so_aload_n (k := 0) C rfl (by decide +kernel)) <| tc0 (so_iconst C (by decide +kernel)) <| tc0 (so_putf C hc_X7 hin_X7 (by decide) tyX7_ok nmX7 tg_404 rfl (by decide +kernel)) <| tc0 (so_aload_n (k := 0) C rfl (by decide +kernel)) <| tc0 (so_iconst C (by decide +kernel)) <| tc0 (so_putf C hc_X7 hin_X7 (by decide) tyX7_ok nmX7 tg_406 rfl (by decide +kernel)) <| tc0 (so_iconst C (by decide +kernel)) <| tcn) <|
  bc (tc0 (so_istore_n (k := 2) C rfl (by decide) (by decide +kernel)) <| tc0 (so_iload_n (k := 2) C rfl (by decide +kernel)) <| tc0 (so_bipush C (by decide +kernel) (by decide +kernel)) <| tc0 (so_icmp_ge (off := 47) C (by decide +kernel) (by decide)) <| tc0 (so_aload_n (k := 0) C rfl (by decide +kernel)) <| tc0 (so_getf C hc_X7 hin_X7 (by decide) tg_407 (by decide +kernel)) <| tc0 (so_iload_n (k := 2) C rfl (by decide +kernel)) <| tc0 (so_iload_n (k := 2) C rfl (by decide +kernel)) <| tc0 (so_aload_n (k := 1) C rfl (by decide +kernel)) <| tc0 (so_getfN C hc_X8 hin_X8 (by decide) tn_313 (by decide +kernel)) <| tcn) <|
  bc (tc0 (so_icmp_ge (off := 12) C (by decide +kernel) (by decide)) <| tc0 (so_iconst C (by decide +kernel)) <| tc0 (so_iast C (by decide +kernel)) <| tc0 (so_aload_n (k := 0) C rfl (by decide +kernel)) <| tcn) <|
  bc (tc0 (so_getf C hc_X7 hin_X7 (by decide) tg_410 (by decide +kernel)) <| tc0 (so_iload_n (k := 2) C rfl (by decide +kernel)) <| tc0 (so_iconst C (by decide +kernel)) <| tc0 (so_iast C (by decide +kernel)) <| tc0 (so_aload_n (k := 0) C rfl (by decide +kernel)) <| tc0 (so_getf C hc_X7 hin_X7 (by decide) tg_413 (by decide +kernel)) <| tc0 (so_iload_n (k := 2) C rfl (by decide +kernel)) <| tc0 (so_iconst C (by decide +kernel)) <| tc0 (so_iast C (by decide +kernel)) <| tc0 (so_iinc C (by decide) (by decide +kernel)) <| tcn) <|
  bc (tc0 (so_goto (off := (-47)) C (by decide +kernel) (by decide)) <| tc2 (by decide +kernel) <| tcn) <|
  bn⟩
set_option maxRecDepth 100000 in
set_option maxHeartbeats 4000000 in
theorem sn_X11_valley {l : Launch} {X : ab_X} {D : va_G} : ab_snd l X D ab_MEL (yX11_valley, cX11_valley, 2, some .int, 0, 0, 0, [], tb_X11_valley) := fun d => ⟨by decide +kernel, fun cal K p e R s m args below meth c Q z0 C hmn hd1 hd2 hmR hsR =>
  bc (tc0 (so_aload_n (k := 0) C rfl (by decide +kernel)) <| tc0 (so_iconst C (by decide +kernel)) <| tc0 (so_putf C hc_X11 hin_X11 (by decide) tyX11_ok nmX11 tg_1379 rfl (by decide +kernel)) <| tc0 (so_aload_n (k := 0) C rfl (by decide +kernel)) <| tc0 (so_sipush C (by decide +kernel) (by decide +kernel)) <| tc0 (so_callV C K me_X11_taken hmR hsR hd1 hd2 (by decide) hy_X11_taken tg_1540 hc_X11 rfl rfl tg_1537 tg_1539 tg_82 tg_158 (by decide +kernel)) <| tc0 (so_aload_n (k := 0) C rfl (by decide +kernel)) <| tc0 (so_iconst C (by decide +kernel)) <| tc0 (so_putf C hc_X11 hin_X11 (by decide) tyX11_ok nmX11 tg_1394 rfl (by decide +kernel)) <| tcn) <|
  bc (tc0 (so_aload_n (k := 0) C rfl (by decide +kernel)) <| tc0 (so_iconst C (by decide +kernel)) <| tc0 (so_putf C hc_X11 hin_X11 (by decide) tyX11_ok nmX11 tg_1398 rfl (by decide +kernel)) <| tc0 (so_aload_n (k := 0) C rfl (by decide +kernel)) <| tc0 (so_iconst C (by decide +kernel)) <| tc0 (so_putf C hc_X11 hin_X11 (by decide) tyX11_ok nmX11 tg_1399 rfl (by decide +kernel)) <| tc0 (so_aload_n (k := 0) C rfl (by decide +kernel)) <| tc0 (so_callV C K me_X11_clears hmR hsR hd1 hd2 (by decide) hy_X11_clears tg_1378 hc_X11 rfl rfl tg_1375 tg_1377 tg_81 tg_158 (by decide +kernel)) <| tc0 (so_aload_n (k := 0) C rfl (by decide +kernel)) <| tcn) <|
  bc (tc0 (so_callV C K me_X11_next hmR hsR hd1 hd2 (by decide) hy_X11_next tg_1544 hc_X11 rfl rfl tg_1541 tg_1543 tg_83 tg_158 (by decide +kernel)) <| tc0 (so_aload_n (k := 0) C rfl (by decide +kernel)) <| tc0 (so_getf C hc_X11 hin_X11 (by decide) tg_1390 (by decide +kernel)) <| tc0 (so_if_eq (off := 39) C (by decide +kernel) (by decide)) <| tcn) <|
  bc ( tcn) <|
  bc (tc1 (by decide +kernel) <| tc0 (so_iconst C (by decide +kernel)) <| tc0 (so_istore_n (k := 1) C rfl (by decide) (by decide +kernel)) <| tcn) <|
  bc (tc0 (so_iload_n (k := 1) C rfl (by decide +kernel)) <| tc0 (so_sipush C (by decide +kernel) (by decide +kernel)) <| tc0 (so_icmp_ge (off := 31) C (by decide +kernel) (by decide)) <| tc0 (so_aload_n (k := 0) C rfl (by decide +kernel)) <| tc0 (so_getf C hc_X11 hin_X11 (by decide) tg_1385 (by decide +kernel)) <| tc0 (so_iload_n (k := 1) C rfl (by decide +kernel)) <| tc0 (so_iload_n (k := 1) C rfl (by decide +kernel)) <| tc0 (so_bipush C (by decide +kernel) (by decide +kernel)) <| tc0 (so_icmp_ge (off := 12) C (by decide +kernel) (by decide)) <| tcn) <|
  bc (tc0 (so_aload_n (k := 0) C rfl (by decide +kernel)) <| tc0 (so_getf C hc_X11 hin_X11 (by decide) tg_1386 (by decide +kernel)) <| tc0 (so_iload_n (k := 1) C rfl (by decide +kernel)) <| tc0 (so_iald C (by decide +kernel)) <| tc0 (so_goto (off := 4) C (by decide +kernel) (by decide)) <| tc0 (so_iconst C (by decide +kernel)) <| tc0 (so_iast C (by decide +kernel)) <| tc0 (so_iinc C (by decide) (by decide +kernel)) <| tcn) <|
  bc (tc0 (so_goto (off := (-32)) C (by decide +kernel) (by decide)) <| tc0 (so_iconst C (by decide +kernel)) <| tc0 (so_istore_n (k := 1) C rfl (by decide) (by decide +kernel)) <| tc0 (so_iload_n (k := 1) C rfl (by decide +kernel)) <| tc0 (so_bipush C (by decide +kernel) (by decide +kernel)) <| tc0 (so_icmp_ge (off := 24) C (by decide +kernel) (by decide)) <| tc0 (so_aload_n (k := 0) C rfl (by decide +kernel)) <| tc0 (so_getf C hc_X11 hin_X11 (by decide) tg_1388 (by decide +kernel)) <| tc0 (so_iload_n (k := 1) C rfl (by decide +kernel)) <| tcn) <|
  bc (tc0 (so_aload_n (k := 0) C rfl (by decide +kernel)) <| tc0 (so_getf C hc_X11 hin_X11 (by decide) tg_1388 (by decide +kernel)) <| tc0 (so_bipush C (by decide +kernel) (by decide +kernel)) <| tc0 (so_iload_n (k := 1) C rfl (by decide +kernel)) <| tc0 (so_iadd C (by decide +kernel)) <| tc0 (so_lald C (by decide +kernel)) <| tc0 (so_last C (by decide +kernel)) <| tc0 (so_iinc C (by decide) (by decide +kernel)) <| tc0 (so_goto (off := (-24)) C (by decide +kernel) (by decide)) <| tcn) <|
  bc (tc0 (so_iconst C (by decide +kernel)) <| tc0 (so_istore_n (k := 1) C rfl (by decide) (by decide +kernel)) <| tc0 (so_iload_n (k := 1) C rfl (by decide +kernel)) <| tc0 (so_aload_n (k := 0) C rfl (by decide +kernel)) <| tc0 (so_getf C hc_X11 hin_X11 (by decide) tg_1385 (by decide +kernel)) <| tc0 (so_iconst C (by decide +kernel)) <| tc0 (so_iald C (by decide +kernel)) <| tc0 (so_icmp_ge (off := 27) C (by decide +kernel) (by decide)) <| tcn) <|
  bc ( tcn) <|
  bc (tc0 (so_aload_n (k := 0) C rfl (by decide +kernel)) <| tc0 (so_iconst C (by decide +kernel)) <| tc0 (so_putf C hc_X11 hin_X11 (by decide) tyX11_ok nmX11 tg_1402 rfl (by decide +kernel)) <| tc0 (so_aload_n (k := 0) C rfl (by decide +kernel)) <| tc0 (so_getf C hc_X11 hin_X11 (by decide) tg_1398 (by decide +kernel)) <| tc1 (by decide +kernel) <| tcn) <|
  bn⟩
set_option maxRecDepth 100000 in
set_option maxHeartbeats 4000000 in
theorem sn_X11_taken {l : Launch} {X : ab_X} {D : va_G} : ab_snd l X D ab_MEL (yX11_taken, cX11_taken, 2, none, 0, 0, 0, [], tb_X11_taken) := fun d => ⟨by decide +kernel, fun cal K p e R s m args below meth c Q z0 C hmn hd1 hd2 hmR hsR =>
  bc (tc0 (so_aload_n (k := 0) C rfl (by decide +kernel)) <| tc0 (so_aload_n (k := 0) C rfl (by decide +kernel)) <| tc0 (so_getf C hc_X11 hin_X11 (by decide) tg_1381 (by decide +kernel)) <| tc0 (so_putf C hc_X11 hin_X11 (by decide) tyX11_ok nmX11 tg_1382 rfl (by decide +kernel)) <| tc0 (so_aload_n (k := 0) C rfl (by decide +kernel)) <| tc0 (so_iconst C (by decide +kernel)) <| tc0 (so_putf C hc_X11 hin_X11 (by decide) tyX11_ok nmX11 tg_1381 rfl (by decide +kernel)) <| tc0 (so_aload_n (k := 0) C rfl (by decide +kernel)) <| tc0 (so_iconst C (by decide +kernel)) <| tc0 (so_putf C hc_X11 hin_X11 (by decide) tyX11_ok nmX11 tg_1383 rfl (by decide +kernel)) <| tcn) <|
  bc (tc0 (so_aload_n (k := 0) C rfl (by decide +kernel)) <| tc0 (so_iload_n (k := 1) C rfl (by decide +kernel)) <| tc0 (so_putf C hc_X11 hin_X11 (by decide) tyX11_ok nmX11 tg_1384 rfl (by decide +kernel)) <| tc2 (by decide +kernel) <| tcn) <|
  bn⟩
set_option maxRecDepth 100000 in
set_option maxHeartbeats 4000000 in
theorem sn_X11_next {l : Launch} {X : ab_X} {D : va_G} : ab_snd l X D ab_MEL (yX11_next, cX11_next, 4, none, 0, 0, 0, [], tb_X11_next) := fun d => ⟨by decide +kernel, fun cal K p e R s m args below meth c Q z0 C hmn hd1 hd2 hmR hsR =>
  bc (tc0 (so_aload_n (k := 0) C rfl (by decide +kernel)) <| tc0 (so_callV C K me_X11_peek hmR hsR hd1 hd2 (by decide) hy_X11_peek tg_1548 hc_X11 rfl rfl tg_1545 tg_1547 tg_84 tg_158 (by decide +kernel)) <| tc0 (so_bipush C (by decide +kernel) (by decide +kernel)) <| tc0 (so_icmp_eq (off := 12) C (by decide +kernel) (by decide)) <| tc0 (so_aload_n (k := 0) C rfl (by decide +kernel)) <| tc0 (so_callV C K me_X11_peek hmR hsR hd1 hd2 (by decide) hy_X11_peek tg_1548 hc_X11 rfl rfl tg_1545 tg_1547 tg_84 tg_158 (by decide +kernel)) <| tc0 (so_bipush C (by decide +kernel) (by decide +kernel)) <| tc0 (so_icmp_ne (off := 16) C (by decide +kernel) (by decide)) <| tcn) <|
  bc (tc0 (so_aload_n (k := 0) C rfl (by decide +kernel)) <| tcn) <|
  bc (tc0 (so_aload_n (k := 0) C rfl (by decide +kernel)) <| tc0 (so_getf C hc_X11 hin_X11 (by decide) tg_1383 (by decide +kernel)) <| tc0 (so_putf C hc_X11 hin_X11 (by decide) tyX11_ok nmX11 tg_1391 rfl (by decide +kernel)) <| tc0 (so_aload_n (k := 0) C rfl (by decide +kernel)) <| tc0 (so_iconst C (by decide +kernel)) <| tc0 (so_putf C hc_X11 hin_X11 (by decide) tyX11_ok nmX11 tg_1392 rfl (by decide +kernel)) <| tc0 (so_aload_n (k := 0) C rfl (by decide +kernel)) <| tc0 (so_getf C hc_X11 hin_X11 (by decide) tg_1382 (by decide +kernel)) <| tcn) <|
  bc (tc0 (so_aload_n (k := 0) C rfl (by decide +kernel)) <| tc0 (so_getf C hc_X11 hin_X11 (by decide) tg_1384 (by decide +kernel)) <| tc0 (so_icmp_le (off := 28) C (by decide +kernel) (by decide)) <| tcn) <|
  bc (tc2 (by decide +kernel) <| tcn) <|
  bc (tc0 (so_aload_n (k := 0) C rfl (by decide +kernel)) <| tc0 (so_callV C K me_X11_peek hmR hsR hd1 hd2 (by decide) hy_X11_peek tg_1548 hc_X11 rfl rfl tg_1545 tg_1547 tg_84 tg_158 (by decide +kernel)) <| tc0 (so_istore_n (k := 1) C rfl (by decide) (by decide +kernel)) <| tc0 (so_iload_n (k := 1) C rfl (by decide +kernel)) <| tc0 (so_if_ge (off := 9) C (by decide +kernel) (by decide)) <| tc0 (so_aload_n (k := 0) C rfl (by decide +kernel)) <| tc0 (so_iconst C (by decide +kernel)) <| tc0 (so_putf C hc_X11 hin_X11 (by decide) tyX11_ok nmX11 tg_1390 rfl (by decide +kernel)) <| tc2 (by decide +kernel) <| tcn) <|
  bc ( tcn) <|
  bc ( tcn) <|
  bc ( tcn) <|
  bc ( tcn) <|
  bc (tc2 (by decide +kernel) <| tcn) <|
  bc ( tcn) <|
  bc ( tcn) <|
  bc ( tcn) <|
  bc ( tcn) <|
  bc ( tcn) <|
  bc ( tcn) <|
  bc ( tcn) <|
  bc ( tcn) <|
  bc ( tcn) <|
  bc ( tcn) <|
  bc (tc2 (by decide +kernel) <| tcn) <|
  bn⟩
set_option maxRecDepth 100000 in
set_option maxHeartbeats 4000000 in
theorem sn_X11_peek {l : Launch} {X : ab_X} {D : va_G} : ab_snd l X D ab_MEL (yX11_peek, cX11_peek, 1, some .int, 0, 0, 0, [], tb_X11_peek) := fun d => ⟨by decide +kernel, fun cal K p e R s m args below meth c Q z0 C hmn hd1 hd2 hmR hsR =>
  bc (tc0 (so_aload_n (k := 0) C rfl (by decide +kernel)) <| tc0 (so_getf C hc_X11 hin_X11 (by decide) tg_1383 (by decide +kernel)) <| tc0 (so_aload_n (k := 0) C rfl (by decide +kernel)) <| tc0 (so_getf C hc_X11 hin_X11 (by decide) tg_1382 (by decide +kernel)) <| tc0 (so_icmp_ge (off := 19) C (by decide +kernel) (by decide)) <| tcn) <|
  bc (tc0 (so_iconst C (by decide +kernel)) <| tc1 (by decide +kernel) <| tcn) <|
  bn⟩
set_option maxRecDepth 100000 in
set_option maxHeartbeats 4000000 in
theorem sn_X10_fault {l : Launch} {X : ab_X} {D : va_G} : ab_snd l X D ab_MEL (yX10_fault, cX10_fault, 1, some .int, 0, 0, 0, [], tb_X10_fault) := fun d => ⟨by decide +kernel, fun cal K p e R s m args below meth c Q z0 C hmn hd1 hd2 hmR hsR =>
  bc (tc0 (so_aload_n (k := 0) C rfl (by decide +kernel)) <| tc0 (so_getf C hc_X10 hin_X10 (by decide) tg_584 (by decide +kernel)) <| tc0 (so_getfN C hc_X4 hin_X4 (by decide) tn_255 (by decide +kernel)) <| tc1 (by decide +kernel) <| tcn) <|
  bn⟩
set_option maxRecDepth 100000 in
set_option maxHeartbeats 4000000 in
theorem sn_X11_fault {l : Launch} {X : ab_X} {D : va_G} : ab_snd l X D ab_MEL (yX11_fault, cX11_fault, 1, some .int, 0, 0, 0, [], tb_X11_fault) := fun d => ⟨by decide +kernel, fun cal K p e R s m args below meth c Q z0 C hmn hd1 hd2 hmR hsR =>
  bc (tc0 (so_aload_n (k := 0) C rfl (by decide +kernel)) <| tc0 (so_iconst C (by decide +kernel)) <| tc0 (so_putf C hc_X11 hin_X11 (by decide) tyX11_ok nmX11 tg_1379 rfl (by decide +kernel)) <| tc0 (so_aload_n (k := 0) C rfl (by decide +kernel)) <| tc0 (so_getf C hc_X11 hin_X11 (by decide) tg_1394 (by decide +kernel)) <| tc1 (by decide +kernel) <| tcn) <|
  bn⟩
set_option maxRecDepth 100000 in
set_option maxHeartbeats 4000000 in
theorem sn_L_town {l : Launch} {X : ab_X} {D : va_G} : ab_snd l X D ab_MEL (yL_town, cL_town, 5, some .int, 1, 6, 2, [(0, 10, 13, 13)], tb_L_town) := fun d => ⟨by decide +kernel, fun cal K p e R s m args below meth c Q z0 C htab hd1 hd2 hmR hsR =>
  bc (tc0 (so_aload_n (k := 3) C rfl (by decide +kernel)) <| tc0 (so_iconst C (by decide +kernel)) <| tc0 (so_aload_n (k := 0) C rfl (by decide +kernel)) <| tc0 (so_iload_n (k := 1) C rfl (by decide +kernel)) <| tc0 (so_iload_n (k := 2) C rfl (by decide +kernel)) <| tc0 (so_callx C K me_X10_town hmR hsR hd1 hd2 (by decide) hy_X10_town tg_1168 hc_X10 rfl rfl tg_1165 tg_1166 tg_1167 tg_143 (by decide +kernel) htab (by decide +kernel) (by decide) tg_1164 tn_1171 (by decide) (Or.inl ⟨(by decide +kernel), rfl⟩)) <| tc0 (so_iconst C (by decide +kernel)) <| tcn) <|
  bc (tc1 (by decide +kernel) <| tc1 (by decide +kernel) <| tcn) <|
  bn⟩
set_option maxRecDepth 100000 in
set_option maxHeartbeats 4000000 in
theorem sn_X10_town {l : Launch} {X : ab_X} {D : va_G} : ab_snd l X D ab_MEL (yX10_town, cX10_town, 3, some .int, 1, 6, 1, [], tb_X10_town) := fun d => ⟨by decide +kernel, ⟨rfl, fun cal K p e R s m args below meth c Q z0 C hmn hd1 hd2 hmR hsR =>
  bc (tc0 (so_aload_n (k := 0) C rfl (by decide +kernel)) <| tc0 (so_iload_n (k := 1) C rfl (by decide +kernel)) <| tc0 (so_callV C K me_X10_hasTown hmR hsR hd1 hd2 (by decide) hy_X10_hasTown tg_759 hc_X10 rfl rfl tg_756 tg_758 tg_23 tg_143 (by decide +kernel)) <| tc0 (so_if_ne (off := 13) C (by decide +kernel) (by decide)) <| tc3 (⟨131, 133, 1, _, rfl, tg_1169, (by decide +kernel), (by decide +kernel), Or.inl ⟨(by decide +kernel), (by decide +kernel), (by decide +kernel)⟩⟩) <| tcn) <|
  bc ( tcn) <|
  bc ( tcn) <|
  bc ( tcn) <|
  bc (tc1 (by decide +kernel) <| tcn) <|
  bc (tc1 (by decide +kernel) <| tcn) <|
  bc (tc1 (by decide +kernel) <| tcn) <|
  bc (tc1 (by decide +kernel) <| tcn) <|
  bc (tc1 (by decide +kernel) <| tcn) <|
  bc (tc1 (by decide +kernel) <| tc1 (by decide +kernel) <| tcn) <|
  bc (tc1 (by decide +kernel) <| tcn) <|
  bc (tc1 (by decide +kernel) <| tcn) <|
  bn⟩⟩
set_option maxRecDepth 100000 in
set_option maxHeartbeats 4000000 in
theorem sn_X10_hasTown {l : Launch} {X : ab_X} {D : va_G} : ab_snd l X D ab_MEL (yX10_hasTown, cX10_hasTown, 2, some .boolean, 0, 0, 0, [], tb_X10_hasTown) := fun d => ⟨by decide +kernel, fun cal K p e R s m args below meth c Q z0 C hmn hd1 hd2 hmR hsR =>
  bc (tc0 (so_iload_n (k := 1) C rfl (by decide +kernel)) <| tc0 (so_if_lt (off := 18) C (by decide +kernel) (by decide)) <| tc0 (so_iload_n (k := 1) C rfl (by decide +kernel)) <| tc0 (so_aload_n (k := 0) C rfl (by decide +kernel)) <| tc0 (so_getf C hc_X10 hin_X10 (by decide) tg_586 (by decide +kernel)) <| tc0 (so_getfN C hc_X8 hin_X8 (by decide) tn_315 (by decide +kernel)) <| tc0 (so_icmp_ge (off := 7) C (by decide +kernel) (by decide)) <| tcn) <|
  bc (tc0 (so_iconst C (by decide +kernel)) <| tc1 (by decide +kernel) <| tcn) <|
  bn⟩
set_option maxRecDepth 100000 in
set_option maxHeartbeats 4000000 in
theorem sn_X11_town {l : Launch} {X : ab_X} {D : va_G} : ab_snd l X D ab_MEL (yX11_town, cX11_town, 3, some .int, 0, 0, 0, [], tb_X11_town) := fun d => ⟨by decide +kernel, fun cal K p e R s m args below meth c Q z0 C hmn hd1 hd2 hmR hsR =>
  bc (tc0 (so_aload_n (k := 0) C rfl (by decide +kernel)) <| tc0 (so_aload_n (k := 0) C rfl (by decide +kernel)) <| tc0 (so_iload_n (k := 1) C rfl (by decide +kernel)) <| tc0 (so_callV C K me_X11_isTown hmR hsR hd1 hd2 (by decide) hy_X11_isTown tg_1640 hc_X11 rfl rfl tg_1637 tg_1639 tg_102 tg_158 (by decide +kernel)) <| tc0 (so_if_eq (off := 13) C (by decide +kernel) (by decide)) <| tcn) <|
  bc (tc0 (so_iconst C (by decide +kernel)) <| tc0 (so_goto (off := 4) C (by decide +kernel) (by decide)) <| tc0 (so_callV C K me_X11_throwsIf hmR hsR hd1 hd2 (by decide) hy_X11_throwsIf tg_1644 hc_X11 rfl rfl tg_1641 tg_1643 tg_103 tg_158 (by decide +kernel)) <| tc0 (so_if_eq (off := 5) C (by decide +kernel) (by decide)) <| tc0 (so_iconst C (by decide +kernel)) <| tc1 (by decide +kernel) <| tcn) <|
  bc ( tcn) <|
  bc ( tcn) <|
  bc ( tcn) <|
  bc (tc1 (by decide +kernel) <| tcn) <|
  bc (tc1 (by decide +kernel) <| tcn) <|
  bc (tc1 (by decide +kernel) <| tc1 (by decide +kernel) <| tcn) <|
  bc (tc1 (by decide +kernel) <| tcn) <|
  bc (tc1 (by decide +kernel) <| tc1 (by decide +kernel) <| tcn) <|
  bc (tc1 (by decide +kernel) <| tcn) <|
  bc (tc1 (by decide +kernel) <| tcn) <|
  bn⟩
