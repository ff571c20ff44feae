/-! Each table is sound. -/
set_option maxRecDepth 100000 in
set_option maxHeartbeats 4000000 in
theorem sn_X10_restore {l : Launch} {X : ab_X} {D : va_G} : ab_snd l X D ab_MEL (yX10_restore, cX10_restore, 3, some .boolean, 0, 0, 0, [], tb_X10_restore) := fun d => ⟨by decide +kernel, fun cal K p e R s m args below meth c Q z0 C hmn hd1 hd2 hmR hsR =>
  bc (tc0 (so_iload_n (k := 1) C rfl (by decide +kernel)) <| tc0 (so_if_lt (off := 24) C (by decide +kernel) (by decide)) <| tc0 (so_iload_n (k := 1) C rfl (by decide +kernel)) <| tc0 (so_aload_n (k := 0) C rfl (by decide +kernel)) <| tc0 (so_getf C hc_X10 hin_X10 (by decide) tg_596 (by decide +kernel)) <| tc0 (so_len C (by decide +kernel)) <| tc0 (so_icmp_ge (off := 15) C (by decide +kernel) (by decide)) <| tc0 (so_aload_n (k := 0) C rfl (by decide +kernel)) <| tc0 (so_getf C hc_X10 hin_X10 (by decide) tg_596 (by decide +kernel)) <| tcn) <|
  bc (tc0 (so_iload_n (k := 1) C rfl (by decide +kernel)) <| tc0 (so_aald C hc_X2 (by decide +kernel)) <| tc0 (so_getfN C hc_X2 hin_X2 (by decide) tn_574 (by decide +kernel)) <| tc0 (so_if_ne (off := 5) C (by decide +kernel) (by decide)) <| tc0 (so_iconst C (by decide +kernel)) <| tc1 (by decide +kernel) <| tcn) <|
  bc ( tcn) <|
  bc ( tcn) <|
  bc (tc1 (by decide +kernel) <| tcn) <|
  bn⟩
set_option maxRecDepth 100000 in
set_option maxHeartbeats 4000000 in
theorem sn_X11_restore {l : Launch} {X : ab_X} {D : va_G} : ab_snd l X D ab_MEL (yX11_restore, cX11_restore, 3, some .boolean, 0, 0, 0, [], tb_X11_restore) := fun d => ⟨by decide +kernel, fun cal K p e R s m args below meth c Q z0 C hmn hd1 hd2 hmR hsR =>
  bc (tc0 (so_aload_n (k := 0) C rfl (by decide +kernel)) <| tc0 (so_iconst C (by decide +kernel)) <| tc0 (so_putf C hc_X11 hin_X11 (by decide) tyX11_ok nmX11 tg_1379 rfl (by decide +kernel)) <| tc0 (so_iload_n (k := 1) C rfl (by decide +kernel)) <| tc0 (so_iconst C (by decide +kernel)) <| tc0 (so_iconst C (by decide +kernel)) <| tc0 (so_callS C K me_X11_isIn hmR hsR hd1 hd2 (by decide) hy_X11_isIn tg_1593 rfl tg_1591 tg_1592 tg_158 (by decide +kernel)) <| tc0 (so_if_eq (off := 12) C (by decide +kernel) (by decide)) <| tc0 (so_aload_n (k := 0) C rfl (by decide +kernel)) <| tc0 (so_getf C hc_X11 hin_X11 (by decide) tg_1429 (by decide +kernel)) <| tcn) <|
  bc (tc0 (so_iload_n (k := 1) C rfl (by decide +kernel)) <| tc0 (so_zald C (by decide +kernel)) <| tc0 (so_if_ne (off := 5) C (by decide +kernel) (by decide)) <| tc0 (so_iconst C (by decide +kernel)) <| tc1 (by decide +kernel) <| tcn) <|
  bc ( tcn) <|
  bc ( tcn) <|
  bc ( tcn) <|
  bc (tc1 (by decide +kernel) <| tcn) <|
  bn⟩
set_option maxRecDepth 100000 in
set_option maxHeartbeats 4000000 in
theorem sn_X10_count {l : Launch} {X : ab_X} {D : va_G} : ab_snd l X D ab_MEL (yX10_count, cX10_count, 2, some .int, 0, 0, 0, [], tb_X10_count) := fun d => ⟨by decide +kernel, fun cal K p e R s m args below meth c Q z0 C hmn hd1 hd2 hmR hsR =>
  bc (tc0 (so_iload_n (k := 1) C rfl (by decide +kernel)) <| tc0 (so_tsw (df := 99) (offs := #[43, 51, 59, 67, 75, 83, 91]) (len := 43) C (by decide +kernel) (ab_tg (by decide +kernel)) (by decide +kernel) (by decide +kernel)) <| tcn) <|
  bc ( tcn) <|
  bc (tc0 (so_aload_n (k := 0) C rfl (by decide +kernel)) <| tc0 (so_getf C hc_X10 hin_X10 (by decide) tg_586 (by decide +kernel)) <| tcn) <|
  bc (tc0 (so_getfN C hc_X8 hin_X8 (by decide) tn_315 (by decide +kernel)) <| tc1 (by decide +kernel) <| tc0 (so_aload_n (k := 0) C rfl (by decide +kernel)) <| tc0 (so_getf C hc_X10 hin_X10 (by decide) tg_586 (by decide +kernel)) <| tc0 (so_getfN C hc_X8 hin_X8 (by decide) tn_328 (by decide +kernel)) <| tc1 (by decide +kernel) <| tc0 (so_aload_n (k := 0) C rfl (by decide +kernel)) <| tc0 (so_getf C hc_X10 hin_X10 (by decide) tg_586 (by decide +kernel)) <| tcn) <|
  bc (tc0 (so_getfN C hc_X8 hin_X8 (by decide) tn_340 (by decide +kernel)) <| tc1 (by decide +kernel) <| tc0 (so_aload_n (k := 0) C rfl (by decide +kernel)) <| tc0 (so_getf C hc_X10 hin_X10 (by decide) tg_586 (by decide +kernel)) <| tc0 (so_callVN C K me_X8_limit hmR hsR hd1 hd2 (by decide) hy_X8_limit tg_774 hc_X8 rfl tn_1158 tg_773 tg_26 tg_150 (by decide +kernel)) <| tc1 (by decide +kernel) <| tc0 (so_aload_n (k := 0) C rfl (by decide +kernel)) <| tc0 (so_getf C hc_X10 hin_X10 (by decide) tg_586 (by decide +kernel)) <| tcn) <|
  bc (tc0 (so_callVN C K me_X8_change hmR hsR hd1 hd2 (by decide) hy_X8_change tg_926 hc_X8 rfl tn_1159 tg_925 tg_50 tg_150 (by decide +kernel)) <| tc1 (by decide +kernel) <| tc0 (so_aload_n (k := 0) C rfl (by decide +kernel)) <| tc0 (so_getf C hc_X10 hin_X10 (by decide) tg_586 (by decide +kernel)) <| tc0 (so_callVN C K me_X8_frost hmR hsR hd1 hd2 (by decide) hy_X8_frost tg_1010 hc_X8 rfl tn_1160 tg_1009 tg_60 tg_150 (by decide +kernel)) <| tc1 (by decide +kernel) <| tc0 (so_aload_n (k := 0) C rfl (by decide +kernel)) <| tc0 (so_getf C hc_X10 hin_X10 (by decide) tg_584 (by decide +kernel)) <| tcn) <|
  bc (tc0 (so_getfN C hc_X4 hin_X4 (by decide) tn_232 (by decide +kernel)) <| tc1 (by decide +kernel) <| tc0 (so_iconst C (by decide +kernel)) <| tc1 (by decide +kernel) <| tcn) <|
  bn⟩
set_option maxRecDepth 100000 in
set_option maxHeartbeats 4000000 in
theorem sn_X8_limit {l : Launch} {X : ab_X} {D : va_G} : ab_snd l X D ab_MEL (yX8_limit, cX8_limit, 1, some .int, 0, 0, 0, [], tb_X8_limit) := fun d => ⟨by decide +kernel, fun cal K p e R s m args below meth c Q z0 C hmn hd1 hd2 hmR hsR =>
  bc (tc0 (so_aload_n (k := 0) C rfl (by decide +kernel)) <| tc0 (so_getf C hc_X8 hin_X8 (by decide) tg_360 (by decide +kernel)) <| tc0 (so_iconst C (by decide +kernel)) <| tc0 (so_iald C (by decide +kernel)) <| tc1 (by decide +kernel) <| tcn) <|
  bn⟩
set_option maxRecDepth 100000 in
set_option maxHeartbeats 4000000 in
theorem sn_X8_change {l : Launch} {X : ab_X} {D : va_G} : ab_snd l X D ab_MEL (yX8_change, cX8_change, 1, some .int, 0, 0, 0, [], tb_X8_change) := fun d => ⟨by decide +kernel, fun cal K p e R s m args below meth c Q z0 C hmn hd1 hd2 hmR hsR =>
  bc (tc0 (so_aload_n (k := 0) C rfl (by decide +kernel)) <| tc0 (so_getf C hc_X8 hin_X8 (by decide) tg_360 (by decide +kernel)) <| tc0 (so_iconst C (by decide +kernel)) <| tc0 (so_iald C (by decide +kernel)) <| tc1 (by decide +kernel) <| tcn) <|
  bn⟩
set_option maxRecDepth 100000 in
set_option maxHeartbeats 4000000 in
theorem sn_X8_frost {l : Launch} {X : ab_X} {D : va_G} : ab_snd l X D ab_MEL (yX8_frost, cX8_frost, 1, some .int, 0, 0, 0, [], tb_X8_frost) := fun d => ⟨by decide +kernel, fun cal K p e R s m args below meth c Q z0 C hmn hd1 hd2 hmR hsR =>
  bc (tc0 (so_aload_n (k := 0) C rfl (by decide +kernel)) <| tc0 (so_getf C hc_X8 hin_X8 (by decide) tg_360 (by decide +kernel)) <| tc0 (so_iconst C (by decide +kernel)) <| tc0 (so_iald C (by decide +kernel)) <| tc1 (by decide +kernel) <| tcn) <|
  bn⟩
set_option maxRecDepth 100000 in
set_option maxHeartbeats 4000000 in
theorem sn_X11_count {l : Launch} {X : ab_X} {D : va_G} : ab_snd l X D ab_MEL (yX11_count, cX11_count, 2, some .int, 0, 0, 0, [], tb_X11_count) := fun d => ⟨by decide +kernel, fun cal K p e R s m args below meth c Q z0 C hmn hd1 hd2 hmR hsR =>
  bc (tc0 (so_aload_n (k := 0) C rfl (by decide +kernel)) <| tc0 (so_iconst C (by decide +kernel)) <| tc0 (so_putf C hc_X11 hin_X11 (by decide) tyX11_ok nmX11 tg_1379 rfl (by decide +kernel)) <| tc0 (so_iload_n (k := 1) C rfl (by decide +kernel)) <| tc0 (so_bipush C (by decide +kernel) (by decide +kernel)) <| tc0 (so_icmp_ne (off := 10) C (by decide +kernel) (by decide)) <| tc0 (so_aload_n (k := 0) C rfl (by decide +kernel)) <| tc0 (so_getf C hc_X11 hin_X11 (by decide) tg_1381 (by decide +kernel)) <| tc0 (so_goto (off := 22) C (by decide +kernel) (by decide)) <| tcn) <|
  bc (tc0 (so_iload_n (k := 1) C rfl (by decide +kernel)) <| tc0 (so_iconst C (by decide +kernel)) <| tc0 (so_iconst C (by decide +kernel)) <| tc0 (so_callS C K me_X11_isIn hmR hsR hd1 hd2 (by decide) hy_X11_isIn tg_1593 rfl tg_1591 tg_1592 tg_158 (by decide +kernel)) <| tc0 (so_if_eq (off := 12) C (by decide +kernel) (by decide)) <| tc0 (so_aload_n (k := 0) C rfl (by decide +kernel)) <| tc0 (so_getf C hc_X11 hin_X11 (by decide) tg_1385 (by decide +kernel)) <| tc0 (so_iload_n (k := 1) C rfl (by decide +kernel)) <| tcn) <|
  bc (tc0 (so_iald C (by decide +kernel)) <| tc0 (so_goto (off := 4) C (by decide +kernel) (by decide)) <| tc0 (so_iconst C (by decide +kernel)) <| tc1 (by decide +kernel) <| tcn) <|
  bn⟩
