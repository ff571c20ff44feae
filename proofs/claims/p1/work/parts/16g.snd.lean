/-! Each table is sound. -/
set_option maxRecDepth 100000 in
set_option maxHeartbeats 4000000 in
theorem sn_L_nearerAt {l : Launch} {X : ab_X} {D : va_G} : ab_snd l X D ab_MEL (yL_nearerAt, cL_nearerAt, 4, some .int, 1, 6, 2, [(0, 9, 12, 13)], tb_L_nearerAt) := fun d => ⟨by decide +kernel, fun cal K p e R s m args below meth c Q z0 C htab hd1 hd2 hmR hsR =>
  bc (tc0 (so_aload_n (k := 2) C rfl (by decide +kernel)) <| tc0 (so_iconst C (by decide +kernel)) <| tc0 (so_aload_n (k := 0) C rfl (by decide +kernel)) <| tc0 (so_iload_n (k := 1) C rfl (by decide +kernel)) <| tc0 (so_callx C K me_X10_nearerAt hmR hsR hd1 hd2 (by decide) hy_X10_nearerAt tg_1329 hc_X10 rfl rfl tg_1326 tg_1327 tg_1328 tg_143 (by decide +kernel) htab (by decide +kernel) (by decide) tg_1164 tn_1171 (by decide) (Or.inr ⟨3, rfl, (by decide +kernel), rfl⟩)) <| tc0 (so_iconst C (by decide +kernel)) <| tc1 (by decide +kernel) <| tcn) <|
  bc (tc1 (by decide +kernel) <| tcn) <|
  bn⟩
set_option maxRecDepth 100000 in
set_option maxHeartbeats 4000000 in
theorem sn_X10_nearerAt {l : Launch} {X : ab_X} {D : va_G} : ab_snd l X D ab_MEL (yX10_nearerAt, cX10_nearerAt, 2, some .int, 1, 6, 1, [], tb_X10_nearerAt) := fun d => ⟨by decide +kernel, ⟨rfl, fun cal K p e R s m args below meth c Q z0 C hmn hd1 hd2 hmR hsR =>
  bc (tc0 (so_iload_n (k := 1) C rfl (by decide +kernel)) <| tc0 (so_if_lt (off := 11) C (by decide +kernel) (by decide)) <| tc0 (so_iload_n (k := 1) C rfl (by decide +kernel)) <| tc0 (so_aload_n (k := 0) C rfl (by decide +kernel)) <| tc0 (so_getf C hc_X10 hin_X10 (by decide) tg_600 (by decide +kernel)) <| tc0 (so_icmp_lt (off := 14) C (by decide +kernel) (by decide)) <| tc3 (⟨131, 313, 13, _, rfl, tg_1169, (by decide +kernel), (by decide +kernel), Or.inr ⟨(by decide +kernel), (by decide +kernel), (by decide +kernel)⟩⟩) <| tcn) <|
  bc (tc1 (by decide +kernel) <| tcn) <|
  bn⟩⟩
set_option maxRecDepth 100000 in
set_option maxHeartbeats 4000000 in
theorem sn_X11_nearerAt {l : Launch} {X : ab_X} {D : va_G} : ab_snd l X D ab_MEL (yX11_nearerAt, cX11_nearerAt, 2, some .int, 0, 0, 0, [], tb_X11_nearerAt) := fun d => ⟨by decide +kernel, fun cal K p e R s m args below meth c Q z0 C hmn hd1 hd2 hmR hsR =>
  bc (tc0 (so_aload_n (k := 0) C rfl (by decide +kernel)) <| tc0 (so_iload_n (k := 1) C rfl (by decide +kernel)) <| tc0 (so_iconst C (by decide +kernel)) <| tc0 (so_aload_n (k := 0) C rfl (by decide +kernel)) <| tc0 (so_getf C hc_X11 hin_X11 (by decide) tg_1407 (by decide +kernel)) <| tc0 (so_iconst C (by decide +kernel)) <| tc0 (so_isub C (by decide +kernel)) <| tc0 (so_callS C K me_X11_isIn hmR hsR hd1 hd2 (by decide) hy_X11_isIn tg_1593 rfl tg_1591 tg_1592 tg_158 (by decide +kernel)) <| tc0 (so_if_ne (off := 7) C (by decide +kernel) (by decide)) <| tc0 (so_iconst C (by decide +kernel)) <| tcn) <|
  bc (tc0 (so_goto (off := 4) C (by decide +kernel) (by decide)) <| tc0 (so_callV C K me_X11_throwsIf hmR hsR hd1 hd2 (by decide) hy_X11_throwsIf tg_1644 hc_X11 rfl rfl tg_1641 tg_1643 tg_103 tg_158 (by decide +kernel)) <| tc0 (so_if_eq (off := 7) C (by decide +kernel) (by decide)) <| tc0 (so_iconst C (by decide +kernel)) <| tc0 (so_goto (off := 9) C (by decide +kernel) (by decide)) <| tcn) <|
  bc (tc1 (by decide +kernel) <| tcn) <|
  bn⟩
set_option maxRecDepth 100000 in
set_option maxHeartbeats 4000000 in
theorem sn_X10_right {l : Launch} {X : ab_X} {D : va_G} : ab_snd l X D ab_MEL (yX10_right, cX10_right, 6, some .int, 0, 0, 0, [], tb_X10_right) := fun d => ⟨by decide +kernel, fun cal K p e R s m args below meth c Q z0 C hmn hd1 hd2 hmR hsR =>
  bc (tc0 (so_aload_n (k := 0) C rfl (by decide +kernel)) <| tc0 (so_iload_n (k := 1) C rfl (by decide +kernel)) <| tc0 (so_callV C K me_X10_hasTown hmR hsR hd1 hd2 (by decide) hy_X10_hasTown tg_759 hc_X10 rfl rfl tg_756 tg_758 tg_23 tg_143 (by decide +kernel)) <| tc0 (so_if_eq (off := 14) C (by decide +kernel) (by decide)) <| tcn) <|
  bc (tc0 (so_iconst C (by decide +kernel)) <| tc1 (by decide +kernel) <| tcn) <|
  bc ( tcn) <|
  bc ( tcn) <|
  bc (tc1 (by decide +kernel) <| tcn) <|
  bn⟩
set_option maxRecDepth 100000 in
set_option maxHeartbeats 4000000 in
theorem sn_X11_right {l : Launch} {X : ab_X} {D : va_G} : ab_snd l X D ab_MEL (yX11_right, cX11_right, 5, some .int, 0, 0, 0, [], tb_X11_right) := fun d => ⟨by decide +kernel, fun cal K p e R s m args below meth c Q z0 C hmn hd1 hd2 hmR hsR =>
  bc (tc0 (so_aload_n (k := 0) C rfl (by decide +kernel)) <| tc0 (so_iconst C (by decide +kernel)) <| tc0 (so_putf C hc_X11 hin_X11 (by decide) tyX11_ok nmX11 tg_1379 rfl (by decide +kernel)) <| tc0 (so_aload_n (k := 0) C rfl (by decide +kernel)) <| tc0 (so_iload_n (k := 1) C rfl (by decide +kernel)) <| tc0 (so_callV C K me_X11_isTown hmR hsR hd1 hd2 (by decide) hy_X11_isTown tg_1640 hc_X11 rfl rfl tg_1637 tg_1639 tg_102 tg_158 (by decide +kernel)) <| tc0 (so_if_eq (off := 13) C (by decide +kernel) (by decide)) <| tcn) <|
  bc (tc0 (so_iconst C (by decide +kernel)) <| tc1 (by decide +kernel) <| tcn) <|
  bc ( tcn) <|
  bc ( tcn) <|
  bc ( tcn) <|
  bc (tc1 (by decide +kernel) <| tcn) <|
  bn⟩
set_option maxRecDepth 100000 in
set_option maxHeartbeats 4000000 in
theorem sn_X10_turns {l : Launch} {X : ab_X} {D : va_G} : ab_snd l X D ab_MEL (yX10_turns, cX10_turns, 4, some .int, 0, 0, 0, [], tb_X10_turns) := fun d => ⟨by decide +kernel, fun cal K p e R s m args below meth c Q z0 C hmn hd1 hd2 hmR hsR =>
  bc (tc0 (so_aload_n (k := 0) C rfl (by decide +kernel)) <| tc0 (so_iload_n (k := 1) C rfl (by decide +kernel)) <| tc0 (so_callV C K me_X10_hasTown hmR hsR hd1 hd2 (by decide) hy_X10_hasTown tg_759 hc_X10 rfl rfl tg_756 tg_758 tg_23 tg_143 (by decide +kernel)) <| tc0 (so_if_ne (off := 5) C (by decide +kernel) (by decide)) <| tc0 (so_iconst C (by decide +kernel)) <| tc1 (by decide +kernel) <| tcn) <|
  bc ( tcn) <|
  bc ( tcn) <|
  bc (tc1 (by decide +kernel) <| tcn) <|
  bc (tc1 (by decide +kernel) <| tcn) <|
  bn⟩
set_option maxRecDepth 100000 in
set_option maxHeartbeats 4000000 in
theorem sn_X11_turns {l : Launch} {X : ab_X} {D : va_G} : ab_snd l X D ab_MEL (yX11_turns, cX11_turns, 3, some .int, 0, 0, 0, [], tb_X11_turns) := fun d => ⟨by decide +kernel, fun cal K p e R s m args below meth c Q z0 C hmn hd1 hd2 hmR hsR =>
  bc (tc0 (so_aload_n (k := 0) C rfl (by decide +kernel)) <| tc0 (so_iconst C (by decide +kernel)) <| tc0 (so_putf C hc_X11 hin_X11 (by decide) tyX11_ok nmX11 tg_1379 rfl (by decide +kernel)) <| tc0 (so_aload_n (k := 0) C rfl (by decide +kernel)) <| tc0 (so_iload_n (k := 1) C rfl (by decide +kernel)) <| tc0 (so_callV C K me_X11_isTown hmR hsR hd1 hd2 (by decide) hy_X11_isTown tg_1640 hc_X11 rfl rfl tg_1637 tg_1639 tg_102 tg_158 (by decide +kernel)) <| tc0 (so_if_ne (off := 5) C (by decide +kernel) (by decide)) <| tc0 (so_iconst C (by decide +kernel)) <| tc1 (by decide +kernel) <| tcn) <|
  bc ( tcn) <|
  bc ( tcn) <|
  bc (tc1 (by decide +kernel) <| tcn) <|
  bc (tc1 (by decide +kernel) <| tcn) <|
  bn⟩
set_option maxRecDepth 100000 in
set_option maxHeartbeats 4000000 in
theorem sn_X10_motto {l : Launch} {X : ab_X} {D : va_G} : ab_snd l X D ab_MEL (yX10_motto, cX10_motto, 2, some .int, 0, 0, 0, [], tb_X10_motto) := fun d => ⟨by decide +kernel, fun cal K p e R s m args below meth c Q z0 C hmn hd1 hd2 hmR hsR =>
  bc (tc0 (so_aload_n (k := 0) C rfl (by decide +kernel)) <| tc0 (so_iload_n (k := 1) C rfl (by decide +kernel)) <| tc0 (so_callV C K me_X10_hasTown hmR hsR hd1 hd2 (by decide) hy_X10_hasTown tg_759 hc_X10 rfl rfl tg_756 tg_758 tg_23 tg_143 (by decide +kernel)) <| tc0 (so_if_ne (off := 5) C (by decide +kernel) (by decide)) <| tc0 (so_iconst C (by decide +kernel)) <| tc1 (by decide +kernel) <| tcn) <|
  bc ( tcn) <|
  bc ( tcn) <|
  bc (tc1 (by decide +kernel) <| tcn) <|
  bn⟩
set_option maxRecDepth 100000 in
set_option maxHeartbeats 4000000 in
theorem sn_X11_motto {l : Launch} {X : ab_X} {D : va_G} : ab_snd l X D ab_MEL (yX11_motto, cX11_motto, 3, some .int, 0, 0, 0, [], tb_X11_motto) := fun d => ⟨by decide +kernel, fun cal K p e R s m args below meth c Q z0 C hmn hd1 hd2 hmR hsR =>
  bc (tc0 (so_aload_n (k := 0) C rfl (by decide +kernel)) <| tc0 (so_iconst C (by decide +kernel)) <| tc0 (so_putf C hc_X11 hin_X11 (by decide) tyX11_ok nmX11 tg_1379 rfl (by decide +kernel)) <| tc0 (so_aload_n (k := 0) C rfl (by decide +kernel)) <| tc0 (so_iload_n (k := 1) C rfl (by decide +kernel)) <| tc0 (so_callV C K me_X11_isTown hmR hsR hd1 hd2 (by decide) hy_X11_isTown tg_1640 hc_X11 rfl rfl tg_1637 tg_1639 tg_102 tg_158 (by decide +kernel)) <| tc0 (so_if_ne (off := 5) C (by decide +kernel) (by decide)) <| tc0 (so_iconst C (by decide +kernel)) <| tc1 (by decide +kernel) <| tcn) <|
  bc ( tcn) <|
  bc ( tcn) <|
  bc ( tcn) <|
  bc ( tcn) <|
  bc ( tcn) <|
  bc ( tcn) <|
  bc ( tcn) <|
  bc ( tcn) <|
  bc (tc1 (by decide +kernel) <| tcn) <|
  bn⟩
set_option maxRecDepth 100000 in
set_option maxHeartbeats 4000000 in
theorem sn_X10_byteAt {l : Launch} {X : ab_X} {D : va_G} : ab_snd l X D ab_MEL (yX10_byteAt, cX10_byteAt, 2, some .int, 0, 0, 0, [], tb_X10_byteAt) := fun d => ⟨by decide +kernel, fun cal K p e R s m args below meth c Q z0 C hmn hd1 hd2 hmR hsR =>
  bc (tc0 (so_iload_n (k := 1) C rfl (by decide +kernel)) <| tc0 (so_if_lt (off := 26) C (by decide +kernel) (by decide)) <| tc0 (so_iload_n (k := 1) C rfl (by decide +kernel)) <| tc0 (so_aload_n (k := 0) C rfl (by decide +kernel)) <| tc0 (so_getf C hc_X10 hin_X10 (by decide) tg_595 (by decide +kernel)) <| tc0 (so_getfN C hc_X3 hin_X3 (by decide) tn_548 (by decide +kernel)) <| tc0 (so_icmp_ge (off := 15) C (by decide +kernel) (by decide)) <| tcn) <|
  bc (tc0 (so_iconst C (by decide +kernel)) <| tc1 (by decide +kernel) <| tcn) <|
  bn⟩
set_option maxRecDepth 100000 in
set_option maxHeartbeats 4000000 in
theorem sn_X11_byteAt {l : Launch} {X : ab_X} {D : va_G} : ab_snd l X D ab_MEL (yX11_byteAt, cX11_byteAt, 2, some .int, 0, 0, 0, [], tb_X11_byteAt) := fun d => ⟨by decide +kernel, fun cal K p e R s m args below meth c Q z0 C hmn hd1 hd2 hmR hsR =>
  bc (tc0 (so_aload_n (k := 0) C rfl (by decide +kernel)) <| tc0 (so_iconst C (by decide +kernel)) <| tc0 (so_putf C hc_X11 hin_X11 (by decide) tyX11_ok nmX11 tg_1379 rfl (by decide +kernel)) <| tc0 (so_iload_n (k := 1) C rfl (by decide +kernel)) <| tc0 (so_iconst C (by decide +kernel)) <| tc0 (so_aload_n (k := 0) C rfl (by decide +kernel)) <| tc0 (so_getf C hc_X11 hin_X11 (by decide) tg_1415 (by decide +kernel)) <| tc0 (so_iconst C (by decide +kernel)) <| tc0 (so_isub C (by decide +kernel)) <| tc0 (so_callS C K me_X11_isIn hmR hsR hd1 hd2 (by decide) hy_X11_isIn tg_1593 rfl tg_1591 tg_1592 tg_158 (by decide +kernel)) <| tcn) <|
  bc (tc0 (so_if_eq (off := 12) C (by decide +kernel) (by decide)) <| tc0 (so_iconst C (by decide +kernel)) <| tc1 (by decide +kernel) <| tcn) <|
  bn⟩
set_option maxRecDepth 100000 in
set_option maxHeartbeats 4000000 in
theorem sn_X10_drawn {l : Launch} {X : ab_X} {D : va_G} : ab_snd l X D ab_MEL (yX10_drawn, cX10_drawn, 4, some .int, 0, 0, 0, [], tb_X10_drawn) := fun d => ⟨by decide +kernel, fun cal K p e R s m args below meth c Q z0 C hmn hd1 hd2 hmR hsR =>
  bc (tc0 (so_iload_n (k := 1) C rfl (by decide +kernel)) <| tc0 (so_iconst C (by decide +kernel)) <| tc0 (so_icmp_lt (off := 19) C (by decide +kernel) (by decide)) <| tc0 (so_iload_n (k := 1) C rfl (by decide +kernel)) <| tc0 (so_bipush C (by decide +kernel) (by decide +kernel)) <| tc0 (so_icmp_gt (off := 13) C (by decide +kernel) (by decide)) <| tc0 (so_aload_n (k := 0) C rfl (by decide +kernel)) <| tc0 (so_getf C hc_X10 hin_X10 (by decide) tg_586 (by decide +kernel)) <| tc0 (so_getfN C hc_X8 hin_X8 (by decide) tn_315 (by decide +kernel)) <| tcn) <|
  bc (tc0 (so_if_ne (off := 5) C (by decide +kernel) (by decide)) <| tc0 (so_iconst C (by decide +kernel)) <| tc1 (by decide +kernel) <| tcn) <|
  bc ( tcn) <|
  bc ( tcn) <|
  bc (tc1 (by decide +kernel) <| tcn) <|
  bn⟩
set_option maxRecDepth 100000 in
set_option maxHeartbeats 4000000 in
theorem sn_X11_drawn {l : Launch} {X : ab_X} {D : va_G} : ab_snd l X D ab_MEL (yX11_drawn, cX11_drawn, 3, some .int, 0, 0, 0, [], tb_X11_drawn) := fun d => ⟨by decide +kernel, fun cal K p e R s m args below meth c Q z0 C hmn hd1 hd2 hmR hsR =>
  bc (tc0 (so_aload_n (k := 0) C rfl (by decide +kernel)) <| tc0 (so_iconst C (by decide +kernel)) <| tc0 (so_putf C hc_X11 hin_X11 (by decide) tyX11_ok nmX11 tg_1379 rfl (by decide +kernel)) <| tc0 (so_iload_n (k := 1) C rfl (by decide +kernel)) <| tc0 (so_iconst C (by decide +kernel)) <| tc0 (so_bipush C (by decide +kernel) (by decide +kernel)) <| tc0 (so_callS C K me_X11_isIn hmR hsR hd1 hd2 (by decide) hy_X11_isIn tg_1593 rfl tg_1591 tg_1592 tg_158 (by decide +kernel)) <| tc0 (so_if_eq (off := 12) C (by decide +kernel) (by decide)) <| tc0 (so_aload_n (k := 0) C rfl (by decide +kernel)) <| tcn) <|
  bc (tc0 (so_getf C hc_X11 hin_X11 (by decide) tg_1385 (by decide +kernel)) <| tc0 (so_iconst C (by decide +kernel)) <| tc0 (so_iald C (by decide +kernel)) <| tc0 (so_if_ne (off := 5) C (by decide +kernel) (by decide)) <| tc0 (so_iconst C (by decide +kernel)) <| tc1 (by decide +kernel) <| tcn) <|
  bc ( tcn) <|
  bc (tc1 (by decide +kernel) <| tcn) <|
  bn⟩
set_option maxRecDepth 100000 in
set_option maxHeartbeats 4000000 in
theorem sn_X10_odds {l : Launch} {X : ab_X} {D : va_G} : ab_snd l X D ab_MEL (yX10_odds, cX10_odds, 6, some .int, 0, 0, 0, [], tb_X10_odds) := fun d => ⟨by decide +kernel, fun cal K p e R s m args below meth c Q z0 C hmn hd1 hd2 hmR hsR =>
  bc (tc0 (so_aload_n (k := 0) C rfl (by decide +kernel)) <| tc0 (so_iload_n (k := 1) C rfl (by decide +kernel)) <| tc0 (so_callV C K me_X10_hasTown hmR hsR hd1 hd2 (by decide) hy_X10_hasTown tg_759 hc_X10 rfl rfl tg_756 tg_758 tg_23 tg_143 (by decide +kernel)) <| tc0 (so_if_eq (off := 14) C (by decide +kernel) (by decide)) <| tcn) <|
  bc (tc0 (so_iconst C (by decide +kernel)) <| tc1 (by decide +kernel) <| tcn) <|
  bc ( tcn) <|
  bc ( tcn) <|
  bc ( tcn) <|
  bc (tc1 (by decide +kernel) <| tcn) <|
  bn⟩
set_option maxRecDepth 100000 in
set_option maxHeartbeats 4000000 in
theorem sn_X11_odds {l : Launch} {X : ab_X} {D : va_G} : ab_snd l X D ab_MEL (yX11_odds, cX11_odds, 6, some .int, 0, 0, 0, [], tb_X11_odds) := fun d => ⟨by decide +kernel, fun cal K p e R s m args below meth c Q z0 C hmn hd1 hd2 hmR hsR =>
  bc (tc0 (so_aload_n (k := 0) C rfl (by decide +kernel)) <| tc0 (so_iconst C (by decide +kernel)) <| tc0 (so_putf C hc_X11 hin_X11 (by decide) tyX11_ok nmX11 tg_1379 rfl (by decide +kernel)) <| tc0 (so_aload_n (k := 0) C rfl (by decide +kernel)) <| tc0 (so_iload_n (k := 1) C rfl (by decide +kernel)) <| tc0 (so_callV C K me_X11_isTown hmR hsR hd1 hd2 (by decide) hy_X11_isTown tg_1640 hc_X11 rfl rfl tg_1637 tg_1639 tg_102 tg_158 (by decide +kernel)) <| tc0 (so_if_eq (off := 13) C (by decide +kernel) (by decide)) <| tcn) <|
  bc (tc0 (so_iconst C (by decide +kernel)) <| tc1 (by decide +kernel) <| tcn) <|
  bc ( tcn) <|
  bc ( tcn) <|
  bc ( tcn) <|
  bc (tc1 (by decide +kernel) <| tcn) <|
  bn⟩
set_option maxRecDepth 100000 in
set_option maxHeartbeats 4000000 in
theorem sn_X10_book {l : Launch} {X : ab_X} {D : va_G} : ab_snd l X D ab_MEL (yX10_book, cX10_book, 3, some .int, 0, 0, 0, [], tb_X10_book) := fun d => ⟨by decide +kernel, fun cal K p e R s m args below meth c Q z0 C hmn hd1 hd2 hmR hsR =>
  bc (tc0 (so_iload_n (k := 1) C rfl (by decide +kernel)) <| tc0 (so_if_eq (off := 12) C (by decide +kernel) (by decide)) <| tc0 (so_iload_n (k := 1) C rfl (by decide +kernel)) <| tc0 (so_iconst C (by decide +kernel)) <| tc0 (so_icmp_eq (off := 7) C (by decide +kernel) (by decide)) <| tc0 (so_sipush C (by decide +kernel) (by decide +kernel)) <| tc1 (by decide +kernel) <| tc0 (so_aload_n (k := 0) C rfl (by decide +kernel)) <| tc0 (so_getf C hc_X10 hin_X10 (by decide) tg_593 (by decide +kernel)) <| tcn) <|
  bc (tc0 (so_aload_n (k := 0) C rfl (by decide +kernel)) <| tc0 (so_getf C hc_X10 hin_X10 (by decide) tg_586 (by decide +kernel)) <| tc0 (so_aload_n (k := 0) C rfl (by decide +kernel)) <| tc0 (so_getf C hc_X10 hin_X10 (by decide) tg_584 (by decide +kernel)) <| tc0 (so_callVN C K me_X0_read hmR hsR hd1 hd2 (by decide) hy_X0_read tg_1030 hc_X0 rfl tn_1027 tg_1029 tg_62 tg_154 (by decide +kernel)) <| tc0 (so_istore_n (k := 2) C rfl (by decide) (by decide +kernel)) <| tc0 (so_aload_n (k := 0) C rfl (by decide +kernel)) <| tc0 (so_getf C hc_X10 hin_X10 (by decide) tg_584 (by decide +kernel)) <| tcn) <|
  bc (tc0 (so_iconst C (by decide +kernel)) <| tc0 (so_putfN C hc_X4 hin_X4 (by decide) tyX4_ok nmX4 tn_232 rfl (by decide +kernel)) <| tc0 (so_iload_n (k := 2) C rfl (by decide +kernel)) <| tc0 (so_if_ne (off := 14) C (by decide +kernel) (by decide)) <| tcn) <|
  bc (tc1 (by decide +kernel) <| tc0 (so_aload_n (k := 0) C rfl (by decide +kernel)) <| tc0 (so_getf C hc_X10 hin_X10 (by decide) tg_589 (by decide +kernel)) <| tc0 (so_aload_n (k := 0) C rfl (by decide +kernel)) <| tc0 (so_getf C hc_X10 hin_X10 (by decide) tg_588 (by decide +kernel)) <| tc0 (so_callVN C K me_X7_copyFrom hmR hsR hd1 hd2 (by decide) hy_X7_copyFrom tg_782 hc_X7 rfl tn_878 tg_781 tg_28 tg_151 (by decide +kernel)) <| tc0 (so_aload_n (k := 0) C rfl (by decide +kernel)) <| tcn) <|
  bc (tc0 (so_getf C hc_X10 hin_X10 (by decide) tg_593 (by decide +kernel)) <| tc0 (so_aload_n (k := 0) C rfl (by decide +kernel)) <| tc0 (so_getf C hc_X10 hin_X10 (by decide) tg_586 (by decide +kernel)) <| tc0 (so_aload_n (k := 0) C rfl (by decide +kernel)) <| tc0 (so_getf C hc_X10 hin_X10 (by decide) tg_589 (by decide +kernel)) <| tc0 (so_callVN C K me_X0_judge hmR hsR hd1 hd2 (by decide) hy_X0_judge tg_1049 hc_X0 rfl tn_1046 tg_1048 tg_64 tg_154 (by decide +kernel)) <| tc0 (so_iload_n (k := 1) C rfl (by decide +kernel)) <| tc0 (so_iconst C (by decide +kernel)) <| tcn) <|
  bc (tc0 (so_icmp_ne (off := 25) C (by decide +kernel) (by decide)) <| tc0 (so_aload_n (k := 0) C rfl (by decide +kernel)) <| tc0 (so_getf C hc_X10 hin_X10 (by decide) tg_590 (by decide +kernel)) <| tc0 (so_aload_n (k := 0) C rfl (by decide +kernel)) <| tc0 (so_getf C hc_X10 hin_X10 (by decide) tg_588 (by decide +kernel)) <| tc0 (so_callVN C K me_X1_keep hmR hsR hd1 hd2 (by decide) hy_X1_keep tg_778 hc_X1 rfl tn_775 tg_777 tg_27 tg_152 (by decide +kernel)) <| tc0 (so_aload_n (k := 0) C rfl (by decide +kernel)) <| tc0 (so_getf C hc_X10 hin_X10 (by decide) tg_588 (by decide +kernel)) <| tcn) <|
  bc (tc0 (so_aload_n (k := 0) C rfl (by decide +kernel)) <| tc0 (so_getf C hc_X10 hin_X10 (by decide) tg_589 (by decide +kernel)) <| tc0 (so_callVN C K me_X7_copyFrom hmR hsR hd1 hd2 (by decide) hy_X7_copyFrom tg_782 hc_X7 rfl tn_878 tg_781 tg_28 tg_151 (by decide +kernel)) <| tc0 (so_aload_n (k := 0) C rfl (by decide +kernel)) <| tc0 (so_getf C hc_X10 hin_X10 (by decide) tg_593 (by decide +kernel)) <| tc0 (so_getfN C hc_X0 hin_X0 (by decide) tn_485 (by decide +kernel)) <| tcn) <|
  bc (tc1 (by decide +kernel) <| tcn) <|
  bn⟩
set_option maxRecDepth 100000 in
set_option maxHeartbeats 4000000 in
theorem sn_X0_read {l : Launch} {X : ab_X} {D : va_G} : ab_snd l X D ab_MEL (yX0_read, cX0_read, 3, some .boolean, 0, 0, 0, [], tb_X0_read) := fun d => ⟨by decide +kernel, fun cal K p e R s m args below meth c Q z0 C hmn hd1 hd2 hmR hsR =>
  bc (tc0 (so_aload_n (k := 0) C rfl (by decide +kernel)) <| tc0 (so_iconst C (by decide +kernel)) <| tc0 (so_putf C hc_X0 hin_X0 (by decide) tyX0_ok nmX0 tg_481 rfl (by decide +kernel)) <| tc0 (so_aload_n (k := 2) C rfl (by decide +kernel)) <| tc0 (so_sipush C (by decide +kernel) (by decide +kernel)) <| tc0 (so_callVN C K me_X4_begin hmR hsR hd1 hd2 (by decide) hy_X4_begin tg_663 hc_X4 rfl tn_1031 tg_662 tg_3 tg_144 (by decide +kernel)) <| tc0 (so_aload_n (k := 2) C rfl (by decide +kernel)) <| tc0 (so_callVN C K me_X4_atEnd hmR hsR hd1 hd2 (by decide) hy_X4_atEnd tg_682 hc_X4 rfl tn_1032 tg_681 tg_7 tg_144 (by decide +kernel)) <| tcn) <|
  bc (tc0 (so_if_ne (off := 76) C (by decide +kernel) (by decide)) <| tcn) <|
  bc (tc1 (by decide +kernel) <| tcn) <|
  bc (tc1 (by decide +kernel) <| tcn) <|
  bc (tc1 (by decide +kernel) <| tcn) <|
  bc (tc0 (so_iconst C (by decide +kernel)) <| tc1 (by decide +kernel) <| tcn) <|
  bn⟩
set_option maxRecDepth 100000 in
set_option maxHeartbeats 4000000 in
theorem sn_X0_judge {l : Launch} {X : ab_X} {D : va_G} : ab_snd l X D ab_MEL (yX0_judge, cX0_judge, 3, none, 0, 0, 0, [], tb_X0_judge) := fun d => ⟨by decide +kernel, fun cal K p e R s m args below meth c Q z0 C hmn hd1 hd2 hmR hsR =>
  bc (tc0 (so_aload_n (k := 0) C rfl (by decide +kernel)) <| tc0 (so_iconst C (by decide +kernel)) <| tc0 (so_putf C hc_X0 hin_X0 (by decide) tyX0_ok nmX0 tg_482 rfl (by decide +kernel)) <| tc0 (so_aload_n (k := 0) C rfl (by decide +kernel)) <| tc0 (so_iconst C (by decide +kernel)) <| tc0 (so_putf C hc_X0 hin_X0 (by decide) tyX0_ok nmX0 tg_484 rfl (by decide +kernel)) <| tc0 (so_aload_n (k := 0) C rfl (by decide +kernel)) <| tc0 (so_iconst C (by decide +kernel)) <| tc0 (so_putf C hc_X0 hin_X0 (by decide) tyX0_ok nmX0 tg_486 rfl (by decide +kernel)) <| tc0 (so_aload_n (k := 0) C rfl (by decide +kernel)) <| tcn) <|
  bc (tc0 (so_iconst C (by decide +kernel)) <| tc0 (so_putf C hc_X0 hin_X0 (by decide) tyX0_ok nmX0 tg_488 rfl (by decide +kernel)) <| tc0 (so_aload_n (k := 0) C rfl (by decide +kernel)) <| tc0 (so_getf C hc_X0 hin_X0 (by decide) tg_488 (by decide +kernel)) <| tc0 (so_aload_n (k := 0) C rfl (by decide +kernel)) <| tc0 (so_getf C hc_X0 hin_X0 (by decide) tg_481 (by decide +kernel)) <| tc0 (so_icmp_ge (off := 55) C (by decide +kernel) (by decide)) <| tcn) <|
  bc ( tcn) <|
  bc ( tcn) <|
  bc ( tcn) <|
  bc (tc0 (so_aload_n (k := 0) C rfl (by decide +kernel)) <| tc0 (so_aload_n (k := 2) C rfl (by decide +kernel)) <| tc0 (so_getfN C hc_X7 hin_X7 (by decide) tn_402 (by decide +kernel)) <| tc0 (so_putf C hc_X0 hin_X0 (by decide) tyX0_ok nmX0 tg_490 rfl (by decide +kernel)) <| tc0 (so_aload_n (k := 0) C rfl (by decide +kernel)) <| tc0 (so_aload_n (k := 2) C rfl (by decide +kernel)) <| tc0 (so_aload_n (k := 1) C rfl (by decide +kernel)) <| tc0 (so_callVN C K me_X7_breachBits hmR hsR hd1 hd2 (by decide) hy_X7_breachBits tg_888 hc_X7 rfl tn_1072 tg_887 tg_43 tg_151 (by decide +kernel)) <| tcn) <|
  bc (tc0 (so_putf C hc_X0 hin_X0 (by decide) tyX0_ok nmX0 tg_492 rfl (by decide +kernel)) <| tc2 (by decide +kernel) <| tcn) <|
  bn⟩
set_option maxRecDepth 100000 in
set_option maxHeartbeats 4000000 in
theorem sn_X11_book {l : Launch} {X : ab_X} {D : va_G} : ab_snd l X D ab_MEL (yX11_book, cX11_book, 4, some .int, 0, 0, 0, [], tb_X11_book) := fun d => ⟨by decide +kernel, fun cal K p e R s m args below meth c Q z0 C hmn hd1 hd2 hmR hsR =>
  bc (tc0 (so_aload_n (k := 0) C rfl (by decide +kernel)) <| tc0 (so_iconst C (by decide +kernel)) <| tc0 (so_putf C hc_X11 hin_X11 (by decide) tyX11_ok nmX11 tg_1379 rfl (by decide +kernel)) <| tc0 (so_iload_n (k := 1) C rfl (by decide +kernel)) <| tc0 (so_iconst C (by decide +kernel)) <| tc0 (so_iconst C (by decide +kernel)) <| tc0 (so_callS C K me_X11_isIn hmR hsR hd1 hd2 (by decide) hy_X11_isIn tg_1593 rfl tg_1591 tg_1592 tg_158 (by decide +kernel)) <| tc0 (so_if_ne (off := 7) C (by decide +kernel) (by decide)) <| tc0 (so_sipush C (by decide +kernel) (by decide +kernel)) <| tcn) <|
  bc (tc1 (by decide +kernel) <| tc0 (so_aload_n (k := 0) C rfl (by decide +kernel)) <| tc0 (so_sipush C (by decide +kernel) (by decide +kernel)) <| tc0 (so_callV C K me_X11_taken hmR hsR hd1 hd2 (by decide) hy_X11_taken tg_1540 hc_X11 rfl rfl tg_1537 tg_1539 tg_82 tg_158 (by decide +kernel)) <| tc0 (so_aload_n (k := 0) C rfl (by decide +kernel)) <| tc0 (so_iconst C (by decide +kernel)) <| tc0 (so_putf C hc_X11 hin_X11 (by decide) tyX11_ok nmX11 tg_1394 rfl (by decide +kernel)) <| tc0 (so_aload_n (k := 0) C rfl (by decide +kernel)) <| tc0 (so_iconst C (by decide +kernel)) <| tcn) <|
  bc (tc0 (so_putf C hc_X11 hin_X11 (by decide) tyX11_ok nmX11 tg_1417 rfl (by decide +kernel)) <| tc0 (so_aload_n (k := 0) C rfl (by decide +kernel)) <| tc0 (so_callV C K me_X11_next hmR hsR hd1 hd2 (by decide) hy_X11_next tg_1544 hc_X11 rfl rfl tg_1541 tg_1543 tg_83 tg_158 (by decide +kernel)) <| tc0 (so_aload_n (k := 0) C rfl (by decide +kernel)) <| tc0 (so_getf C hc_X11 hin_X11 (by decide) tg_1390 (by decide +kernel)) <| tc0 (so_if_eq (off := 40) C (by decide +kernel) (by decide)) <| tcn) <|
  bc ( tcn) <|
  bc (tc1 (by decide +kernel) <| tcn) <|
  bc (tc0 (so_aload_n (k := 0) C rfl (by decide +kernel)) <| tc0 (so_callV C K me_X11_tries hmR hsR hd1 hd2 (by decide) hy_X11_tries tg_1782 hc_X11 rfl rfl tg_1779 tg_1781 tg_121 tg_158 (by decide +kernel)) <| tc0 (so_iconst C (by decide +kernel)) <| tc0 (so_istore_n (k := 2) C rfl (by decide) (by decide +kernel)) <| tc0 (so_iload_n (k := 2) C rfl (by decide +kernel)) <| tc0 (so_iconst C (by decide +kernel)) <| tc0 (so_icmp_ge (off := 16) C (by decide +kernel) (by decide)) <| tc0 (so_aload_n (k := 0) C rfl (by decide +kernel)) <| tc0 (so_getf C hc_X11 hin_X11 (by decide) tg_1418 (by decide +kernel)) <| tcn) <|
  bc (tc0 (so_iload_n (k := 2) C rfl (by decide +kernel)) <| tc0 (so_iconst C (by decide +kernel)) <| tc0 (so_iast C (by decide +kernel)) <| tc0 (so_iinc C (by decide) (by decide +kernel)) <| tc0 (so_goto (off := (-15)) C (by decide +kernel) (by decide)) <| tc0 (so_iconst C (by decide +kernel)) <| tc0 (so_istore_n (k := 2) C rfl (by decide) (by decide +kernel)) <| tc0 (so_iconst C (by decide +kernel)) <| tc0 (so_istore_n (k := 3) C rfl (by decide) (by decide +kernel)) <| tc0 (so_iload_n (k := 3) C rfl (by decide +kernel)) <| tcn) <|
  bc (tc0 (so_aload_n (k := 0) C rfl (by decide +kernel)) <| tc0 (so_getf C hc_X11 hin_X11 (by decide) tg_1417 (by decide +kernel)) <| tc0 (so_icmp_ge (off := 75) C (by decide +kernel) (by decide)) <| tcn) <|
  bc ( tcn) <|
  bc ( tcn) <|
  bc ( tcn) <|
  bc (tc0 (so_aload_n (k := 0) C rfl (by decide +kernel)) <| tcn) <|
  bc (tc0 (so_getf C hc_X11 hin_X11 (by decide) tg_1418 (by decide +kernel)) <| tc0 (so_iconst C (by decide +kernel)) <| tc0 (so_aload_n (k := 0) C rfl (by decide +kernel)) <| tc0 (so_getf C hc_X11 hin_X11 (by decide) tg_1385 (by decide +kernel)) <| tc0 (so_bipush C (by decide +kernel) (by decide +kernel)) <| tc0 (so_iald C (by decide +kernel)) <| tc0 (so_iast C (by decide +kernel)) <| tc0 (so_aload_n (k := 0) C rfl (by decide +kernel)) <| tc0 (so_getf C hc_X11 hin_X11 (by decide) tg_1418 (by decide +kernel)) <| tcn) <|
  bc (tc0 (so_iconst C (by decide +kernel)) <| tc0 (so_aload_n (k := 0) C rfl (by decide +kernel)) <| tc0 (so_callV C K me_X11_breachSet hmR hsR hd1 hd2 (by decide) hy_X11_breachSet tg_1700 hc_X11 rfl rfl tg_1697 tg_1699 tg_113 tg_158 (by decide +kernel)) <| tc0 (so_iast C (by decide +kernel)) <| tc0 (so_aload_n (k := 0) C rfl (by decide +kernel)) <| tc0 (so_iconst C (by decide +kernel)) <| tc0 (so_putf C hc_X11 hin_X11 (by decide) tyX11_ok nmX11 tg_1419 rfl (by decide +kernel)) <| tc0 (so_iload_n (k := 1) C rfl (by decide +kernel)) <| tc0 (so_iconst C (by decide +kernel)) <| tc0 (so_icmp_ne (off := 52) C (by decide +kernel) (by decide)) <| tcn) <|
  bc (tc0 (so_aload_n (k := 0) C rfl (by decide +kernel)) <| tc0 (so_getf C hc_X11 hin_X11 (by decide) tg_1418 (by decide +kernel)) <| tc0 (so_iconst C (by decide +kernel)) <| tc0 (so_iald C (by decide +kernel)) <| tc0 (so_if_le (off := 43) C (by decide +kernel) (by decide)) <| tcn) <|
  bc ( tcn) <|
  bc ( tcn) <|
  bc (tc0 (so_iload_n (k := 1) C rfl (by decide +kernel)) <| tc0 (so_if_ne (off := 7) C (by decide +kernel) (by decide)) <| tc0 (so_aload_n (k := 0) C rfl (by decide +kernel)) <| tc0 (so_callV C K me_X11_back hmR hsR hd1 hd2 (by decide) hy_X11_back tg_1793 hc_X11 rfl rfl tg_1790 tg_1792 tg_123 tg_158 (by decide +kernel)) <| tc0 (so_iload_n (k := 2) C rfl (by decide +kernel)) <| tc1 (by decide +kernel) <| tcn) <|
  bn⟩
set_option maxRecDepth 100000 in
set_option maxHeartbeats 4000000 in
theorem sn_X10_told {l : Launch} {X : ab_X} {D : va_G} : ab_snd l X D ab_MEL (yX10_told, cX10_told, 2, some .int, 0, 0, 0, [], tb_X10_told) := fun d => ⟨by decide +kernel, fun cal K p e R s m args below meth c Q z0 C hmn hd1 hd2 hmR hsR =>
  bc (tc0 (so_aload_n (k := 0) C rfl (by decide +kernel)) <| tc0 (so_getf C hc_X10 hin_X10 (by decide) tg_593 (by decide +kernel)) <| tc0 (so_getfN C hc_X0 hin_X0 (by decide) tn_483 (by decide +kernel)) <| tc0 (so_if_ne (off := 5) C (by decide +kernel) (by decide)) <| tc0 (so_iconst C (by decide +kernel)) <| tc1 (by decide +kernel) <| tcn) <|
  bc ( tcn) <|
  bc ( tcn) <|
  bc (tc1 (by decide +kernel) <| tc1 (by decide +kernel) <| tcn) <|
  bc (tc1 (by decide +kernel) <| tc1 (by decide +kernel) <| tc1 (by decide +kernel) <| tcn) <|
  bn⟩
set_option maxRecDepth 100000 in
set_option maxHeartbeats 4000000 in
theorem sn_X11_told {l : Launch} {X : ab_X} {D : va_G} : ab_snd l X D ab_MEL (yX11_told, cX11_told, 2, some .int, 0, 0, 0, [], tb_X11_told) := fun d => ⟨by decide +kernel, fun cal K p e R s m args below meth c Q z0 C hmn hd1 hd2 hmR hsR =>
  bc (tc0 (so_aload_n (k := 0) C rfl (by decide +kernel)) <| tc0 (so_iconst C (by decide +kernel)) <| tc0 (so_putf C hc_X11 hin_X11 (by decide) tyX11_ok nmX11 tg_1379 rfl (by decide +kernel)) <| tc0 (so_aload_n (k := 0) C rfl (by decide +kernel)) <| tc0 (so_getf C hc_X11 hin_X11 (by decide) tg_1419 (by decide +kernel)) <| tc0 (so_if_eq (off := 21) C (by decide +kernel) (by decide)) <| tcn) <|
  bc (tc0 (so_iconst C (by decide +kernel)) <| tc1 (by decide +kernel) <| tcn) <|
  bn⟩
set_option maxRecDepth 100000 in
set_option maxHeartbeats 4000000 in
theorem sn_X10_sentence {l : Launch} {X : ab_X} {D : va_G} : ab_snd l X D ab_MEL (yX10_sentence, cX10_sentence, 3, some .int, 0, 0, 0, [], tb_X10_sentence) := fun d => ⟨by decide +kernel, fun cal K p e R s m args below meth c Q z0 C hmn hd1 hd2 hmR hsR =>
  bc (tc0 (so_aload_n (k := 0) C rfl (by decide +kernel)) <| tc0 (so_getf C hc_X10 hin_X10 (by decide) tg_592 (by decide +kernel)) <| tc0 (so_aload_n (k := 0) C rfl (by decide +kernel)) <| tc0 (so_getf C hc_X10 hin_X10 (by decide) tg_586 (by decide +kernel)) <| tc0 (so_aload_n (k := 0) C rfl (by decide +kernel)) <| tc0 (so_getf C hc_X10 hin_X10 (by decide) tg_584 (by decide +kernel)) <| tc0 (so_callVN C K me_X6_read hmR hsR hd1 hd2 (by decide) hy_X6_read tg_1084 hc_X6 rfl tn_1081 tg_1083 tg_66 tg_153 (by decide +kernel)) <| tc0 (so_istore_n (k := 1) C rfl (by decide) (by decide +kernel)) <| tcn) <|
  bc (tc0 (so_aload_n (k := 0) C rfl (by decide +kernel)) <| tc0 (so_getf C hc_X10 hin_X10 (by decide) tg_584 (by decide +kernel)) <| tc0 (so_iconst C (by decide +kernel)) <| tc0 (so_putfN C hc_X4 hin_X4 (by decide) tyX4_ok nmX4 tn_232 rfl (by decide +kernel)) <| tc0 (so_iload_n (k := 1) C rfl (by decide +kernel)) <| tc0 (so_if_ne (off := 13) C (by decide +kernel) (by decide)) <| tc0 (so_iconst C (by decide +kernel)) <| tc0 (so_aload_n (k := 0) C rfl (by decide +kernel)) <| tc0 (so_getf C hc_X10 hin_X10 (by decide) tg_584 (by decide +kernel)) <| tcn) <|
  bc (tc0 (so_getfN C hc_X4 hin_X4 (by decide) tn_257 (by decide +kernel)) <| tc0 (so_isub C (by decide +kernel)) <| tc1 (by decide +kernel) <| tcn) <|
  bc (tc1 (by decide +kernel) <| tcn) <|
  bn⟩
set_option maxRecDepth 100000 in
set_option maxHeartbeats 4000000 in
theorem sn_X6_read {l : Launch} {X : ab_X} {D : va_G} : ab_snd l X D ab_MEL (yX6_read, cX6_read, 3, some .boolean, 0, 0, 0, [], tb_X6_read) := fun d => ⟨by decide +kernel, fun cal K p e R s m args below meth c Q z0 C hmn hd1 hd2 hmR hsR =>
  bc (tc0 (so_aload_n (k := 0) C rfl (by decide +kernel)) <| tc0 (so_iconst C (by decide +kernel)) <| tc0 (so_putf C hc_X6 hin_X6 (by decide) tyX6_ok nmX6 tg_457 rfl (by decide +kernel)) <| tc0 (so_aload_n (k := 0) C rfl (by decide +kernel)) <| tc0 (so_iconst C (by decide +kernel)) <| tc0 (so_putf C hc_X6 hin_X6 (by decide) tyX6_ok nmX6 tg_459 rfl (by decide +kernel)) <| tc0 (so_aload_n (k := 2) C rfl (by decide +kernel)) <| tc0 (so_sipush C (by decide +kernel) (by decide +kernel)) <| tc0 (so_callVN C K me_X4_begin hmR hsR hd1 hd2 (by decide) hy_X4_begin tg_663 hc_X4 rfl tn_1085 tg_662 tg_3 tg_144 (by decide +kernel)) <| tcn) <|
  bc (tc0 (so_aload_n (k := 0) C rfl (by decide +kernel)) <| tc0 (so_aload_n (k := 1) C rfl (by decide +kernel)) <| tc0 (so_aload_n (k := 2) C rfl (by decide +kernel)) <| tc0 (so_iconst C (by decide +kernel)) <| tc0 (so_callV C K me_X6_readCond hmR hsR hd1 hd2 (by decide) hy_X6_readCond tg_1089 hc_X6 rfl rfl tg_1086 tg_1088 tg_67 tg_153 (by decide +kernel)) <| tc0 (so_if_eq (off := 22) C (by decide +kernel) (by decide)) <| tcn) <|
  bc (tc0 (so_iconst C (by decide +kernel)) <| tc1 (by decide +kernel) <| tcn) <|
  bn⟩
set_option maxRecDepth 100000 in
set_option maxHeartbeats 4000000 in
theorem sn_X6_readCond {l : Launch} {X : ab_X} {D : va_G} : ab_snd l X D ab_MEL (yX6_readCond, cX6_readCond, 5, some .boolean, 0, 0, 0, [], tb_X6_readCond) := fun d => ⟨by decide +kernel, fun cal K p e R s m args below meth c Q z0 C hmn hd1 hd2 hmR hsR =>
  bc (tc0 (so_aload_n (k := 0) C rfl (by decide +kernel)) <| tc0 (so_aload_n (k := 1) C rfl (by decide +kernel)) <| tc0 (so_aload_n (k := 2) C rfl (by decide +kernel)) <| tc0 (so_iload_n (k := 3) C rfl (by decide +kernel)) <| tc0 (so_callV C K me_X6_readAll hmR hsR hd1 hd2 (by decide) hy_X6_readAll tg_1093 hc_X6 rfl rfl tg_1090 tg_1092 tg_68 tg_153 (by decide +kernel)) <| tc0 (so_if_ne (off := 5) C (by decide +kernel) (by decide)) <| tc0 (so_iconst C (by decide +kernel)) <| tc1 (by decide +kernel) <| tcn) <|
  bc ( tcn) <|
  bc (tc1 (by decide +kernel) <| tcn) <|
  bc (tc1 (by decide +kernel) <| tcn) <|
  bn⟩
set_option maxRecDepth 100000 in
set_option maxHeartbeats 4000000 in
theorem sn_X6_readAll {l : Launch} {X : ab_X} {D : va_G} : ab_snd l X D ab_MEL (yX6_readAll, cX6_readAll, 5, some .boolean, 0, 0, 0, [], tb_X6_readAll) := fun d => ⟨by decide +kernel, fun cal K p e R s m args below meth c Q z0 C hmn hd1 hd2 hmR hsR =>
  bc (tc0 (so_aload_n (k := 0) C rfl (by decide +kernel)) <| tc0 (so_aload_n (k := 1) C rfl (by decide +kernel)) <| tc0 (so_aload_n (k := 2) C rfl (by decide +kernel)) <| tc0 (so_iload_n (k := 3) C rfl (by decide +kernel)) <| tc0 (so_callV C K me_X6_readOne hmR hsR hd1 hd2 (by decide) hy_X6_readOne tg_1097 hc_X6 rfl rfl tg_1094 tg_1096 tg_69 tg_153 (by decide +kernel)) <| tc0 (so_if_ne (off := 5) C (by decide +kernel) (by decide)) <| tc0 (so_iconst C (by decide +kernel)) <| tc1 (by decide +kernel) <| tcn) <|
  bc ( tcn) <|
  bc (tc1 (by decide +kernel) <| tcn) <|
  bc (tc1 (by decide +kernel) <| tcn) <|
  bn⟩
set_option maxRecDepth 100000 in
set_option maxHeartbeats 4000000 in
theorem sn_X6_readOne {l : Launch} {X : ab_X} {D : va_G} : ab_snd l X D ab_MEL (yX6_readOne, cX6_readOne, 6, some .boolean, 0, 0, 0, [], tb_X6_readOne) := fun d => ⟨by decide +kernel, fun cal K p e R s m args below meth c Q z0 C hmn hd1 hd2 hmR hsR =>
  bc (tc0 (so_aload_n (k := 2) C rfl (by decide +kernel)) <| tc0 (so_getfN C hc_X4 hin_X4 (by decide) tn_244 (by decide +kernel)) <| tc0 (so_istore C (by decide) (by decide +kernel)) <| tc0 (so_aload_n (k := 2) C rfl (by decide +kernel)) <| tc0 (so_getfN C hc_X4 hin_X4 (by decide) tn_238 (by decide +kernel)) <| tc0 (so_bipush C (by decide +kernel) (by decide +kernel)) <| tc0 (so_icmp_ne (off := 7) C (by decide +kernel) (by decide)) <| tcn) <|
  bc (tc0 (so_iconst C (by decide +kernel)) <| tc0 (so_istore C (by decide) (by decide +kernel)) <| tc0 (so_iload C (by decide +kernel)) <| tc0 (so_if_ne (off := 17) C (by decide +kernel) (by decide)) <| tc0 (so_iload C (by decide +kernel)) <| tc0 (so_callS C K me_X6_beginsOne hmR hsR hd1 hd2 (by decide) hy_X6_beginsOne tg_1100 rfl tg_1098 tg_1099 tg_153 (by decide +kernel)) <| tcn) <|
  bc (tc0 (so_if_ne (off := 9) C (by decide +kernel) (by decide)) <| tc0 (so_aload_n (k := 2) C rfl (by decide +kernel)) <| tc0 (so_iconst C (by decide +kernel)) <| tc0 (so_callVN C K me_X4_failAs hmR hsR hd1 hd2 (by decide) hy_X4_failAs tg_694 hc_X4 rfl tn_1101 tg_693 tg_10 tg_144 (by decide +kernel)) <| tc1 (by decide +kernel) <| tcn) <|
  bc (tc1 (by decide +kernel) <| tcn) <|
  bc ( tcn) <|
  bc ( tcn) <|
  bc (tc1 (by decide +kernel) <| tcn) <|
  bc ( tcn) <|
  bc (tc1 (by decide +kernel) <| tc1 (by decide +kernel) <| tcn) <|
  bc (tc1 (by decide +kernel) <| tcn) <|
  bn⟩
