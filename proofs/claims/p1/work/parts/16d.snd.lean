/-! Each table is sound. -/
set_option maxRecDepth 100000 in
set_option maxHeartbeats 4000000 in
theorem sn_X11_isTown {l : Launch} {X : ab_X} {D : va_G} : ab_snd l X D ab_MEL (yX11_isTown, cX11_isTown, 2, some .boolean, 0, 0, 0, [], tb_X11_isTown) := fun d => ⟨by decide +kernel, fun cal K p e R s m args below meth c Q z0 C hmn hd1 hd2 hmR hsR =>
  bc (tc0 (so_iload_n (k := 1) C rfl (by decide +kernel)) <| tc0 (so_iconst C (by decide +kernel)) <| tc0 (so_aload_n (k := 0) C rfl (by decide +kernel)) <| tc0 (so_getf C hc_X11 hin_X11 (by decide) tg_1385 (by decide +kernel)) <| tc0 (so_iconst C (by decide +kernel)) <| tc0 (so_iald C (by decide +kernel)) <| tc0 (so_iconst C (by decide +kernel)) <| tc0 (so_isub C (by decide +kernel)) <| tc0 (so_callS C K me_X11_isIn hmR hsR hd1 hd2 (by decide) hy_X11_isIn tg_1593 rfl tg_1591 tg_1592 tg_158 (by decide +kernel)) <| tc1 (by decide +kernel) <| tcn) <|
  bn⟩
set_option maxRecDepth 100000 in
set_option maxHeartbeats 4000000 in
theorem sn_X11_isIn {l : Launch} {X : ab_X} {D : va_G} : ab_snd l X D ab_MEL (yX11_isIn, cX11_isIn, 3, some .boolean, 0, 0, 0, [], tb_X11_isIn) := fun d => ⟨by decide +kernel, fun cal K p e R s m args below meth c Q z0 C hmn hd1 hd2 hmR hsR =>
  bc (tc0 (so_iload_n (k := 0) C rfl (by decide +kernel)) <| tc0 (so_iload_n (k := 1) C rfl (by decide +kernel)) <| tc0 (so_icmp_lt (off := 12) C (by decide +kernel) (by decide)) <| tc0 (so_iload_n (k := 0) C rfl (by decide +kernel)) <| tc0 (so_iload_n (k := 2) C rfl (by decide +kernel)) <| tc0 (so_icmp_gt (off := 7) C (by decide +kernel) (by decide)) <| tc0 (so_iconst C (by decide +kernel)) <| tc0 (so_goto (off := 4) C (by decide +kernel) (by decide)) <| tc0 (so_iconst C (by decide +kernel)) <| tc1 (by decide +kernel) <| tcn) <|
  bn⟩
set_option maxRecDepth 100000 in
set_option maxHeartbeats 4000000 in
theorem sn_X11_throwsIf {l : Launch} {X : ab_X} {D : va_G} : ab_snd l X D ab_MEL (yX11_throwsIf, cX11_throwsIf, 2, some .boolean, 0, 0, 0, [], tb_X11_throwsIf) := fun d => ⟨by decide +kernel, fun cal K p e R s m args below meth c Q z0 C hmn hd1 hd2 hmR hsR =>
  bc (tc0 (so_aload_n (k := 0) C rfl (by decide +kernel)) <| tc0 (so_iload_n (k := 1) C rfl (by decide +kernel)) <| tc0 (so_if_eq (off := 7) C (by decide +kernel) (by decide)) <| tc0 (so_iconst C (by decide +kernel)) <| tc0 (so_goto (off := 4) C (by decide +kernel) (by decide)) <| tc0 (so_iconst C (by decide +kernel)) <| tc0 (so_putf C hc_X11 hin_X11 (by decide) tyX11_ok nmX11 tg_1379 rfl (by decide +kernel)) <| tc0 (so_iload_n (k := 1) C rfl (by decide +kernel)) <| tc1 (by decide +kernel) <| tcn) <|
  bn⟩
set_option maxRecDepth 100000 in
set_option maxHeartbeats 4000000 in
theorem sn_X11_thrown {l : Launch} {X : ab_X} {D : va_G} : ab_snd l X D ab_MEL (yX11_thrown, cX11_thrown, 1, some .int, 0, 0, 0, [], tb_X11_thrown) := fun d => ⟨by decide +kernel, fun cal K p e R s m args below meth c Q z0 C hmn hd1 hd2 hmR hsR =>
  bc (tc0 (so_aload_n (k := 0) C rfl (by decide +kernel)) <| tc0 (so_getf C hc_X11 hin_X11 (by decide) tg_1379 (by decide +kernel)) <| tc1 (by decide +kernel) <| tcn) <|
  bn⟩
set_option maxRecDepth 100000 in
set_option maxHeartbeats 4000000 in
theorem sn_L_due {l : Launch} {X : ab_X} {D : va_G} : ab_snd l X D ab_MEL (yL_due, cL_due, 5, some .int, 1, 6, 2, [(0, 10, 13, 13)], tb_L_due) := fun d => ⟨by decide +kernel, fun cal K p e R s m args below meth c Q z0 C htab hd1 hd2 hmR hsR =>
  bc (tc0 (so_aload_n (k := 3) C rfl (by decide +kernel)) <| tc0 (so_iconst C (by decide +kernel)) <| tc0 (so_aload_n (k := 0) C rfl (by decide +kernel)) <| tc0 (so_iload_n (k := 1) C rfl (by decide +kernel)) <| tc0 (so_iload_n (k := 2) C rfl (by decide +kernel)) <| tc0 (so_callx C K me_X10_due hmR hsR hd1 hd2 (by decide) hy_X10_due tg_1244 hc_X10 rfl rfl tg_1241 tg_1242 tg_1243 tg_143 (by decide +kernel) htab (by decide +kernel) (by decide) tg_1164 tn_1171 (by decide) (Or.inl ⟨(by decide +kernel), rfl⟩)) <| tc0 (so_iconst C (by decide +kernel)) <| tcn) <|
  bc (tc1 (by decide +kernel) <| tc1 (by decide +kernel) <| tcn) <|
  bn⟩
set_option maxRecDepth 100000 in
set_option maxHeartbeats 4000000 in
theorem sn_X10_due {l : Launch} {X : ab_X} {D : va_G} : ab_snd l X D ab_MEL (yX10_due, cX10_due, 4, some .int, 1, 6, 1, [], tb_X10_due) := fun d => ⟨by decide +kernel, ⟨rfl, fun cal K p e R s m args below meth c Q z0 C hmn hd1 hd2 hmR hsR =>
  bc (tc0 (so_aload_n (k := 0) C rfl (by decide +kernel)) <| tc0 (so_iload_n (k := 1) C rfl (by decide +kernel)) <| tc0 (so_callV C K me_X10_hasTown hmR hsR hd1 hd2 (by decide) hy_X10_hasTown tg_759 hc_X10 rfl rfl tg_756 tg_758 tg_23 tg_143 (by decide +kernel)) <| tc0 (so_if_eq (off := 14) C (by decide +kernel) (by decide)) <| tcn) <|
  bc (tc3 (⟨131, 169, 3, _, rfl, tg_1169, (by decide +kernel), (by decide +kernel), Or.inl ⟨(by decide +kernel), (by decide +kernel), (by decide +kernel)⟩⟩) <| tcn) <|
  bc ( tcn) <|
  bc (tc1 (by decide +kernel) <| tcn) <|
  bn⟩⟩
set_option maxRecDepth 100000 in
set_option maxHeartbeats 4000000 in
theorem sn_X11_due {l : Launch} {X : ab_X} {D : va_G} : ab_snd l X D ab_MEL (yX11_due, cX11_due, 3, some .int, 0, 0, 0, [], tb_X11_due) := fun d => ⟨by decide +kernel, fun cal K p e R s m args below meth c Q z0 C hmn hd1 hd2 hmR hsR =>
  bc (tc0 (so_aload_n (k := 0) C rfl (by decide +kernel)) <| tc0 (so_aload_n (k := 0) C rfl (by decide +kernel)) <| tc0 (so_iload_n (k := 1) C rfl (by decide +kernel)) <| tc0 (so_callV C K me_X11_isTown hmR hsR hd1 hd2 (by decide) hy_X11_isTown tg_1640 hc_X11 rfl rfl tg_1637 tg_1639 tg_102 tg_158 (by decide +kernel)) <| tc0 (so_if_eq (off := 25) C (by decide +kernel) (by decide)) <| tcn) <|
  bc (tc0 (so_iconst C (by decide +kernel)) <| tcn) <|
  bc (tc0 (so_goto (off := 4) C (by decide +kernel) (by decide)) <| tc0 (so_callV C K me_X11_throwsIf hmR hsR hd1 hd2 (by decide) hy_X11_throwsIf tg_1644 hc_X11 rfl rfl tg_1641 tg_1643 tg_103 tg_158 (by decide +kernel)) <| tc0 (so_if_eq (off := 5) C (by decide +kernel) (by decide)) <| tc0 (so_iconst C (by decide +kernel)) <| tc1 (by decide +kernel) <| tcn) <|
  bc (tc1 (by decide +kernel) <| tcn) <|
  bn⟩
set_option maxRecDepth 100000 in
set_option maxHeartbeats 4000000 in
theorem sn_L_train {l : Launch} {X : ab_X} {D : va_G} : ab_snd l X D ab_MEL (yL_train, cL_train, 5, some .int, 1, 6, 2, [(0, 10, 13, 13)], tb_L_train) := fun d => ⟨by decide +kernel, fun cal K p e R s m args below meth c Q z0 C htab hd1 hd2 hmR hsR =>
  bc (tc0 (so_aload_n (k := 3) C rfl (by decide +kernel)) <| tc0 (so_iconst C (by decide +kernel)) <| tc0 (so_aload_n (k := 0) C rfl (by decide +kernel)) <| tc0 (so_iload_n (k := 1) C rfl (by decide +kernel)) <| tc0 (so_iload_n (k := 2) C rfl (by decide +kernel)) <| tc0 (so_callx C K me_X10_train hmR hsR hd1 hd2 (by decide) hy_X10_train tg_1253 hc_X10 rfl rfl tg_1250 tg_1251 tg_1252 tg_143 (by decide +kernel) htab (by decide +kernel) (by decide) tg_1164 tn_1171 (by decide) (Or.inl ⟨(by decide +kernel), rfl⟩)) <| tc0 (so_iconst C (by decide +kernel)) <| tcn) <|
  bc (tc1 (by decide +kernel) <| tc1 (by decide +kernel) <| tcn) <|
  bn⟩
set_option maxRecDepth 100000 in
set_option maxHeartbeats 4000000 in
theorem sn_X10_train {l : Launch} {X : ab_X} {D : va_G} : ab_snd l X D ab_MEL (yX10_train, cX10_train, 3, some .int, 1, 6, 1, [], tb_X10_train) := fun d => ⟨by decide +kernel, ⟨rfl, fun cal K p e R s m args below meth c Q z0 C hmn hd1 hd2 hmR hsR =>
  bc (tc0 (so_aload_n (k := 0) C rfl (by decide +kernel)) <| tc0 (so_iload_n (k := 1) C rfl (by decide +kernel)) <| tc0 (so_callV C K me_X10_hasTrain hmR hsR hd1 hd2 (by decide) hy_X10_hasTrain tg_1257 hc_X10 rfl rfl tg_1254 tg_1256 tg_78 tg_143 (by decide +kernel)) <| tc0 (so_if_ne (off := 13) C (by decide +kernel) (by decide)) <| tc3 (⟨131, 180, 5, _, rfl, tg_1169, (by decide +kernel), (by decide +kernel), Or.inl ⟨(by decide +kernel), (by decide +kernel), (by decide +kernel)⟩⟩) <| tcn) <|
  bc ( tcn) <|
  bc ( tcn) <|
  bc ( tcn) <|
  bc (tc1 (by decide +kernel) <| tc1 (by decide +kernel) <| tcn) <|
  bc (tc1 (by decide +kernel) <| tcn) <|
  bc (tc1 (by decide +kernel) <| tcn) <|
  bc (tc1 (by decide +kernel) <| tc1 (by decide +kernel) <| tcn) <|
  bc ( tcn) <|
  bc (tc1 (by decide +kernel) <| tcn) <|
  bn⟩⟩
set_option maxRecDepth 100000 in
set_option maxHeartbeats 4000000 in
theorem sn_X10_hasTrain {l : Launch} {X : ab_X} {D : va_G} : ab_snd l X D ab_MEL (yX10_hasTrain, cX10_hasTrain, 2, some .boolean, 0, 0, 0, [], tb_X10_hasTrain) := fun d => ⟨by decide +kernel, fun cal K p e R s m args below meth c Q z0 C hmn hd1 hd2 hmR hsR =>
  bc (tc0 (so_iload_n (k := 1) C rfl (by decide +kernel)) <| tc0 (so_if_lt (off := 18) C (by decide +kernel) (by decide)) <| tc0 (so_iload_n (k := 1) C rfl (by decide +kernel)) <| tc0 (so_aload_n (k := 0) C rfl (by decide +kernel)) <| tc0 (so_getf C hc_X10 hin_X10 (by decide) tg_586 (by decide +kernel)) <| tc0 (so_getfN C hc_X8 hin_X8 (by decide) tn_340 (by decide +kernel)) <| tc0 (so_icmp_ge (off := 7) C (by decide +kernel) (by decide)) <| tcn) <|
  bc (tc0 (so_iconst C (by decide +kernel)) <| tc1 (by decide +kernel) <| tcn) <|
  bn⟩
set_option maxRecDepth 100000 in
set_option maxHeartbeats 4000000 in
theorem sn_X11_train {l : Launch} {X : ab_X} {D : va_G} : ab_snd l X D ab_MEL (yX11_train, cX11_train, 3, some .int, 0, 0, 0, [], tb_X11_train) := fun d => ⟨by decide +kernel, fun cal K p e R s m args below meth c Q z0 C hmn hd1 hd2 hmR hsR =>
  bc (tc0 (so_aload_n (k := 0) C rfl (by decide +kernel)) <| tc0 (so_aload_n (k := 0) C rfl (by decide +kernel)) <| tc0 (so_iload_n (k := 1) C rfl (by decide +kernel)) <| tc0 (so_callV C K me_X11_isTrain hmR hsR hd1 hd2 (by decide) hy_X11_isTrain tg_1676 hc_X11 rfl rfl tg_1673 tg_1675 tg_109 tg_158 (by decide +kernel)) <| tc0 (so_if_eq (off := 13) C (by decide +kernel) (by decide)) <| tcn) <|
  bc (tc0 (so_iconst C (by decide +kernel)) <| tc0 (so_goto (off := 4) C (by decide +kernel) (by decide)) <| tc0 (so_callV C K me_X11_throwsIf hmR hsR hd1 hd2 (by decide) hy_X11_throwsIf tg_1644 hc_X11 rfl rfl tg_1641 tg_1643 tg_103 tg_158 (by decide +kernel)) <| tc0 (so_if_eq (off := 5) C (by decide +kernel) (by decide)) <| tc0 (so_iconst C (by decide +kernel)) <| tc1 (by decide +kernel) <| tcn) <|
  bc ( tcn) <|
  bc ( tcn) <|
  bc ( tcn) <|
  bc (tc1 (by decide +kernel) <| tc1 (by decide +kernel) <| tcn) <|
  bc (tc1 (by decide +kernel) <| tc1 (by decide +kernel) <| tcn) <|
  bc (tc1 (by decide +kernel) <| tc1 (by decide +kernel) <| tcn) <|
  bc (tc1 (by decide +kernel) <| tcn) <|
  bn⟩
set_option maxRecDepth 100000 in
set_option maxHeartbeats 4000000 in
theorem sn_X11_isTrain {l : Launch} {X : ab_X} {D : va_G} : ab_snd l X D ab_MEL (yX11_isTrain, cX11_isTrain, 2, some .boolean, 0, 0, 0, [], tb_X11_isTrain) := fun d => ⟨by decide +kernel, fun cal K p e R s m args below meth c Q z0 C hmn hd1 hd2 hmR hsR =>
  bc (tc0 (so_iload_n (k := 1) C rfl (by decide +kernel)) <| tc0 (so_iconst C (by decide +kernel)) <| tc0 (so_aload_n (k := 0) C rfl (by decide +kernel)) <| tc0 (so_getf C hc_X11 hin_X11 (by decide) tg_1385 (by decide +kernel)) <| tc0 (so_iconst C (by decide +kernel)) <| tc0 (so_iald C (by decide +kernel)) <| tc0 (so_iconst C (by decide +kernel)) <| tc0 (so_isub C (by decide +kernel)) <| tc0 (so_callS C K me_X11_isIn hmR hsR hd1 hd2 (by decide) hy_X11_isIn tg_1593 rfl tg_1591 tg_1592 tg_158 (by decide +kernel)) <| tc1 (by decide +kernel) <| tcn) <|
  bn⟩
set_option maxRecDepth 100000 in
set_option maxHeartbeats 4000000 in
theorem sn_L_shows {l : Launch} {X : ab_X} {D : va_G} : ab_snd l X D ab_MEL (yL_shows, cL_shows, 5, some .int, 1, 6, 2, [(0, 10, 13, 13)], tb_L_shows) := fun d => ⟨by decide +kernel, fun cal K p e R s m args below meth c Q z0 C htab hd1 hd2 hmR hsR =>
  bc (tc0 (so_aload_n (k := 3) C rfl (by decide +kernel)) <| tc0 (so_iconst C (by decide +kernel)) <| tc0 (so_aload_n (k := 0) C rfl (by decide +kernel)) <| tc0 (so_iload_n (k := 1) C rfl (by decide +kernel)) <| tc0 (so_iload_n (k := 2) C rfl (by decide +kernel)) <| tc0 (so_callx C K me_X10_shows hmR hsR hd1 hd2 (by decide) hy_X10_shows tg_1268 hc_X10 rfl rfl tg_1265 tg_1266 tg_1267 tg_143 (by decide +kernel) htab (by decide +kernel) (by decide) tg_1164 tn_1171 (by decide) (Or.inl ⟨(by decide +kernel), rfl⟩)) <| tc0 (so_iconst C (by decide +kernel)) <| tcn) <|
  bc (tc1 (by decide +kernel) <| tc1 (by decide +kernel) <| tcn) <|
  bn⟩
set_option maxRecDepth 100000 in
set_option maxHeartbeats 4000000 in
theorem sn_X10_shows {l : Launch} {X : ab_X} {D : va_G} : ab_snd l X D ab_MEL (yX10_shows, cX10_shows, 3, some .int, 1, 6, 1, [], tb_X10_shows) := fun d => ⟨by decide +kernel, ⟨rfl, fun cal K p e R s m args below meth c Q z0 C hmn hd1 hd2 hmR hsR =>
  bc (tc0 (so_aload_n (k := 0) C rfl (by decide +kernel)) <| tc0 (so_iload_n (k := 1) C rfl (by decide +kernel)) <| tc0 (so_callV C K me_X10_hasTown hmR hsR hd1 hd2 (by decide) hy_X10_hasTown tg_759 hc_X10 rfl rfl tg_756 tg_758 tg_23 tg_143 (by decide +kernel)) <| tc0 (so_if_eq (off := 25) C (by decide +kernel) (by decide)) <| tcn) <|
  bc (tc3 (⟨131, 202, 7, _, rfl, tg_1169, (by decide +kernel), (by decide +kernel), Or.inl ⟨(by decide +kernel), (by decide +kernel), (by decide +kernel)⟩⟩) <| tcn) <|
  bc ( tcn) <|
  bc (tc1 (by decide +kernel) <| tcn) <|
  bn⟩⟩
set_option maxRecDepth 100000 in
set_option maxHeartbeats 4000000 in
theorem sn_X11_shows {l : Launch} {X : ab_X} {D : va_G} : ab_snd l X D ab_MEL (yX11_shows, cX11_shows, 3, some .int, 0, 0, 0, [], tb_X11_shows) := fun d => ⟨by decide +kernel, fun cal K p e R s m args below meth c Q z0 C hmn hd1 hd2 hmR hsR =>
  bc (tc0 (so_aload_n (k := 0) C rfl (by decide +kernel)) <| tc0 (so_aload_n (k := 0) C rfl (by decide +kernel)) <| tc0 (so_iload_n (k := 1) C rfl (by decide +kernel)) <| tc0 (so_callV C K me_X11_isTown hmR hsR hd1 hd2 (by decide) hy_X11_isTown tg_1640 hc_X11 rfl rfl tg_1637 tg_1639 tg_102 tg_158 (by decide +kernel)) <| tc0 (so_if_eq (off := 22) C (by decide +kernel) (by decide)) <| tcn) <|
  bc (tc0 (so_iconst C (by decide +kernel)) <| tc0 (so_goto (off := 4) C (by decide +kernel) (by decide)) <| tcn) <|
  bc (tc0 (so_callV C K me_X11_throwsIf hmR hsR hd1 hd2 (by decide) hy_X11_throwsIf tg_1644 hc_X11 rfl rfl tg_1641 tg_1643 tg_103 tg_158 (by decide +kernel)) <| tc0 (so_if_eq (off := 5) C (by decide +kernel) (by decide)) <| tc0 (so_iconst C (by decide +kernel)) <| tc1 (by decide +kernel) <| tcn) <|
  bc (tc1 (by decide +kernel) <| tcn) <|
  bn⟩
set_option maxRecDepth 100000 in
set_option maxHeartbeats 4000000 in
theorem sn_L_now {l : Launch} {X : ab_X} {D : va_G} : ab_snd l X D ab_MEL (yL_now, cL_now, 4, some .int, 1, 6, 2, [(0, 9, 12, 13)], tb_L_now) := fun d => ⟨by decide +kernel, fun cal K p e R s m args below meth c Q z0 C htab hd1 hd2 hmR hsR =>
  bc (tc0 (so_aload_n (k := 2) C rfl (by decide +kernel)) <| tc0 (so_iconst C (by decide +kernel)) <| tc0 (so_aload_n (k := 0) C rfl (by decide +kernel)) <| tc0 (so_iload_n (k := 1) C rfl (by decide +kernel)) <| tc0 (so_callx C K me_X10_now hmR hsR hd1 hd2 (by decide) hy_X10_now tg_1276 hc_X10 rfl rfl tg_1273 tg_1274 tg_1275 tg_143 (by decide +kernel) htab (by decide +kernel) (by decide) tg_1164 tn_1171 (by decide) (Or.inr ⟨3, rfl, (by decide +kernel), rfl⟩)) <| tc0 (so_i2l C (by decide +kernel)) <| tc0 (so_last C (by decide +kernel)) <| tc0 (so_goto (off := 6) C (by decide +kernel) (by decide)) <| tc0 (so_iconst C (by decide +kernel)) <| tc1 (by decide +kernel) <| tc0 (so_iconst C (by decide +kernel)) <| tcn) <|
  bc (tc1 (by decide +kernel) <| tcn) <|
  bn⟩
set_option maxRecDepth 100000 in
set_option maxHeartbeats 4000000 in
theorem sn_X10_now {l : Launch} {X : ab_X} {D : va_G} : ab_snd l X D ab_MEL (yX10_now, cX10_now, 2, some .int, 1, 6, 1, [], tb_X10_now) := fun d => ⟨by decide +kernel, ⟨rfl, fun cal K p e R s m args below meth c Q z0 C hmn hd1 hd2 hmR hsR =>
  bc (tc0 (so_iload_n (k := 1) C rfl (by decide +kernel)) <| tc0 (so_tsw (df := 105) (offs := #[43, 51, 56, 68, 76, 88, 100]) (len := 43) C (by decide +kernel) (ab_tg (by decide +kernel)) (by decide +kernel) (by decide +kernel)) <| tcn) <|
  bc ( tcn) <|
  bc (tc0 (so_aload_n (k := 0) C rfl (by decide +kernel)) <| tc0 (so_getf C hc_X10 hin_X10 (by decide) tg_588 (by decide +kernel)) <| tcn) <|
  bc (tc0 (so_getfN C hc_X7 hin_X7 (by decide) tn_403 (by decide +kernel)) <| tc1 (by decide +kernel) <| tc0 (so_aload_n (k := 0) C rfl (by decide +kernel)) <| tc0 (so_callV C K me_X10_bendsAdded hmR hsR hd1 hd2 (by decide) hy_X10_bendsAdded tg_856 hc_X10 rfl rfl tg_853 tg_855 tg_38 tg_143 (by decide +kernel)) <| tc1 (by decide +kernel) <| tc0 (so_aload_n (k := 0) C rfl (by decide +kernel)) <| tc0 (so_getf C hc_X10 hin_X10 (by decide) tg_588 (by decide +kernel)) <| tc0 (so_aload_n (k := 0) C rfl (by decide +kernel)) <| tc0 (so_getf C hc_X10 hin_X10 (by decide) tg_586 (by decide +kernel)) <| tcn) <|
  bc (tc0 (so_callVN C K me_X7_breachBits hmR hsR hd1 hd2 (by decide) hy_X7_breachBits tg_888 hc_X7 rfl tn_885 tg_887 tg_43 tg_151 (by decide +kernel)) <| tc1 (by decide +kernel) <| tc0 (so_aload_n (k := 0) C rfl (by decide +kernel)) <| tc0 (so_getf C hc_X10 hin_X10 (by decide) tg_588 (by decide +kernel)) <| tc0 (so_getfN C hc_X7 hin_X7 (by decide) tn_405 (by decide +kernel)) <| tc1 (by decide +kernel) <| tc0 (so_aload_n (k := 0) C rfl (by decide +kernel)) <| tc0 (so_aload_n (k := 0) C rfl (by decide +kernel)) <| tc0 (so_getf C hc_X10 hin_X10 (by decide) tg_588 (by decide +kernel)) <| tcn) <|
  bc (tc0 (so_getfN C hc_X7 hin_X7 (by decide) tn_411 (by decide +kernel)) <| tc0 (so_callV C K me_X10_added hmR hsR hd1 hd2 (by decide) hy_X10_added tg_860 hc_X10 rfl rfl tg_857 tg_859 tg_39 tg_143 (by decide +kernel)) <| tc1 (by decide +kernel) <| tc0 (so_aload_n (k := 0) C rfl (by decide +kernel)) <| tc0 (so_aload_n (k := 0) C rfl (by decide +kernel)) <| tc0 (so_getf C hc_X10 hin_X10 (by decide) tg_588 (by decide +kernel)) <| tc0 (so_getfN C hc_X7 hin_X7 (by decide) tn_414 (by decide +kernel)) <| tcn) <|
  bc (tc0 (so_callV C K me_X10_added hmR hsR hd1 hd2 (by decide) hy_X10_added tg_860 hc_X10 rfl rfl tg_857 tg_859 tg_39 tg_143 (by decide +kernel)) <| tc1 (by decide +kernel) <| tc0 (so_aload_n (k := 0) C rfl (by decide +kernel)) <| tc0 (so_callV C K me_X10_minutesOff hmR hsR hd1 hd2 (by decide) hy_X10_minutesOff tg_1280 hc_X10 rfl rfl tg_1277 tg_1279 tg_79 tg_143 (by decide +kernel)) <| tc1 (by decide +kernel) <| tc3 (⟨131, 225, 8, _, rfl, tg_1169, (by decide +kernel), (by decide +kernel), Or.inl ⟨(by decide +kernel), (by decide +kernel), (by decide +kernel)⟩⟩) <| tcn) <|
  bn⟩⟩
set_option maxRecDepth 100000 in
set_option maxHeartbeats 4000000 in
theorem sn_X10_bendsAdded {l : Launch} {X : ab_X} {D : va_G} : ab_snd l X D ab_MEL (yX10_bendsAdded, cX10_bendsAdded, 1, some .int, 0, 0, 0, [], tb_X10_bendsAdded) := fun d => ⟨by decide +kernel, fun cal K p e R s m args below meth c Q z0 C hmn hd1 hd2 hmR hsR =>
  bc (tc0 (so_aload_n (k := 0) C rfl (by decide +kernel)) <| tc0 (so_aload_n (k := 0) C rfl (by decide +kernel)) <| tc0 (so_getf C hc_X10 hin_X10 (by decide) tg_588 (by decide +kernel)) <| tc0 (so_getfN C hc_X7 hin_X7 (by decide) tn_408 (by decide +kernel)) <| tc0 (so_callV C K me_X10_added hmR hsR hd1 hd2 (by decide) hy_X10_added tg_860 hc_X10 rfl rfl tg_857 tg_859 tg_39 tg_143 (by decide +kernel)) <| tc1 (by decide +kernel) <| tcn) <|
  bn⟩
set_option maxRecDepth 100000 in
set_option maxHeartbeats 4000000 in
theorem sn_X10_added {l : Launch} {X : ab_X} {D : va_G} : ab_snd l X D ab_MEL (yX10_added, cX10_added, 4, some .int, 0, 0, 0, [], tb_X10_added) := fun d => ⟨by decide +kernel, fun cal K p e R s m args below meth c Q z0 C hmn hd1 hd2 hmR hsR =>
  bc (tc0 (so_iconst C (by decide +kernel)) <| tc0 (so_istore_n (k := 2) C rfl (by decide) (by decide +kernel)) <| tc0 (so_iconst C (by decide +kernel)) <| tc0 (so_istore_n (k := 3) C rfl (by decide) (by decide +kernel)) <| tc0 (so_iload_n (k := 3) C rfl (by decide +kernel)) <| tc0 (so_aload_n (k := 0) C rfl (by decide +kernel)) <| tc0 (so_getf C hc_X10 hin_X10 (by decide) tg_586 (by decide +kernel)) <| tc0 (so_getfN C hc_X8 hin_X8 (by decide) tn_315 (by decide +kernel)) <| tc0 (so_icmp_ge (off := 15) C (by decide +kernel) (by decide)) <| tcn) <|
  bc (tc0 (so_iload_n (k := 2) C rfl (by decide +kernel)) <| tc1 (by decide +kernel) <| tcn) <|
  bn⟩
set_option maxRecDepth 100000 in
set_option maxHeartbeats 4000000 in
theorem sn_X7_breachBits {l : Launch} {X : ab_X} {D : va_G} : ab_snd l X D ab_MEL (yX7_breachBits, cX7_breachBits, 4, some .int, 0, 0, 0, [], tb_X7_breachBits) := fun d => ⟨by decide +kernel, fun cal K p e R s m args below meth c Q z0 C hmn hd1 hd2 hmR hsR =>
  bc (tc0 (so_iconst C (by decide +kernel)) <| tc0 (so_istore_n (k := 2) C rfl (by decide) (by decide +kernel)) <| tc0 (so_iconst C (by decide +kernel)) <| tc0 (so_istore_n (k := 3) C rfl (by decide) (by decide +kernel)) <| tc0 (so_iload_n (k := 3) C rfl (by decide +kernel)) <| tc0 (so_aload_n (k := 1) C rfl (by decide +kernel)) <| tc0 (so_getfN C hc_X8 hin_X8 (by decide) tn_313 (by decide +kernel)) <| tc0 (so_icmp_ge (off := 24) C (by decide +kernel) (by decide)) <| tcn) <|
  bc ( tcn) <|
  bc (tc0 (so_iload_n (k := 2) C rfl (by decide +kernel)) <| tc1 (by decide +kernel) <| tcn) <|
  bn⟩
set_option maxRecDepth 100000 in
set_option maxHeartbeats 4000000 in
theorem sn_X10_minutesOff {l : Launch} {X : ab_X} {D : va_G} : ab_snd l X D ab_MEL (yX10_minutesOff, cX10_minutesOff, 3, some .int, 0, 0, 0, [], tb_X10_minutesOff) := fun d => ⟨by decide +kernel, fun cal K p e R s m args below meth c Q z0 C hmn hd1 hd2 hmR hsR =>
  bc (tc0 (so_iconst C (by decide +kernel)) <| tc0 (so_istore_n (k := 1) C rfl (by decide) (by decide +kernel)) <| tc0 (so_iconst C (by decide +kernel)) <| tc0 (so_istore_n (k := 2) C rfl (by decide) (by decide +kernel)) <| tc0 (so_iload_n (k := 2) C rfl (by decide +kernel)) <| tc0 (so_aload_n (k := 0) C rfl (by decide +kernel)) <| tc0 (so_getf C hc_X10 hin_X10 (by decide) tg_586 (by decide +kernel)) <| tc0 (so_getfN C hc_X8 hin_X8 (by decide) tn_315 (by decide +kernel)) <| tc0 (so_icmp_ge (off := 24) C (by decide +kernel) (by decide)) <| tcn) <|
  bc ( tcn) <|
  bc (tc0 (so_iload_n (k := 1) C rfl (by decide +kernel)) <| tc1 (by decide +kernel) <| tcn) <|
  bn⟩
set_option maxRecDepth 100000 in
set_option maxHeartbeats 4000000 in
theorem sn_X11_now {l : Launch} {X : ab_X} {D : va_G} : ab_snd l X D ab_MEL (yX11_now, cX11_now, 4, some .int, 0, 0, 0, [], tb_X11_now) := fun d => ⟨by decide +kernel, fun cal K p e R s m args below meth c Q z0 C hmn hd1 hd2 hmR hsR =>
  bc (tc0 (so_aload_n (k := 0) C rfl (by decide +kernel)) <| tc0 (so_iload_n (k := 1) C rfl (by decide +kernel)) <| tc0 (so_iconst C (by decide +kernel)) <| tc0 (so_bipush C (by decide +kernel) (by decide +kernel)) <| tc0 (so_callS C K me_X11_isIn hmR hsR hd1 hd2 (by decide) hy_X11_isIn tg_1593 rfl tg_1591 tg_1592 tg_158 (by decide +kernel)) <| tc0 (so_if_ne (off := 7) C (by decide +kernel) (by decide)) <| tc0 (so_iconst C (by decide +kernel)) <| tc0 (so_goto (off := 4) C (by decide +kernel) (by decide)) <| tc0 (so_iconst C (by decide +kernel)) <| tcn) <|
  bc (tc0 (so_callV C K me_X11_throwsIf hmR hsR hd1 hd2 (by decide) hy_X11_throwsIf tg_1644 hc_X11 rfl rfl tg_1641 tg_1643 tg_103 tg_158 (by decide +kernel)) <| tc0 (so_if_eq (off := 5) C (by decide +kernel) (by decide)) <| tc0 (so_iconst C (by decide +kernel)) <| tc1 (by decide +kernel) <| tc0 (so_iload_n (k := 1) C rfl (by decide +kernel)) <| tc0 (so_tsw (df := 81) (offs := #[39, 47, 54, 59, 67, 74]) (len := 39) C (by decide +kernel) (ab_tg (by decide +kernel)) (by decide +kernel) (by decide +kernel)) <| tcn) <|
  bc ( tcn) <|
  bc ( tcn) <|
  bc (tc0 (so_aload_n (k := 0) C rfl (by decide +kernel)) <| tc0 (so_getf C hc_X11 hin_X11 (by decide) tg_1385 (by decide +kernel)) <| tc0 (so_bipush C (by decide +kernel) (by decide +kernel)) <| tc0 (so_iald C (by decide +kernel)) <| tc1 (by decide +kernel) <| tc0 (so_aload_n (k := 0) C rfl (by decide +kernel)) <| tc0 (so_bipush C (by decide +kernel) (by decide +kernel)) <| tc0 (so_callV C K me_X11_sumOf hmR hsR hd1 hd2 (by decide) hy_X11_sumOf tg_1696 hc_X11 rfl rfl tg_1693 tg_1695 tg_112 tg_158 (by decide +kernel)) <| tc1 (by decide +kernel) <| tc0 (so_aload_n (k := 0) C rfl (by decide +kernel)) <| tcn) <|
  bc (tc0 (so_callV C K me_X11_breachSet hmR hsR hd1 hd2 (by decide) hy_X11_breachSet tg_1700 hc_X11 rfl rfl tg_1697 tg_1699 tg_113 tg_158 (by decide +kernel)) <| tc1 (by decide +kernel) <| tc0 (so_aload_n (k := 0) C rfl (by decide +kernel)) <| tc0 (so_getf C hc_X11 hin_X11 (by decide) tg_1385 (by decide +kernel)) <| tc0 (so_bipush C (by decide +kernel) (by decide +kernel)) <| tc0 (so_iald C (by decide +kernel)) <| tc1 (by decide +kernel) <| tc0 (so_aload_n (k := 0) C rfl (by decide +kernel)) <| tc0 (so_bipush C (by decide +kernel) (by decide +kernel)) <| tc0 (so_callV C K me_X11_sumOf hmR hsR hd1 hd2 (by decide) hy_X11_sumOf tg_1696 hc_X11 rfl rfl tg_1693 tg_1695 tg_112 tg_158 (by decide +kernel)) <| tcn) <|
  bc (tc1 (by decide +kernel) <| tc0 (so_aload_n (k := 0) C rfl (by decide +kernel)) <| tc0 (so_bipush C (by decide +kernel) (by decide +kernel)) <| tc0 (so_callV C K me_X11_sumOf hmR hsR hd1 hd2 (by decide) hy_X11_sumOf tg_1696 hc_X11 rfl rfl tg_1693 tg_1695 tg_112 tg_158 (by decide +kernel)) <| tc1 (by decide +kernel) <| tc0 (so_iconst C (by decide +kernel)) <| tc0 (so_istore_n (k := 2) C rfl (by decide) (by decide +kernel)) <| tc0 (so_iconst C (by decide +kernel)) <| tc0 (so_istore_n (k := 3) C rfl (by decide) (by decide +kernel)) <| tc0 (so_iload_n (k := 3) C rfl (by decide +kernel)) <| tc0 (so_aload_n (k := 0) C rfl (by decide +kernel)) <| tcn) <|
  bc (tc0 (so_getf C hc_X11 hin_X11 (by decide) tg_1385 (by decide +kernel)) <| tc0 (so_iconst C (by decide +kernel)) <| tc0 (so_iald C (by decide +kernel)) <| tc0 (so_icmp_ge (off := 24) C (by decide +kernel) (by decide)) <| tcn) <|
  bc (tc0 (so_iload_n (k := 2) C rfl (by decide +kernel)) <| tc1 (by decide +kernel) <| tcn) <|
  bn⟩
set_option maxRecDepth 100000 in
set_option maxHeartbeats 4000000 in
theorem sn_X11_sumOf {l : Launch} {X : ab_X} {D : va_G} : ab_snd l X D ab_MEL (yX11_sumOf, cX11_sumOf, 4, some .int, 0, 0, 0, [], tb_X11_sumOf) := fun d => ⟨by decide +kernel, fun cal K p e R s m args below meth c Q z0 C hmn hd1 hd2 hmR hsR =>
  bc (tc0 (so_iconst C (by decide +kernel)) <| tc0 (so_istore_n (k := 2) C rfl (by decide) (by decide +kernel)) <| tc0 (so_iconst C (by decide +kernel)) <| tc0 (so_istore_n (k := 3) C rfl (by decide) (by decide +kernel)) <| tc0 (so_iload_n (k := 3) C rfl (by decide +kernel)) <| tc0 (so_aload_n (k := 0) C rfl (by decide +kernel)) <| tc0 (so_getf C hc_X11 hin_X11 (by decide) tg_1385 (by decide +kernel)) <| tc0 (so_iconst C (by decide +kernel)) <| tc0 (so_iald C (by decide +kernel)) <| tc0 (so_icmp_ge (off := 20) C (by decide +kernel) (by decide)) <| tcn) <|
  bc (tc0 (so_iload_n (k := 2) C rfl (by decide +kernel)) <| tcn) <|
  bc (tc1 (by decide +kernel) <| tcn) <|
  bn⟩
set_option maxRecDepth 100000 in
set_option maxHeartbeats 4000000 in
theorem sn_X11_breachSet {l : Launch} {X : ab_X} {D : va_G} : ab_snd l X D ab_MEL (yX11_breachSet, cX11_breachSet, 3, some .int, 0, 0, 0, [], tb_X11_breachSet) := fun d => ⟨by decide +kernel, fun cal K p e R s m args below meth c Q z0 C hmn hd1 hd2 hmR hsR =>
  bc (tc0 (so_iconst C (by decide +kernel)) <| tc0 (so_istore_n (k := 1) C rfl (by decide) (by decide +kernel)) <| tc0 (so_iconst C (by decide +kernel)) <| tc0 (so_istore_n (k := 2) C rfl (by decide) (by decide +kernel)) <| tc0 (so_iload_n (k := 2) C rfl (by decide +kernel)) <| tc0 (so_aload_n (k := 0) C rfl (by decide +kernel)) <| tc0 (so_getf C hc_X11 hin_X11 (by decide) tg_1385 (by decide +kernel)) <| tc0 (so_iconst C (by decide +kernel)) <| tc0 (so_iald C (by decide +kernel)) <| tc0 (so_icmp_ge (off := 27) C (by decide +kernel) (by decide)) <| tcn) <|
  bc ( tcn) <|
  bc (tc0 (so_iload_n (k := 1) C rfl (by decide +kernel)) <| tc1 (by decide +kernel) <| tcn) <|
  bn⟩
set_option maxRecDepth 100000 in
set_option maxHeartbeats 4000000 in
theorem sn_X10_bend {l : Launch} {X : ab_X} {D : va_G} : ab_snd l X D ab_MEL (yX10_bend, cX10_bend, 4, some .int, 0, 0, 0, [], tb_X10_bend) := fun d => ⟨by decide +kernel, fun cal K p e R s m args below meth c Q z0 C hmn hd1 hd2 hmR hsR =>
  bc (tc0 (so_aload_n (k := 0) C rfl (by decide +kernel)) <| tc0 (so_iload_n (k := 1) C rfl (by decide +kernel)) <| tc0 (so_callV C K me_X10_hasTown hmR hsR hd1 hd2 (by decide) hy_X10_hasTown tg_759 hc_X10 rfl rfl tg_756 tg_758 tg_23 tg_143 (by decide +kernel)) <| tc0 (so_if_eq (off := 19) C (by decide +kernel) (by decide)) <| tcn) <|
  bc (tc0 (so_iconst C (by decide +kernel)) <| tc1 (by decide +kernel) <| tcn) <|
  bc ( tcn) <|
  bc ( tcn) <|
  bc (tc1 (by decide +kernel) <| tcn) <|
  bn⟩
set_option maxRecDepth 100000 in
set_option maxHeartbeats 4000000 in
theorem sn_X11_bend {l : Launch} {X : ab_X} {D : va_G} : ab_snd l X D ab_MEL (yX11_bend, cX11_bend, 4, some .int, 0, 0, 0, [], tb_X11_bend) := fun d => ⟨by decide +kernel, fun cal K p e R s m args below meth c Q z0 C hmn hd1 hd2 hmR hsR =>
  bc (tc0 (so_aload_n (k := 0) C rfl (by decide +kernel)) <| tc0 (so_iconst C (by decide +kernel)) <| tc0 (so_putf C hc_X11 hin_X11 (by decide) tyX11_ok nmX11 tg_1379 rfl (by decide +kernel)) <| tc0 (so_aload_n (k := 0) C rfl (by decide +kernel)) <| tc0 (so_iload_n (k := 1) C rfl (by decide +kernel)) <| tc0 (so_callV C K me_X11_isTown hmR hsR hd1 hd2 (by decide) hy_X11_isTown tg_1640 hc_X11 rfl rfl tg_1637 tg_1639 tg_102 tg_158 (by decide +kernel)) <| tc0 (so_if_eq (off := 18) C (by decide +kernel) (by decide)) <| tcn) <|
  bc (tc0 (so_iconst C (by decide +kernel)) <| tc1 (by decide +kernel) <| tcn) <|
  bc (tc1 (by decide +kernel) <| tcn) <|
  bc (tc1 (by decide +kernel) <| tcn) <|
  bn⟩
set_option maxRecDepth 100000 in
set_option maxHeartbeats 4000000 in
theorem sn_X10_shade {l : Launch} {X : ab_X} {D : va_G} : ab_snd l X D ab_MEL (yX10_shade, cX10_shade, 2, some .int, 0, 0, 0, [], tb_X10_shade) := fun d => ⟨by decide +kernel, fun cal K p e R s m args below meth c Q z0 C hmn hd1 hd2 hmR hsR =>
  bc (tc0 (so_aload_n (k := 0) C rfl (by decide +kernel)) <| tc0 (so_iload_n (k := 1) C rfl (by decide +kernel)) <| tc0 (so_callV C K me_X10_hasTown hmR hsR hd1 hd2 (by decide) hy_X10_hasTown tg_759 hc_X10 rfl rfl tg_756 tg_758 tg_23 tg_143 (by decide +kernel)) <| tc0 (so_if_ne (off := 5) C (by decide +kernel) (by decide)) <| tc0 (so_iconst C (by decide +kernel)) <| tc1 (by decide +kernel) <| tcn) <|
  bc (tc1 (by decide +kernel) <| tcn) <|
  bc (tc1 (by decide +kernel) <| tcn) <|
  bn⟩
set_option maxRecDepth 100000 in
set_option maxHeartbeats 4000000 in
theorem sn_X11_shade {l : Launch} {X : ab_X} {D : va_G} : ab_snd l X D ab_MEL (yX11_shade, cX11_shade, 2, some .int, 0, 0, 0, [], tb_X11_shade) := fun d => ⟨by decide +kernel, fun cal K p e R s m args below meth c Q z0 C hmn hd1 hd2 hmR hsR =>
  bc (tc0 (so_aload_n (k := 0) C rfl (by decide +kernel)) <| tc0 (so_iconst C (by decide +kernel)) <| tc0 (so_putf C hc_X11 hin_X11 (by decide) tyX11_ok nmX11 tg_1379 rfl (by decide +kernel)) <| tc0 (so_aload_n (k := 0) C rfl (by decide +kernel)) <| tc0 (so_iload_n (k := 1) C rfl (by decide +kernel)) <| tc0 (so_callV C K me_X11_isTown hmR hsR hd1 hd2 (by decide) hy_X11_isTown tg_1640 hc_X11 rfl rfl tg_1637 tg_1639 tg_102 tg_158 (by decide +kernel)) <| tc0 (so_if_ne (off := 5) C (by decide +kernel) (by decide)) <| tc0 (so_iconst C (by decide +kernel)) <| tc1 (by decide +kernel) <| tcn) <|
  bc (tc1 (by decide +kernel) <| tcn) <|
  bc (tc1 (by decide +kernel) <| tcn) <|
  bn⟩
set_option maxRecDepth 100000 in
set_option maxHeartbeats 4000000 in
theorem sn_X10_clear {l : Launch} {X : ab_X} {D : va_G} : ab_snd l X D ab_MEL (yX10_clear, cX10_clear, 2, some .int, 0, 0, 0, [], tb_X10_clear) := fun d => ⟨by decide +kernel, fun cal K p e R s m args below meth c Q z0 C hmn hd1 hd2 hmR hsR =>
  bc (tc0 (so_aload_n (k := 0) C rfl (by decide +kernel)) <| tc0 (so_iload_n (k := 1) C rfl (by decide +kernel)) <| tc0 (so_callV C K me_X10_hasTown hmR hsR hd1 hd2 (by decide) hy_X10_hasTown tg_759 hc_X10 rfl rfl tg_756 tg_758 tg_23 tg_143 (by decide +kernel)) <| tc0 (so_if_ne (off := 5) C (by decide +kernel) (by decide)) <| tc0 (so_iconst C (by decide +kernel)) <| tc1 (by decide +kernel) <| tcn) <|
  bc (tc1 (by decide +kernel) <| tcn) <|
  bc (tc1 (by decide +kernel) <| tcn) <|
  bn⟩
set_option maxRecDepth 100000 in
set_option maxHeartbeats 4000000 in
theorem sn_X11_clear {l : Launch} {X : ab_X} {D : va_G} : ab_snd l X D ab_MEL (yX11_clear, cX11_clear, 2, some .int, 0, 0, 0, [], tb_X11_clear) := fun d => ⟨by decide +kernel, fun cal K p e R s m args below meth c Q z0 C hmn hd1 hd2 hmR hsR =>
  bc (tc0 (so_aload_n (k := 0) C rfl (by decide +kernel)) <| tc0 (so_iconst C (by decide +kernel)) <| tc0 (so_putf C hc_X11 hin_X11 (by decide) tyX11_ok nmX11 tg_1379 rfl (by decide +kernel)) <| tc0 (so_aload_n (k := 0) C rfl (by decide +kernel)) <| tc0 (so_iload_n (k := 1) C rfl (by decide +kernel)) <| tc0 (so_callV C K me_X11_isTown hmR hsR hd1 hd2 (by decide) hy_X11_isTown tg_1640 hc_X11 rfl rfl tg_1637 tg_1639 tg_102 tg_158 (by decide +kernel)) <| tc0 (so_if_ne (off := 5) C (by decide +kernel) (by decide)) <| tc0 (so_iconst C (by decide +kernel)) <| tc1 (by decide +kernel) <| tcn) <|
  bc (tc1 (by decide +kernel) <| tcn) <|
  bc (tc1 (by decide +kernel) <| tcn) <|
  bn⟩
set_option maxRecDepth 100000 in
set_option maxHeartbeats 4000000 in
theorem sn_X10_freeze {l : Launch} {X : ab_X} {D : va_G} : ab_snd l X D ab_MEL (yX10_freeze, cX10_freeze, 1, some .int, 0, 0, 0, [], tb_X10_freeze) := fun d => ⟨by decide +kernel, fun cal K p e R s m args below meth c Q z0 C hmn hd1 hd2 hmR hsR =>
  bc (tc0 (so_aload_n (k := 0) C rfl (by decide +kernel)) <| tc0 (so_getf C hc_X10 hin_X10 (by decide) tg_590 (by decide +kernel)) <| tc0 (so_aload_n (k := 0) C rfl (by decide +kernel)) <| tc0 (so_getf C hc_X10 hin_X10 (by decide) tg_588 (by decide +kernel)) <| tc0 (so_callVN C K me_X1_keep hmR hsR hd1 hd2 (by decide) hy_X1_keep tg_778 hc_X1 rfl tn_775 tg_777 tg_27 tg_152 (by decide +kernel)) <| tc0 (so_aload_n (k := 0) C rfl (by decide +kernel)) <| tc0 (so_getf C hc_X10 hin_X10 (by decide) tg_588 (by decide +kernel)) <| tc0 (so_aload_n (k := 0) C rfl (by decide +kernel)) <| tcn) <|
  bc (tc0 (so_getf C hc_X10 hin_X10 (by decide) tg_586 (by decide +kernel)) <| tc0 (so_callVN C K me_X7_springBack hmR hsR hd1 hd2 (by decide) hy_X7_springBack tg_813 hc_X7 rfl tn_810 tg_812 tg_32 tg_151 (by decide +kernel)) <| tc1 (by decide +kernel) <| tcn) <|
  bn⟩
set_option maxRecDepth 100000 in
set_option maxHeartbeats 4000000 in
theorem sn_X1_keep {l : Launch} {X : ab_X} {D : va_G} : ab_snd l X D ab_MEL (yX1_keep, cX1_keep, 4, none, 0, 0, 0, [], tb_X1_keep) := fun d => ⟨by decide +kernel, fun cal K p e R s m args below meth c Q z0 C hmn hd1 hd2 hmR hsR =>
  bc (tc0 (so_aload_n (k := 0) C rfl (by decide +kernel)) <| tc0 (so_getf C hc_X1 hin_X1 (by decide) tg_441 (by decide +kernel)) <| tc0 (so_bipush C (by decide +kernel) (by decide +kernel)) <| tc0 (so_icmp_lt (off := 54) C (by decide +kernel) (by decide)) <| tcn) <|
  bc ( tcn) <|
  bc ( tcn) <|
  bc (tc0 (so_aload_n (k := 0) C rfl (by decide +kernel)) <| tc0 (so_getf C hc_X1 hin_X1 (by decide) tg_440 (by decide +kernel)) <| tcn) <|
  bc (tc0 (so_aload_n (k := 0) C rfl (by decide +kernel)) <| tc0 (so_getf C hc_X1 hin_X1 (by decide) tg_441 (by decide +kernel)) <| tc0 (so_aald C hc_X7 (by decide +kernel)) <| tc0 (so_aload_n (k := 1) C rfl (by decide +kernel)) <| tc0 (so_callVN C K me_X7_copyFrom hmR hsR hd1 hd2 (by decide) hy_X7_copyFrom tg_782 hc_X7 rfl tn_779 tg_781 tg_28 tg_151 (by decide +kernel)) <| tc0 (so_aload_n (k := 0) C rfl (by decide +kernel)) <| tc0 (so_dup C (by decide +kernel)) <| tc0 (so_getf C hc_X1 hin_X1 (by decide) tg_441 (by decide +kernel)) <| tc0 (so_iconst C (by decide +kernel)) <| tc0 (so_iadd C (by decide +kernel)) <| tcn) <|
  bc (tc0 (so_putf C hc_X1 hin_X1 (by decide) tyX1_ok nmX1 tg_441 rfl (by decide +kernel)) <| tc2 (by decide +kernel) <| tcn) <|
  bn⟩
set_option maxRecDepth 100000 in
set_option maxHeartbeats 4000000 in
theorem sn_X7_copyFrom {l : Launch} {X : ab_X} {D : va_G} : ab_snd l X D ab_MEL (yX7_copyFrom, cX7_copyFrom, 2, none, 0, 0, 0, [], tb_X7_copyFrom) := fun d => ⟨by decide +kernel, fun cal K p e R s m args below meth c Q z0 C hmn hd1 hd2 hmR hsR =>
  bc (tc0 (so_aload_n (k := 0) C rfl (by decide +kernel)) <| tc0 (so_aload_n (k := 1) C rfl (by decide +kernel)) <| tc0 (so_getf C hc_X7 hin_X7 (by decide) tg_401 (by decide +kernel)) <| tc0 (so_putf C hc_X7 hin_X7 (by decide) tyX7_ok nmX7 tg_401 rfl (by decide +kernel)) <| tc0 (so_aload_n (k := 0) C rfl (by decide +kernel)) <| tc0 (so_aload_n (k := 1) C rfl (by decide +kernel)) <| tc0 (so_getf C hc_X7 hin_X7 (by decide) tg_404 (by decide +kernel)) <| tc0 (so_putf C hc_X7 hin_X7 (by decide) tyX7_ok nmX7 tg_404 rfl (by decide +kernel)) <| tcn) <|
  bc (tc0 (so_aload_n (k := 0) C rfl (by decide +kernel)) <| tc0 (so_aload_n (k := 1) C rfl (by decide +kernel)) <| tc0 (so_getf C hc_X7 hin_X7 (by decide) tg_406 (by decide +kernel)) <| tc0 (so_putf C hc_X7 hin_X7 (by decide) tyX7_ok nmX7 tg_406 rfl (by decide +kernel)) <| tc0 (so_aload_n (k := 1) C rfl (by decide +kernel)) <| tc0 (so_getf C hc_X7 hin_X7 (by decide) tg_407 (by decide +kernel)) <| tc0 (so_iconst C (by decide +kernel)) <| tc0 (so_aload_n (k := 0) C rfl (by decide +kernel)) <| tc0 (so_getf C hc_X7 hin_X7 (by decide) tg_407 (by decide +kernel)) <| tcn) <|
  bc (tc0 (so_iconst C (by decide +kernel)) <| tc0 (so_bipush C (by decide +kernel) (by decide +kernel)) <| tc0 (so_aci C tg_783 tg_785 tg_784 tg_164 (by decide +kernel)) <| tc0 (so_aload_n (k := 1) C rfl (by decide +kernel)) <| tc0 (so_getf C hc_X7 hin_X7 (by decide) tg_410 (by decide +kernel)) <| tc0 (so_iconst C (by decide +kernel)) <| tc0 (so_aload_n (k := 0) C rfl (by decide +kernel)) <| tc0 (so_getf C hc_X7 hin_X7 (by decide) tg_410 (by decide +kernel)) <| tcn) <|
  bc (tc0 (so_iconst C (by decide +kernel)) <| tc0 (so_bipush C (by decide +kernel) (by decide +kernel)) <| tc0 (so_aci C tg_783 tg_785 tg_784 tg_164 (by decide +kernel)) <| tc0 (so_aload_n (k := 1) C rfl (by decide +kernel)) <| tc0 (so_getf C hc_X7 hin_X7 (by decide) tg_413 (by decide +kernel)) <| tc0 (so_iconst C (by decide +kernel)) <| tc0 (so_aload_n (k := 0) C rfl (by decide +kernel)) <| tc0 (so_getf C hc_X7 hin_X7 (by decide) tg_413 (by decide +kernel)) <| tc0 (so_iconst C (by decide +kernel)) <| tcn) <|
  bc (tc0 (so_bipush C (by decide +kernel) (by decide +kernel)) <| tc0 (so_aci C tg_783 tg_785 tg_784 tg_164 (by decide +kernel)) <| tc2 (by decide +kernel) <| tcn) <|
  bn⟩
