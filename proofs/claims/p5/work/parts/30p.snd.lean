/-! Each table is sound. -/
set_option maxRecDepth 100000 in
set_option maxHeartbeats 4000000 in
theorem sn_L_shows {l : Launch} {X : ab_X} {D : va_G} : ab_snd l X D ab_MEL (yL_shows, cL_shows, 5, some .int, 1, 6, 2, [(0, 10, 13, 13)], tb_L_shows) := fun d => ⟨by decide +kernel, fun cal K p e R s m args below meth c Q z0 C htab hd1 hd2 hmR hsR =>
  bc (tc0 (so_aload_n (k := 3) C rfl (by decide +kernel)) <| tc0 (so_iconst C (by decide +kernel)) <| tc0 (so_aload_n (k := 0) C rfl (by decide +kernel)) <| tc0 (so_iload_n (k := 1) C rfl (by decide +kernel)) <| tc0 (so_iload_n (k := 2) C rfl (by decide +kernel)) <| tc0 (so_callx C K me_X10_shows hmR hsR hd1 hd2 (by decide) hy_X10_shows tg_1268 hc_X10 rfl rfl tg_1265 tg_1266 tg_1267 tg_143 (by decide +kernel) htab (by decide +kernel) (by decide) tg_1164 tn_1171 (by decide) (Or.inl ⟨(by decide +kernel), rfl⟩)) <| tc0 (so_i2l C (by decide +kernel)) <| tc0 (so_last C (by decide +kernel)) <| tc0 (so_goto (off := 7) C (by decide +kernel) (by decide)) <| tc0 (so_iconst C (by decide +kernel)) <| tcn) <|
  bc (tc1 (by decide +kernel) <| tc0 (so_iconst C (by decide +kernel)) <| tc1 (by decide +kernel) <| tcn) <|
  bn⟩
set_option maxRecDepth 100000 in
set_option maxHeartbeats 4000000 in
theorem sn_L_now {l : Launch} {X : ab_X} {D : va_G} : ab_snd l X D ab_MEL (yL_now, cL_now, 4, some .int, 1, 6, 2, [(0, 9, 12, 13)], tb_L_now) := fun d => ⟨by decide +kernel, fun cal K p e R s m args below meth c Q z0 C htab hd1 hd2 hmR hsR =>
  bc (tc0 (so_aload_n (k := 2) C rfl (by decide +kernel)) <| tc0 (so_iconst C (by decide +kernel)) <| tc0 (so_aload_n (k := 0) C rfl (by decide +kernel)) <| tc0 (so_iload_n (k := 1) C rfl (by decide +kernel)) <| tc0 (so_callx C K me_X10_now hmR hsR hd1 hd2 (by decide) hy_X10_now tg_1276 hc_X10 rfl rfl tg_1273 tg_1274 tg_1275 tg_143 (by decide +kernel) htab (by decide +kernel) (by decide) tg_1164 tn_1171 (by decide) (Or.inr ⟨3, rfl, (by decide +kernel), rfl⟩)) <| tc0 (so_i2l C (by decide +kernel)) <| tc0 (so_last C (by decide +kernel)) <| tc0 (so_goto (off := 6) C (by decide +kernel) (by decide)) <| tc0 (so_iconst C (by decide +kernel)) <| tc1 (by decide +kernel) <| tc0 (so_iconst C (by decide +kernel)) <| tcn) <|
  bc (tc1 (by decide +kernel) <| tcn) <|
  bn⟩
set_option maxRecDepth 100000 in
set_option maxHeartbeats 4000000 in
theorem sn_L_noonLong {l : Launch} {X : ab_X} {D : va_G} : ab_snd l X D ab_MEL (yL_noonLong, cL_noonLong, 3, some .int, 1, 6, 2, [(0, 8, 11, 13)], tb_L_noonLong) := fun d => ⟨by decide +kernel, fun cal K p e R s m args below meth c Q z0 C htab hd1 hd2 hmR hsR =>
  bc (tc0 (so_aload_n (k := 1) C rfl (by decide +kernel)) <| tc0 (so_iconst C (by decide +kernel)) <| tc0 (so_aload_n (k := 0) C rfl (by decide +kernel)) <| tc0 (so_callx C K me_X10_noonLong hmR hsR hd1 hd2 (by decide) hy_X10_noonLong tg_1288 hc_X10 rfl rfl tg_1285 tg_1286 tg_1287 tg_143 (by decide +kernel) htab (by decide +kernel) (by decide) tg_1164 tn_1171 (by decide) (Or.inr ⟨2, rfl, (by decide +kernel), rfl⟩)) <| tc0 (so_i2l C (by decide +kernel)) <| tc0 (so_last C (by decide +kernel)) <| tc0 (so_goto (off := 6) C (by decide +kernel) (by decide)) <| tc0 (so_iconst C (by decide +kernel)) <| tc1 (by decide +kernel) <| tc0 (so_iconst C (by decide +kernel)) <| tc1 (by decide +kernel) <| tcn) <|
  bn⟩
set_option maxRecDepth 100000 in
set_option maxHeartbeats 4000000 in
theorem sn_L_oneNoon {l : Launch} {X : ab_X} {D : va_G} : ab_snd l X D ab_MEL (yL_oneNoon, cL_oneNoon, 3, some .int, 1, 6, 2, [(0, 8, 11, 13)], tb_L_oneNoon) := fun d => ⟨by decide +kernel, fun cal K p e R s m args below meth c Q z0 C htab hd1 hd2 hmR hsR =>
  bc (tc0 (so_aload_n (k := 1) C rfl (by decide +kernel)) <| tc0 (so_iconst C (by decide +kernel)) <| tc0 (so_aload_n (k := 0) C rfl (by decide +kernel)) <| tc0 (so_callx C K me_X10_oneNoon hmR hsR hd1 hd2 (by decide) hy_X10_oneNoon tg_1296 hc_X10 rfl rfl tg_1293 tg_1294 tg_1295 tg_143 (by decide +kernel) htab (by decide +kernel) (by decide) tg_1164 tn_1171 (by decide) (Or.inr ⟨2, rfl, (by decide +kernel), rfl⟩)) <| tc0 (so_i2l C (by decide +kernel)) <| tc0 (so_last C (by decide +kernel)) <| tc0 (so_goto (off := 6) C (by decide +kernel) (by decide)) <| tc0 (so_iconst C (by decide +kernel)) <| tc1 (by decide +kernel) <| tc0 (so_iconst C (by decide +kernel)) <| tc1 (by decide +kernel) <| tcn) <|
  bn⟩
set_option maxRecDepth 100000 in
set_option maxHeartbeats 4000000 in
theorem sn_L_evenAt {l : Launch} {X : ab_X} {D : va_G} : ab_snd l X D ab_MEL (yL_evenAt, cL_evenAt, 4, some .int, 1, 6, 2, [(0, 9, 12, 13)], tb_L_evenAt) := fun d => ⟨by decide +kernel, fun cal K p e R s m args below meth c Q z0 C htab hd1 hd2 hmR hsR =>
  bc (tc0 (so_aload_n (k := 2) C rfl (by decide +kernel)) <| tc0 (so_iconst C (by decide +kernel)) <| tc0 (so_aload_n (k := 0) C rfl (by decide +kernel)) <| tc0 (so_iload_n (k := 1) C rfl (by decide +kernel)) <| tc0 (so_callx C K me_X10_evenAt hmR hsR hd1 hd2 (by decide) hy_X10_evenAt tg_1304 hc_X10 rfl rfl tg_1301 tg_1302 tg_1303 tg_143 (by decide +kernel) htab (by decide +kernel) (by decide) tg_1164 tn_1171 (by decide) (Or.inr ⟨3, rfl, (by decide +kernel), rfl⟩)) <| tc0 (so_i2l C (by decide +kernel)) <| tc0 (so_last C (by decide +kernel)) <| tc0 (so_goto (off := 6) C (by decide +kernel) (by decide)) <| tc0 (so_iconst C (by decide +kernel)) <| tc1 (by decide +kernel) <| tc0 (so_iconst C (by decide +kernel)) <| tcn) <|
  bc (tc1 (by decide +kernel) <| tcn) <|
  bn⟩
set_option maxRecDepth 100000 in
set_option maxHeartbeats 4000000 in
theorem sn_L_spare {l : Launch} {X : ab_X} {D : va_G} : ab_snd l X D ab_MEL (yL_spare, cL_spare, 5, some .int, 1, 6, 2, [(0, 10, 13, 13)], tb_L_spare) := fun d => ⟨by decide +kernel, fun cal K p e R s m args below meth c Q z0 C htab hd1 hd2 hmR hsR =>
  bc (tc0 (so_aload_n (k := 3) C rfl (by decide +kernel)) <| tc0 (so_iconst C (by decide +kernel)) <| tc0 (so_aload_n (k := 0) C rfl (by decide +kernel)) <| tc0 (so_iload_n (k := 1) C rfl (by decide +kernel)) <| tc0 (so_iload_n (k := 2) C rfl (by decide +kernel)) <| tc0 (so_callx C K me_X10_spare hmR hsR hd1 hd2 (by decide) hy_X10_spare tg_1312 hc_X10 rfl rfl tg_1309 tg_1310 tg_1311 tg_143 (by decide +kernel) htab (by decide +kernel) (by decide) tg_1164 tn_1171 (by decide) (Or.inl ⟨(by decide +kernel), rfl⟩)) <| tc0 (so_i2l C (by decide +kernel)) <| tc0 (so_last C (by decide +kernel)) <| tc0 (so_goto (off := 7) C (by decide +kernel) (by decide)) <| tc0 (so_iconst C (by decide +kernel)) <| tcn) <|
  bc (tc1 (by decide +kernel) <| tc0 (so_iconst C (by decide +kernel)) <| tc1 (by decide +kernel) <| tcn) <|
  bn⟩
set_option maxRecDepth 100000 in
set_option maxHeartbeats 4000000 in
theorem sn_L_votes {l : Launch} {X : ab_X} {D : va_G} : ab_snd l X D ab_MEL (yL_votes, cL_votes, 5, some .int, 1, 6, 2, [(0, 10, 13, 13)], tb_L_votes) := fun d => ⟨by decide +kernel, fun cal K p e R s m args below meth c Q z0 C htab hd1 hd2 hmR hsR =>
  bc (tc0 (so_aload_n (k := 3) C rfl (by decide +kernel)) <| tc0 (so_iconst C (by decide +kernel)) <| tc0 (so_aload_n (k := 0) C rfl (by decide +kernel)) <| tc0 (so_iload_n (k := 1) C rfl (by decide +kernel)) <| tc0 (so_iload_n (k := 2) C rfl (by decide +kernel)) <| tc0 (so_callx C K me_X10_votes hmR hsR hd1 hd2 (by decide) hy_X10_votes tg_1320 hc_X10 rfl rfl tg_1317 tg_1318 tg_1319 tg_143 (by decide +kernel) htab (by decide +kernel) (by decide) tg_1164 tn_1171 (by decide) (Or.inl ⟨(by decide +kernel), rfl⟩)) <| tc0 (so_i2l C (by decide +kernel)) <| tc0 (so_last C (by decide +kernel)) <| tc0 (so_goto (off := 7) C (by decide +kernel) (by decide)) <| tc0 (so_iconst C (by decide +kernel)) <| tcn) <|
  bc (tc1 (by decide +kernel) <| tc0 (so_iconst C (by decide +kernel)) <| tc1 (by decide +kernel) <| tcn) <|
  bn⟩
set_option maxRecDepth 100000 in
set_option maxHeartbeats 4000000 in
theorem sn_L_nearerAt {l : Launch} {X : ab_X} {D : va_G} : ab_snd l X D ab_MEL (yL_nearerAt, cL_nearerAt, 4, some .int, 1, 6, 2, [(0, 9, 12, 13)], tb_L_nearerAt) := fun d => ⟨by decide +kernel, fun cal K p e R s m args below meth c Q z0 C htab hd1 hd2 hmR hsR =>
  bc (tc0 (so_aload_n (k := 2) C rfl (by decide +kernel)) <| tc0 (so_iconst C (by decide +kernel)) <| tc0 (so_aload_n (k := 0) C rfl (by decide +kernel)) <| tc0 (so_iload_n (k := 1) C rfl (by decide +kernel)) <| tc0 (so_callx C K me_X10_nearerAt hmR hsR hd1 hd2 (by decide) hy_X10_nearerAt tg_1329 hc_X10 rfl rfl tg_1326 tg_1327 tg_1328 tg_143 (by decide +kernel) htab (by decide +kernel) (by decide) tg_1164 tn_1171 (by decide) (Or.inr ⟨3, rfl, (by decide +kernel), rfl⟩)) <| tc0 (so_i2l C (by decide +kernel)) <| tc0 (so_last C (by decide +kernel)) <| tc0 (so_goto (off := 6) C (by decide +kernel) (by decide)) <| tc0 (so_iconst C (by decide +kernel)) <| tc1 (by decide +kernel) <| tc0 (so_iconst C (by decide +kernel)) <| tcn) <|
  bc (tc1 (by decide +kernel) <| tcn) <|
  bn⟩
