/-! Contracts of the parsers' methods. -/
set_option maxRecDepth 100000 in
set_option maxHeartbeats 4000000 in
theorem m_X11_readTrain {l : Launch} {X : ab_X} {D : va_G} {A : ex_A} (d : Nat) (hd : 6 ≤ d) (σ : ex_S) (hI : B_INV σ) : ex_ctr l X D A d yX11_readTrain cX11_readTrain 2 (some .boolean) (WB σ) [.ref 0] (fun r w => r = (B_readTrain σ).1 ∧ w = WB (B_readTrain σ).2) := by
  obtain ⟨d, rfl⟩ : ∃ d9, d = d9 + 1 := ⟨d - 1, by omega⟩
  refine ex_meth (own := RX11) rfl (by decide) (Nat.le_of_ble_eq_true rfl) (fun p e R s m below meth c C hr hlk hd1 hd2 => ?_)
  show ex_ok p l e R s m _ below meth c 0 0 _ 2 X D A (WB σ) 0 [(0, .ref 0)] []
  refine ex_aload_n (q := 0) (x := 0) (np := 1) C (by decide +kernel) rfl rfl ?_
  refine ex_getf (q := 7) (v := .ref 3) (np := 4) C hc_X11 hin_X11 (by decide) tg_1382 (by decide +kernel) (WB_0 _) rfl rfl ?_
  refine ex_iconst (n := 2) (v := 2) (np := 5) C (by decide +kernel) (by decide) rfl ?_
  refine ex_iald (f := (σ.2.2.1 2)) (kk := 2) (np := 6) C (by decide +kernel) (WB_3 _) (by decide) (by decide) rfl ?_
  refine ex_istore_n (q := 1) (np := 7) (lv1 := [(1, .int ((σ.2.2.1 2) 2)), (0, .ref 0)]) C (by decide) (by decide +kernel) rfl rfl ?_
  refine ex_iload_n (q := 1) (x := ((σ.2.2.1 2) 2)) (np := 8) C (by decide +kernel) rfl rfl ?_
  refine ex_bipush (n := 8) (v := 8) (np := 10) C (by decide +kernel) (by decide) rfl ?_
  refine ex_icmp_ne (off := 9) (tgt := 19) (np := 13) C (by decide +kernel) (by decide) rfl (fun h1 => ?_) (fun h1 => ?_)
  · skip
    refine ex_aload_n (q := 0) (x := 0) (np := 20) C (by decide +kernel) rfl rfl ?_
    obtain ⟨σ2, q3⟩ : ∃ x, x = B_next σ := ⟨_, rfl⟩
    refine ex_call_v (np := 23) (fun ws H locs ls hR hsz => ex_runV (C1 := "") C (m_X11_next d (by omega) σ hI) hd1 hd2 (by decide) hy_X11_next tg_1540 hc_X11 rfl (WB_0 _) rfl rfl (Nat.le_of_ble_eq_true rfl) rfl tg_1537 tg_1539 tg_83 tg_158 (by decide +kernel) ws H locs ls hR hsz (Nat.zero_le _) (Nat.zero_le _)) rfl (fun w1 hpo => ?_)
    rw [← q3] at hpo
    subst hpo
    have hI4 := inv_X11_next σ hI; rw [← q3] at hI4
    refine ex_aload_n (q := 0) (x := 0) (np := 24) C (by decide +kernel) rfl rfl ?_
    refine ex_bipush (n := 22) (v := 22) (np := 26) C (by decide +kernel) (by decide) rfl ?_
    refine ex_iload_n (q := 1) (x := ((σ.2.2.1 2) 2)) (np := 27) C (by decide +kernel) rfl rfl ?_
    refine ex_iadd (v := ((22 : Int32) + ((σ.2.2.1 2) 2))) (np := 28) C (by decide +kernel) rfl rfl ?_
    obtain ⟨r5, σ6, q7⟩ : ∃ r x, B_fresh ((22 : Int32) + ((σ.2.2.1 2) 2)) σ2 = (r, x) := ex_pair _
    refine ex_call_i (np := 31) (fun ws H locs ls hR hsz => ex_runV (C1 := "") C (m_X11_fresh d (by omega) ((22 : Int32) + ((σ.2.2.1 2) 2)) σ2 hI4 (by have k9 := B_k2 hI; have n9 := ex_ne8 h1; have s9 := ex_sum (a := (22 : Int32)) (x := ((σ.2.2.1 2) 2)) (by decide) (by omega); have e9 : (22 : Int32).toInt = 22 := (by decide); rw [s9]; omega)) hd1 hd2 (by decide) hy_X11_fresh tg_1570 hc_X11 rfl (WB_0 _) rfl rfl (Nat.le_of_ble_eq_true rfl) rfl tg_1567 tg_1569 tg_89 tg_158 (by decide +kernel) ws H locs ls hR hsz (Nat.zero_le _) (Nat.zero_le _)) rfl (fun r9 w1 hpo => ?_)
    rw [q7] at hpo
    have hp1 : r5 = r9 := hpo.1.symm
    have hp2 := hpo.2
    clear hpo; subst hp1; subst hp2
    have hI8 := inv_X11_fresh ((22 : Int32) + ((σ.2.2.1 2) 2)) σ2 hI4 (by have k9 := B_k2 hI; have n9 := ex_ne8 h1; have s9 := ex_sum (a := (22 : Int32)) (x := ((σ.2.2.1 2) 2)) (by decide) (by omega); have e9 : (22 : Int32).toInt = 22 := (by decide); rw [s9]; omega); rw [q7] at hI8
    refine ex_if_eq (off := 18) (tgt := 49) (np := 34) C (by decide +kernel) (by decide) rfl (fun h10 => ?_) (fun h10 => ?_)
    · skip
      refine ex_iconst (n := 0) (v := 0) (np := 50) C (by decide +kernel) (by decide) rfl ?_
      have E9 : B_readTrain σ = ((0 : Int32), σ6) := by unfold B_readTrain; exact (if_neg h1).trans ((ex_lt_eq q3).trans ((ex_bd_eq q7).trans ((if_pos h10).trans (rfl))))
      exact ex_iret C hr hlk (by decide +kernel) rfl (Nat.le_refl _) (Nat.le_refl _) (by rw [E9]; exact ⟨rfl, rfl⟩)
    · skip
      refine ex_aload_n (q := 0) (x := 0) (np := 35) C (by decide +kernel) rfl rfl ?_
      refine ex_bipush (n := 15) (v := 15) (np := 37) C (by decide +kernel) (by decide) rfl ?_
      refine ex_aload_n (q := 0) (x := 0) (np := 38) C (by decide +kernel) rfl rfl ?_
      refine ex_getf (q := 7) (v := .ref 3) (np := 41) C hc_X11 hin_X11 (by decide) tg_1382 (by decide +kernel) (WB_0 _) rfl rfl ?_
      refine ex_iconst (n := 0) (v := 0) (np := 42) C (by decide +kernel) (by decide) rfl ?_
      refine ex_iald (f := (σ6.2.2.1 2)) (kk := 0) (np := 43) C (by decide +kernel) (WB_3 _) (by decide) (by decide) rfl ?_
      obtain ⟨r11, σ12, q13⟩ : ∃ r x, B_takesName (15 : Int32) ((σ6.2.2.1 2) 0) σ6 = (r, x) := ex_pair _
      refine ex_call_i (np := 46) (fun ws H locs ls hR hsz => ex_runV (C1 := "") C (m_X11_takesName d (by omega) (15 : Int32) ((σ6.2.2.1 2) 0) σ6 hI8 (B_fm15 hI8)) hd1 hd2 (by decide) hy_X11_takesName tg_1601 hc_X11 rfl (WB_0 _) rfl rfl (Nat.le_of_ble_eq_true rfl) rfl tg_1598 tg_1600 tg_96 tg_158 (by decide +kernel) ws H locs ls hR hsz (Nat.zero_le _) (Nat.zero_le _)) rfl (fun r9 w1 hpo => ?_)
      rw [q13] at hpo
      have hp1 : r11 = r9 := hpo.1.symm
      have hp2 := hpo.2
      clear hpo; subst hp1; subst hp2
      have hI14 := inv_X11_takesName (15 : Int32) ((σ6.2.2.1 2) 0) σ6 hI8 (B_fm15 hI8); rw [q13] at hI14
      refine ex_if_ne (off := 5) (tgt := 51) (np := 49) C (by decide +kernel) (by decide) rfl (fun h15 => ?_) (fun h15 => ?_)
      · skip
        refine ex_aload_n (q := 0) (x := 0) (np := 52) C (by decide +kernel) rfl rfl ?_
        refine ex_getf (q := 7) (v := .ref 3) (np := 55) C hc_X11 hin_X11 (by decide) tg_1382 (by decide +kernel) (WB_0 _) rfl rfl ?_
        refine ex_bipush (n := 68) (v := 68) (np := 57) C (by decide +kernel) (by decide) rfl ?_
        refine ex_iload_n (q := 1) (x := ((σ.2.2.1 2) 2)) (np := 58) C (by decide +kernel) rfl rfl ?_
        refine ex_iadd (v := ((68 : Int32) + ((σ.2.2.1 2) 2))) (np := 59) C (by decide +kernel) rfl rfl ?_
        refine ex_aload_n (q := 0) (x := 0) (np := 60) C (by decide +kernel) rfl rfl ?_
        refine ex_getf (q := 18) (v := .int (σ12.1 11)) (np := 63) C hc_X11 hin_X11 (by decide) tg_1393 (by decide +kernel) (WB_0 _) rfl rfl ?_
        refine ex_iast (f := (σ12.2.2.1 2)) (kk := (((68 : Int32) + ((σ.2.2.1 2) 2))).toNatClampNeg) (w1 := (WB (sR 2 (upd (σ12.2.2.1 2) (((68 : Int32) + ((σ.2.2.1 2) 2))).toNatClampNeg (σ12.1 11)) σ12))) (np := 64) C (by decide +kernel) (WB_3 _) (by have k9 := B_k2 hI; have s9 := ex_sum (a := (68 : Int32)) (x := ((σ.2.2.1 2) 2)) (by decide) (by omega); have e9 : (68 : Int32).toInt = 68 := (by decide); rw [s9]; omega) rfl (WB_3_s _ _) rfl ?_
        refine ex_aload_n (q := 0) (x := 0) (np := 65) C (by decide +kernel) rfl rfl ?_
        refine ex_bipush (n := 15) (v := 15) (np := 67) C (by decide +kernel) (by decide) rfl ?_
        refine ex_aload_n (q := 0) (x := 0) (np := 68) C (by decide +kernel) rfl rfl ?_
        refine ex_getf (q := 7) (v := .ref 3) (np := 71) C hc_X11 hin_X11 (by decide) tg_1382 (by decide +kernel) (WB_0 _) rfl rfl ?_
        refine ex_iconst (n := 0) (v := 0) (np := 72) C (by decide +kernel) (by decide) rfl ?_
        refine ex_iald (f := (upd (σ12.2.2.1 2) (((68 : Int32) + ((σ.2.2.1 2) 2))).toNatClampNeg (σ12.1 11))) (kk := 0) (np := 73) C (by decide +kernel) (WB_3 _) (by decide) (by decide) rfl ?_
        obtain ⟨r16, σ17, q18⟩ : ∃ r x, B_looksAt (15 : Int32) ((upd (σ12.2.2.1 2) (((68 : Int32) + ((σ.2.2.1 2) 2))).toNatClampNeg (σ12.1 11)) 0) (sR 2 (upd (σ12.2.2.1 2) (((68 : Int32) + ((σ.2.2.1 2) 2))).toNatClampNeg (σ12.1 11)) σ12) = (r, x) := ex_pair _
        refine ex_call_i (np := 76) (fun ws H locs ls hR hsz => ex_runV (C1 := "") C (m_X11_looksAt d (by omega) (15 : Int32) ((upd (σ12.2.2.1 2) (((68 : Int32) + ((σ.2.2.1 2) 2))).toNatClampNeg (σ12.1 11)) 0) (sR 2 (upd (σ12.2.2.1 2) (((68 : Int32) + ((σ.2.2.1 2) 2))).toNatClampNeg (σ12.1 11)) σ12) (B_INV_h hI14 (by have k9 := B_k2 hI; have s9 := ex_sum (a := (68 : Int32)) (x := ((σ.2.2.1 2) 2)) (by decide) (by omega); have e9 : (68 : Int32).toInt = 68 := (by decide); have c9 := ex_cl (x := ((68 : Int32) + ((σ.2.2.1 2) 2))) (by rw [s9]; omega); rw [s9] at c9; omega)) (B_fm15u (B_INV_h hI14 (by have k9 := B_k2 hI; have s9 := ex_sum (a := (68 : Int32)) (x := ((σ.2.2.1 2) 2)) (by decide) (by omega); have e9 : (68 : Int32).toInt = 68 := (by decide); have c9 := ex_cl (x := ((68 : Int32) + ((σ.2.2.1 2) 2))) (by rw [s9]; omega); rw [s9] at c9; omega)))) hd1 hd2 (by decide) hy_X11_looksAt tg_1605 hc_X11 rfl (WB_0 _) rfl rfl (Nat.le_of_ble_eq_true rfl) rfl tg_1602 tg_1604 tg_97 tg_158 (by decide +kernel) ws H locs ls hR hsz (Nat.zero_le _) (Nat.zero_le _)) rfl (fun r9 w1 hpo => ?_)
        rw [q18] at hpo
        have hp1 : r16 = r9 := hpo.1.symm
        have hp2 := hpo.2
        clear hpo; subst hp1; subst hp2
        have hI19 := inv_X11_looksAt (15 : Int32) ((upd (σ12.2.2.1 2) (((68 : Int32) + ((σ.2.2.1 2) 2))).toNatClampNeg (σ12.1 11)) 0) (sR 2 (upd (σ12.2.2.1 2) (((68 : Int32) + ((σ.2.2.1 2) 2))).toNatClampNeg (σ12.1 11)) σ12) (B_INV_h hI14 (by have k9 := B_k2 hI; have s9 := ex_sum (a := (68 : Int32)) (x := ((σ.2.2.1 2) 2)) (by decide) (by omega); have e9 : (68 : Int32).toInt = 68 := (by decide); have c9 := ex_cl (x := ((68 : Int32) + ((σ.2.2.1 2) 2))) (by rw [s9]; omega); rw [s9] at c9; omega)) (B_fm15u (B_INV_h hI14 (by have k9 := B_k2 hI; have s9 := ex_sum (a := (68 : Int32)) (x := ((σ.2.2.1 2) 2)) (by decide) (by omega); have e9 : (68 : Int32).toInt = 68 := (by decide); have c9 := ex_cl (x := ((68 : Int32) + ((σ.2.2.1 2) 2))) (by rw [s9]; omega); rw [s9] at c9; omega))); rw [q18] at hI19
        refine ex_if_ne (off := 5) (tgt := 81) (np := 79) C (by decide +kernel) (by decide) rfl (fun h20 => ?_) (fun h20 => ?_)
        · skip
          refine ex_aload_n (q := 0) (x := 0) (np := 82) C (by decide +kernel) rfl rfl ?_
          refine ex_getf (q := 18) (v := .int (σ17.1 11)) (np := 85) C hc_X11 hin_X11 (by decide) tg_1393 (by decide +kernel) (WB_0 _) rfl rfl ?_
          refine ex_aload_n (q := 0) (x := 0) (np := 86) C (by decide +kernel) rfl rfl ?_
          refine ex_getf (q := 7) (v := .ref 3) (np := 89) C hc_X11 hin_X11 (by decide) tg_1382 (by decide +kernel) (WB_0 _) rfl rfl ?_
          refine ex_bipush (n := 68) (v := 68) (np := 91) C (by decide +kernel) (by decide) rfl ?_
          refine ex_iload_n (q := 1) (x := ((σ.2.2.1 2) 2)) (np := 92) C (by decide +kernel) rfl rfl ?_
          refine ex_iadd (v := ((68 : Int32) + ((σ.2.2.1 2) 2))) (np := 93) C (by decide +kernel) rfl rfl ?_
          refine ex_iald (f := (σ17.2.2.1 2)) (kk := (((68 : Int32) + ((σ.2.2.1 2) 2))).toNatClampNeg) (np := 94) C (by decide +kernel) (WB_3 _) (by have k9 := B_k2 hI; have s9 := ex_sum (a := (68 : Int32)) (x := ((σ.2.2.1 2) 2)) (by decide) (by omega); have e9 : (68 : Int32).toInt = 68 := (by decide); rw [s9]; omega) rfl rfl ?_
          refine ex_icmp_ne (off := 9) (tgt := 103) (np := 97) C (by decide +kernel) (by decide) rfl (fun h21 => ?_) (fun h21 => ?_)
          · skip
            refine ex_aload_n (q := 0) (x := 0) (np := 104) C (by decide +kernel) rfl rfl ?_
            refine ex_getf (q := 7) (v := .ref 3) (np := 107) C hc_X11 hin_X11 (by decide) tg_1382 (by decide +kernel) (WB_0 _) rfl rfl ?_
            refine ex_bipush (n := 76) (v := 76) (np := 109) C (by decide +kernel) (by decide) rfl ?_
            refine ex_iload_n (q := 1) (x := ((σ.2.2.1 2) 2)) (np := 110) C (by decide +kernel) rfl rfl ?_
            refine ex_iadd (v := ((76 : Int32) + ((σ.2.2.1 2) 2))) (np := 111) C (by decide +kernel) rfl rfl ?_
            refine ex_aload_n (q := 0) (x := 0) (np := 112) C (by decide +kernel) rfl rfl ?_
            refine ex_getf (q := 18) (v := .int (σ17.1 11)) (np := 115) C hc_X11 hin_X11 (by decide) tg_1393 (by decide +kernel) (WB_0 _) rfl rfl ?_
            refine ex_iast (f := (σ17.2.2.1 2)) (kk := (((76 : Int32) + ((σ.2.2.1 2) 2))).toNatClampNeg) (w1 := (WB (sR 2 (upd (σ17.2.2.1 2) (((76 : Int32) + ((σ.2.2.1 2) 2))).toNatClampNeg (σ17.1 11)) σ17))) (np := 116) C (by decide +kernel) (WB_3 _) (by have k9 := B_k2 hI; have s9 := ex_sum (a := (76 : Int32)) (x := ((σ.2.2.1 2) 2)) (by decide) (by omega); have e9 : (76 : Int32).toInt = 76 := (by decide); rw [s9]; omega) rfl (WB_3_s _ _) rfl ?_
            refine ex_aload_n (q := 0) (x := 0) (np := 117) C (by decide +kernel) rfl rfl ?_
            obtain ⟨σ22, q23⟩ : ∃ x, x = B_next (sR 2 (upd (σ17.2.2.1 2) (((76 : Int32) + ((σ.2.2.1 2) 2))).toNatClampNeg (σ17.1 11)) σ17) := ⟨_, rfl⟩
            refine ex_call_v (np := 120) (fun ws H locs ls hR hsz => ex_runV (C1 := "") C (m_X11_next d (by omega) (sR 2 (upd (σ17.2.2.1 2) (((76 : Int32) + ((σ.2.2.1 2) 2))).toNatClampNeg (σ17.1 11)) σ17) (B_INV_h hI19 (by have k9 := B_k2 hI; have s9 := ex_sum (a := (76 : Int32)) (x := ((σ.2.2.1 2) 2)) (by decide) (by omega); have e9 : (76 : Int32).toInt = 76 := (by decide); have c9 := ex_cl (x := ((76 : Int32) + ((σ.2.2.1 2) 2))) (by rw [s9]; omega); rw [s9] at c9; omega))) hd1 hd2 (by decide) hy_X11_next tg_1540 hc_X11 rfl (WB_0 _) rfl rfl (Nat.le_of_ble_eq_true rfl) rfl tg_1537 tg_1539 tg_83 tg_158 (by decide +kernel) ws H locs ls hR hsz (Nat.zero_le _) (Nat.zero_le _)) rfl (fun w1 hpo => ?_)
            rw [← q23] at hpo
            subst hpo
            have hI24 := inv_X11_next (sR 2 (upd (σ17.2.2.1 2) (((76 : Int32) + ((σ.2.2.1 2) 2))).toNatClampNeg (σ17.1 11)) σ17) (B_INV_h hI19 (by have k9 := B_k2 hI; have s9 := ex_sum (a := (76 : Int32)) (x := ((σ.2.2.1 2) 2)) (by decide) (by omega); have e9 : (76 : Int32).toInt = 76 := (by decide); have c9 := ex_cl (x := ((76 : Int32) + ((σ.2.2.1 2) 2))) (by rw [s9]; omega); rw [s9] at c9; omega)); rw [← q23] at hI24
            refine ex_aload_n (q := 0) (x := 0) (np := 121) C (by decide +kernel) rfl rfl ?_
            refine ex_bipush (n := 84) (v := 84) (np := 123) C (by decide +kernel) (by decide) rfl ?_
            refine ex_iload_n (q := 1) (x := ((σ.2.2.1 2) 2)) (np := 124) C (by decide +kernel) rfl rfl ?_
            refine ex_iadd (v := ((84 : Int32) + ((σ.2.2.1 2) 2))) (np := 125) C (by decide +kernel) rfl rfl ?_
            refine ex_iconst (n := 0) (v := 0) (np := 126) C (by decide +kernel) (by decide) rfl ?_
            refine ex_sipush (n := 600) (v := 600) (np := 129) C (by decide +kernel) (by decide) rfl ?_
            obtain ⟨r25, σ26, q27⟩ : ∃ r x, B_puts ((84 : Int32) + ((σ.2.2.1 2) 2)) (0 : Int32) (600 : Int32) σ22 = (r, x) := ex_pair _
            refine ex_call_i (np := 132) (fun ws H locs ls hR hsz => ex_runV (C1 := "") C (m_X11_puts d (by omega) ((84 : Int32) + ((σ.2.2.1 2) 2)) (0 : Int32) (600 : Int32) σ22 hI24 (by have k9 := B_k2 hI; have s9 := ex_sum (a := (84 : Int32)) (x := ((σ.2.2.1 2) 2)) (by decide) (by omega); have e9 : (84 : Int32).toInt = 84 := (by decide); rw [s9]; omega)) hd1 hd2 (by decide) hy_X11_puts tg_1582 hc_X11 rfl (WB_0 _) rfl rfl (Nat.le_of_ble_eq_true rfl) rfl tg_1579 tg_1581 tg_92 tg_158 (by decide +kernel) ws H locs ls hR hsz (Nat.zero_le _) (Nat.zero_le _)) rfl (fun r9 w1 hpo => ?_)
            rw [q27] at hpo
            have hp1 : r25 = r9 := hpo.1.symm
            have hp2 := hpo.2
            clear hpo; subst hp1; subst hp2
            have hI28 := inv_X11_puts ((84 : Int32) + ((σ.2.2.1 2) 2)) (0 : Int32) (600 : Int32) σ22 hI24 (by have k9 := B_k2 hI; have s9 := ex_sum (a := (84 : Int32)) (x := ((σ.2.2.1 2) 2)) (by decide) (by omega); have e9 : (84 : Int32).toInt = 84 := (by decide); rw [s9]; omega); rw [q27] at hI28
            refine ex_if_eq (off := 18) (tgt := 150) (np := 135) C (by decide +kernel) (by decide) rfl (fun h29 => ?_) (fun h29 => ?_)
            · skip
              refine ex_iconst (n := 0) (v := 0) (np := 151) C (by decide +kernel) (by decide) rfl ?_
              have E9 : B_readTrain σ = ((0 : Int32), σ26) := by unfold B_readTrain; exact (if_neg h1).trans ((ex_lt_eq q3).trans ((ex_bd_eq q7).trans ((if_neg h10).trans ((ex_bd_eq q13).trans ((if_neg h15).trans ((ex_bd_eq q18).trans ((if_neg h20).trans ((if_neg h21).trans ((ex_lt_eq q23).trans ((ex_bd_eq q27).trans ((if_pos h29).trans (rfl))))))))))))
              exact ex_iret C hr hlk (by decide +kernel) rfl (Nat.le_refl _) (Nat.le_refl _) (by rw [E9]; exact ⟨rfl, rfl⟩)
            · skip
              refine ex_aload_n (q := 0) (x := 0) (np := 136) C (by decide +kernel) rfl rfl ?_
              refine ex_bipush (n := 92) (v := 92) (np := 138) C (by decide +kernel) (by decide) rfl ?_
              refine ex_iload_n (q := 1) (x := ((σ.2.2.1 2) 2)) (np := 139) C (by decide +kernel) rfl rfl ?_
              refine ex_iadd (v := ((92 : Int32) + ((σ.2.2.1 2) 2))) (np := 140) C (by decide +kernel) rfl rfl ?_
              refine ex_iconst (n := 1) (v := 1) (np := 141) C (by decide +kernel) (by decide) rfl ?_
              refine ex_sipush (n := 200) (v := 200) (np := 144) C (by decide +kernel) (by decide) rfl ?_
              obtain ⟨r30, σ31, q32⟩ : ∃ r x, B_puts ((92 : Int32) + ((σ.2.2.1 2) 2)) (1 : Int32) (200 : Int32) σ26 = (r, x) := ex_pair _
              refine ex_call_i (np := 147) (fun ws H locs ls hR hsz => ex_runV (C1 := "") C (m_X11_puts d (by omega) ((92 : Int32) + ((σ.2.2.1 2) 2)) (1 : Int32) (200 : Int32) σ26 hI28 (by have k9 := B_k2 hI; have n9 := ex_ne8 h1; have s9 := ex_sum (a := (92 : Int32)) (x := ((σ.2.2.1 2) 2)) (by decide) (by omega); have e9 : (92 : Int32).toInt = 92 := (by decide); rw [s9]; omega)) hd1 hd2 (by decide) hy_X11_puts tg_1582 hc_X11 rfl (WB_0 _) rfl rfl (Nat.le_of_ble_eq_true rfl) rfl tg_1579 tg_1581 tg_92 tg_158 (by decide +kernel) ws H locs ls hR hsz (Nat.zero_le _) (Nat.zero_le _)) rfl (fun r9 w1 hpo => ?_)
              rw [q32] at hpo
              have hp1 : r30 = r9 := hpo.1.symm
              have hp2 := hpo.2
              clear hpo; subst hp1; subst hp2
              have hI33 := inv_X11_puts ((92 : Int32) + ((σ.2.2.1 2) 2)) (1 : Int32) (200 : Int32) σ26 hI28 (by have k9 := B_k2 hI; have n9 := ex_ne8 h1; have s9 := ex_sum (a := (92 : Int32)) (x := ((σ.2.2.1 2) 2)) (by decide) (by omega); have e9 : (92 : Int32).toInt = 92 := (by decide); rw [s9]; omega); rw [q32] at hI33
              refine ex_if_ne (off := 5) (tgt := 152) (np := 150) C (by decide +kernel) (by decide) rfl (fun h34 => ?_) (fun h34 => ?_)
              · skip
                refine ex_aload_n (q := 0) (x := 0) (np := 153) C (by decide +kernel) rfl rfl ?_
                refine ex_getf (q := 7) (v := .ref 3) (np := 156) C hc_X11 hin_X11 (by decide) tg_1382 (by decide +kernel) (WB_0 _) rfl rfl ?_
                refine ex_iconst (n := 2) (v := 2) (np := 157) C (by decide +kernel) (by decide) rfl ?_
                refine ex_dup2 (np := 158) C rfl rfl (by decide +kernel) rfl ?_
                refine ex_iald (f := (σ31.2.2.1 2)) (kk := 2) (np := 159) C (by decide +kernel) (WB_3 _) (by decide) (by decide) rfl ?_
                refine ex_iconst (n := 1) (v := 1) (np := 160) C (by decide +kernel) (by decide) rfl ?_
                refine ex_iadd (v := (((σ31.2.2.1 2) 2) + (1 : Int32))) (np := 161) C (by decide +kernel) rfl rfl ?_
                refine ex_iast (f := (σ31.2.2.1 2)) (kk := 2) (w1 := (WB (sR 2 (upd (σ31.2.2.1 2) 2 (((σ31.2.2.1 2) 2) + (1 : Int32))) σ31))) (np := 162) C (by decide +kernel) (WB_3 _) (by decide) (by decide) (WB_3_s _ _) rfl ?_
                refine ex_iconst (n := 1) (v := 1) (np := 163) C (by decide +kernel) (by decide) rfl ?_
                have E9 : B_readTrain σ = ((1 : Int32), (sR 2 (upd (σ31.2.2.1 2) 2 (((σ31.2.2.1 2) 2) + (1 : Int32))) σ31)) := by unfold B_readTrain; exact (if_neg h1).trans ((ex_lt_eq q3).trans ((ex_bd_eq q7).trans ((if_neg h10).trans ((ex_bd_eq q13).trans ((if_neg h15).trans ((ex_bd_eq q18).trans ((if_neg h20).trans ((if_neg h21).trans ((ex_lt_eq q23).trans ((ex_bd_eq q27).trans ((if_neg h29).trans ((ex_bd_eq q32).trans ((if_neg h34).trans (rfl))))))))))))))
                exact ex_iret C hr hlk (by decide +kernel) rfl (Nat.le_refl _) (Nat.le_refl _) (by rw [E9]; exact ⟨rfl, rfl⟩)
              · skip
                refine ex_iconst (n := 0) (v := 0) (np := 151) C (by decide +kernel) (by decide) rfl ?_
                have E9 : B_readTrain σ = ((0 : Int32), σ31) := by unfold B_readTrain; exact (if_neg h1).trans ((ex_lt_eq q3).trans ((ex_bd_eq q7).trans ((if_neg h10).trans ((ex_bd_eq q13).trans ((if_neg h15).trans ((ex_bd_eq q18).trans ((if_neg h20).trans ((if_neg h21).trans ((ex_lt_eq q23).trans ((ex_bd_eq q27).trans ((if_neg h29).trans ((ex_bd_eq q32).trans ((if_pos h34).trans (rfl))))))))))))))
                exact ex_iret C hr hlk (by decide +kernel) rfl (Nat.le_refl _) (Nat.le_refl _) (by rw [E9]; exact ⟨rfl, rfl⟩)
          · skip
            refine ex_aload_n (q := 0) (x := 0) (np := 98) C (by decide +kernel) rfl rfl ?_
            refine ex_iconst (n := 3) (v := 3) (np := 99) C (by decide +kernel) (by decide) rfl ?_
            obtain ⟨r35, σ36, q37⟩ : ∃ r x, B_bad (3 : Int32) σ17 = (r, x) := ex_pair _
            refine ex_call_i (np := 102) (fun ws H locs ls hR hsz => ex_runV (C1 := "") C (m_X11_bad d (by omega) (3 : Int32) σ17) hd1 hd2 (by decide) hy_X11_bad tg_1566 hc_X11 rfl (WB_0 _) rfl rfl (Nat.le_of_ble_eq_true rfl) rfl tg_1563 tg_1565 tg_88 tg_158 (by decide +kernel) ws H locs ls hR hsz (Nat.zero_le _) (Nat.zero_le _)) rfl (fun r9 w1 hpo => ?_)
            rw [q37] at hpo
            have hp1 : r35 = r9 := hpo.1.symm
            have hp2 := hpo.2
            clear hpo; subst hp1; subst hp2
            have hI38 := inv_X11_bad (3 : Int32) σ17 hI19; rw [q37] at hI38
            have E9 : B_readTrain σ = (r35, σ36) := by unfold B_readTrain; exact (if_neg h1).trans ((ex_lt_eq q3).trans ((ex_bd_eq q7).trans ((if_neg h10).trans ((ex_bd_eq q13).trans ((if_neg h15).trans ((ex_bd_eq q18).trans ((if_neg h20).trans ((if_pos h21).trans ((ex_bd_eq q37).trans (rfl))))))))))
            exact ex_iret C hr hlk (by decide +kernel) (ex_nar (by have b9 := bl_X11_bad (3 : Int32) σ17; rw [q37] at b9; exact b9)) (Nat.le_refl _) (Nat.le_refl _) (by rw [E9]; exact ⟨rfl, rfl⟩)
        · skip
          refine ex_iconst (n := 0) (v := 0) (np := 80) C (by decide +kernel) (by decide) rfl ?_
          have E9 : B_readTrain σ = ((0 : Int32), σ17) := by unfold B_readTrain; exact (if_neg h1).trans ((ex_lt_eq q3).trans ((ex_bd_eq q7).trans ((if_neg h10).trans ((ex_bd_eq q13).trans ((if_neg h15).trans ((ex_bd_eq q18).trans ((if_pos h20).trans (rfl))))))))
          exact ex_iret C hr hlk (by decide +kernel) rfl (Nat.le_refl _) (Nat.le_refl _) (by rw [E9]; exact ⟨rfl, rfl⟩)
      · skip
        refine ex_iconst (n := 0) (v := 0) (np := 50) C (by decide +kernel) (by decide) rfl ?_
        have E9 : B_readTrain σ = ((0 : Int32), σ12) := by unfold B_readTrain; exact (if_neg h1).trans ((ex_lt_eq q3).trans ((ex_bd_eq q7).trans ((if_neg h10).trans ((ex_bd_eq q13).trans ((if_pos h15).trans (rfl))))))
        exact ex_iret C hr hlk (by decide +kernel) rfl (Nat.le_refl _) (Nat.le_refl _) (by rw [E9]; exact ⟨rfl, rfl⟩)
  · skip
    refine ex_aload_n (q := 0) (x := 0) (np := 14) C (by decide +kernel) rfl rfl ?_
    refine ex_iconst (n := 4) (v := 4) (np := 15) C (by decide +kernel) (by decide) rfl ?_
    obtain ⟨r39, σ40, q41⟩ : ∃ r x, B_bad (4 : Int32) σ = (r, x) := ex_pair _
    refine ex_call_i (np := 18) (fun ws H locs ls hR hsz => ex_runV (C1 := "") C (m_X11_bad d (by omega) (4 : Int32) σ) hd1 hd2 (by decide) hy_X11_bad tg_1566 hc_X11 rfl (WB_0 _) rfl rfl (Nat.le_of_ble_eq_true rfl) rfl tg_1563 tg_1565 tg_88 tg_158 (by decide +kernel) ws H locs ls hR hsz (Nat.zero_le _) (Nat.zero_le _)) rfl (fun r9 w1 hpo => ?_)
    rw [q41] at hpo
    have hp1 : r39 = r9 := hpo.1.symm
    have hp2 := hpo.2
    clear hpo; subst hp1; subst hp2
    have hI42 := inv_X11_bad (4 : Int32) σ hI; rw [q41] at hI42
    have E9 : B_readTrain σ = (r39, σ40) := by unfold B_readTrain; exact (if_pos h1).trans ((ex_bd_eq q41).trans (rfl))
    exact ex_iret C hr hlk (by decide +kernel) (ex_nar (by have b9 := bl_X11_bad (4 : Int32) σ; rw [q41] at b9; exact b9)) (Nat.le_refl _) (Nat.le_refl _) (by rw [E9]; exact ⟨rfl, rfl⟩)
set_option maxRecDepth 100000 in
set_option maxHeartbeats 4000000 in
theorem m_X11_line {l : Launch} {X : ab_X} {D : va_G} {A : ex_A} (d : Nat) (hd : 7 ≤ d) (σ : ex_S) (hI : B_INV σ) : ex_ctr l X D A d yX11_line cX11_line 1 (some .boolean) (WB σ) [.ref 0] (fun r w => r = (B_line σ).1 ∧ w = WB (B_line σ).2) := by
  obtain ⟨d, rfl⟩ : ∃ d9, d = d9 + 1 := ⟨d - 1, by omega⟩
  refine ex_meth (own := RX11) rfl (by decide) (Nat.le_of_ble_eq_true rfl) (fun p e R s m below meth c C hr hlk hd1 hd2 => ?_)
  show ex_ok p l e R s m _ below meth c 0 0 _ 1 X D A (WB σ) 0 [(0, .ref 0)] []
  refine ex_aload_n (q := 0) (x := 0) (np := 1) C (by decide +kernel) rfl rfl ?_
  refine ex_ldc2 (np := 4) C tg_1349 (by decide +kernel) rfl ?_
  refine ex_call_i (np := 7) (fun ws H locs ls hR hsz => ex_runV (C1 := "") C (m_X11_isWord d (by omega) (1953462126 : Int64) σ) hd1 hd2 (by decide) hy_X11_isWord tg_1558 hc_X11 rfl (WB_0 _) rfl rfl (Nat.le_of_ble_eq_true rfl) rfl tg_1555 tg_1557 tg_86 tg_158 (by decide +kernel) ws H locs ls hR hsz (Nat.zero_le _) (Nat.zero_le _)) rfl (fun r1 w1 hpo => ?_)
  obtain ⟨q2, rfl⟩ := hpo
  refine ex_if_eq (off := 8) (tgt := 15) (np := 10) C (by decide +kernel) (by decide) rfl (fun h3 => ?_) (fun h3 => ?_)
  · skip
    refine ex_aload_n (q := 0) (x := 0) (np := 16) C (by decide +kernel) rfl rfl ?_
    refine ex_ldc2 (np := 19) C tg_1352 (by decide +kernel) rfl ?_
    refine ex_call_i (np := 22) (fun ws H locs ls hR hsz => ex_runV (C1 := "") C (m_X11_isWord d (by omega) (1952805485 : Int64) σ) hd1 hd2 (by decide) hy_X11_isWord tg_1558 hc_X11 rfl (WB_0 _) rfl rfl (Nat.le_of_ble_eq_true rfl) rfl tg_1555 tg_1557 tg_86 tg_158 (by decide +kernel) ws H locs ls hR hsz (Nat.zero_le _) (Nat.zero_le _)) rfl (fun r4 w1 hpo => ?_)
    obtain ⟨q5, rfl⟩ := hpo
    refine ex_if_eq (off := 8) (tgt := 30) (np := 25) C (by decide +kernel) (by decide) rfl (fun h6 => ?_) (fun h6 => ?_)
    · skip
      refine ex_aload_n (q := 0) (x := 0) (np := 31) C (by decide +kernel) rfl rfl ?_
      refine ex_ldc2 (np := 34) C tg_1353 (by decide +kernel) rfl ?_
      refine ex_call_i (np := 37) (fun ws H locs ls hR hsz => ex_runV (C1 := "") C (m_X11_isWord d (by omega) (500135192942 : Int64) σ) hd1 hd2 (by decide) hy_X11_isWord tg_1558 hc_X11 rfl (WB_0 _) rfl rfl (Nat.le_of_ble_eq_true rfl) rfl tg_1555 tg_1557 tg_86 tg_158 (by decide +kernel) ws H locs ls hR hsz (Nat.zero_le _) (Nat.zero_le _)) rfl (fun r7 w1 hpo => ?_)
      obtain ⟨q8, rfl⟩ := hpo
      refine ex_if_eq (off := 8) (tgt := 45) (np := 40) C (by decide +kernel) (by decide) rfl (fun h10 => ?_) (fun h10 => ?_)
      · skip
        refine ex_aload_n (q := 0) (x := 0) (np := 46) C (by decide +kernel) rfl rfl ?_
        refine ex_ldc2 (np := 49) C tg_1354 (by decide +kernel) rfl ?_
        refine ex_call_i (np := 52) (fun ws H locs ls hR hsz => ex_runV (C1 := "") C (m_X11_isWord d (by omega) (465625246068 : Int64) σ) hd1 hd2 (by decide) hy_X11_isWord tg_1558 hc_X11 rfl (WB_0 _) rfl rfl (Nat.le_of_ble_eq_true rfl) rfl tg_1555 tg_1557 tg_86 tg_158 (by decide +kernel) ws H locs ls hR hsz (Nat.zero_le _) (Nat.zero_le _)) rfl (fun r11 w1 hpo => ?_)
        obtain ⟨q12, rfl⟩ := hpo
        refine ex_if_eq (off := 13) (tgt := 65) (np := 55) C (by decide +kernel) (by decide) rfl (fun h13 => ?_) (fun h13 => ?_)
        · skip
          refine ex_aload_n (q := 0) (x := 0) (np := 66) C (by decide +kernel) rfl rfl ?_
          refine ex_ldc2 (np := 69) C tg_1355 (by decide +kernel) rfl ?_
          refine ex_call_i (np := 72) (fun ws H locs ls hR hsz => ex_runV (C1 := "") C (m_X11_isWord d (by omega) (109299962373989 : Int64) σ) hd1 hd2 (by decide) hy_X11_isWord tg_1558 hc_X11 rfl (WB_0 _) rfl rfl (Nat.le_of_ble_eq_true rfl) rfl tg_1555 tg_1557 tg_86 tg_158 (by decide +kernel) ws H locs ls hR hsz (Nat.zero_le _) (Nat.zero_le _)) rfl (fun r14 w1 hpo => ?_)
          obtain ⟨q15, rfl⟩ := hpo
          refine ex_if_eq (off := 13) (tgt := 85) (np := 75) C (by decide +kernel) (by decide) rfl (fun h16 => ?_) (fun h16 => ?_)
          · skip
            refine ex_aload_n (q := 0) (x := 0) (np := 86) C (by decide +kernel) rfl rfl ?_
            refine ex_ldc2 (np := 89) C tg_1356 (by decide +kernel) rfl ?_
            refine ex_call_i (np := 92) (fun ws H locs ls hR hsz => ex_runV (C1 := "") C (m_X11_isWord d (by omega) (440006570868 : Int64) σ) hd1 hd2 (by decide) hy_X11_isWord tg_1558 hc_X11 rfl (WB_0 _) rfl rfl (Nat.le_of_ble_eq_true rfl) rfl tg_1555 tg_1557 tg_86 tg_158 (by decide +kernel) ws H locs ls hR hsz (Nat.zero_le _) (Nat.zero_le _)) rfl (fun r17 w1 hpo => ?_)
            obtain ⟨q18, rfl⟩ := hpo
            refine ex_if_eq (off := 15) (tgt := 107) (np := 95) C (by decide +kernel) (by decide) rfl (fun h19 => ?_) (fun h19 => ?_)
            · skip
              refine ex_aload_n (q := 0) (x := 0) (np := 108) C (by decide +kernel) rfl rfl ?_
              refine ex_iconst (n := 1) (v := 1) (np := 109) C (by decide +kernel) (by decide) rfl ?_
              obtain ⟨r20, σ21, q22⟩ : ∃ r x, B_bad (1 : Int32) σ = (r, x) := ex_pair _
              refine ex_call_i (np := 112) (fun ws H locs ls hR hsz => ex_runV (C1 := "") C (m_X11_bad d (by omega) (1 : Int32) σ) hd1 hd2 (by decide) hy_X11_bad tg_1566 hc_X11 rfl (WB_0 _) rfl rfl (Nat.le_of_ble_eq_true rfl) rfl tg_1563 tg_1565 tg_88 tg_158 (by decide +kernel) ws H locs ls hR hsz (Nat.zero_le _) (Nat.zero_le _)) rfl (fun r9 w1 hpo => ?_)
              rw [q22] at hpo
              have hp1 : r20 = r9 := hpo.1.symm
              have hp2 := hpo.2
              clear hpo; subst hp1; subst hp2
              have hI23 := inv_X11_bad (1 : Int32) σ hI; rw [q22] at hI23
              have E9 : B_line σ = (r20, σ21) := by unfold B_line; exact (ex_lt_eq q2).trans ((if_pos h3).trans ((ex_lt_eq q5).trans ((if_pos h6).trans ((ex_lt_eq q8).trans ((if_pos h10).trans ((ex_lt_eq q12).trans ((if_pos h13).trans ((ex_lt_eq q15).trans ((if_pos h16).trans ((ex_lt_eq q18).trans ((if_pos h19).trans ((ex_bd_eq q22).trans (rfl)))))))))))))
              exact ex_iret C hr hlk (by decide +kernel) (ex_nar (by have b9 := bl_X11_bad (1 : Int32) σ; rw [q22] at b9; exact b9)) (Nat.le_refl _) (Nat.le_refl _) (by rw [E9]; exact ⟨rfl, rfl⟩)
            · skip
              refine ex_aload_n (q := 0) (x := 0) (np := 96) C (by decide +kernel) rfl rfl ?_
              refine ex_iconst (n := 2) (v := 2) (np := 97) C (by decide +kernel) (by decide) rfl ?_
              refine ex_iconst (n := 5) (v := 5) (np := 98) C (by decide +kernel) (by decide) rfl ?_
              refine ex_iconst (n := 0) (v := 0) (np := 99) C (by decide +kernel) (by decide) rfl ?_
              refine ex_bipush (n := 12) (v := 12) (np := 101) C (by decide +kernel) (by decide) rfl ?_
              obtain ⟨r24, σ25, q26⟩ : ∃ r x, B_once (2 : Int32) (5 : Int32) (0 : Int32) (12 : Int32) σ = (r, x) := ex_pair _
              refine ex_call_i (np := 104) (fun ws H locs ls hR hsz => ex_runV (C1 := "") C (m_X11_once d (by omega) (2 : Int32) (5 : Int32) (0 : Int32) (12 : Int32) σ hI (by decide)) hd1 hd2 (by decide) hy_X11_once tg_1613 hc_X11 rfl (WB_0 _) rfl rfl (Nat.le_of_ble_eq_true rfl) rfl tg_1610 tg_1612 tg_99 tg_158 (by decide +kernel) ws H locs ls hR hsz (Nat.zero_le _) (Nat.zero_le _)) rfl (fun r9 w1 hpo => ?_)
              rw [q26] at hpo
              have hp1 : r24 = r9 := hpo.1.symm
              have hp2 := hpo.2
              clear hpo; subst hp1; subst hp2
              have hI27 := inv_X11_once (2 : Int32) (5 : Int32) (0 : Int32) (12 : Int32) σ hI (by decide); rw [q26] at hI27
              refine ex_goto (off := 8) (tgt := 112) C (by decide +kernel) (by decide) ?_
              have E9 : B_line σ = (r24, σ25) := by unfold B_line; exact (ex_lt_eq q2).trans ((if_pos h3).trans ((ex_lt_eq q5).trans ((if_pos h6).trans ((ex_lt_eq q8).trans ((if_pos h10).trans ((ex_lt_eq q12).trans ((if_pos h13).trans ((ex_lt_eq q15).trans ((if_pos h16).trans ((ex_lt_eq q18).trans ((if_neg h19).trans ((ex_bd_eq q26).trans (rfl)))))))))))))
              exact ex_iret C hr hlk (by decide +kernel) (ex_nar (by have b9 := bl_X11_once (2 : Int32) (5 : Int32) (0 : Int32) (12 : Int32) σ; rw [q26] at b9; exact b9)) (Nat.le_refl _) (Nat.le_refl _) (by rw [E9]; exact ⟨rfl, rfl⟩)
          · skip
            refine ex_aload_n (q := 0) (x := 0) (np := 76) C (by decide +kernel) rfl rfl ?_
            refine ex_iconst (n := 1) (v := 1) (np := 77) C (by decide +kernel) (by decide) rfl ?_
            refine ex_iconst (n := 4) (v := 4) (np := 78) C (by decide +kernel) (by decide) rfl ?_
            refine ex_iconst (n := 0) (v := 0) (np := 79) C (by decide +kernel) (by decide) rfl ?_
            refine ex_bipush (n := 30) (v := 30) (np := 81) C (by decide +kernel) (by decide) rfl ?_
            obtain ⟨r28, σ29, q30⟩ : ∃ r x, B_once (1 : Int32) (4 : Int32) (0 : Int32) (30 : Int32) σ = (r, x) := ex_pair _
            refine ex_call_i (np := 84) (fun ws H locs ls hR hsz => ex_runV (C1 := "") C (m_X11_once d (by omega) (1 : Int32) (4 : Int32) (0 : Int32) (30 : Int32) σ hI (by decide)) hd1 hd2 (by decide) hy_X11_once tg_1613 hc_X11 rfl (WB_0 _) rfl rfl (Nat.le_of_ble_eq_true rfl) rfl tg_1610 tg_1612 tg_99 tg_158 (by decide +kernel) ws H locs ls hR hsz (Nat.zero_le _) (Nat.zero_le _)) rfl (fun r9 w1 hpo => ?_)
            rw [q30] at hpo
            have hp1 : r28 = r9 := hpo.1.symm
            have hp2 := hpo.2
            clear hpo; subst hp1; subst hp2
            have hI31 := inv_X11_once (1 : Int32) (4 : Int32) (0 : Int32) (30 : Int32) σ hI (by decide); rw [q30] at hI31
            have E9 : B_line σ = (r28, σ29) := by unfold B_line; exact (ex_lt_eq q2).trans ((if_pos h3).trans ((ex_lt_eq q5).trans ((if_pos h6).trans ((ex_lt_eq q8).trans ((if_pos h10).trans ((ex_lt_eq q12).trans ((if_pos h13).trans ((ex_lt_eq q15).trans ((if_neg h16).trans ((ex_bd_eq q30).trans (rfl)))))))))))
            exact ex_iret C hr hlk (by decide +kernel) (ex_nar (by have b9 := bl_X11_once (1 : Int32) (4 : Int32) (0 : Int32) (30 : Int32) σ; rw [q30] at b9; exact b9)) (Nat.le_refl _) (Nat.le_refl _) (by rw [E9]; exact ⟨rfl, rfl⟩)
        · skip
          refine ex_aload_n (q := 0) (x := 0) (np := 56) C (by decide +kernel) rfl rfl ?_
          refine ex_iconst (n := 0) (v := 0) (np := 57) C (by decide +kernel) (by decide) rfl ?_
          refine ex_iconst (n := 3) (v := 3) (np := 58) C (by decide +kernel) (by decide) rfl ?_
          refine ex_iconst (n := 1) (v := 1) (np := 59) C (by decide +kernel) (by decide) rfl ?_
          refine ex_bipush (n := 10) (v := 10) (np := 61) C (by decide +kernel) (by decide) rfl ?_
          obtain ⟨r32, σ33, q34⟩ : ∃ r x, B_once (0 : Int32) (3 : Int32) (1 : Int32) (10 : Int32) σ = (r, x) := ex_pair _
          refine ex_call_i (np := 64) (fun ws H locs ls hR hsz => ex_runV (C1 := "") C (m_X11_once d (by omega) (0 : Int32) (3 : Int32) (1 : Int32) (10 : Int32) σ hI (by decide)) hd1 hd2 (by decide) hy_X11_once tg_1613 hc_X11 rfl (WB_0 _) rfl rfl (Nat.le_of_ble_eq_true rfl) rfl tg_1610 tg_1612 tg_99 tg_158 (by decide +kernel) ws H locs ls hR hsz (Nat.zero_le _) (Nat.zero_le _)) rfl (fun r9 w1 hpo => ?_)
          rw [q34] at hpo
          have hp1 : r32 = r9 := hpo.1.symm
          have hp2 := hpo.2
          clear hpo; subst hp1; subst hp2
          have hI35 := inv_X11_once (0 : Int32) (3 : Int32) (1 : Int32) (10 : Int32) σ hI (by decide); rw [q34] at hI35
          have E9 : B_line σ = (r32, σ33) := by unfold B_line; exact (ex_lt_eq q2).trans ((if_pos h3).trans ((ex_lt_eq q5).trans ((if_pos h6).trans ((ex_lt_eq q8).trans ((if_pos h10).trans ((ex_lt_eq q12).trans ((if_neg h13).trans ((ex_bd_eq q34).trans (rfl)))))))))
          exact ex_iret C hr hlk (by decide +kernel) (ex_nar (by have b9 := bl_X11_once (0 : Int32) (3 : Int32) (1 : Int32) (10 : Int32) σ; rw [q34] at b9; exact b9)) (Nat.le_refl _) (Nat.le_refl _) (by rw [E9]; exact ⟨rfl, rfl⟩)
      · skip
        refine ex_aload_n (q := 0) (x := 0) (np := 41) C (by decide +kernel) rfl rfl ?_
        obtain ⟨r36, σ37, q38⟩ : ∃ r x, B_readTrain σ = (r, x) := ex_pair _
        refine ex_call_i (np := 44) (fun ws H locs ls hR hsz => ex_runV (C1 := "") C (m_X11_readTrain d (by omega) σ hI) hd1 hd2 (by decide) hy_X11_readTrain tg_1609 hc_X11 rfl (WB_0 _) rfl rfl (Nat.le_of_ble_eq_true rfl) rfl tg_1606 tg_1608 tg_98 tg_158 (by decide +kernel) ws H locs ls hR hsz (Nat.zero_le _) (Nat.zero_le _)) rfl (fun r9 w1 hpo => ?_)
        rw [q38] at hpo
        have hp1 : r36 = r9 := hpo.1.symm
        have hp2 := hpo.2
        clear hpo; subst hp1; subst hp2
        have hI39 := inv_X11_readTrain σ hI; rw [q38] at hI39
        have E9 : B_line σ = (r36, σ37) := by unfold B_line; exact (ex_lt_eq q2).trans ((if_pos h3).trans ((ex_lt_eq q5).trans ((if_pos h6).trans ((ex_lt_eq q8).trans ((if_neg h10).trans ((ex_bd_eq q38).trans (rfl)))))))
        exact ex_iret C hr hlk (by decide +kernel) (ex_nar (by have b9 := bl_X11_readTrain  σ; rw [q38] at b9; exact b9)) (Nat.le_refl _) (Nat.le_refl _) (by rw [E9]; exact ⟨rfl, rfl⟩)
    · skip
      refine ex_aload_n (q := 0) (x := 0) (np := 26) C (by decide +kernel) rfl rfl ?_
      obtain ⟨r40, σ41, q42⟩ : ∃ r x, B_readTerm σ = (r, x) := ex_pair _
      refine ex_call_i (np := 29) (fun ws H locs ls hR hsz => ex_runV (C1 := "") C (m_X11_readTerm d (by omega) σ hI) hd1 hd2 (by decide) hy_X11_readTerm tg_1597 hc_X11 rfl (WB_0 _) rfl rfl (Nat.le_of_ble_eq_true rfl) rfl tg_1594 tg_1596 tg_95 tg_158 (by decide +kernel) ws H locs ls hR hsz (Nat.zero_le _) (Nat.zero_le _)) rfl (fun r9 w1 hpo => ?_)
      rw [q42] at hpo
      have hp1 : r40 = r9 := hpo.1.symm
      have hp2 := hpo.2
      clear hpo; subst hp1; subst hp2
      have hI43 := inv_X11_readTerm σ hI; rw [q42] at hI43
      have E9 : B_line σ = (r40, σ41) := by unfold B_line; exact (ex_lt_eq q2).trans ((if_pos h3).trans ((ex_lt_eq q5).trans ((if_neg h6).trans ((ex_bd_eq q42).trans (rfl)))))
      exact ex_iret C hr hlk (by decide +kernel) (ex_nar (by have b9 := bl_X11_readTerm  σ; rw [q42] at b9; exact b9)) (Nat.le_refl _) (Nat.le_refl _) (by rw [E9]; exact ⟨rfl, rfl⟩)
  · skip
    refine ex_aload_n (q := 0) (x := 0) (np := 11) C (by decide +kernel) rfl rfl ?_
    obtain ⟨r44, σ45, q46⟩ : ∃ r x, B_readTown σ = (r, x) := ex_pair _
    refine ex_call_i (np := 14) (fun ws H locs ls hR hsz => ex_runV (C1 := "") C (m_X11_readTown d (by omega) σ hI) hd1 hd2 (by decide) hy_X11_readTown tg_1562 hc_X11 rfl (WB_0 _) rfl rfl (Nat.le_of_ble_eq_true rfl) rfl tg_1559 tg_1561 tg_87 tg_158 (by decide +kernel) ws H locs ls hR hsz (Nat.zero_le _) (Nat.zero_le _)) rfl (fun r9 w1 hpo => ?_)
    rw [q46] at hpo
    have hp1 : r44 = r9 := hpo.1.symm
    have hp2 := hpo.2
    clear hpo; subst hp1; subst hp2
    have hI47 := inv_X11_readTown σ hI; rw [q46] at hI47
    have E9 : B_line σ = (r44, σ45) := by unfold B_line; exact (ex_lt_eq q2).trans ((if_neg h3).trans ((ex_bd_eq q46).trans (rfl)))
    exact ex_iret C hr hlk (by decide +kernel) (ex_nar (by have b9 := bl_X11_readTown  σ; rw [q46] at b9; exact b9)) (Nat.le_refl _) (Nat.le_refl _) (by rw [E9]; exact ⟨rfl, rfl⟩)
