/-! Contracts of the parsers' methods. -/
set_option maxRecDepth 100000 in
set_option maxHeartbeats 4000000 in
theorem m_X11_readTown {l : Launch} {X : ab_X} {D : va_G} {A : ex_A} (d : Nat) (hd : 6 ≤ d) (σ : ex_S) (hI : B_INV σ) : ex_ctr l X D A d yX11_readTown cX11_readTown 2 (some .boolean) (WB σ) [.ref 0] (fun r w => r = (B_readTown σ).1 ∧ w = WB (B_readTown σ).2) := by
  obtain ⟨d, rfl⟩ : ∃ d9, d = d9 + 1 := ⟨d - 1, by omega⟩
  refine ex_meth (own := RX11) rfl (by decide) (Nat.le_of_ble_eq_true rfl) (fun p e R s m below meth c C hr hlk hd1 hd2 => ?_)
  show ex_ok p l e R s m _ below meth c 0 0 _ 2 X D A (WB σ) 0 [(0, .ref 0)] []
  refine ex_aload_n (q := 0) (x := 0) (np := 1) C (by decide +kernel) rfl rfl ?_
  refine ex_getf (q := 7) (v := .ref 3) (np := 4) C hc_X11 hin_X11 (by decide) tg_1382 (by decide +kernel) (WB_0 _) rfl rfl ?_
  refine ex_iconst (n := 0) (v := 0) (np := 5) C (by decide +kernel) (by decide) rfl ?_
  refine ex_iald (f := (σ.2.2.1 2)) (kk := 0) (np := 6) C (by decide +kernel) (WB_3 _) (by decide) (by decide) rfl ?_
  refine ex_istore_n (q := 1) (np := 7) (lv1 := [(1, .int ((σ.2.2.1 2) 0)), (0, .ref 0)]) C (by decide) (by decide +kernel) rfl rfl ?_
  refine ex_iload_n (q := 1) (x := ((σ.2.2.1 2) 0)) (np := 8) C (by decide +kernel) rfl rfl ?_
  refine ex_bipush (n := 7) (v := 7) (np := 10) C (by decide +kernel) (by decide) rfl ?_
  refine ex_icmp_ne (off := 9) (tgt := 19) (np := 13) C (by decide +kernel) (by decide) rfl (fun h1 => ?_) (fun h1 => ?_)
  · skip
    refine ex_aload_n (q := 0) (x := 0) (np := 20) C (by decide +kernel) rfl rfl ?_
    obtain ⟨σ2, q3⟩ : ∃ x, x = B_next σ := ⟨_, rfl⟩
    refine ex_call_v (np := 23) (fun ws H locs ls hR hsz => ex_runV (C1 := "") C (m_X11_next d (by omega) σ hI) hd1 hd2 (by decide) hy_X11_next tg_1540 hc_X11 rfl (WB_0 _) rfl rfl (Nat.le_of_ble_eq_true rfl) rfl tg_1537 tg_1539 tg_83 tg_158 (by decide +kernel) ws H locs ls hR hsz (Nat.zero_le _) (Nat.zero_le _)) rfl (fun w1 hpo => ?_)
    rw [← q3] at hpo
    subst hpo
    have hI4 := inv_X11_next σ hI; rw [← q3] at hI4
    refine ex_aload_n (q := 0) (x := 0) (np := 24) C (by decide +kernel) rfl rfl ?_
    refine ex_bipush (n := 15) (v := 15) (np := 26) C (by decide +kernel) (by decide) rfl ?_
    refine ex_iload_n (q := 1) (x := ((σ.2.2.1 2) 0)) (np := 27) C (by decide +kernel) rfl rfl ?_
    refine ex_iadd (v := ((15 : Int32) + ((σ.2.2.1 2) 0))) (np := 28) C (by decide +kernel) rfl rfl ?_
    obtain ⟨r5, σ6, q7⟩ : ∃ r x, B_fresh ((15 : Int32) + ((σ.2.2.1 2) 0)) σ2 = (r, x) := ex_pair _
    refine ex_call_i (np := 31) (fun ws H locs ls hR hsz => ex_runV (C1 := "") C (m_X11_fresh d (by omega) ((15 : Int32) + ((σ.2.2.1 2) 0)) σ2 hI4 (by have k9 := B_k0 hI; have s9 := ex_sum (a := (15 : Int32)) (x := ((σ.2.2.1 2) 0)) (by decide) (by omega); have e9 : (15 : Int32).toInt = 15 := (by decide); rw [s9]; omega)) hd1 hd2 (by decide) hy_X11_fresh tg_1570 hc_X11 rfl (WB_0 _) rfl rfl (Nat.le_of_ble_eq_true rfl) rfl tg_1567 tg_1569 tg_89 tg_158 (by decide +kernel) ws H locs ls hR hsz (Nat.zero_le _) (Nat.zero_le _)) rfl (fun r9 w1 hpo => ?_)
    rw [q7] at hpo
    have hp1 : r5 = r9 := hpo.1.symm
    have hp2 := hpo.2
    clear hpo; subst hp1; subst hp2
    have hI8 := inv_X11_fresh ((15 : Int32) + ((σ.2.2.1 2) 0)) σ2 hI4 (by have k9 := B_k0 hI; have s9 := ex_sum (a := (15 : Int32)) (x := ((σ.2.2.1 2) 0)) (by decide) (by omega); have e9 : (15 : Int32).toInt = 15 := (by decide); rw [s9]; omega); rw [q7] at hI8
    refine ex_if_eq (off := 17) (tgt := 48) (np := 34) C (by decide +kernel) (by decide) rfl (fun h10 => ?_) (fun h10 => ?_)
    · skip
      refine ex_iconst (n := 0) (v := 0) (np := 49) C (by decide +kernel) (by decide) rfl ?_
      have E9 : B_readTown σ = ((0 : Int32), σ6) := by unfold B_readTown; exact (if_neg h1).trans ((ex_lt_eq q3).trans ((ex_bd_eq q7).trans ((if_pos h10).trans (rfl))))
      exact ex_iret C hr hlk (by decide +kernel) rfl (Nat.le_refl _) (Nat.le_refl _) (by rw [E9]; exact ⟨rfl, rfl⟩)
    · skip
      refine ex_aload_n (q := 0) (x := 0) (np := 35) C (by decide +kernel) rfl rfl ?_
      refine ex_bipush (n := 6) (v := 6) (np := 37) C (by decide +kernel) (by decide) rfl ?_
      refine ex_iload_n (q := 1) (x := ((σ.2.2.1 2) 0)) (np := 38) C (by decide +kernel) rfl rfl ?_
      refine ex_iadd (v := ((6 : Int32) + ((σ.2.2.1 2) 0))) (np := 39) C (by decide +kernel) rfl rfl ?_
      refine ex_iconst (n := 0) (v := 0) (np := 40) C (by decide +kernel) (by decide) rfl ?_
      refine ex_bipush (n := 60) (v := 60) (np := 42) C (by decide +kernel) (by decide) rfl ?_
      obtain ⟨r11, σ12, q13⟩ : ∃ r x, B_puts ((6 : Int32) + ((σ.2.2.1 2) 0)) (0 : Int32) (60 : Int32) σ6 = (r, x) := ex_pair _
      refine ex_call_i (np := 45) (fun ws H locs ls hR hsz => ex_runV (C1 := "") C (m_X11_puts d (by omega) ((6 : Int32) + ((σ.2.2.1 2) 0)) (0 : Int32) (60 : Int32) σ6 hI8 (by have k9 := B_k0 hI; have s9 := ex_sum (a := (6 : Int32)) (x := ((σ.2.2.1 2) 0)) (by decide) (by omega); have e9 : (6 : Int32).toInt = 6 := (by decide); rw [s9]; omega)) hd1 hd2 (by decide) hy_X11_puts tg_1582 hc_X11 rfl (WB_0 _) rfl rfl (Nat.le_of_ble_eq_true rfl) rfl tg_1579 tg_1581 tg_92 tg_158 (by decide +kernel) ws H locs ls hR hsz (Nat.zero_le _) (Nat.zero_le _)) rfl (fun r9 w1 hpo => ?_)
      rw [q13] at hpo
      have hp1 : r11 = r9 := hpo.1.symm
      have hp2 := hpo.2
      clear hpo; subst hp1; subst hp2
      have hI14 := inv_X11_puts ((6 : Int32) + ((σ.2.2.1 2) 0)) (0 : Int32) (60 : Int32) σ6 hI8 (by have k9 := B_k0 hI; have s9 := ex_sum (a := (6 : Int32)) (x := ((σ.2.2.1 2) 0)) (by decide) (by omega); have e9 : (6 : Int32).toInt = 6 := (by decide); rw [s9]; omega); rw [q13] at hI14
      refine ex_if_ne (off := 5) (tgt := 50) (np := 48) C (by decide +kernel) (by decide) rfl (fun h15 => ?_) (fun h15 => ?_)
      · skip
        refine ex_aload_n (q := 0) (x := 0) (np := 51) C (by decide +kernel) rfl rfl ?_
        refine ex_getf (q := 7) (v := .ref 3) (np := 54) C hc_X11 hin_X11 (by decide) tg_1382 (by decide +kernel) (WB_0 _) rfl rfl ?_
        refine ex_bipush (n := 13) (v := 13) (np := 56) C (by decide +kernel) (by decide) rfl ?_
        refine ex_iload_n (q := 1) (x := ((σ.2.2.1 2) 0)) (np := 57) C (by decide +kernel) rfl rfl ?_
        refine ex_iadd (v := ((13 : Int32) + ((σ.2.2.1 2) 0))) (np := 58) C (by decide +kernel) rfl rfl ?_
        refine ex_iconst (n := 0) (v := 0) (np := 59) C (by decide +kernel) (by decide) rfl ?_
        refine ex_iast (f := (σ12.2.2.1 2)) (kk := (((13 : Int32) + ((σ.2.2.1 2) 0))).toNatClampNeg) (w1 := (WB (sR 2 (upd (σ12.2.2.1 2) (((13 : Int32) + ((σ.2.2.1 2) 0))).toNatClampNeg (0 : Int32)) σ12))) (np := 60) C (by decide +kernel) (WB_3 _) (by have k9 := B_k0 hI; have s9 := ex_sum (a := (13 : Int32)) (x := ((σ.2.2.1 2) 0)) (by decide) (by omega); have e9 : (13 : Int32).toInt = 13 := (by decide); rw [s9]; omega) rfl (WB_3_s _ _) rfl ?_
        refine ex_aload_n (q := 0) (x := 0) (np := 61) C (by decide +kernel) rfl rfl ?_
        refine ex_ldc2 (np := 64) C tg_1350 (by decide +kernel) rfl ?_
        refine ex_call_i (np := 67) (fun ws H locs ls hR hsz => ex_runV (C1 := "") C (m_X11_isWord d (by omega) (1717662580 : Int64) (sR 2 (upd (σ12.2.2.1 2) (((13 : Int32) + ((σ.2.2.1 2) 0))).toNatClampNeg (0 : Int32)) σ12)) hd1 hd2 (by decide) hy_X11_isWord tg_1558 hc_X11 rfl (WB_0 _) rfl rfl (Nat.le_of_ble_eq_true rfl) rfl tg_1555 tg_1557 tg_86 tg_158 (by decide +kernel) ws H locs ls hR hsz (Nat.zero_le _) (Nat.zero_le _)) rfl (fun r16 w1 hpo => ?_)
        obtain ⟨q17, rfl⟩ := hpo
        refine ex_if_ne (off := 13) (tgt := 80) (np := 70) C (by decide +kernel) (by decide) rfl (fun h18 => ?_) (fun h18 => ?_)
        · skip
          refine ex_aload_n (q := 0) (x := 0) (np := 81) C (by decide +kernel) rfl rfl ?_
          refine ex_iconst (n := 1) (v := 1) (np := 82) C (by decide +kernel) (by decide) rfl ?_
          refine ex_bipush (n := 30) (v := 30) (np := 84) C (by decide +kernel) (by decide) rfl ?_
          obtain ⟨r19, σ20, q21⟩ : ∃ r x, B_takesWay (1 : Int32) (30 : Int32) (sR 2 (upd (σ12.2.2.1 2) (((13 : Int32) + ((σ.2.2.1 2) 0))).toNatClampNeg (0 : Int32)) σ12) = (r, x) := ex_pair _
          refine ex_call_i (np := 87) (fun ws H locs ls hR hsz => ex_runV (C1 := "") C (m_X11_takesWay d (by omega) (1 : Int32) (30 : Int32) (sR 2 (upd (σ12.2.2.1 2) (((13 : Int32) + ((σ.2.2.1 2) 0))).toNatClampNeg (0 : Int32)) σ12) (B_INV_h hI14 (by have k9 := B_k0 hI; have s9 := ex_sum (a := (13 : Int32)) (x := ((σ.2.2.1 2) 0)) (by decide) (by omega); have e9 : (13 : Int32).toInt = 13 := (by decide); have c9 := ex_cl (x := ((13 : Int32) + ((σ.2.2.1 2) 0))) (by rw [s9]; omega); rw [s9] at c9; omega))) hd1 hd2 (by decide) hy_X11_takesWay tg_1593 hc_X11 rfl (WB_0 _) rfl rfl (Nat.le_of_ble_eq_true rfl) rfl tg_1590 tg_1592 tg_94 tg_158 (by decide +kernel) ws H locs ls hR hsz (Nat.zero_le _) (Nat.zero_le _)) rfl (fun r9 w1 hpo => ?_)
          rw [q21] at hpo
          have hp1 : r19 = r9 := hpo.1.symm
          have hp2 := hpo.2
          clear hpo; subst hp1; subst hp2
          have hI22 := inv_X11_takesWay (1 : Int32) (30 : Int32) (sR 2 (upd (σ12.2.2.1 2) (((13 : Int32) + ((σ.2.2.1 2) 0))).toNatClampNeg (0 : Int32)) σ12) (B_INV_h hI14 (by have k9 := B_k0 hI; have s9 := ex_sum (a := (13 : Int32)) (x := ((σ.2.2.1 2) 0)) (by decide) (by omega); have e9 : (13 : Int32).toInt = 13 := (by decide); have c9 := ex_cl (x := ((13 : Int32) + ((σ.2.2.1 2) 0))) (by rw [s9]; omega); rw [s9] at c9; omega)); rw [q21] at hI22
          refine ex_if_ne (off := 5) (tgt := 92) (np := 90) C (by decide +kernel) (by decide) rfl (fun h23 => ?_) (fun h23 => ?_)
          · skip
            refine ex_aload_n (q := 0) (x := 0) (np := 93) C (by decide +kernel) rfl rfl ?_
            refine ex_getf (q := 7) (v := .ref 3) (np := 96) C hc_X11 hin_X11 (by decide) tg_1382 (by decide +kernel) (WB_0 _) rfl rfl ?_
            refine ex_bipush (n := 13) (v := 13) (np := 98) C (by decide +kernel) (by decide) rfl ?_
            refine ex_iload_n (q := 1) (x := ((σ.2.2.1 2) 0)) (np := 99) C (by decide +kernel) rfl rfl ?_
            refine ex_iadd (v := ((13 : Int32) + ((σ.2.2.1 2) 0))) (np := 100) C (by decide +kernel) rfl rfl ?_
            refine ex_aload_n (q := 0) (x := 0) (np := 101) C (by decide +kernel) rfl rfl ?_
            refine ex_getf (q := 18) (v := .int (σ20.1 11)) (np := 104) C hc_X11 hin_X11 (by decide) tg_1393 (by decide +kernel) (WB_0 _) rfl rfl ?_
            refine ex_iast (f := (σ20.2.2.1 2)) (kk := (((13 : Int32) + ((σ.2.2.1 2) 0))).toNatClampNeg) (w1 := (WB (sR 2 (upd (σ20.2.2.1 2) (((13 : Int32) + ((σ.2.2.1 2) 0))).toNatClampNeg (σ20.1 11)) σ20))) (np := 105) C (by decide +kernel) (WB_3 _) (by have k9 := B_k0 hI; have s9 := ex_sum (a := (13 : Int32)) (x := ((σ.2.2.1 2) 0)) (by decide) (by omega); have e9 : (13 : Int32).toInt = 13 := (by decide); rw [s9]; omega) rfl (WB_3_s _ _) rfl ?_
            refine ex_aload_n (q := 0) (x := 0) (np := 106) C (by decide +kernel) rfl rfl ?_
            refine ex_getf (q := 7) (v := .ref 3) (np := 109) C hc_X11 hin_X11 (by decide) tg_1382 (by decide +kernel) (WB_0 _) rfl rfl ?_
            refine ex_iconst (n := 0) (v := 0) (np := 110) C (by decide +kernel) (by decide) rfl ?_
            refine ex_dup2 (np := 111) C rfl rfl (by decide +kernel) rfl ?_
            refine ex_iald (f := (upd (σ20.2.2.1 2) (((13 : Int32) + ((σ.2.2.1 2) 0))).toNatClampNeg (σ20.1 11))) (kk := 0) (np := 112) C (by decide +kernel) (WB_3 _) (by decide) (by decide) rfl ?_
            refine ex_iconst (n := 1) (v := 1) (np := 113) C (by decide +kernel) (by decide) rfl ?_
            refine ex_iadd (v := (((upd (σ20.2.2.1 2) (((13 : Int32) + ((σ.2.2.1 2) 0))).toNatClampNeg (σ20.1 11)) 0) + (1 : Int32))) (np := 114) C (by decide +kernel) rfl rfl ?_
            refine ex_iast (f := (upd (σ20.2.2.1 2) (((13 : Int32) + ((σ.2.2.1 2) 0))).toNatClampNeg (σ20.1 11))) (kk := 0) (w1 := (WB (sR 2 (upd (upd (σ20.2.2.1 2) (((13 : Int32) + ((σ.2.2.1 2) 0))).toNatClampNeg (σ20.1 11)) 0 (((upd (σ20.2.2.1 2) (((13 : Int32) + ((σ.2.2.1 2) 0))).toNatClampNeg (σ20.1 11)) 0) + (1 : Int32))) (sR 2 (upd (σ20.2.2.1 2) (((13 : Int32) + ((σ.2.2.1 2) 0))).toNatClampNeg (σ20.1 11)) σ20)))) (np := 115) C (by decide +kernel) (WB_3 _) (by decide) (by decide) (WB_3_s _ _) rfl ?_
            refine ex_iconst (n := 1) (v := 1) (np := 116) C (by decide +kernel) (by decide) rfl ?_
            have E9 : B_readTown σ = ((1 : Int32), (sR 2 (upd (upd (σ20.2.2.1 2) (((13 : Int32) + ((σ.2.2.1 2) 0))).toNatClampNeg (σ20.1 11)) 0 (((upd (σ20.2.2.1 2) (((13 : Int32) + ((σ.2.2.1 2) 0))).toNatClampNeg (σ20.1 11)) 0) + (1 : Int32))) (sR 2 (upd (σ20.2.2.1 2) (((13 : Int32) + ((σ.2.2.1 2) 0))).toNatClampNeg (σ20.1 11)) σ20))) := by unfold B_readTown; exact (if_neg h1).trans ((ex_lt_eq q3).trans ((ex_bd_eq q7).trans ((if_neg h10).trans ((ex_bd_eq q13).trans ((if_neg h15).trans ((ex_lt_eq q17).trans ((if_neg h18).trans ((ex_bd_eq q21).trans ((if_neg h23).trans (rfl))))))))))
            exact ex_iret C hr hlk (by decide +kernel) rfl (Nat.le_refl _) (Nat.le_refl _) (by rw [E9]; exact ⟨rfl, rfl⟩)
          · skip
            refine ex_iconst (n := 0) (v := 0) (np := 91) C (by decide +kernel) (by decide) rfl ?_
            have E9 : B_readTown σ = ((0 : Int32), σ20) := by unfold B_readTown; exact (if_neg h1).trans ((ex_lt_eq q3).trans ((ex_bd_eq q7).trans ((if_neg h10).trans ((ex_bd_eq q13).trans ((if_neg h15).trans ((ex_lt_eq q17).trans ((if_neg h18).trans ((ex_bd_eq q21).trans ((if_pos h23).trans (rfl))))))))))
            exact ex_iret C hr hlk (by decide +kernel) rfl (Nat.le_refl _) (Nat.le_refl _) (by rw [E9]; exact ⟨rfl, rfl⟩)
        · skip
          refine ex_aload_n (q := 0) (x := 0) (np := 71) C (by decide +kernel) rfl rfl ?_
          refine ex_ldc2 (np := 74) C tg_1351 (by decide +kernel) rfl ?_
          refine ex_call_i (np := 77) (fun ws H locs ls hR hsz => ex_runV (C1 := "") C (m_X11_isWord d (by omega) (1936486263 : Int64) (sR 2 (upd (σ12.2.2.1 2) (((13 : Int32) + ((σ.2.2.1 2) 0))).toNatClampNeg (0 : Int32)) σ12)) hd1 hd2 (by decide) hy_X11_isWord tg_1558 hc_X11 rfl (WB_0 _) rfl rfl (Nat.le_of_ble_eq_true rfl) rfl tg_1555 tg_1557 tg_86 tg_158 (by decide +kernel) ws H locs ls hR hsz (Nat.zero_le _) (Nat.zero_le _)) rfl (fun r24 w1 hpo => ?_)
          obtain ⟨q25, rfl⟩ := hpo
          refine ex_if_eq (off := 28) (tgt := 105) (np := 80) C (by decide +kernel) (by decide) rfl (fun h26 => ?_) (fun h26 => ?_)
          · skip
            refine ex_aload_n (q := 0) (x := 0) (np := 106) C (by decide +kernel) rfl rfl ?_
            refine ex_getf (q := 7) (v := .ref 3) (np := 109) C hc_X11 hin_X11 (by decide) tg_1382 (by decide +kernel) (WB_0 _) rfl rfl ?_
            refine ex_iconst (n := 0) (v := 0) (np := 110) C (by decide +kernel) (by decide) rfl ?_
            refine ex_dup2 (np := 111) C rfl rfl (by decide +kernel) rfl ?_
            refine ex_iald (f := (upd (σ12.2.2.1 2) (((13 : Int32) + ((σ.2.2.1 2) 0))).toNatClampNeg (0 : Int32))) (kk := 0) (np := 112) C (by decide +kernel) (WB_3 _) (by decide) (by decide) rfl ?_
            refine ex_iconst (n := 1) (v := 1) (np := 113) C (by decide +kernel) (by decide) rfl ?_
            refine ex_iadd (v := (((upd (σ12.2.2.1 2) (((13 : Int32) + ((σ.2.2.1 2) 0))).toNatClampNeg (0 : Int32)) 0) + (1 : Int32))) (np := 114) C (by decide +kernel) rfl rfl ?_
            refine ex_iast (f := (upd (σ12.2.2.1 2) (((13 : Int32) + ((σ.2.2.1 2) 0))).toNatClampNeg (0 : Int32))) (kk := 0) (w1 := (WB (sR 2 (upd (upd (σ12.2.2.1 2) (((13 : Int32) + ((σ.2.2.1 2) 0))).toNatClampNeg (0 : Int32)) 0 (((upd (σ12.2.2.1 2) (((13 : Int32) + ((σ.2.2.1 2) 0))).toNatClampNeg (0 : Int32)) 0) + (1 : Int32))) (sR 2 (upd (σ12.2.2.1 2) (((13 : Int32) + ((σ.2.2.1 2) 0))).toNatClampNeg (0 : Int32)) σ12)))) (np := 115) C (by decide +kernel) (WB_3 _) (by decide) (by decide) (WB_3_s _ _) rfl ?_
            refine ex_iconst (n := 1) (v := 1) (np := 116) C (by decide +kernel) (by decide) rfl ?_
            have E9 : B_readTown σ = ((1 : Int32), (sR 2 (upd (upd (σ12.2.2.1 2) (((13 : Int32) + ((σ.2.2.1 2) 0))).toNatClampNeg (0 : Int32)) 0 (((upd (σ12.2.2.1 2) (((13 : Int32) + ((σ.2.2.1 2) 0))).toNatClampNeg (0 : Int32)) 0) + (1 : Int32))) (sR 2 (upd (σ12.2.2.1 2) (((13 : Int32) + ((σ.2.2.1 2) 0))).toNatClampNeg (0 : Int32)) σ12))) := by unfold B_readTown; exact (if_neg h1).trans ((ex_lt_eq q3).trans ((ex_bd_eq q7).trans ((if_neg h10).trans ((ex_bd_eq q13).trans ((if_neg h15).trans ((ex_lt_eq q17).trans ((if_pos h18).trans ((ex_lt_eq q25).trans ((if_pos h26).trans (rfl))))))))))
            exact ex_iret C hr hlk (by decide +kernel) rfl (Nat.le_refl _) (Nat.le_refl _) (by rw [E9]; exact ⟨rfl, rfl⟩)
          · skip
            refine ex_aload_n (q := 0) (x := 0) (np := 81) C (by decide +kernel) rfl rfl ?_
            refine ex_iconst (n := 1) (v := 1) (np := 82) C (by decide +kernel) (by decide) rfl ?_
            refine ex_bipush (n := 30) (v := 30) (np := 84) C (by decide +kernel) (by decide) rfl ?_
            obtain ⟨r27, σ28, q29⟩ : ∃ r x, B_takesWay (1 : Int32) (30 : Int32) (sR 2 (upd (σ12.2.2.1 2) (((13 : Int32) + ((σ.2.2.1 2) 0))).toNatClampNeg (0 : Int32)) σ12) = (r, x) := ex_pair _
            refine ex_call_i (np := 87) (fun ws H locs ls hR hsz => ex_runV (C1 := "") C (m_X11_takesWay d (by omega) (1 : Int32) (30 : Int32) (sR 2 (upd (σ12.2.2.1 2) (((13 : Int32) + ((σ.2.2.1 2) 0))).toNatClampNeg (0 : Int32)) σ12) (B_INV_h hI14 (by have k9 := B_k0 hI; have s9 := ex_sum (a := (13 : Int32)) (x := ((σ.2.2.1 2) 0)) (by decide) (by omega); have e9 : (13 : Int32).toInt = 13 := (by decide); have c9 := ex_cl (x := ((13 : Int32) + ((σ.2.2.1 2) 0))) (by rw [s9]; omega); rw [s9] at c9; omega))) hd1 hd2 (by decide) hy_X11_takesWay tg_1593 hc_X11 rfl (WB_0 _) rfl rfl (Nat.le_of_ble_eq_true rfl) rfl tg_1590 tg_1592 tg_94 tg_158 (by decide +kernel) ws H locs ls hR hsz (Nat.zero_le _) (Nat.zero_le _)) rfl (fun r9 w1 hpo => ?_)
            rw [q29] at hpo
            have hp1 : r27 = r9 := hpo.1.symm
            have hp2 := hpo.2
            clear hpo; subst hp1; subst hp2
            have hI30 := inv_X11_takesWay (1 : Int32) (30 : Int32) (sR 2 (upd (σ12.2.2.1 2) (((13 : Int32) + ((σ.2.2.1 2) 0))).toNatClampNeg (0 : Int32)) σ12) (B_INV_h hI14 (by have k9 := B_k0 hI; have s9 := ex_sum (a := (13 : Int32)) (x := ((σ.2.2.1 2) 0)) (by decide) (by omega); have e9 : (13 : Int32).toInt = 13 := (by decide); have c9 := ex_cl (x := ((13 : Int32) + ((σ.2.2.1 2) 0))) (by rw [s9]; omega); rw [s9] at c9; omega)); rw [q29] at hI30
            refine ex_if_ne (off := 5) (tgt := 92) (np := 90) C (by decide +kernel) (by decide) rfl (fun h31 => ?_) (fun h31 => ?_)
            · skip
              refine ex_aload_n (q := 0) (x := 0) (np := 93) C (by decide +kernel) rfl rfl ?_
              refine ex_getf (q := 7) (v := .ref 3) (np := 96) C hc_X11 hin_X11 (by decide) tg_1382 (by decide +kernel) (WB_0 _) rfl rfl ?_
              refine ex_bipush (n := 13) (v := 13) (np := 98) C (by decide +kernel) (by decide) rfl ?_
              refine ex_iload_n (q := 1) (x := ((σ.2.2.1 2) 0)) (np := 99) C (by decide +kernel) rfl rfl ?_
              refine ex_iadd (v := ((13 : Int32) + ((σ.2.2.1 2) 0))) (np := 100) C (by decide +kernel) rfl rfl ?_
              refine ex_aload_n (q := 0) (x := 0) (np := 101) C (by decide +kernel) rfl rfl ?_
              refine ex_getf (q := 18) (v := .int (σ28.1 11)) (np := 104) C hc_X11 hin_X11 (by decide) tg_1393 (by decide +kernel) (WB_0 _) rfl rfl ?_
              refine ex_iast (f := (σ28.2.2.1 2)) (kk := (((13 : Int32) + ((σ.2.2.1 2) 0))).toNatClampNeg) (w1 := (WB (sR 2 (upd (σ28.2.2.1 2) (((13 : Int32) + ((σ.2.2.1 2) 0))).toNatClampNeg (σ28.1 11)) σ28))) (np := 105) C (by decide +kernel) (WB_3 _) (by have k9 := B_k0 hI; have s9 := ex_sum (a := (13 : Int32)) (x := ((σ.2.2.1 2) 0)) (by decide) (by omega); have e9 : (13 : Int32).toInt = 13 := (by decide); rw [s9]; omega) rfl (WB_3_s _ _) rfl ?_
              refine ex_aload_n (q := 0) (x := 0) (np := 106) C (by decide +kernel) rfl rfl ?_
              refine ex_getf (q := 7) (v := .ref 3) (np := 109) C hc_X11 hin_X11 (by decide) tg_1382 (by decide +kernel) (WB_0 _) rfl rfl ?_
              refine ex_iconst (n := 0) (v := 0) (np := 110) C (by decide +kernel) (by decide) rfl ?_
              refine ex_dup2 (np := 111) C rfl rfl (by decide +kernel) rfl ?_
              refine ex_iald (f := (upd (σ28.2.2.1 2) (((13 : Int32) + ((σ.2.2.1 2) 0))).toNatClampNeg (σ28.1 11))) (kk := 0) (np := 112) C (by decide +kernel) (WB_3 _) (by decide) (by decide) rfl ?_
              refine ex_iconst (n := 1) (v := 1) (np := 113) C (by decide +kernel) (by decide) rfl ?_
              refine ex_iadd (v := (((upd (σ28.2.2.1 2) (((13 : Int32) + ((σ.2.2.1 2) 0))).toNatClampNeg (σ28.1 11)) 0) + (1 : Int32))) (np := 114) C (by decide +kernel) rfl rfl ?_
              refine ex_iast (f := (upd (σ28.2.2.1 2) (((13 : Int32) + ((σ.2.2.1 2) 0))).toNatClampNeg (σ28.1 11))) (kk := 0) (w1 := (WB (sR 2 (upd (upd (σ28.2.2.1 2) (((13 : Int32) + ((σ.2.2.1 2) 0))).toNatClampNeg (σ28.1 11)) 0 (((upd (σ28.2.2.1 2) (((13 : Int32) + ((σ.2.2.1 2) 0))).toNatClampNeg (σ28.1 11)) 0) + (1 : Int32))) (sR 2 (upd (σ28.2.2.1 2) (((13 : Int32) + ((σ.2.2.1 2) 0))).toNatClampNeg (σ28.1 11)) σ28)))) (np := 115) C (by decide +kernel) (WB_3 _) (by decide) (by decide) (WB_3_s _ _) rfl ?_
              refine ex_iconst (n := 1) (v := 1) (np := 116) C (by decide +kernel) (by decide) rfl ?_
              have E9 : B_readTown σ = ((1 : Int32), (sR 2 (upd (upd (σ28.2.2.1 2) (((13 : Int32) + ((σ.2.2.1 2) 0))).toNatClampNeg (σ28.1 11)) 0 (((upd (σ28.2.2.1 2) (((13 : Int32) + ((σ.2.2.1 2) 0))).toNatClampNeg (σ28.1 11)) 0) + (1 : Int32))) (sR 2 (upd (σ28.2.2.1 2) (((13 : Int32) + ((σ.2.2.1 2) 0))).toNatClampNeg (σ28.1 11)) σ28))) := by unfold B_readTown; exact (if_neg h1).trans ((ex_lt_eq q3).trans ((ex_bd_eq q7).trans ((if_neg h10).trans ((ex_bd_eq q13).trans ((if_neg h15).trans ((ex_lt_eq q17).trans ((if_pos h18).trans ((ex_lt_eq q25).trans ((if_neg h26).trans ((ex_bd_eq q29).trans ((if_neg h31).trans (rfl))))))))))))
              exact ex_iret C hr hlk (by decide +kernel) rfl (Nat.le_refl _) (Nat.le_refl _) (by rw [E9]; exact ⟨rfl, rfl⟩)
            · skip
              refine ex_iconst (n := 0) (v := 0) (np := 91) C (by decide +kernel) (by decide) rfl ?_
              have E9 : B_readTown σ = ((0 : Int32), σ28) := by unfold B_readTown; exact (if_neg h1).trans ((ex_lt_eq q3).trans ((ex_bd_eq q7).trans ((if_neg h10).trans ((ex_bd_eq q13).trans ((if_neg h15).trans ((ex_lt_eq q17).trans ((if_pos h18).trans ((ex_lt_eq q25).trans ((if_neg h26).trans ((ex_bd_eq q29).trans ((if_pos h31).trans (rfl))))))))))))
              exact ex_iret C hr hlk (by decide +kernel) rfl (Nat.le_refl _) (Nat.le_refl _) (by rw [E9]; exact ⟨rfl, rfl⟩)
      · skip
        refine ex_iconst (n := 0) (v := 0) (np := 49) C (by decide +kernel) (by decide) rfl ?_
        have E9 : B_readTown σ = ((0 : Int32), σ12) := by unfold B_readTown; exact (if_neg h1).trans ((ex_lt_eq q3).trans ((ex_bd_eq q7).trans ((if_neg h10).trans ((ex_bd_eq q13).trans ((if_pos h15).trans (rfl))))))
        exact ex_iret C hr hlk (by decide +kernel) rfl (Nat.le_refl _) (Nat.le_refl _) (by rw [E9]; exact ⟨rfl, rfl⟩)
  · skip
    refine ex_aload_n (q := 0) (x := 0) (np := 14) C (by decide +kernel) rfl rfl ?_
    refine ex_iconst (n := 4) (v := 4) (np := 15) C (by decide +kernel) (by decide) rfl ?_
    obtain ⟨r32, σ33, q34⟩ : ∃ r x, B_bad (4 : Int32) σ = (r, x) := ex_pair _
    refine ex_call_i (np := 18) (fun ws H locs ls hR hsz => ex_runV (C1 := "") C (m_X11_bad d (by omega) (4 : Int32) σ) hd1 hd2 (by decide) hy_X11_bad tg_1566 hc_X11 rfl (WB_0 _) rfl rfl (Nat.le_of_ble_eq_true rfl) rfl tg_1563 tg_1565 tg_88 tg_158 (by decide +kernel) ws H locs ls hR hsz (Nat.zero_le _) (Nat.zero_le _)) rfl (fun r9 w1 hpo => ?_)
    rw [q34] at hpo
    have hp1 : r32 = r9 := hpo.1.symm
    have hp2 := hpo.2
    clear hpo; subst hp1; subst hp2
    have hI35 := inv_X11_bad (4 : Int32) σ hI; rw [q34] at hI35
    have E9 : B_readTown σ = (r32, σ33) := by unfold B_readTown; exact (if_pos h1).trans ((ex_bd_eq q34).trans (rfl))
    exact ex_iret C hr hlk (by decide +kernel) (ex_nar (by have b9 := bl_X11_bad (4 : Int32) σ; rw [q34] at b9; exact b9)) (Nat.le_refl _) (Nat.le_refl _) (by rw [E9]; exact ⟨rfl, rfl⟩)
set_option maxRecDepth 100000 in
set_option maxHeartbeats 4000000 in
theorem m_X11_readTerm {l : Launch} {X : ab_X} {D : va_G} {A : ex_A} (d : Nat) (hd : 6 ≤ d) (σ : ex_S) (hI : B_INV σ) : ex_ctr l X D A d yX11_readTerm cX11_readTerm 2 (some .boolean) (WB σ) [.ref 0] (fun r w => r = (B_readTerm σ).1 ∧ w = WB (B_readTerm σ).2) := by
  obtain ⟨d, rfl⟩ : ∃ d9, d = d9 + 1 := ⟨d - 1, by omega⟩
  refine ex_meth (own := RX11) rfl (by decide) (Nat.le_of_ble_eq_true rfl) (fun p e R s m below meth c C hr hlk hd1 hd2 => ?_)
  show ex_ok p l e R s m _ below meth c 0 0 _ 2 X D A (WB σ) 0 [(0, .ref 0)] []
  refine ex_aload_n (q := 0) (x := 0) (np := 1) C (by decide +kernel) rfl rfl ?_
  refine ex_getf (q := 7) (v := .ref 3) (np := 4) C hc_X11 hin_X11 (by decide) tg_1382 (by decide +kernel) (WB_0 _) rfl rfl ?_
  refine ex_iconst (n := 1) (v := 1) (np := 5) C (by decide +kernel) (by decide) rfl ?_
  refine ex_iald (f := (σ.2.2.1 2)) (kk := 1) (np := 6) C (by decide +kernel) (WB_3 _) (by decide) (by decide) rfl ?_
  refine ex_istore_n (q := 1) (np := 7) (lv1 := [(1, .int ((σ.2.2.1 2) 1)), (0, .ref 0)]) C (by decide) (by decide +kernel) rfl rfl ?_
  refine ex_iload_n (q := 1) (x := ((σ.2.2.1 2) 1)) (np := 8) C (by decide +kernel) rfl rfl ?_
  refine ex_bipush (n := 12) (v := 12) (np := 10) C (by decide +kernel) (by decide) rfl ?_
  refine ex_icmp_ne (off := 9) (tgt := 19) (np := 13) C (by decide +kernel) (by decide) rfl (fun h1 => ?_) (fun h1 => ?_)
  · skip
    refine ex_aload_n (q := 0) (x := 0) (np := 20) C (by decide +kernel) rfl rfl ?_
    obtain ⟨σ2, q3⟩ : ∃ x, x = B_next σ := ⟨_, rfl⟩
    refine ex_call_v (np := 23) (fun ws H locs ls hR hsz => ex_runV (C1 := "") C (m_X11_next d (by omega) σ hI) hd1 hd2 (by decide) hy_X11_next tg_1540 hc_X11 rfl (WB_0 _) rfl rfl (Nat.le_of_ble_eq_true rfl) rfl tg_1537 tg_1539 tg_83 tg_158 (by decide +kernel) ws H locs ls hR hsz (Nat.zero_le _) (Nat.zero_le _)) rfl (fun w1 hpo => ?_)
    rw [← q3] at hpo
    subst hpo
    have hI4 := inv_X11_next σ hI; rw [← q3] at hI4
    refine ex_aload_n (q := 0) (x := 0) (np := 24) C (by decide +kernel) rfl rfl ?_
    refine ex_bipush (n := 15) (v := 15) (np := 26) C (by decide +kernel) (by decide) rfl ?_
    refine ex_aload_n (q := 0) (x := 0) (np := 27) C (by decide +kernel) rfl rfl ?_
    refine ex_getf (q := 7) (v := .ref 3) (np := 30) C hc_X11 hin_X11 (by decide) tg_1382 (by decide +kernel) (WB_0 _) rfl rfl ?_
    refine ex_iconst (n := 0) (v := 0) (np := 31) C (by decide +kernel) (by decide) rfl ?_
    refine ex_iald (f := (σ2.2.2.1 2)) (kk := 0) (np := 32) C (by decide +kernel) (WB_3 _) (by decide) (by decide) rfl ?_
    obtain ⟨r5, σ6, q7⟩ : ∃ r x, B_takesName (15 : Int32) ((σ2.2.2.1 2) 0) σ2 = (r, x) := ex_pair _
    refine ex_call_i (np := 35) (fun ws H locs ls hR hsz => ex_runV (C1 := "") C (m_X11_takesName d (by omega) (15 : Int32) ((σ2.2.2.1 2) 0) σ2 hI4 (B_fm15 hI4)) hd1 hd2 (by decide) hy_X11_takesName tg_1601 hc_X11 rfl (WB_0 _) rfl rfl (Nat.le_of_ble_eq_true rfl) rfl tg_1598 tg_1600 tg_96 tg_158 (by decide +kernel) ws H locs ls hR hsz (Nat.zero_le _) (Nat.zero_le _)) rfl (fun r9 w1 hpo => ?_)
    rw [q7] at hpo
    have hp1 : r5 = r9 := hpo.1.symm
    have hp2 := hpo.2
    clear hpo; subst hp1; subst hp2
    have hI8 := inv_X11_takesName (15 : Int32) ((σ2.2.2.1 2) 0) σ2 hI4 (B_fm15 hI4); rw [q7] at hI8
    refine ex_if_ne (off := 5) (tgt := 40) (np := 38) C (by decide +kernel) (by decide) rfl (fun h10 => ?_) (fun h10 => ?_)
    · skip
      refine ex_aload_n (q := 0) (x := 0) (np := 41) C (by decide +kernel) rfl rfl ?_
      refine ex_getf (q := 7) (v := .ref 3) (np := 44) C hc_X11 hin_X11 (by decide) tg_1382 (by decide +kernel) (WB_0 _) rfl rfl ?_
      refine ex_bipush (n := 20) (v := 20) (np := 46) C (by decide +kernel) (by decide) rfl ?_
      refine ex_iload_n (q := 1) (x := ((σ.2.2.1 2) 1)) (np := 47) C (by decide +kernel) rfl rfl ?_
      refine ex_iadd (v := ((20 : Int32) + ((σ.2.2.1 2) 1))) (np := 48) C (by decide +kernel) rfl rfl ?_
      refine ex_aload_n (q := 0) (x := 0) (np := 49) C (by decide +kernel) rfl rfl ?_
      refine ex_getf (q := 18) (v := .int (σ6.1 11)) (np := 52) C hc_X11 hin_X11 (by decide) tg_1393 (by decide +kernel) (WB_0 _) rfl rfl ?_
      refine ex_iast (f := (σ6.2.2.1 2)) (kk := (((20 : Int32) + ((σ.2.2.1 2) 1))).toNatClampNeg) (w1 := (WB (sR 2 (upd (σ6.2.2.1 2) (((20 : Int32) + ((σ.2.2.1 2) 1))).toNatClampNeg (σ6.1 11)) σ6))) (np := 53) C (by decide +kernel) (WB_3 _) (by have k9 := B_k1 hI; have s9 := ex_sum (a := (20 : Int32)) (x := ((σ.2.2.1 2) 1)) (by decide) (by omega); have e9 : (20 : Int32).toInt = 20 := (by decide); rw [s9]; omega) rfl (WB_3_s _ _) rfl ?_
      refine ex_aload_n (q := 0) (x := 0) (np := 54) C (by decide +kernel) rfl rfl ?_
      refine ex_bipush (n := 32) (v := 32) (np := 56) C (by decide +kernel) (by decide) rfl ?_
      refine ex_iload_n (q := 1) (x := ((σ.2.2.1 2) 1)) (np := 57) C (by decide +kernel) rfl rfl ?_
      refine ex_iadd (v := ((32 : Int32) + ((σ.2.2.1 2) 1))) (np := 58) C (by decide +kernel) rfl rfl ?_
      refine ex_iconst (n := 0) (v := 0) (np := 59) C (by decide +kernel) (by decide) rfl ?_
      refine ex_sipush (n := 399) (v := 399) (np := 62) C (by decide +kernel) (by decide) rfl ?_
      obtain ⟨r11, σ12, q13⟩ : ∃ r x, B_puts ((32 : Int32) + ((σ.2.2.1 2) 1)) (0 : Int32) (399 : Int32) (sR 2 (upd (σ6.2.2.1 2) (((20 : Int32) + ((σ.2.2.1 2) 1))).toNatClampNeg (σ6.1 11)) σ6) = (r, x) := ex_pair _
      refine ex_call_i (np := 65) (fun ws H locs ls hR hsz => ex_runV (C1 := "") C (m_X11_puts d (by omega) ((32 : Int32) + ((σ.2.2.1 2) 1)) (0 : Int32) (399 : Int32) (sR 2 (upd (σ6.2.2.1 2) (((20 : Int32) + ((σ.2.2.1 2) 1))).toNatClampNeg (σ6.1 11)) σ6) (B_INV_h hI8 (by have k9 := B_k1 hI; have s9 := ex_sum (a := (20 : Int32)) (x := ((σ.2.2.1 2) 1)) (by decide) (by omega); have e9 : (20 : Int32).toInt = 20 := (by decide); have c9 := ex_cl (x := ((20 : Int32) + ((σ.2.2.1 2) 1))) (by rw [s9]; omega); rw [s9] at c9; omega)) (by have k9 := B_k1 hI; have s9 := ex_sum (a := (32 : Int32)) (x := ((σ.2.2.1 2) 1)) (by decide) (by omega); have e9 : (32 : Int32).toInt = 32 := (by decide); rw [s9]; omega)) hd1 hd2 (by decide) hy_X11_puts tg_1582 hc_X11 rfl (WB_0 _) rfl rfl (Nat.le_of_ble_eq_true rfl) rfl tg_1579 tg_1581 tg_92 tg_158 (by decide +kernel) ws H locs ls hR hsz (Nat.zero_le _) (Nat.zero_le _)) rfl (fun r9 w1 hpo => ?_)
      rw [q13] at hpo
      have hp1 : r11 = r9 := hpo.1.symm
      have hp2 := hpo.2
      clear hpo; subst hp1; subst hp2
      have hI14 := inv_X11_puts ((32 : Int32) + ((σ.2.2.1 2) 1)) (0 : Int32) (399 : Int32) (sR 2 (upd (σ6.2.2.1 2) (((20 : Int32) + ((σ.2.2.1 2) 1))).toNatClampNeg (σ6.1 11)) σ6) (B_INV_h hI8 (by have k9 := B_k1 hI; have s9 := ex_sum (a := (20 : Int32)) (x := ((σ.2.2.1 2) 1)) (by decide) (by omega); have e9 : (20 : Int32).toInt = 20 := (by decide); have c9 := ex_cl (x := ((20 : Int32) + ((σ.2.2.1 2) 1))) (by rw [s9]; omega); rw [s9] at c9; omega)) (by have k9 := B_k1 hI; have s9 := ex_sum (a := (32 : Int32)) (x := ((σ.2.2.1 2) 1)) (by decide) (by omega); have e9 : (32 : Int32).toInt = 32 := (by decide); rw [s9]; omega); rw [q13] at hI14
      refine ex_if_eq (off := 36) (tgt := 101) (np := 68) C (by decide +kernel) (by decide) rfl (fun h15 => ?_) (fun h15 => ?_)
      · skip
        refine ex_iconst (n := 0) (v := 0) (np := 102) C (by decide +kernel) (by decide) rfl ?_
        have E9 : B_readTerm σ = ((0 : Int32), σ12) := by unfold B_readTerm; exact (if_neg h1).trans ((ex_lt_eq q3).trans ((ex_bd_eq q7).trans ((if_neg h10).trans ((ex_bd_eq q13).trans ((if_pos h15).trans (rfl))))))
        exact ex_iret C hr hlk (by decide +kernel) rfl (Nat.le_refl _) (Nat.le_refl _) (by rw [E9]; exact ⟨rfl, rfl⟩)
      · skip
        refine ex_aload_n (q := 0) (x := 0) (np := 69) C (by decide +kernel) rfl rfl ?_
        refine ex_bipush (n := 44) (v := 44) (np := 71) C (by decide +kernel) (by decide) rfl ?_
        refine ex_iload_n (q := 1) (x := ((σ.2.2.1 2) 1)) (np := 72) C (by decide +kernel) rfl rfl ?_
        refine ex_iadd (v := ((44 : Int32) + ((σ.2.2.1 2) 1))) (np := 73) C (by decide +kernel) rfl rfl ?_
        refine ex_aload_n (q := 0) (x := 0) (np := 74) C (by decide +kernel) rfl rfl ?_
        refine ex_getf (q := 7) (v := .ref 3) (np := 77) C hc_X11 hin_X11 (by decide) tg_1382 (by decide +kernel) (WB_0 _) rfl rfl ?_
        refine ex_bipush (n := 32) (v := 32) (np := 79) C (by decide +kernel) (by decide) rfl ?_
        refine ex_iload_n (q := 1) (x := ((σ.2.2.1 2) 1)) (np := 80) C (by decide +kernel) rfl rfl ?_
        refine ex_iadd (v := ((32 : Int32) + ((σ.2.2.1 2) 1))) (np := 81) C (by decide +kernel) rfl rfl ?_
        refine ex_iald (f := (σ12.2.2.1 2)) (kk := (((32 : Int32) + ((σ.2.2.1 2) 1))).toNatClampNeg) (np := 82) C (by decide +kernel) (WB_3 _) (by have k9 := B_k1 hI; have s9 := ex_sum (a := (32 : Int32)) (x := ((σ.2.2.1 2) 1)) (by decide) (by omega); have e9 : (32 : Int32).toInt = 32 := (by decide); rw [s9]; omega) rfl rfl ?_
        refine ex_sipush (n := 399) (v := 399) (np := 85) C (by decide +kernel) (by decide) rfl ?_
        obtain ⟨r16, σ17, q18⟩ : ∃ r x, B_puts ((44 : Int32) + ((σ.2.2.1 2) 1)) ((σ12.2.2.1 2) (((32 : Int32) + ((σ.2.2.1 2) 1))).toNatClampNeg) (399 : Int32) σ12 = (r, x) := ex_pair _
        refine ex_call_i (np := 88) (fun ws H locs ls hR hsz => ex_runV (C1 := "") C (m_X11_puts d (by omega) ((44 : Int32) + ((σ.2.2.1 2) 1)) ((σ12.2.2.1 2) (((32 : Int32) + ((σ.2.2.1 2) 1))).toNatClampNeg) (399 : Int32) σ12 hI14 (by have k9 := B_k1 hI; have s9 := ex_sum (a := (44 : Int32)) (x := ((σ.2.2.1 2) 1)) (by decide) (by omega); have e9 : (44 : Int32).toInt = 44 := (by decide); rw [s9]; omega)) hd1 hd2 (by decide) hy_X11_puts tg_1582 hc_X11 rfl (WB_0 _) rfl rfl (Nat.le_of_ble_eq_true rfl) rfl tg_1579 tg_1581 tg_92 tg_158 (by decide +kernel) ws H locs ls hR hsz (Nat.zero_le _) (Nat.zero_le _)) rfl (fun r9 w1 hpo => ?_)
        rw [q18] at hpo
        have hp1 : r16 = r9 := hpo.1.symm
        have hp2 := hpo.2
        clear hpo; subst hp1; subst hp2
        have hI19 := inv_X11_puts ((44 : Int32) + ((σ.2.2.1 2) 1)) ((σ12.2.2.1 2) (((32 : Int32) + ((σ.2.2.1 2) 1))).toNatClampNeg) (399 : Int32) σ12 hI14 (by have k9 := B_k1 hI; have s9 := ex_sum (a := (44 : Int32)) (x := ((σ.2.2.1 2) 1)) (by decide) (by omega); have e9 : (44 : Int32).toInt = 44 := (by decide); rw [s9]; omega); rw [q18] at hI19
        refine ex_if_eq (off := 13) (tgt := 101) (np := 91) C (by decide +kernel) (by decide) rfl (fun h20 => ?_) (fun h20 => ?_)
        · skip
          refine ex_iconst (n := 0) (v := 0) (np := 102) C (by decide +kernel) (by decide) rfl ?_
          have E9 : B_readTerm σ = ((0 : Int32), σ17) := by unfold B_readTerm; exact (if_neg h1).trans ((ex_lt_eq q3).trans ((ex_bd_eq q7).trans ((if_neg h10).trans ((ex_bd_eq q13).trans ((if_neg h15).trans ((ex_bd_eq q18).trans ((if_pos h20).trans (rfl))))))))
          exact ex_iret C hr hlk (by decide +kernel) rfl (Nat.le_refl _) (Nat.le_refl _) (by rw [E9]; exact ⟨rfl, rfl⟩)
        · skip
          refine ex_aload_n (q := 0) (x := 0) (np := 92) C (by decide +kernel) rfl rfl ?_
          refine ex_iconst (n := 0) (v := 0) (np := 93) C (by decide +kernel) (by decide) rfl ?_
          refine ex_bipush (n := 30) (v := 30) (np := 95) C (by decide +kernel) (by decide) rfl ?_
          obtain ⟨r21, σ22, q23⟩ : ∃ r x, B_takesWay (0 : Int32) (30 : Int32) σ17 = (r, x) := ex_pair _
          refine ex_call_i (np := 98) (fun ws H locs ls hR hsz => ex_runV (C1 := "") C (m_X11_takesWay d (by omega) (0 : Int32) (30 : Int32) σ17 hI19) hd1 hd2 (by decide) hy_X11_takesWay tg_1593 hc_X11 rfl (WB_0 _) rfl rfl (Nat.le_of_ble_eq_true rfl) rfl tg_1590 tg_1592 tg_94 tg_158 (by decide +kernel) ws H locs ls hR hsz (Nat.zero_le _) (Nat.zero_le _)) rfl (fun r9 w1 hpo => ?_)
          rw [q23] at hpo
          have hp1 : r21 = r9 := hpo.1.symm
          have hp2 := hpo.2
          clear hpo; subst hp1; subst hp2
          have hI24 := inv_X11_takesWay (0 : Int32) (30 : Int32) σ17 hI19; rw [q23] at hI24
          refine ex_if_ne (off := 5) (tgt := 103) (np := 101) C (by decide +kernel) (by decide) rfl (fun h25 => ?_) (fun h25 => ?_)
          · skip
            refine ex_aload_n (q := 0) (x := 0) (np := 104) C (by decide +kernel) rfl rfl ?_
            refine ex_getf (q := 7) (v := .ref 3) (np := 107) C hc_X11 hin_X11 (by decide) tg_1382 (by decide +kernel) (WB_0 _) rfl rfl ?_
            refine ex_bipush (n := 56) (v := 56) (np := 109) C (by decide +kernel) (by decide) rfl ?_
            refine ex_iload_n (q := 1) (x := ((σ.2.2.1 2) 1)) (np := 110) C (by decide +kernel) rfl rfl ?_
            refine ex_iadd (v := ((56 : Int32) + ((σ.2.2.1 2) 1))) (np := 111) C (by decide +kernel) rfl rfl ?_
            refine ex_aload_n (q := 0) (x := 0) (np := 112) C (by decide +kernel) rfl rfl ?_
            refine ex_getf (q := 18) (v := .int (σ22.1 11)) (np := 115) C hc_X11 hin_X11 (by decide) tg_1393 (by decide +kernel) (WB_0 _) rfl rfl ?_
            refine ex_iast (f := (σ22.2.2.1 2)) (kk := (((56 : Int32) + ((σ.2.2.1 2) 1))).toNatClampNeg) (w1 := (WB (sR 2 (upd (σ22.2.2.1 2) (((56 : Int32) + ((σ.2.2.1 2) 1))).toNatClampNeg (σ22.1 11)) σ22))) (np := 116) C (by decide +kernel) (WB_3 _) (by have k9 := B_k1 hI; have s9 := ex_sum (a := (56 : Int32)) (x := ((σ.2.2.1 2) 1)) (by decide) (by omega); have e9 : (56 : Int32).toInt = 56 := (by decide); rw [s9]; omega) rfl (WB_3_s _ _) rfl ?_
            refine ex_aload_n (q := 0) (x := 0) (np := 117) C (by decide +kernel) rfl rfl ?_
            refine ex_getf (q := 7) (v := .ref 3) (np := 120) C hc_X11 hin_X11 (by decide) tg_1382 (by decide +kernel) (WB_0 _) rfl rfl ?_
            refine ex_iconst (n := 1) (v := 1) (np := 121) C (by decide +kernel) (by decide) rfl ?_
            refine ex_dup2 (np := 122) C rfl rfl (by decide +kernel) rfl ?_
            refine ex_iald (f := (upd (σ22.2.2.1 2) (((56 : Int32) + ((σ.2.2.1 2) 1))).toNatClampNeg (σ22.1 11))) (kk := 1) (np := 123) C (by decide +kernel) (WB_3 _) (by decide) (by decide) rfl ?_
            refine ex_iconst (n := 1) (v := 1) (np := 124) C (by decide +kernel) (by decide) rfl ?_
            refine ex_iadd (v := (((upd (σ22.2.2.1 2) (((56 : Int32) + ((σ.2.2.1 2) 1))).toNatClampNeg (σ22.1 11)) 1) + (1 : Int32))) (np := 125) C (by decide +kernel) rfl rfl ?_
            refine ex_iast (f := (upd (σ22.2.2.1 2) (((56 : Int32) + ((σ.2.2.1 2) 1))).toNatClampNeg (σ22.1 11))) (kk := 1) (w1 := (WB (sR 2 (upd (upd (σ22.2.2.1 2) (((56 : Int32) + ((σ.2.2.1 2) 1))).toNatClampNeg (σ22.1 11)) 1 (((upd (σ22.2.2.1 2) (((56 : Int32) + ((σ.2.2.1 2) 1))).toNatClampNeg (σ22.1 11)) 1) + (1 : Int32))) (sR 2 (upd (σ22.2.2.1 2) (((56 : Int32) + ((σ.2.2.1 2) 1))).toNatClampNeg (σ22.1 11)) σ22)))) (np := 126) C (by decide +kernel) (WB_3 _) (by decide) (by decide) (WB_3_s _ _) rfl ?_
            refine ex_iconst (n := 1) (v := 1) (np := 127) C (by decide +kernel) (by decide) rfl ?_
            have E9 : B_readTerm σ = ((1 : Int32), (sR 2 (upd (upd (σ22.2.2.1 2) (((56 : Int32) + ((σ.2.2.1 2) 1))).toNatClampNeg (σ22.1 11)) 1 (((upd (σ22.2.2.1 2) (((56 : Int32) + ((σ.2.2.1 2) 1))).toNatClampNeg (σ22.1 11)) 1) + (1 : Int32))) (sR 2 (upd (σ22.2.2.1 2) (((56 : Int32) + ((σ.2.2.1 2) 1))).toNatClampNeg (σ22.1 11)) σ22))) := by unfold B_readTerm; exact (if_neg h1).trans ((ex_lt_eq q3).trans ((ex_bd_eq q7).trans ((if_neg h10).trans ((ex_bd_eq q13).trans ((if_neg h15).trans ((ex_bd_eq q18).trans ((if_neg h20).trans ((ex_bd_eq q23).trans ((if_neg h25).trans (rfl))))))))))
            exact ex_iret C hr hlk (by decide +kernel) rfl (Nat.le_refl _) (Nat.le_refl _) (by rw [E9]; exact ⟨rfl, rfl⟩)
          · skip
            refine ex_iconst (n := 0) (v := 0) (np := 102) C (by decide +kernel) (by decide) rfl ?_
            have E9 : B_readTerm σ = ((0 : Int32), σ22) := by unfold B_readTerm; exact (if_neg h1).trans ((ex_lt_eq q3).trans ((ex_bd_eq q7).trans ((if_neg h10).trans ((ex_bd_eq q13).trans ((if_neg h15).trans ((ex_bd_eq q18).trans ((if_neg h20).trans ((ex_bd_eq q23).trans ((if_pos h25).trans (rfl))))))))))
            exact ex_iret C hr hlk (by decide +kernel) rfl (Nat.le_refl _) (Nat.le_refl _) (by rw [E9]; exact ⟨rfl, rfl⟩)
    · skip
      refine ex_iconst (n := 0) (v := 0) (np := 39) C (by decide +kernel) (by decide) rfl ?_
      have E9 : B_readTerm σ = ((0 : Int32), σ6) := by unfold B_readTerm; exact (if_neg h1).trans ((ex_lt_eq q3).trans ((ex_bd_eq q7).trans ((if_pos h10).trans (rfl))))
      exact ex_iret C hr hlk (by decide +kernel) rfl (Nat.le_refl _) (Nat.le_refl _) (by rw [E9]; exact ⟨rfl, rfl⟩)
  · skip
    refine ex_aload_n (q := 0) (x := 0) (np := 14) C (by decide +kernel) rfl rfl ?_
    refine ex_iconst (n := 4) (v := 4) (np := 15) C (by decide +kernel) (by decide) rfl ?_
    obtain ⟨r26, σ27, q28⟩ : ∃ r x, B_bad (4 : Int32) σ = (r, x) := ex_pair _
    refine ex_call_i (np := 18) (fun ws H locs ls hR hsz => ex_runV (C1 := "") C (m_X11_bad d (by omega) (4 : Int32) σ) hd1 hd2 (by decide) hy_X11_bad tg_1566 hc_X11 rfl (WB_0 _) rfl rfl (Nat.le_of_ble_eq_true rfl) rfl tg_1563 tg_1565 tg_88 tg_158 (by decide +kernel) ws H locs ls hR hsz (Nat.zero_le _) (Nat.zero_le _)) rfl (fun r9 w1 hpo => ?_)
    rw [q28] at hpo
    have hp1 : r26 = r9 := hpo.1.symm
    have hp2 := hpo.2
    clear hpo; subst hp1; subst hp2
    have hI29 := inv_X11_bad (4 : Int32) σ hI; rw [q28] at hI29
    have E9 : B_readTerm σ = (r26, σ27) := by unfold B_readTerm; exact (if_pos h1).trans ((ex_bd_eq q28).trans (rfl))
    exact ex_iret C hr hlk (by decide +kernel) (ex_nar (by have b9 := bl_X11_bad (4 : Int32) σ; rw [q28] at b9; exact b9)) (Nat.le_refl _) (Nat.le_refl _) (by rw [E9]; exact ⟨rfl, rfl⟩)
