/-! Contracts of the parsers' methods. -/
set_option maxRecDepth 100000 in
set_option maxHeartbeats 4000000 in
theorem m_X9_readTown {l : Launch} {X : ab_X} {D : va_G} {A : ex_A} (d : Nat) (hd : 4 ≤ d) (x : Nat × List ex_E) (y : Nat) (σ : ex_S) (hI : A_INV σ) : ex_ctr l X D A d yX9_readTown cX9_readTown 4 (some .boolean) (WA x y σ) [.ref 4, .ref 6, .ref 1] (fun r w => r = (A_readTown σ).1 ∧ w = WA x y (A_readTown σ).2) := by
  obtain ⟨d, rfl⟩ : ∃ d9, d = d9 + 1 := ⟨d - 1, by omega⟩
  refine ex_meth (own := RX9) rfl (by decide) (Nat.le_of_ble_eq_true rfl) (fun p e R s m below meth c C hr hlk hd1 hd2 => ?_)
  show ex_ok p l e R s m _ below meth c 0 0 _ 4 X D A (WA x y σ) 0 [(0, .ref 4), (1, .ref 6), (2, .ref 1)] []
  refine ex_aload_n (q := 1) (x := 6) (np := 1) C (by decide +kernel) rfl rfl ?_
  refine ex_getfN (q := 0) (v := .int (σ.1 11)) (np := 4) C hc_X8 hin_X8 (by decide) tn_314 (by decide +kernel) (WA_6 _ _ _) rfl rfl ?_
  refine ex_istore_n (q := 3) (np := 5) (lv1 := [(3, .int (σ.1 11)), (0, .ref 4), (1, .ref 6), (2, .ref 1)]) C (by decide) (by decide +kernel) rfl rfl ?_
  refine ex_iload_n (q := 3) (x := (σ.1 11)) (np := 6) C (by decide +kernel) rfl rfl ?_
  refine ex_bipush (n := 7) (v := 7) (np := 8) C (by decide +kernel) (by decide) rfl ?_
  refine ex_icmp_lt (off := 9) (tgt := 17) (np := 11) C (by decide +kernel) (by decide) rfl (fun h1 => ?_) (fun h1 => ?_)
  · skip
    refine ex_aload_n (q := 2) (x := 1) (np := 18) C (by decide +kernel) rfl rfl ?_
    obtain ⟨σ2, q3⟩ : ∃ x, x = A_next σ := ⟨_, rfl⟩
    refine ex_call_v (np := 21) (fun ws H locs ls hR hsz => ex_runVN C (m_X4_next d (by omega) x y σ hI) hd1 hd2 (by decide) hy_X4_next tg_667 hc_X4 rfl (WA_1 _ _ _) rfl rfl (Nat.le_of_ble_eq_true rfl) tn_695 tg_666 tg_4 tg_144 (by decide +kernel) ws H locs ls hR hsz (Nat.zero_le _) (Nat.zero_le _)) rfl (fun w1 hpo => ?_)
    rw [← q3] at hpo
    subst hpo
    have hI4 := inv_X4_next σ hI; rw [← q3] at hI4
    have hF5 := fr_X4_next σ; rw [← q3] at hF5
    refine ex_aload_n (q := 2) (x := 1) (np := 22) C (by decide +kernel) rfl rfl ?_
    refine ex_aload_n (q := 1) (x := 6) (np := 23) C (by decide +kernel) rfl rfl ?_
    obtain ⟨r6, σ7, q8⟩ : ∃ r x, A_takeNewName σ2 = (r, x) := ex_pair _
    refine ex_call_i (np := 26) (fun ws H locs ls hR hsz => ex_runVN C (m_X4_takeNewName d (by omega) x y σ2 hI4) hd1 hd2 (by decide) hy_X4_takeNewName tg_699 hc_X4 rfl (WA_1 _ _ _) rfl rfl (Nat.le_of_ble_eq_true rfl) tn_696 tg_698 tg_11 tg_144 (by decide +kernel) ws H locs ls hR hsz (Nat.zero_le _) (Nat.zero_le _)) rfl (fun r9 w1 hpo => ?_)
    rw [q8] at hpo
    have hp1 : r6 = r9 := hpo.1.symm
    have hp2 := hpo.2
    clear hpo; subst hp1; subst hp2
    have hI10 := inv_X4_takeNewName σ2 hI4; rw [q8] at hI10
    have hF11 := fr_X4_takeNewName σ2; rw [q8] at hF11
    refine ex_if_eq (off := 13) (tgt := 39) (np := 29) C (by decide +kernel) (by decide) rfl (fun h12 => ?_) (fun h12 => ?_)
    · skip
      refine ex_iconst (n := 0) (v := 0) (np := 40) C (by decide +kernel) (by decide) rfl ?_
      have E9 : A_readTown σ = ((0 : Int32), σ7) := by unfold A_readTown; exact (if_pos h1).trans ((ex_lt_eq q3).trans ((ex_bd_eq q8).trans ((if_pos h12).trans (rfl))))
      exact ex_iret C hr hlk (by decide +kernel) rfl (Nat.le_refl _) (Nat.le_refl _) (by rw [E9]; exact ⟨rfl, rfl⟩)
    · skip
      refine ex_aload_n (q := 2) (x := 1) (np := 30) C (by decide +kernel) rfl rfl ?_
      refine ex_iconst (n := 0) (v := 0) (np := 31) C (by decide +kernel) (by decide) rfl ?_
      refine ex_bipush (n := 60) (v := 60) (np := 33) C (by decide +kernel) (by decide) rfl ?_
      obtain ⟨r13, σ14, q15⟩ : ∃ r x, A_takeNumber (0 : Int32) (60 : Int32) σ7 = (r, x) := ex_pair _
      refine ex_call_i (np := 36) (fun ws H locs ls hR hsz => ex_runVN C (m_X4_takeNumber d (by omega) x y (0 : Int32) (60 : Int32) σ7 hI10) hd1 hd2 (by decide) hy_X4_takeNumber tg_716 hc_X4 rfl (WA_1 _ _ _) rfl rfl (Nat.le_of_ble_eq_true rfl) tn_713 tg_715 tg_15 tg_144 (by decide +kernel) ws H locs ls hR hsz (Nat.zero_le _) (Nat.zero_le _)) rfl (fun r9 w1 hpo => ?_)
      rw [q15] at hpo
      have hp1 : r13 = r9 := hpo.1.symm
      have hp2 := hpo.2
      clear hpo; subst hp1; subst hp2
      have hI16 := inv_X4_takeNumber (0 : Int32) (60 : Int32) σ7 hI10; rw [q15] at hI16
      have hF17 := fr_X4_takeNumber (0 : Int32) (60 : Int32) σ7; rw [q15] at hF17
      refine ex_if_ne (off := 5) (tgt := 41) (np := 39) C (by decide +kernel) (by decide) rfl (fun h18 => ?_) (fun h18 => ?_)
      · skip
        refine ex_aload_n (q := 1) (x := 6) (np := 42) C (by decide +kernel) rfl rfl ?_
        refine ex_getfN (q := 1) (v := .ref 7) (np := 45) C hc_X8 hin_X8 (by decide) tn_317 (by decide +kernel) (WA_6 _ _ _) rfl rfl ?_
        refine ex_iload_n (q := 3) (x := (σ.1 11)) (np := 46) C (by decide +kernel) rfl rfl ?_
        refine ex_aload_n (q := 2) (x := 1) (np := 47) C (by decide +kernel) rfl rfl ?_
        refine ex_getfN (q := 10) (v := .long (σ14.2.1 1)) (np := 50) C hc_X4 hin_X4 (by decide) tn_250 (by decide +kernel) (WA_1 _ _ _) rfl rfl ?_
        refine ex_last (f := (σ14.2.2.2 1)) (kk := ((σ.1 11)).toNatClampNeg) (w1 := (WA x y (sQ 1 (vp_updL (σ14.2.2.2 1) ((σ.1 11)).toNatClampNeg (σ14.2.1 1)) σ14))) (np := 51) C (by decide +kernel) (WA_7 _ _ _) (by have h9 := hI; unfold A_INV at h9; have h8 := h1; have e9 : (7 : Int32).toInt = 7 := (by decide); omega) rfl (WA_7_s _ _ _ _) rfl ?_
        refine ex_aload_n (q := 1) (x := 6) (np := 52) C (by decide +kernel) rfl rfl ?_
        refine ex_getfN (q := 2) (v := .ref 8) (np := 55) C hc_X8 hin_X8 (by decide) tn_320 (by decide +kernel) (WA_6 _ _ _) rfl rfl ?_
        refine ex_iload_n (q := 3) (x := (σ.1 11)) (np := 56) C (by decide +kernel) rfl rfl ?_
        refine ex_aload_n (q := 2) (x := 1) (np := 57) C (by decide +kernel) rfl rfl ?_
        refine ex_getfN (q := 9) (v := .int (σ14.1 7)) (np := 60) C hc_X4 hin_X4 (by decide) tn_246 (by decide +kernel) (WA_1 _ _ _) rfl rfl ?_
        refine ex_iast (f := (σ14.2.2.1 1)) (kk := ((σ.1 11)).toNatClampNeg) (w1 := (WA x y (sR 1 (upd (σ14.2.2.1 1) ((σ.1 11)).toNatClampNeg (σ14.1 7)) (sQ 1 (vp_updL (σ14.2.2.2 1) ((σ.1 11)).toNatClampNeg (σ14.2.1 1)) σ14)))) (np := 61) C (by decide +kernel) (WA_8 _ _ _) (by have h9 := hI; unfold A_INV at h9; have h8 := h1; have e9 : (7 : Int32).toInt = 7 := (by decide); omega) rfl (WA_8_s _ _ _ _) rfl ?_
        refine ex_aload_n (q := 1) (x := 6) (np := 62) C (by decide +kernel) rfl rfl ?_
        refine ex_getfN (q := 3) (v := .ref 9) (np := 65) C hc_X8 hin_X8 (by decide) tn_325 (by decide +kernel) (WA_6 _ _ _) rfl rfl ?_
        refine ex_iload_n (q := 3) (x := (σ.1 11)) (np := 66) C (by decide +kernel) rfl rfl ?_
        refine ex_iconst (n := 0) (v := 0) (np := 67) C (by decide +kernel) (by decide) rfl ?_
        refine ex_iast (f := (σ14.2.2.1 2)) (kk := ((σ.1 11)).toNatClampNeg) (w1 := (WA x y (sR 2 (upd (σ14.2.2.1 2) ((σ.1 11)).toNatClampNeg (0 : Int32)) (sR 1 (upd (σ14.2.2.1 1) ((σ.1 11)).toNatClampNeg (σ14.1 7)) (sQ 1 (vp_updL (σ14.2.2.2 1) ((σ.1 11)).toNatClampNeg (σ14.2.1 1)) σ14))))) (np := 68) C (by decide +kernel) (WA_9 _ _ _) (by have h9 := hI; unfold A_INV at h9; have h8 := h1; have e9 : (7 : Int32).toInt = 7 := (by decide); omega) rfl (WA_9_s _ _ _ _) rfl ?_
        refine ex_aload_n (q := 1) (x := 6) (np := 69) C (by decide +kernel) rfl rfl ?_
        refine ex_dup (np := 70) C rfl (by decide +kernel) rfl ?_
        refine ex_getfN (q := 0) (v := .int (σ14.1 11)) (np := 73) C hc_X8 hin_X8 (by decide) tn_314 (by decide +kernel) (WA_6 _ _ _) rfl rfl ?_
        refine ex_iconst (n := 1) (v := 1) (np := 74) C (by decide +kernel) (by decide) rfl ?_
        refine ex_iadd (v := ((σ14.1 11) + (1 : Int32))) (np := 75) C (by decide +kernel) rfl rfl ?_
        refine ex_putfN (q := 0) (w1 := (WA x y (sI 11 ((σ14.1 11) + (1 : Int32)) (sR 2 (upd (σ14.2.2.1 2) ((σ.1 11)).toNatClampNeg (0 : Int32)) (sR 1 (upd (σ14.2.2.1 1) ((σ.1 11)).toNatClampNeg (σ14.1 7)) (sQ 1 (vp_updL (σ14.2.2.2 1) ((σ.1 11)).toNatClampNeg (σ14.2.1 1)) σ14)))))) (np := 78) C hc_X8 hin_X8 (by decide) tyX8_ok nmX8 tn_314 rfl (by decide +kernel) (WA_6 _ _ _) (Nat.le_of_ble_eq_true rfl) rfl rfl (WA_6_0 _ _ _ _) rfl ?_
        refine ex_aload_n (q := 2) (x := 1) (np := 79) C (by decide +kernel) rfl rfl ?_
        refine ex_getfN (q := 5) (v := .int (σ14.1 4)) (np := 82) C hc_X4 hin_X4 (by decide) tn_237 (by decide +kernel) (WA_1 _ _ _) rfl rfl ?_
        refine ex_bipush (n := 59) (v := 59) (np := 84) C (by decide +kernel) (by decide) rfl ?_
        refine ex_icmp_ne (off := 5) (tgt := 89) (np := 87) C (by decide +kernel) (by decide) rfl (fun h19 => ?_) (fun h19 => ?_)
        · skip
          refine ex_aload_n (q := 2) (x := 1) (np := 90) C (by decide +kernel) rfl rfl ?_
          obtain ⟨r20, σ21, q22⟩ : ∃ r x, A_takeWay (sI 11 ((σ14.1 11) + (1 : Int32)) (sR 2 (upd (σ14.2.2.1 2) ((σ.1 11)).toNatClampNeg (0 : Int32)) (sR 1 (upd (σ14.2.2.1 1) ((σ.1 11)).toNatClampNeg (σ14.1 7)) (sQ 1 (vp_updL (σ14.2.2.2 1) ((σ.1 11)).toNatClampNeg (σ14.2.1 1)) σ14)))) = (r, x) := ex_pair _
          refine ex_call_i (np := 93) (fun ws H locs ls hR hsz => ex_runVN C (m_X4_takeWay d (by omega) x y (sI 11 ((σ14.1 11) + (1 : Int32)) (sR 2 (upd (σ14.2.2.1 2) ((σ.1 11)).toNatClampNeg (0 : Int32)) (sR 1 (upd (σ14.2.2.1 1) ((σ.1 11)).toNatClampNeg (σ14.1 7)) (sQ 1 (vp_updL (σ14.2.2.2 1) ((σ.1 11)).toNatClampNeg (σ14.2.1 1)) σ14)))) (A_INV_t hI16 (by rw [(((hF17.1 11 (by decide)).trans (hF11.1 11 (by decide))).trans (hF5.1 11 (by decide)))]; have h8 := h1; have e9 : (7 : Int32).toInt = 7 := (by decide); omega))) hd1 hd2 (by decide) hy_X4_takeWay tg_720 hc_X4 rfl (WA_1 _ _ _) rfl rfl (Nat.le_of_ble_eq_true rfl) tn_717 tg_719 tg_16 tg_144 (by decide +kernel) ws H locs ls hR hsz (Nat.zero_le _) (Nat.zero_le _)) rfl (fun r9 w1 hpo => ?_)
          rw [q22] at hpo
          have hp1 : r20 = r9 := hpo.1.symm
          have hp2 := hpo.2
          clear hpo; subst hp1; subst hp2
          have hI23 := inv_X4_takeWay (sI 11 ((σ14.1 11) + (1 : Int32)) (sR 2 (upd (σ14.2.2.1 2) ((σ.1 11)).toNatClampNeg (0 : Int32)) (sR 1 (upd (σ14.2.2.1 1) ((σ.1 11)).toNatClampNeg (σ14.1 7)) (sQ 1 (vp_updL (σ14.2.2.2 1) ((σ.1 11)).toNatClampNeg (σ14.2.1 1)) σ14)))) (A_INV_t hI16 (by rw [(((hF17.1 11 (by decide)).trans (hF11.1 11 (by decide))).trans (hF5.1 11 (by decide)))]; have h8 := h1; have e9 : (7 : Int32).toInt = 7 := (by decide); omega)); rw [q22] at hI23
          have hF24 := fr_X4_takeWay (sI 11 ((σ14.1 11) + (1 : Int32)) (sR 2 (upd (σ14.2.2.1 2) ((σ.1 11)).toNatClampNeg (0 : Int32)) (sR 1 (upd (σ14.2.2.1 1) ((σ.1 11)).toNatClampNeg (σ14.1 7)) (sQ 1 (vp_updL (σ14.2.2.2 1) ((σ.1 11)).toNatClampNeg (σ14.2.1 1)) σ14)))); rw [q22] at hF24
          refine ex_if_eq (off := 13) (tgt := 106) (np := 96) C (by decide +kernel) (by decide) rfl (fun h25 => ?_) (fun h25 => ?_)
          · skip
            refine ex_iconst (n := 0) (v := 0) (np := 107) C (by decide +kernel) (by decide) rfl ?_
            have E9 : A_readTown σ = ((0 : Int32), σ21) := by unfold A_readTown; exact (if_pos h1).trans ((ex_lt_eq q3).trans ((ex_bd_eq q8).trans ((if_neg h12).trans ((ex_bd_eq q15).trans ((if_neg h18).trans ((if_neg h19).trans ((ex_bd_eq q22).trans ((if_pos h25).trans (rfl)))))))))
            exact ex_iret C hr hlk (by decide +kernel) rfl (Nat.le_refl _) (Nat.le_refl _) (by rw [E9]; exact ⟨rfl, rfl⟩)
          · skip
            refine ex_aload_n (q := 2) (x := 1) (np := 97) C (by decide +kernel) rfl rfl ?_
            refine ex_iconst (n := 1) (v := 1) (np := 98) C (by decide +kernel) (by decide) rfl ?_
            refine ex_bipush (n := 30) (v := 30) (np := 100) C (by decide +kernel) (by decide) rfl ?_
            obtain ⟨r26, σ27, q28⟩ : ∃ r x, A_takeNumber (1 : Int32) (30 : Int32) σ21 = (r, x) := ex_pair _
            refine ex_call_i (np := 103) (fun ws H locs ls hR hsz => ex_runVN C (m_X4_takeNumber d (by omega) x y (1 : Int32) (30 : Int32) σ21 hI23) hd1 hd2 (by decide) hy_X4_takeNumber tg_716 hc_X4 rfl (WA_1 _ _ _) rfl rfl (Nat.le_of_ble_eq_true rfl) tn_713 tg_715 tg_15 tg_144 (by decide +kernel) ws H locs ls hR hsz (Nat.zero_le _) (Nat.zero_le _)) rfl (fun r9 w1 hpo => ?_)
            rw [q28] at hpo
            have hp1 : r26 = r9 := hpo.1.symm
            have hp2 := hpo.2
            clear hpo; subst hp1; subst hp2
            have hI29 := inv_X4_takeNumber (1 : Int32) (30 : Int32) σ21 hI23; rw [q28] at hI29
            have hF30 := fr_X4_takeNumber (1 : Int32) (30 : Int32) σ21; rw [q28] at hF30
            refine ex_if_ne (off := 5) (tgt := 108) (np := 106) C (by decide +kernel) (by decide) rfl (fun h31 => ?_) (fun h31 => ?_)
            · skip
              refine ex_aload_n (q := 1) (x := 6) (np := 109) C (by decide +kernel) rfl rfl ?_
              refine ex_getfN (q := 3) (v := .ref 9) (np := 112) C hc_X8 hin_X8 (by decide) tn_325 (by decide +kernel) (WA_6 _ _ _) rfl rfl ?_
              refine ex_iload_n (q := 3) (x := (σ.1 11)) (np := 113) C (by decide +kernel) rfl rfl ?_
              refine ex_aload_n (q := 2) (x := 1) (np := 114) C (by decide +kernel) rfl rfl ?_
              refine ex_getfN (q := 11) (v := .int (σ27.1 8)) (np := 117) C hc_X4 hin_X4 (by decide) tn_253 (by decide +kernel) (WA_1 _ _ _) rfl rfl ?_
              refine ex_aload_n (q := 2) (x := 1) (np := 118) C (by decide +kernel) rfl rfl ?_
              refine ex_getfN (q := 9) (v := .int (σ27.1 7)) (np := 121) C hc_X4 hin_X4 (by decide) tn_246 (by decide +kernel) (WA_1 _ _ _) rfl rfl ?_
              refine ex_imul (v := ((σ27.1 8) * (σ27.1 7))) (np := 122) C (by decide +kernel) rfl rfl ?_
              refine ex_iast (f := (σ27.2.2.1 2)) (kk := ((σ.1 11)).toNatClampNeg) (w1 := (WA x y (sR 2 (upd (σ27.2.2.1 2) ((σ.1 11)).toNatClampNeg ((σ27.1 8) * (σ27.1 7))) σ27))) (np := 123) C (by decide +kernel) (WA_9 _ _ _) (by have h9 := hI; unfold A_INV at h9; have h8 := h1; have e9 : (7 : Int32).toInt = 7 := (by decide); omega) rfl (WA_9_s _ _ _ _) rfl ?_
              refine ex_iconst (n := 1) (v := 1) (np := 124) C (by decide +kernel) (by decide) rfl ?_
              have E9 : A_readTown σ = ((1 : Int32), (sR 2 (upd (σ27.2.2.1 2) ((σ.1 11)).toNatClampNeg ((σ27.1 8) * (σ27.1 7))) σ27)) := by unfold A_readTown; exact (if_pos h1).trans ((ex_lt_eq q3).trans ((ex_bd_eq q8).trans ((if_neg h12).trans ((ex_bd_eq q15).trans ((if_neg h18).trans ((if_neg h19).trans ((ex_bd_eq q22).trans ((if_neg h25).trans ((ex_bd_eq q28).trans ((if_neg h31).trans (rfl)))))))))))
              exact ex_iret C hr hlk (by decide +kernel) rfl (Nat.le_refl _) (Nat.le_refl _) (by rw [E9]; exact ⟨rfl, rfl⟩)
            · skip
              refine ex_iconst (n := 0) (v := 0) (np := 107) C (by decide +kernel) (by decide) rfl ?_
              have E9 : A_readTown σ = ((0 : Int32), σ27) := by unfold A_readTown; exact (if_pos h1).trans ((ex_lt_eq q3).trans ((ex_bd_eq q8).trans ((if_neg h12).trans ((ex_bd_eq q15).trans ((if_neg h18).trans ((if_neg h19).trans ((ex_bd_eq q22).trans ((if_neg h25).trans ((ex_bd_eq q28).trans ((if_pos h31).trans (rfl)))))))))))
              exact ex_iret C hr hlk (by decide +kernel) rfl (Nat.le_refl _) (Nat.le_refl _) (by rw [E9]; exact ⟨rfl, rfl⟩)
        · skip
          refine ex_iconst (n := 1) (v := 1) (np := 88) C (by decide +kernel) (by decide) rfl ?_
          have E9 : A_readTown σ = ((1 : Int32), (sI 11 ((σ14.1 11) + (1 : Int32)) (sR 2 (upd (σ14.2.2.1 2) ((σ.1 11)).toNatClampNeg (0 : Int32)) (sR 1 (upd (σ14.2.2.1 1) ((σ.1 11)).toNatClampNeg (σ14.1 7)) (sQ 1 (vp_updL (σ14.2.2.2 1) ((σ.1 11)).toNatClampNeg (σ14.2.1 1)) σ14))))) := by unfold A_readTown; exact (if_pos h1).trans ((ex_lt_eq q3).trans ((ex_bd_eq q8).trans ((if_neg h12).trans ((ex_bd_eq q15).trans ((if_neg h18).trans ((if_pos h19).trans (rfl)))))))
          exact ex_iret C hr hlk (by decide +kernel) rfl (Nat.le_refl _) (Nat.le_refl _) (by rw [E9]; exact ⟨rfl, rfl⟩)
      · skip
        refine ex_iconst (n := 0) (v := 0) (np := 40) C (by decide +kernel) (by decide) rfl ?_
        have E9 : A_readTown σ = ((0 : Int32), σ14) := by unfold A_readTown; exact (if_pos h1).trans ((ex_lt_eq q3).trans ((ex_bd_eq q8).trans ((if_neg h12).trans ((ex_bd_eq q15).trans ((if_pos h18).trans (rfl))))))
        exact ex_iret C hr hlk (by decide +kernel) rfl (Nat.le_refl _) (Nat.le_refl _) (by rw [E9]; exact ⟨rfl, rfl⟩)
  · skip
    refine ex_aload_n (q := 2) (x := 1) (np := 12) C (by decide +kernel) rfl rfl ?_
    refine ex_iconst (n := 4) (v := 4) (np := 13) C (by decide +kernel) (by decide) rfl ?_
    obtain ⟨r32, σ33, q34⟩ : ∃ r x, A_failAs (4 : Int32) σ = (r, x) := ex_pair _
    refine ex_call_i (np := 16) (fun ws H locs ls hR hsz => ex_runVN C (m_X4_failAs d (by omega) x y (4 : Int32) σ) hd1 hd2 (by decide) hy_X4_failAs tg_694 hc_X4 rfl (WA_1 _ _ _) rfl rfl (Nat.le_of_ble_eq_true rfl) tn_691 tg_693 tg_10 tg_144 (by decide +kernel) ws H locs ls hR hsz (Nat.zero_le _) (Nat.zero_le _)) rfl (fun r9 w1 hpo => ?_)
    rw [q34] at hpo
    have hp1 : r32 = r9 := hpo.1.symm
    have hp2 := hpo.2
    clear hpo; subst hp1; subst hp2
    have hI35 := inv_X4_failAs (4 : Int32) σ hI; rw [q34] at hI35
    have hF36 := fr_X4_failAs (4 : Int32) σ; rw [q34] at hF36
    have E9 : A_readTown σ = (r32, σ33) := by unfold A_readTown; exact (if_neg h1).trans ((ex_bd_eq q34).trans (rfl))
    exact ex_iret C hr hlk (by decide +kernel) (ex_nar (by have b9 := bl_X4_failAs (4 : Int32) σ; rw [q34] at b9; exact b9)) (Nat.le_refl _) (Nat.le_refl _) (by rw [E9]; exact ⟨rfl, rfl⟩)
set_option maxRecDepth 100000 in
set_option maxHeartbeats 4000000 in
theorem m_X9_readTerm {l : Launch} {X : ab_X} {D : va_G} {A : ex_A} (d : Nat) (hd : 4 ≤ d) (x : Nat × List ex_E) (y : Nat) (σ : ex_S) (hI : A_INV σ) : ex_ctr l X D A d yX9_readTerm cX9_readTerm 4 (some .boolean) (WA x y σ) [.ref 4, .ref 6, .ref 1] (fun r w => r = (A_readTerm σ).1 ∧ w = WA x y (A_readTerm σ).2) := by
  obtain ⟨d, rfl⟩ : ∃ d9, d = d9 + 1 := ⟨d - 1, by omega⟩
  refine ex_meth (own := RX9) rfl (by decide) (Nat.le_of_ble_eq_true rfl) (fun p e R s m below meth c C hr hlk hd1 hd2 => ?_)
  show ex_ok p l e R s m _ below meth c 0 0 _ 4 X D A (WA x y σ) 0 [(0, .ref 4), (1, .ref 6), (2, .ref 1)] []
  refine ex_aload_n (q := 1) (x := 6) (np := 1) C (by decide +kernel) rfl rfl ?_
  refine ex_getfN (q := 4) (v := .int (σ.1 12)) (np := 4) C hc_X8 hin_X8 (by decide) tn_327 (by decide +kernel) (WA_6 _ _ _) rfl rfl ?_
  refine ex_istore_n (q := 3) (np := 5) (lv1 := [(3, .int (σ.1 12)), (0, .ref 4), (1, .ref 6), (2, .ref 1)]) C (by decide) (by decide +kernel) rfl rfl ?_
  refine ex_iload_n (q := 3) (x := (σ.1 12)) (np := 6) C (by decide +kernel) rfl rfl ?_
  refine ex_bipush (n := 12) (v := 12) (np := 8) C (by decide +kernel) (by decide) rfl ?_
  refine ex_icmp_lt (off := 9) (tgt := 17) (np := 11) C (by decide +kernel) (by decide) rfl (fun h1 => ?_) (fun h1 => ?_)
  · skip
    refine ex_aload_n (q := 2) (x := 1) (np := 18) C (by decide +kernel) rfl rfl ?_
    obtain ⟨σ2, q3⟩ : ∃ x, x = A_next σ := ⟨_, rfl⟩
    refine ex_call_v (np := 21) (fun ws H locs ls hR hsz => ex_runVN C (m_X4_next d (by omega) x y σ hI) hd1 hd2 (by decide) hy_X4_next tg_667 hc_X4 rfl (WA_1 _ _ _) rfl rfl (Nat.le_of_ble_eq_true rfl) tn_695 tg_666 tg_4 tg_144 (by decide +kernel) ws H locs ls hR hsz (Nat.zero_le _) (Nat.zero_le _)) rfl (fun w1 hpo => ?_)
    rw [← q3] at hpo
    subst hpo
    have hI4 := inv_X4_next σ hI; rw [← q3] at hI4
    have hF5 := fr_X4_next σ; rw [← q3] at hF5
    refine ex_aload_n (q := 2) (x := 1) (np := 22) C (by decide +kernel) rfl rfl ?_
    refine ex_aload_n (q := 1) (x := 6) (np := 23) C (by decide +kernel) rfl rfl ?_
    refine ex_iconst (n := (-1)) (v := (-1)) (np := 24) C (by decide +kernel) (by decide) rfl ?_
    obtain ⟨r6, σ7, q8⟩ : ∃ r x, A_takeTown (-1 : Int32) σ2 = (r, x) := ex_pair _
    refine ex_call_i (np := 27) (fun ws H locs ls hR hsz => ex_runVN C (m_X4_takeTown d (by omega) x y (-1 : Int32) σ2 hI4) hd1 hd2 (by decide) hy_X4_takeTown tg_728 hc_X4 rfl (WA_1 _ _ _) rfl rfl (Nat.le_of_ble_eq_true rfl) tn_725 tg_727 tg_18 tg_144 (by decide +kernel) ws H locs ls hR hsz (Nat.zero_le _) (Nat.zero_le _)) rfl (fun r9 w1 hpo => ?_)
    rw [q8] at hpo
    have hp1 : r6 = r9 := hpo.1.symm
    have hp2 := hpo.2
    clear hpo; subst hp1; subst hp2
    have hI10 := inv_X4_takeTown (-1 : Int32) σ2 hI4; rw [q8] at hI10
    have hF11 := fr_X4_takeTown (-1 : Int32) σ2; rw [q8] at hF11
    refine ex_if_ne (off := 5) (tgt := 32) (np := 30) C (by decide +kernel) (by decide) rfl (fun h12 => ?_) (fun h12 => ?_)
    · skip
      refine ex_aload_n (q := 1) (x := 6) (np := 33) C (by decide +kernel) rfl rfl ?_
      refine ex_getfN (q := 5) (v := .ref 10) (np := 36) C hc_X8 hin_X8 (by decide) tn_330 (by decide +kernel) (WA_6 _ _ _) rfl rfl ?_
      refine ex_iload_n (q := 3) (x := (σ.1 12)) (np := 37) C (by decide +kernel) rfl rfl ?_
      refine ex_aload_n (q := 2) (x := 1) (np := 38) C (by decide +kernel) rfl rfl ?_
      refine ex_getfN (q := 9) (v := .int (σ7.1 7)) (np := 41) C hc_X4 hin_X4 (by decide) tn_246 (by decide +kernel) (WA_1 _ _ _) rfl rfl ?_
      refine ex_iast (f := (σ7.2.2.1 3)) (kk := ((σ.1 12)).toNatClampNeg) (w1 := (WA x y (sR 3 (upd (σ7.2.2.1 3) ((σ.1 12)).toNatClampNeg (σ7.1 7)) σ7))) (np := 42) C (by decide +kernel) (WA_10 _ _ _) (by have h9 := hI; unfold A_INV at h9; have h8 := h1; have e9 : (12 : Int32).toInt = 12 := (by decide); omega) rfl (WA_10_s _ _ _ _) rfl ?_
      refine ex_aload_n (q := 2) (x := 1) (np := 43) C (by decide +kernel) rfl rfl ?_
      refine ex_iconst (n := 0) (v := 0) (np := 44) C (by decide +kernel) (by decide) rfl ?_
      refine ex_sipush (n := 399) (v := 399) (np := 47) C (by decide +kernel) (by decide) rfl ?_
      obtain ⟨r13, σ14, q15⟩ : ∃ r x, A_takeNumber (0 : Int32) (399 : Int32) (sR 3 (upd (σ7.2.2.1 3) ((σ.1 12)).toNatClampNeg (σ7.1 7)) σ7) = (r, x) := ex_pair _
      refine ex_call_i (np := 50) (fun ws H locs ls hR hsz => ex_runVN C (m_X4_takeNumber d (by omega) x y (0 : Int32) (399 : Int32) (sR 3 (upd (σ7.2.2.1 3) ((σ.1 12)).toNatClampNeg (σ7.1 7)) σ7) hI10) hd1 hd2 (by decide) hy_X4_takeNumber tg_716 hc_X4 rfl (WA_1 _ _ _) rfl rfl (Nat.le_of_ble_eq_true rfl) tn_713 tg_715 tg_15 tg_144 (by decide +kernel) ws H locs ls hR hsz (Nat.zero_le _) (Nat.zero_le _)) rfl (fun r9 w1 hpo => ?_)
      rw [q15] at hpo
      have hp1 : r13 = r9 := hpo.1.symm
      have hp2 := hpo.2
      clear hpo; subst hp1; subst hp2
      have hI16 := inv_X4_takeNumber (0 : Int32) (399 : Int32) (sR 3 (upd (σ7.2.2.1 3) ((σ.1 12)).toNatClampNeg (σ7.1 7)) σ7) hI10; rw [q15] at hI16
      have hF17 := fr_X4_takeNumber (0 : Int32) (399 : Int32) (sR 3 (upd (σ7.2.2.1 3) ((σ.1 12)).toNatClampNeg (σ7.1 7)) σ7); rw [q15] at hF17
      refine ex_if_ne (off := 5) (tgt := 55) (np := 53) C (by decide +kernel) (by decide) rfl (fun h18 => ?_) (fun h18 => ?_)
      · skip
        refine ex_aload_n (q := 1) (x := 6) (np := 56) C (by decide +kernel) rfl rfl ?_
        refine ex_getfN (q := 6) (v := .ref 11) (np := 59) C hc_X8 hin_X8 (by decide) tn_332 (by decide +kernel) (WA_6 _ _ _) rfl rfl ?_
        refine ex_iload_n (q := 3) (x := (σ.1 12)) (np := 60) C (by decide +kernel) rfl rfl ?_
        refine ex_aload_n (q := 2) (x := 1) (np := 61) C (by decide +kernel) rfl rfl ?_
        refine ex_getfN (q := 9) (v := .int (σ14.1 7)) (np := 64) C hc_X4 hin_X4 (by decide) tn_246 (by decide +kernel) (WA_1 _ _ _) rfl rfl ?_
        refine ex_iast (f := (σ14.2.2.1 4)) (kk := ((σ.1 12)).toNatClampNeg) (w1 := (WA x y (sR 4 (upd (σ14.2.2.1 4) ((σ.1 12)).toNatClampNeg (σ14.1 7)) σ14))) (np := 65) C (by decide +kernel) (WA_11 _ _ _) (by have h9 := hI; unfold A_INV at h9; have h8 := h1; have e9 : (12 : Int32).toInt = 12 := (by decide); omega) rfl (WA_11_s _ _ _ _) rfl ?_
        refine ex_aload_n (q := 2) (x := 1) (np := 66) C (by decide +kernel) rfl rfl ?_
        refine ex_aload_n (q := 1) (x := 6) (np := 67) C (by decide +kernel) rfl rfl ?_
        refine ex_getfN (q := 6) (v := .ref 11) (np := 70) C hc_X8 hin_X8 (by decide) tn_332 (by decide +kernel) (WA_6 _ _ _) rfl rfl ?_
        refine ex_iload_n (q := 3) (x := (σ.1 12)) (np := 71) C (by decide +kernel) rfl rfl ?_
        refine ex_iald (f := (upd (σ14.2.2.1 4) ((σ.1 12)).toNatClampNeg (σ14.1 7))) (kk := ((σ.1 12)).toNatClampNeg) (np := 72) C (by decide +kernel) (WA_11 _ _ _) (by have h9 := hI; unfold A_INV at h9; have h8 := h1; have e9 : (12 : Int32).toInt = 12 := (by decide); omega) rfl rfl ?_
        refine ex_sipush (n := 399) (v := 399) (np := 75) C (by decide +kernel) (by decide) rfl ?_
        obtain ⟨r19, σ20, q21⟩ : ∃ r x, A_takeNumber ((upd (σ14.2.2.1 4) ((σ.1 12)).toNatClampNeg (σ14.1 7)) ((σ.1 12)).toNatClampNeg) (399 : Int32) (sR 4 (upd (σ14.2.2.1 4) ((σ.1 12)).toNatClampNeg (σ14.1 7)) σ14) = (r, x) := ex_pair _
        refine ex_call_i (np := 78) (fun ws H locs ls hR hsz => ex_runVN C (m_X4_takeNumber d (by omega) x y ((upd (σ14.2.2.1 4) ((σ.1 12)).toNatClampNeg (σ14.1 7)) ((σ.1 12)).toNatClampNeg) (399 : Int32) (sR 4 (upd (σ14.2.2.1 4) ((σ.1 12)).toNatClampNeg (σ14.1 7)) σ14) hI16) hd1 hd2 (by decide) hy_X4_takeNumber tg_716 hc_X4 rfl (WA_1 _ _ _) rfl rfl (Nat.le_of_ble_eq_true rfl) tn_713 tg_715 tg_15 tg_144 (by decide +kernel) ws H locs ls hR hsz (Nat.zero_le _) (Nat.zero_le _)) rfl (fun r9 w1 hpo => ?_)
        rw [q21] at hpo
        have hp1 : r19 = r9 := hpo.1.symm
        have hp2 := hpo.2
        clear hpo; subst hp1; subst hp2
        have hI22 := inv_X4_takeNumber ((upd (σ14.2.2.1 4) ((σ.1 12)).toNatClampNeg (σ14.1 7)) ((σ.1 12)).toNatClampNeg) (399 : Int32) (sR 4 (upd (σ14.2.2.1 4) ((σ.1 12)).toNatClampNeg (σ14.1 7)) σ14) hI16; rw [q21] at hI22
        have hF23 := fr_X4_takeNumber ((upd (σ14.2.2.1 4) ((σ.1 12)).toNatClampNeg (σ14.1 7)) ((σ.1 12)).toNatClampNeg) (399 : Int32) (sR 4 (upd (σ14.2.2.1 4) ((σ.1 12)).toNatClampNeg (σ14.1 7)) σ14); rw [q21] at hF23
        refine ex_if_ne (off := 5) (tgt := 83) (np := 81) C (by decide +kernel) (by decide) rfl (fun h24 => ?_) (fun h24 => ?_)
        · skip
          refine ex_aload_n (q := 1) (x := 6) (np := 84) C (by decide +kernel) rfl rfl ?_
          refine ex_getfN (q := 7) (v := .ref 12) (np := 87) C hc_X8 hin_X8 (by decide) tn_334 (by decide +kernel) (WA_6 _ _ _) rfl rfl ?_
          refine ex_iload_n (q := 3) (x := (σ.1 12)) (np := 88) C (by decide +kernel) rfl rfl ?_
          refine ex_aload_n (q := 2) (x := 1) (np := 89) C (by decide +kernel) rfl rfl ?_
          refine ex_getfN (q := 9) (v := .int (σ20.1 7)) (np := 92) C hc_X4 hin_X4 (by decide) tn_246 (by decide +kernel) (WA_1 _ _ _) rfl rfl ?_
          refine ex_iast (f := (σ20.2.2.1 5)) (kk := ((σ.1 12)).toNatClampNeg) (w1 := (WA x y (sR 5 (upd (σ20.2.2.1 5) ((σ.1 12)).toNatClampNeg (σ20.1 7)) σ20))) (np := 93) C (by decide +kernel) (WA_12 _ _ _) (by have h9 := hI; unfold A_INV at h9; have h8 := h1; have e9 : (12 : Int32).toInt = 12 := (by decide); omega) rfl (WA_12_s _ _ _ _) rfl ?_
          refine ex_aload_n (q := 2) (x := 1) (np := 94) C (by decide +kernel) rfl rfl ?_
          obtain ⟨r25, σ26, q27⟩ : ∃ r x, A_takeWay (sR 5 (upd (σ20.2.2.1 5) ((σ.1 12)).toNatClampNeg (σ20.1 7)) σ20) = (r, x) := ex_pair _
          refine ex_call_i (np := 97) (fun ws H locs ls hR hsz => ex_runVN C (m_X4_takeWay d (by omega) x y (sR 5 (upd (σ20.2.2.1 5) ((σ.1 12)).toNatClampNeg (σ20.1 7)) σ20) hI22) hd1 hd2 (by decide) hy_X4_takeWay tg_720 hc_X4 rfl (WA_1 _ _ _) rfl rfl (Nat.le_of_ble_eq_true rfl) tn_717 tg_719 tg_16 tg_144 (by decide +kernel) ws H locs ls hR hsz (Nat.zero_le _) (Nat.zero_le _)) rfl (fun r9 w1 hpo => ?_)
          rw [q27] at hpo
          have hp1 : r25 = r9 := hpo.1.symm
          have hp2 := hpo.2
          clear hpo; subst hp1; subst hp2
          have hI28 := inv_X4_takeWay (sR 5 (upd (σ20.2.2.1 5) ((σ.1 12)).toNatClampNeg (σ20.1 7)) σ20) hI22; rw [q27] at hI28
          have hF29 := fr_X4_takeWay (sR 5 (upd (σ20.2.2.1 5) ((σ.1 12)).toNatClampNeg (σ20.1 7)) σ20); rw [q27] at hF29
          refine ex_if_eq (off := 13) (tgt := 110) (np := 100) C (by decide +kernel) (by decide) rfl (fun h30 => ?_) (fun h30 => ?_)
          · skip
            refine ex_iconst (n := 0) (v := 0) (np := 111) C (by decide +kernel) (by decide) rfl ?_
            have E9 : A_readTerm σ = ((0 : Int32), σ26) := by unfold A_readTerm; exact (if_pos h1).trans ((ex_lt_eq q3).trans ((ex_bd_eq q8).trans ((if_neg h12).trans ((ex_bd_eq q15).trans ((if_neg h18).trans ((ex_bd_eq q21).trans ((if_neg h24).trans ((ex_bd_eq q27).trans ((if_pos h30).trans (rfl))))))))))
            exact ex_iret C hr hlk (by decide +kernel) rfl (Nat.le_refl _) (Nat.le_refl _) (by rw [E9]; exact ⟨rfl, rfl⟩)
          · skip
            refine ex_aload_n (q := 2) (x := 1) (np := 101) C (by decide +kernel) rfl rfl ?_
            refine ex_iconst (n := 0) (v := 0) (np := 102) C (by decide +kernel) (by decide) rfl ?_
            refine ex_bipush (n := 30) (v := 30) (np := 104) C (by decide +kernel) (by decide) rfl ?_
            obtain ⟨r31, σ32, q33⟩ : ∃ r x, A_takeNumber (0 : Int32) (30 : Int32) σ26 = (r, x) := ex_pair _
            refine ex_call_i (np := 107) (fun ws H locs ls hR hsz => ex_runVN C (m_X4_takeNumber d (by omega) x y (0 : Int32) (30 : Int32) σ26 hI28) hd1 hd2 (by decide) hy_X4_takeNumber tg_716 hc_X4 rfl (WA_1 _ _ _) rfl rfl (Nat.le_of_ble_eq_true rfl) tn_713 tg_715 tg_15 tg_144 (by decide +kernel) ws H locs ls hR hsz (Nat.zero_le _) (Nat.zero_le _)) rfl (fun r9 w1 hpo => ?_)
            rw [q33] at hpo
            have hp1 : r31 = r9 := hpo.1.symm
            have hp2 := hpo.2
            clear hpo; subst hp1; subst hp2
            have hI34 := inv_X4_takeNumber (0 : Int32) (30 : Int32) σ26 hI28; rw [q33] at hI34
            have hF35 := fr_X4_takeNumber (0 : Int32) (30 : Int32) σ26; rw [q33] at hF35
            refine ex_if_ne (off := 5) (tgt := 112) (np := 110) C (by decide +kernel) (by decide) rfl (fun h36 => ?_) (fun h36 => ?_)
            · skip
              refine ex_aload_n (q := 1) (x := 6) (np := 113) C (by decide +kernel) rfl rfl ?_
              refine ex_getfN (q := 8) (v := .ref 13) (np := 116) C hc_X8 hin_X8 (by decide) tn_336 (by decide +kernel) (WA_6 _ _ _) rfl rfl ?_
              refine ex_iload_n (q := 3) (x := (σ.1 12)) (np := 117) C (by decide +kernel) rfl rfl ?_
              refine ex_aload_n (q := 2) (x := 1) (np := 118) C (by decide +kernel) rfl rfl ?_
              refine ex_getfN (q := 11) (v := .int (σ32.1 8)) (np := 121) C hc_X4 hin_X4 (by decide) tn_253 (by decide +kernel) (WA_1 _ _ _) rfl rfl ?_
              refine ex_aload_n (q := 2) (x := 1) (np := 122) C (by decide +kernel) rfl rfl ?_
              refine ex_getfN (q := 9) (v := .int (σ32.1 7)) (np := 125) C hc_X4 hin_X4 (by decide) tn_246 (by decide +kernel) (WA_1 _ _ _) rfl rfl ?_
              refine ex_imul (v := ((σ32.1 8) * (σ32.1 7))) (np := 126) C (by decide +kernel) rfl rfl ?_
              refine ex_iast (f := (σ32.2.2.1 6)) (kk := ((σ.1 12)).toNatClampNeg) (w1 := (WA x y (sR 6 (upd (σ32.2.2.1 6) ((σ.1 12)).toNatClampNeg ((σ32.1 8) * (σ32.1 7))) σ32))) (np := 127) C (by decide +kernel) (WA_13 _ _ _) (by have h9 := hI; unfold A_INV at h9; have h8 := h1; have e9 : (12 : Int32).toInt = 12 := (by decide); omega) rfl (WA_13_s _ _ _ _) rfl ?_
              refine ex_aload_n (q := 1) (x := 6) (np := 128) C (by decide +kernel) rfl rfl ?_
              refine ex_dup (np := 129) C rfl (by decide +kernel) rfl ?_
              refine ex_getfN (q := 4) (v := .int (σ32.1 12)) (np := 132) C hc_X8 hin_X8 (by decide) tn_327 (by decide +kernel) (WA_6 _ _ _) rfl rfl ?_
              refine ex_iconst (n := 1) (v := 1) (np := 133) C (by decide +kernel) (by decide) rfl ?_
              refine ex_iadd (v := ((σ32.1 12) + (1 : Int32))) (np := 134) C (by decide +kernel) rfl rfl ?_
              refine ex_putfN (q := 4) (w1 := (WA x y (sI 12 ((σ32.1 12) + (1 : Int32)) (sR 6 (upd (σ32.2.2.1 6) ((σ.1 12)).toNatClampNeg ((σ32.1 8) * (σ32.1 7))) σ32)))) (np := 137) C hc_X8 hin_X8 (by decide) tyX8_ok nmX8 tn_327 rfl (by decide +kernel) (WA_6 _ _ _) (Nat.le_of_ble_eq_true rfl) rfl rfl (WA_6_4 _ _ _ _) rfl ?_
              refine ex_iconst (n := 1) (v := 1) (np := 138) C (by decide +kernel) (by decide) rfl ?_
              have E9 : A_readTerm σ = ((1 : Int32), (sI 12 ((σ32.1 12) + (1 : Int32)) (sR 6 (upd (σ32.2.2.1 6) ((σ.1 12)).toNatClampNeg ((σ32.1 8) * (σ32.1 7))) σ32))) := by unfold A_readTerm; exact (if_pos h1).trans ((ex_lt_eq q3).trans ((ex_bd_eq q8).trans ((if_neg h12).trans ((ex_bd_eq q15).trans ((if_neg h18).trans ((ex_bd_eq q21).trans ((if_neg h24).trans ((ex_bd_eq q27).trans ((if_neg h30).trans ((ex_bd_eq q33).trans ((if_neg h36).trans (rfl))))))))))))
              exact ex_iret C hr hlk (by decide +kernel) rfl (Nat.le_refl _) (Nat.le_refl _) (by rw [E9]; exact ⟨rfl, rfl⟩)
            · skip
              refine ex_iconst (n := 0) (v := 0) (np := 111) C (by decide +kernel) (by decide) rfl ?_
              have E9 : A_readTerm σ = ((0 : Int32), σ32) := by unfold A_readTerm; exact (if_pos h1).trans ((ex_lt_eq q3).trans ((ex_bd_eq q8).trans ((if_neg h12).trans ((ex_bd_eq q15).trans ((if_neg h18).trans ((ex_bd_eq q21).trans ((if_neg h24).trans ((ex_bd_eq q27).trans ((if_neg h30).trans ((ex_bd_eq q33).trans ((if_pos h36).trans (rfl))))))))))))
              exact ex_iret C hr hlk (by decide +kernel) rfl (Nat.le_refl _) (Nat.le_refl _) (by rw [E9]; exact ⟨rfl, rfl⟩)
        · skip
          refine ex_iconst (n := 0) (v := 0) (np := 82) C (by decide +kernel) (by decide) rfl ?_
          have E9 : A_readTerm σ = ((0 : Int32), σ20) := by unfold A_readTerm; exact (if_pos h1).trans ((ex_lt_eq q3).trans ((ex_bd_eq q8).trans ((if_neg h12).trans ((ex_bd_eq q15).trans ((if_neg h18).trans ((ex_bd_eq q21).trans ((if_pos h24).trans (rfl))))))))
          exact ex_iret C hr hlk (by decide +kernel) rfl (Nat.le_refl _) (Nat.le_refl _) (by rw [E9]; exact ⟨rfl, rfl⟩)
      · skip
        refine ex_iconst (n := 0) (v := 0) (np := 54) C (by decide +kernel) (by decide) rfl ?_
        have E9 : A_readTerm σ = ((0 : Int32), σ14) := by unfold A_readTerm; exact (if_pos h1).trans ((ex_lt_eq q3).trans ((ex_bd_eq q8).trans ((if_neg h12).trans ((ex_bd_eq q15).trans ((if_pos h18).trans (rfl))))))
        exact ex_iret C hr hlk (by decide +kernel) rfl (Nat.le_refl _) (Nat.le_refl _) (by rw [E9]; exact ⟨rfl, rfl⟩)
    · skip
      refine ex_iconst (n := 0) (v := 0) (np := 31) C (by decide +kernel) (by decide) rfl ?_
      have E9 : A_readTerm σ = ((0 : Int32), σ7) := by unfold A_readTerm; exact (if_pos h1).trans ((ex_lt_eq q3).trans ((ex_bd_eq q8).trans ((if_pos h12).trans (rfl))))
      exact ex_iret C hr hlk (by decide +kernel) rfl (Nat.le_refl _) (Nat.le_refl _) (by rw [E9]; exact ⟨rfl, rfl⟩)
  · skip
    refine ex_aload_n (q := 2) (x := 1) (np := 12) C (by decide +kernel) rfl rfl ?_
    refine ex_iconst (n := 4) (v := 4) (np := 13) C (by decide +kernel) (by decide) rfl ?_
    obtain ⟨r37, σ38, q39⟩ : ∃ r x, A_failAs (4 : Int32) σ = (r, x) := ex_pair _
    refine ex_call_i (np := 16) (fun ws H locs ls hR hsz => ex_runVN C (m_X4_failAs d (by omega) x y (4 : Int32) σ) hd1 hd2 (by decide) hy_X4_failAs tg_694 hc_X4 rfl (WA_1 _ _ _) rfl rfl (Nat.le_of_ble_eq_true rfl) tn_691 tg_693 tg_10 tg_144 (by decide +kernel) ws H locs ls hR hsz (Nat.zero_le _) (Nat.zero_le _)) rfl (fun r9 w1 hpo => ?_)
    rw [q39] at hpo
    have hp1 : r37 = r9 := hpo.1.symm
    have hp2 := hpo.2
    clear hpo; subst hp1; subst hp2
    have hI40 := inv_X4_failAs (4 : Int32) σ hI; rw [q39] at hI40
    have hF41 := fr_X4_failAs (4 : Int32) σ; rw [q39] at hF41
    have E9 : A_readTerm σ = (r37, σ38) := by unfold A_readTerm; exact (if_neg h1).trans ((ex_bd_eq q39).trans (rfl))
    exact ex_iret C hr hlk (by decide +kernel) (ex_nar (by have b9 := bl_X4_failAs (4 : Int32) σ; rw [q39] at b9; exact b9)) (Nat.le_refl _) (Nat.le_refl _) (by rw [E9]; exact ⟨rfl, rfl⟩)
set_option maxRecDepth 100000 in
set_option maxHeartbeats 4000000 in
theorem m_X9_readTrain {l : Launch} {X : ab_X} {D : va_G} {A : ex_A} (d : Nat) (hd : 4 ≤ d) (x : Nat × List ex_E) (y : Nat) (σ : ex_S) (hI : A_INV σ) : ex_ctr l X D A d yX9_readTrain cX9_readTrain 4 (some .boolean) (WA x y σ) [.ref 4, .ref 6, .ref 1] (fun r w => r = (A_readTrain σ).1 ∧ w = WA x y (A_readTrain σ).2) := by
  obtain ⟨d, rfl⟩ : ∃ d9, d = d9 + 1 := ⟨d - 1, by omega⟩
  refine ex_meth (own := RX9) rfl (by decide) (Nat.le_of_ble_eq_true rfl) (fun p e R s m below meth c C hr hlk hd1 hd2 => ?_)
  show ex_ok p l e R s m _ below meth c 0 0 _ 4 X D A (WA x y σ) 0 [(0, .ref 4), (1, .ref 6), (2, .ref 1)] []
  refine ex_aload_n (q := 1) (x := 6) (np := 1) C (by decide +kernel) rfl rfl ?_
  refine ex_getfN (q := 9) (v := .int (σ.1 13)) (np := 4) C hc_X8 hin_X8 (by decide) tn_339 (by decide +kernel) (WA_6 _ _ _) rfl rfl ?_
  refine ex_istore_n (q := 3) (np := 5) (lv1 := [(3, .int (σ.1 13)), (0, .ref 4), (1, .ref 6), (2, .ref 1)]) C (by decide) (by decide +kernel) rfl rfl ?_
  refine ex_iload_n (q := 3) (x := (σ.1 13)) (np := 6) C (by decide +kernel) rfl rfl ?_
  refine ex_bipush (n := 8) (v := 8) (np := 8) C (by decide +kernel) (by decide) rfl ?_
  refine ex_icmp_lt (off := 9) (tgt := 17) (np := 11) C (by decide +kernel) (by decide) rfl (fun h1 => ?_) (fun h1 => ?_)
  · skip
    refine ex_aload_n (q := 2) (x := 1) (np := 18) C (by decide +kernel) rfl rfl ?_
    obtain ⟨σ2, q3⟩ : ∃ x, x = A_next σ := ⟨_, rfl⟩
    refine ex_call_v (np := 21) (fun ws H locs ls hR hsz => ex_runVN C (m_X4_next d (by omega) x y σ hI) hd1 hd2 (by decide) hy_X4_next tg_667 hc_X4 rfl (WA_1 _ _ _) rfl rfl (Nat.le_of_ble_eq_true rfl) tn_695 tg_666 tg_4 tg_144 (by decide +kernel) ws H locs ls hR hsz (Nat.zero_le _) (Nat.zero_le _)) rfl (fun w1 hpo => ?_)
    rw [← q3] at hpo
    subst hpo
    have hI4 := inv_X4_next σ hI; rw [← q3] at hI4
    have hF5 := fr_X4_next σ; rw [← q3] at hF5
    refine ex_aload_n (q := 2) (x := 1) (np := 22) C (by decide +kernel) rfl rfl ?_
    refine ex_aload_n (q := 1) (x := 6) (np := 23) C (by decide +kernel) rfl rfl ?_
    obtain ⟨r6, σ7, q8⟩ : ∃ r x, A_takeNewName σ2 = (r, x) := ex_pair _
    refine ex_call_i (np := 26) (fun ws H locs ls hR hsz => ex_runVN C (m_X4_takeNewName d (by omega) x y σ2 hI4) hd1 hd2 (by decide) hy_X4_takeNewName tg_699 hc_X4 rfl (WA_1 _ _ _) rfl rfl (Nat.le_of_ble_eq_true rfl) tn_696 tg_698 tg_11 tg_144 (by decide +kernel) ws H locs ls hR hsz (Nat.zero_le _) (Nat.zero_le _)) rfl (fun r9 w1 hpo => ?_)
    rw [q8] at hpo
    have hp1 : r6 = r9 := hpo.1.symm
    have hp2 := hpo.2
    clear hpo; subst hp1; subst hp2
    have hI10 := inv_X4_takeNewName σ2 hI4; rw [q8] at hI10
    have hF11 := fr_X4_takeNewName σ2; rw [q8] at hF11
    refine ex_if_ne (off := 5) (tgt := 31) (np := 29) C (by decide +kernel) (by decide) rfl (fun h12 => ?_) (fun h12 => ?_)
    · skip
      refine ex_aload_n (q := 1) (x := 6) (np := 32) C (by decide +kernel) rfl rfl ?_
      refine ex_getfN (q := 10) (v := .ref 14) (np := 35) C hc_X8 hin_X8 (by decide) tn_342 (by decide +kernel) (WA_6 _ _ _) rfl rfl ?_
      refine ex_iload_n (q := 3) (x := (σ.1 13)) (np := 36) C (by decide +kernel) rfl rfl ?_
      refine ex_aload_n (q := 2) (x := 1) (np := 37) C (by decide +kernel) rfl rfl ?_
      refine ex_getfN (q := 10) (v := .long (σ7.2.1 1)) (np := 40) C hc_X4 hin_X4 (by decide) tn_250 (by decide +kernel) (WA_1 _ _ _) rfl rfl ?_
      refine ex_last (f := (σ7.2.2.2 2)) (kk := ((σ.1 13)).toNatClampNeg) (w1 := (WA x y (sQ 2 (vp_updL (σ7.2.2.2 2) ((σ.1 13)).toNatClampNeg (σ7.2.1 1)) σ7))) (np := 41) C (by decide +kernel) (WA_14 _ _ _) (by have h9 := hI; unfold A_INV at h9; have h8 := h1; have e9 : (8 : Int32).toInt = 8 := (by decide); omega) rfl (WA_14_s _ _ _ _) rfl ?_
      refine ex_aload_n (q := 2) (x := 1) (np := 42) C (by decide +kernel) rfl rfl ?_
      refine ex_aload_n (q := 1) (x := 6) (np := 43) C (by decide +kernel) rfl rfl ?_
      refine ex_iconst (n := (-1)) (v := (-1)) (np := 44) C (by decide +kernel) (by decide) rfl ?_
      obtain ⟨r13, σ14, q15⟩ : ∃ r x, A_takeTown (-1 : Int32) (sQ 2 (vp_updL (σ7.2.2.2 2) ((σ.1 13)).toNatClampNeg (σ7.2.1 1)) σ7) = (r, x) := ex_pair _
      refine ex_call_i (np := 47) (fun ws H locs ls hR hsz => ex_runVN C (m_X4_takeTown d (by omega) x y (-1 : Int32) (sQ 2 (vp_updL (σ7.2.2.2 2) ((σ.1 13)).toNatClampNeg (σ7.2.1 1)) σ7) hI10) hd1 hd2 (by decide) hy_X4_takeTown tg_728 hc_X4 rfl (WA_1 _ _ _) rfl rfl (Nat.le_of_ble_eq_true rfl) tn_725 tg_727 tg_18 tg_144 (by decide +kernel) ws H locs ls hR hsz (Nat.zero_le _) (Nat.zero_le _)) rfl (fun r9 w1 hpo => ?_)
      rw [q15] at hpo
      have hp1 : r13 = r9 := hpo.1.symm
      have hp2 := hpo.2
      clear hpo; subst hp1; subst hp2
      have hI16 := inv_X4_takeTown (-1 : Int32) (sQ 2 (vp_updL (σ7.2.2.2 2) ((σ.1 13)).toNatClampNeg (σ7.2.1 1)) σ7) hI10; rw [q15] at hI16
      have hF17 := fr_X4_takeTown (-1 : Int32) (sQ 2 (vp_updL (σ7.2.2.2 2) ((σ.1 13)).toNatClampNeg (σ7.2.1 1)) σ7); rw [q15] at hF17
      refine ex_if_ne (off := 5) (tgt := 52) (np := 50) C (by decide +kernel) (by decide) rfl (fun h18 => ?_) (fun h18 => ?_)
      · skip
        refine ex_aload_n (q := 1) (x := 6) (np := 53) C (by decide +kernel) rfl rfl ?_
        refine ex_getfN (q := 11) (v := .ref 15) (np := 56) C hc_X8 hin_X8 (by decide) tn_345 (by decide +kernel) (WA_6 _ _ _) rfl rfl ?_
        refine ex_iload_n (q := 3) (x := (σ.1 13)) (np := 57) C (by decide +kernel) rfl rfl ?_
        refine ex_aload_n (q := 2) (x := 1) (np := 58) C (by decide +kernel) rfl rfl ?_
        refine ex_getfN (q := 9) (v := .int (σ14.1 7)) (np := 61) C hc_X4 hin_X4 (by decide) tn_246 (by decide +kernel) (WA_1 _ _ _) rfl rfl ?_
        refine ex_iast (f := (σ14.2.2.1 7)) (kk := ((σ.1 13)).toNatClampNeg) (w1 := (WA x y (sR 7 (upd (σ14.2.2.1 7) ((σ.1 13)).toNatClampNeg (σ14.1 7)) σ14))) (np := 62) C (by decide +kernel) (WA_15 _ _ _) (by have h9 := hI; unfold A_INV at h9; have h8 := h1; have e9 : (8 : Int32).toInt = 8 := (by decide); omega) rfl (WA_15_s _ _ _ _) rfl ?_
        refine ex_aload_n (q := 2) (x := 1) (np := 63) C (by decide +kernel) rfl rfl ?_
        refine ex_aload_n (q := 1) (x := 6) (np := 64) C (by decide +kernel) rfl rfl ?_
        refine ex_aload_n (q := 1) (x := 6) (np := 65) C (by decide +kernel) rfl rfl ?_
        refine ex_getfN (q := 11) (v := .ref 15) (np := 68) C hc_X8 hin_X8 (by decide) tn_345 (by decide +kernel) (WA_6 _ _ _) rfl rfl ?_
        refine ex_iload_n (q := 3) (x := (σ.1 13)) (np := 69) C (by decide +kernel) rfl rfl ?_
        refine ex_iald (f := (upd (σ14.2.2.1 7) ((σ.1 13)).toNatClampNeg (σ14.1 7))) (kk := ((σ.1 13)).toNatClampNeg) (np := 70) C (by decide +kernel) (WA_15 _ _ _) (by have h9 := hI; unfold A_INV at h9; have h8 := h1; have e9 : (8 : Int32).toInt = 8 := (by decide); omega) rfl rfl ?_
        obtain ⟨r19, σ20, q21⟩ : ∃ r x, A_takeTown ((upd (σ14.2.2.1 7) ((σ.1 13)).toNatClampNeg (σ14.1 7)) ((σ.1 13)).toNatClampNeg) (sR 7 (upd (σ14.2.2.1 7) ((σ.1 13)).toNatClampNeg (σ14.1 7)) σ14) = (r, x) := ex_pair _
        refine ex_call_i (np := 73) (fun ws H locs ls hR hsz => ex_runVN C (m_X4_takeTown d (by omega) x y ((upd (σ14.2.2.1 7) ((σ.1 13)).toNatClampNeg (σ14.1 7)) ((σ.1 13)).toNatClampNeg) (sR 7 (upd (σ14.2.2.1 7) ((σ.1 13)).toNatClampNeg (σ14.1 7)) σ14) hI16) hd1 hd2 (by decide) hy_X4_takeTown tg_728 hc_X4 rfl (WA_1 _ _ _) rfl rfl (Nat.le_of_ble_eq_true rfl) tn_725 tg_727 tg_18 tg_144 (by decide +kernel) ws H locs ls hR hsz (Nat.zero_le _) (Nat.zero_le _)) rfl (fun r9 w1 hpo => ?_)
        rw [q21] at hpo
        have hp1 : r19 = r9 := hpo.1.symm
        have hp2 := hpo.2
        clear hpo; subst hp1; subst hp2
        have hI22 := inv_X4_takeTown ((upd (σ14.2.2.1 7) ((σ.1 13)).toNatClampNeg (σ14.1 7)) ((σ.1 13)).toNatClampNeg) (sR 7 (upd (σ14.2.2.1 7) ((σ.1 13)).toNatClampNeg (σ14.1 7)) σ14) hI16; rw [q21] at hI22
        have hF23 := fr_X4_takeTown ((upd (σ14.2.2.1 7) ((σ.1 13)).toNatClampNeg (σ14.1 7)) ((σ.1 13)).toNatClampNeg) (sR 7 (upd (σ14.2.2.1 7) ((σ.1 13)).toNatClampNeg (σ14.1 7)) σ14); rw [q21] at hF23
        refine ex_if_ne (off := 5) (tgt := 78) (np := 76) C (by decide +kernel) (by decide) rfl (fun h24 => ?_) (fun h24 => ?_)
        · skip
          refine ex_aload_n (q := 1) (x := 6) (np := 79) C (by decide +kernel) rfl rfl ?_
          refine ex_getfN (q := 12) (v := .ref 16) (np := 82) C hc_X8 hin_X8 (by decide) tn_350 (by decide +kernel) (WA_6 _ _ _) rfl rfl ?_
          refine ex_iload_n (q := 3) (x := (σ.1 13)) (np := 83) C (by decide +kernel) rfl rfl ?_
          refine ex_aload_n (q := 2) (x := 1) (np := 84) C (by decide +kernel) rfl rfl ?_
          refine ex_getfN (q := 9) (v := .int (σ20.1 7)) (np := 87) C hc_X4 hin_X4 (by decide) tn_246 (by decide +kernel) (WA_1 _ _ _) rfl rfl ?_
          refine ex_iast (f := (σ20.2.2.1 8)) (kk := ((σ.1 13)).toNatClampNeg) (w1 := (WA x y (sR 8 (upd (σ20.2.2.1 8) ((σ.1 13)).toNatClampNeg (σ20.1 7)) σ20))) (np := 88) C (by decide +kernel) (WA_16 _ _ _) (by have h9 := hI; unfold A_INV at h9; have h8 := h1; have e9 : (8 : Int32).toInt = 8 := (by decide); omega) rfl (WA_16_s _ _ _ _) rfl ?_
          refine ex_aload_n (q := 2) (x := 1) (np := 89) C (by decide +kernel) rfl rfl ?_
          refine ex_iconst (n := 0) (v := 0) (np := 90) C (by decide +kernel) (by decide) rfl ?_
          refine ex_sipush (n := 600) (v := 600) (np := 93) C (by decide +kernel) (by decide) rfl ?_
          obtain ⟨r25, σ26, q27⟩ : ∃ r x, A_takeNumber (0 : Int32) (600 : Int32) (sR 8 (upd (σ20.2.2.1 8) ((σ.1 13)).toNatClampNeg (σ20.1 7)) σ20) = (r, x) := ex_pair _
          refine ex_call_i (np := 96) (fun ws H locs ls hR hsz => ex_runVN C (m_X4_takeNumber d (by omega) x y (0 : Int32) (600 : Int32) (sR 8 (upd (σ20.2.2.1 8) ((σ.1 13)).toNatClampNeg (σ20.1 7)) σ20) hI22) hd1 hd2 (by decide) hy_X4_takeNumber tg_716 hc_X4 rfl (WA_1 _ _ _) rfl rfl (Nat.le_of_ble_eq_true rfl) tn_713 tg_715 tg_15 tg_144 (by decide +kernel) ws H locs ls hR hsz (Nat.zero_le _) (Nat.zero_le _)) rfl (fun r9 w1 hpo => ?_)
          rw [q27] at hpo
          have hp1 : r25 = r9 := hpo.1.symm
          have hp2 := hpo.2
          clear hpo; subst hp1; subst hp2
          have hI28 := inv_X4_takeNumber (0 : Int32) (600 : Int32) (sR 8 (upd (σ20.2.2.1 8) ((σ.1 13)).toNatClampNeg (σ20.1 7)) σ20) hI22; rw [q27] at hI28
          have hF29 := fr_X4_takeNumber (0 : Int32) (600 : Int32) (sR 8 (upd (σ20.2.2.1 8) ((σ.1 13)).toNatClampNeg (σ20.1 7)) σ20); rw [q27] at hF29
          refine ex_if_ne (off := 5) (tgt := 101) (np := 99) C (by decide +kernel) (by decide) rfl (fun h30 => ?_) (fun h30 => ?_)
          · skip
            refine ex_aload_n (q := 1) (x := 6) (np := 102) C (by decide +kernel) rfl rfl ?_
            refine ex_getfN (q := 13) (v := .ref 17) (np := 105) C hc_X8 hin_X8 (by decide) tn_353 (by decide +kernel) (WA_6 _ _ _) rfl rfl ?_
            refine ex_iload_n (q := 3) (x := (σ.1 13)) (np := 106) C (by decide +kernel) rfl rfl ?_
            refine ex_aload_n (q := 2) (x := 1) (np := 107) C (by decide +kernel) rfl rfl ?_
            refine ex_getfN (q := 9) (v := .int (σ26.1 7)) (np := 110) C hc_X4 hin_X4 (by decide) tn_246 (by decide +kernel) (WA_1 _ _ _) rfl rfl ?_
            refine ex_iast (f := (σ26.2.2.1 9)) (kk := ((σ.1 13)).toNatClampNeg) (w1 := (WA x y (sR 9 (upd (σ26.2.2.1 9) ((σ.1 13)).toNatClampNeg (σ26.1 7)) σ26))) (np := 111) C (by decide +kernel) (WA_17 _ _ _) (by have h9 := hI; unfold A_INV at h9; have h8 := h1; have e9 : (8 : Int32).toInt = 8 := (by decide); omega) rfl (WA_17_s _ _ _ _) rfl ?_
            refine ex_aload_n (q := 2) (x := 1) (np := 112) C (by decide +kernel) rfl rfl ?_
            refine ex_iconst (n := 1) (v := 1) (np := 113) C (by decide +kernel) (by decide) rfl ?_
            refine ex_sipush (n := 200) (v := 200) (np := 116) C (by decide +kernel) (by decide) rfl ?_
            obtain ⟨r31, σ32, q33⟩ : ∃ r x, A_takeNumber (1 : Int32) (200 : Int32) (sR 9 (upd (σ26.2.2.1 9) ((σ.1 13)).toNatClampNeg (σ26.1 7)) σ26) = (r, x) := ex_pair _
            refine ex_call_i (np := 119) (fun ws H locs ls hR hsz => ex_runVN C (m_X4_takeNumber d (by omega) x y (1 : Int32) (200 : Int32) (sR 9 (upd (σ26.2.2.1 9) ((σ.1 13)).toNatClampNeg (σ26.1 7)) σ26) hI28) hd1 hd2 (by decide) hy_X4_takeNumber tg_716 hc_X4 rfl (WA_1 _ _ _) rfl rfl (Nat.le_of_ble_eq_true rfl) tn_713 tg_715 tg_15 tg_144 (by decide +kernel) ws H locs ls hR hsz (Nat.zero_le _) (Nat.zero_le _)) rfl (fun r9 w1 hpo => ?_)
            rw [q33] at hpo
            have hp1 : r31 = r9 := hpo.1.symm
            have hp2 := hpo.2
            clear hpo; subst hp1; subst hp2
            have hI34 := inv_X4_takeNumber (1 : Int32) (200 : Int32) (sR 9 (upd (σ26.2.2.1 9) ((σ.1 13)).toNatClampNeg (σ26.1 7)) σ26) hI28; rw [q33] at hI34
            have hF35 := fr_X4_takeNumber (1 : Int32) (200 : Int32) (sR 9 (upd (σ26.2.2.1 9) ((σ.1 13)).toNatClampNeg (σ26.1 7)) σ26); rw [q33] at hF35
            refine ex_if_ne (off := 5) (tgt := 124) (np := 122) C (by decide +kernel) (by decide) rfl (fun h36 => ?_) (fun h36 => ?_)
            · skip
              refine ex_aload_n (q := 1) (x := 6) (np := 125) C (by decide +kernel) rfl rfl ?_
              refine ex_getfN (q := 14) (v := .ref 18) (np := 128) C hc_X8 hin_X8 (by decide) tn_357 (by decide +kernel) (WA_6 _ _ _) rfl rfl ?_
              refine ex_iload_n (q := 3) (x := (σ.1 13)) (np := 129) C (by decide +kernel) rfl rfl ?_
              refine ex_aload_n (q := 2) (x := 1) (np := 130) C (by decide +kernel) rfl rfl ?_
              refine ex_getfN (q := 9) (v := .int (σ32.1 7)) (np := 133) C hc_X4 hin_X4 (by decide) tn_246 (by decide +kernel) (WA_1 _ _ _) rfl rfl ?_
              refine ex_iast (f := (σ32.2.2.1 10)) (kk := ((σ.1 13)).toNatClampNeg) (w1 := (WA x y (sR 10 (upd (σ32.2.2.1 10) ((σ.1 13)).toNatClampNeg (σ32.1 7)) σ32))) (np := 134) C (by decide +kernel) (WA_18 _ _ _) (by have h9 := hI; unfold A_INV at h9; have h8 := h1; have e9 : (8 : Int32).toInt = 8 := (by decide); omega) rfl (WA_18_s _ _ _ _) rfl ?_
              refine ex_aload_n (q := 1) (x := 6) (np := 135) C (by decide +kernel) rfl rfl ?_
              refine ex_dup (np := 136) C rfl (by decide +kernel) rfl ?_
              refine ex_getfN (q := 9) (v := .int (σ32.1 13)) (np := 139) C hc_X8 hin_X8 (by decide) tn_339 (by decide +kernel) (WA_6 _ _ _) rfl rfl ?_
              refine ex_iconst (n := 1) (v := 1) (np := 140) C (by decide +kernel) (by decide) rfl ?_
              refine ex_iadd (v := ((σ32.1 13) + (1 : Int32))) (np := 141) C (by decide +kernel) rfl rfl ?_
              refine ex_putfN (q := 9) (w1 := (WA x y (sI 13 ((σ32.1 13) + (1 : Int32)) (sR 10 (upd (σ32.2.2.1 10) ((σ.1 13)).toNatClampNeg (σ32.1 7)) σ32)))) (np := 144) C hc_X8 hin_X8 (by decide) tyX8_ok nmX8 tn_339 rfl (by decide +kernel) (WA_6 _ _ _) (Nat.le_of_ble_eq_true rfl) rfl rfl (WA_6_9 _ _ _ _) rfl ?_
              refine ex_iconst (n := 1) (v := 1) (np := 145) C (by decide +kernel) (by decide) rfl ?_
              have E9 : A_readTrain σ = ((1 : Int32), (sI 13 ((σ32.1 13) + (1 : Int32)) (sR 10 (upd (σ32.2.2.1 10) ((σ.1 13)).toNatClampNeg (σ32.1 7)) σ32))) := by unfold A_readTrain; exact (if_pos h1).trans ((ex_lt_eq q3).trans ((ex_bd_eq q8).trans ((if_neg h12).trans ((ex_bd_eq q15).trans ((if_neg h18).trans ((ex_bd_eq q21).trans ((if_neg h24).trans ((ex_bd_eq q27).trans ((if_neg h30).trans ((ex_bd_eq q33).trans ((if_neg h36).trans (rfl))))))))))))
              exact ex_iret C hr hlk (by decide +kernel) rfl (Nat.le_refl _) (Nat.le_refl _) (by rw [E9]; exact ⟨rfl, rfl⟩)
            · skip
              refine ex_iconst (n := 0) (v := 0) (np := 123) C (by decide +kernel) (by decide) rfl ?_
              have E9 : A_readTrain σ = ((0 : Int32), σ32) := by unfold A_readTrain; exact (if_pos h1).trans ((ex_lt_eq q3).trans ((ex_bd_eq q8).trans ((if_neg h12).trans ((ex_bd_eq q15).trans ((if_neg h18).trans ((ex_bd_eq q21).trans ((if_neg h24).trans ((ex_bd_eq q27).trans ((if_neg h30).trans ((ex_bd_eq q33).trans ((if_pos h36).trans (rfl))))))))))))
              exact ex_iret C hr hlk (by decide +kernel) rfl (Nat.le_refl _) (Nat.le_refl _) (by rw [E9]; exact ⟨rfl, rfl⟩)
          · skip
            refine ex_iconst (n := 0) (v := 0) (np := 100) C (by decide +kernel) (by decide) rfl ?_
            have E9 : A_readTrain σ = ((0 : Int32), σ26) := by unfold A_readTrain; exact (if_pos h1).trans ((ex_lt_eq q3).trans ((ex_bd_eq q8).trans ((if_neg h12).trans ((ex_bd_eq q15).trans ((if_neg h18).trans ((ex_bd_eq q21).trans ((if_neg h24).trans ((ex_bd_eq q27).trans ((if_pos h30).trans (rfl))))))))))
            exact ex_iret C hr hlk (by decide +kernel) rfl (Nat.le_refl _) (Nat.le_refl _) (by rw [E9]; exact ⟨rfl, rfl⟩)
        · skip
          refine ex_iconst (n := 0) (v := 0) (np := 77) C (by decide +kernel) (by decide) rfl ?_
          have E9 : A_readTrain σ = ((0 : Int32), σ20) := by unfold A_readTrain; exact (if_pos h1).trans ((ex_lt_eq q3).trans ((ex_bd_eq q8).trans ((if_neg h12).trans ((ex_bd_eq q15).trans ((if_neg h18).trans ((ex_bd_eq q21).trans ((if_pos h24).trans (rfl))))))))
          exact ex_iret C hr hlk (by decide +kernel) rfl (Nat.le_refl _) (Nat.le_refl _) (by rw [E9]; exact ⟨rfl, rfl⟩)
      · skip
        refine ex_iconst (n := 0) (v := 0) (np := 51) C (by decide +kernel) (by decide) rfl ?_
        have E9 : A_readTrain σ = ((0 : Int32), σ14) := by unfold A_readTrain; exact (if_pos h1).trans ((ex_lt_eq q3).trans ((ex_bd_eq q8).trans ((if_neg h12).trans ((ex_bd_eq q15).trans ((if_pos h18).trans (rfl))))))
        exact ex_iret C hr hlk (by decide +kernel) rfl (Nat.le_refl _) (Nat.le_refl _) (by rw [E9]; exact ⟨rfl, rfl⟩)
    · skip
      refine ex_iconst (n := 0) (v := 0) (np := 30) C (by decide +kernel) (by decide) rfl ?_
      have E9 : A_readTrain σ = ((0 : Int32), σ7) := by unfold A_readTrain; exact (if_pos h1).trans ((ex_lt_eq q3).trans ((ex_bd_eq q8).trans ((if_pos h12).trans (rfl))))
      exact ex_iret C hr hlk (by decide +kernel) rfl (Nat.le_refl _) (Nat.le_refl _) (by rw [E9]; exact ⟨rfl, rfl⟩)
  · skip
    refine ex_aload_n (q := 2) (x := 1) (np := 12) C (by decide +kernel) rfl rfl ?_
    refine ex_iconst (n := 4) (v := 4) (np := 13) C (by decide +kernel) (by decide) rfl ?_
    obtain ⟨r37, σ38, q39⟩ : ∃ r x, A_failAs (4 : Int32) σ = (r, x) := ex_pair _
    refine ex_call_i (np := 16) (fun ws H locs ls hR hsz => ex_runVN C (m_X4_failAs d (by omega) x y (4 : Int32) σ) hd1 hd2 (by decide) hy_X4_failAs tg_694 hc_X4 rfl (WA_1 _ _ _) rfl rfl (Nat.le_of_ble_eq_true rfl) tn_691 tg_693 tg_10 tg_144 (by decide +kernel) ws H locs ls hR hsz (Nat.zero_le _) (Nat.zero_le _)) rfl (fun r9 w1 hpo => ?_)
    rw [q39] at hpo
    have hp1 : r37 = r9 := hpo.1.symm
    have hp2 := hpo.2
    clear hpo; subst hp1; subst hp2
    have hI40 := inv_X4_failAs (4 : Int32) σ hI; rw [q39] at hI40
    have hF41 := fr_X4_failAs (4 : Int32) σ; rw [q39] at hF41
    have E9 : A_readTrain σ = (r37, σ38) := by unfold A_readTrain; exact (if_neg h1).trans ((ex_bd_eq q39).trans (rfl))
    exact ex_iret C hr hlk (by decide +kernel) (ex_nar (by have b9 := bl_X4_failAs (4 : Int32) σ; rw [q39] at b9; exact b9)) (Nat.le_refl _) (Nat.le_refl _) (by rw [E9]; exact ⟨rfl, rfl⟩)
