/-! Contracts of the parsers' methods. -/
set_option maxRecDepth 100000 in
set_option maxHeartbeats 4000000 in
theorem m_X9_readSetting {l : Launch} {X : ab_X} {D : va_G} {A : ex_A} (d : Nat) (hd : 4 ≤ d) (x : Nat × List ex_E) (y : Nat) (wh : Int32) (σ : ex_S) (hI : A_INV σ) : ex_ctr l X D A d yX9_readSetting cX9_readSetting 4 (some .boolean) (WA x y σ) [.ref 4, .ref 6, .ref 1, .int wh] (fun r w => r = (A_readSetting wh σ).1 ∧ w = WA x y (A_readSetting wh σ).2) := by
  obtain ⟨d, rfl⟩ : ∃ d9, d = d9 + 1 := ⟨d - 1, by omega⟩
  refine ex_meth (own := RX9) rfl (by decide) (Nat.le_of_ble_eq_true rfl) (fun p e R s m below meth c C hr hlk hd1 hd2 => ?_)
  show ex_ok p l e R s m _ below meth c 0 0 _ 4 X D A (WA x y σ) 0 [(0, .ref 4), (1, .ref 6), (2, .ref 1), (3, .int wh)] []
  refine ex_iload_n (q := 3) (x := wh) (np := 1) C (by decide +kernel) rfl rfl ?_
  refine ex_if_lt (off := 12) (tgt := 13) (np := 4) C (by decide +kernel) (by decide) rfl (fun h1 => ?_) (fun h1 => ?_)
  · skip
    refine ex_aload_n (q := 2) (x := 1) (np := 14) C (by decide +kernel) rfl rfl ?_
    refine ex_iconst (n := 1) (v := 1) (np := 15) C (by decide +kernel) (by decide) rfl ?_
    obtain ⟨r2, σ3, q4⟩ : ∃ r x, A_failAs (1 : Int32) σ = (r, x) := ex_pair _
    refine ex_call_i (np := 18) (fun ws H locs ls hR hsz => ex_runVN C (m_X4_failAs d (by omega) x y (1 : Int32) σ) hd1 hd2 (by decide) hy_X4_failAs tg_694 hc_X4 rfl (WA_1 _ _ _) rfl rfl (Nat.le_of_ble_eq_true rfl) tn_691 tg_693 tg_10 tg_144 (by decide +kernel) ws H locs ls hR hsz (Nat.zero_le _) (Nat.zero_le _)) rfl (fun r9 w1 hpo => ?_)
    rw [q4] at hpo
    have hp1 : r2 = r9 := hpo.1.symm
    have hp2 := hpo.2
    clear hpo; subst hp1; subst hp2
    have hI5 := inv_X4_failAs (1 : Int32) σ hI; rw [q4] at hI5
    have hF6 := fr_X4_failAs (1 : Int32) σ; rw [q4] at hF6
    have E9 : A_readSetting wh σ = (r2, σ3) := by unfold A_readSetting; exact (if_pos h1).trans ((ex_bd_eq q4).trans (rfl))
    exact ex_iret C hr hlk (by decide +kernel) (ex_nar (by have b9 := bl_X4_failAs (1 : Int32) σ; rw [q4] at b9; exact b9)) (Nat.le_refl _) (Nat.le_refl _) (by rw [E9]; exact ⟨rfl, rfl⟩)
  · skip
    refine ex_iload_n (q := 3) (x := wh) (np := 5) C (by decide +kernel) rfl rfl ?_
    refine ex_aload_n (q := 0) (x := 4) (np := 6) C (by decide +kernel) rfl rfl ?_
    refine ex_getf (q := 0) (v := .ref 5) (np := 9) C hc_X9 hin_X9 (by decide) tg_301 (by decide +kernel) (WA_4 _ _ _) rfl rfl ?_
    refine ex_len (v := 3) (np := 10) C (by decide +kernel) (WA_5 _ _ _) (by decide) rfl ?_
    refine ex_icmp_lt (off := 9) (tgt := 19) (np := 13) C (by decide +kernel) (by decide) rfl (fun h7 => ?_) (fun h7 => ?_)
    · skip
      refine ex_aload_n (q := 0) (x := 4) (np := 20) C (by decide +kernel) rfl rfl ?_
      refine ex_getf (q := 0) (v := .ref 5) (np := 23) C hc_X9 hin_X9 (by decide) tg_301 (by decide +kernel) (WA_4 _ _ _) rfl rfl ?_
      refine ex_iload_n (q := 3) (x := wh) (np := 24) C (by decide +kernel) rfl rfl ?_
      refine ex_zald (f := (σ.2.2.1 12)) (kk := (wh).toNatClampNeg) (np := 25) C (by decide +kernel) (WA_5 _ _ _) (by have h8 := h1; have h7 := h7; have e9 : (3 : Int32).toInt = 3 := (by decide); omega) rfl rfl ?_
      refine ex_if_eq (off := 9) (tgt := 34) (np := 28) C (by decide +kernel) (by decide) rfl (fun h8 => ?_) (fun h8 => ?_)
      · skip
        refine ex_aload_n (q := 0) (x := 4) (np := 35) C (by decide +kernel) rfl rfl ?_
        refine ex_getf (q := 0) (v := .ref 5) (np := 38) C hc_X9 hin_X9 (by decide) tg_301 (by decide +kernel) (WA_4 _ _ _) rfl rfl ?_
        refine ex_iload_n (q := 3) (x := wh) (np := 39) C (by decide +kernel) rfl rfl ?_
        refine ex_iconst (n := 1) (v := 1) (np := 40) C (by decide +kernel) (by decide) rfl ?_
        refine ex_zast (f := (σ.2.2.1 12)) (kk := (wh).toNatClampNeg) (w1 := (WA x y (sR 12 (upd (σ.2.2.1 12) (wh).toNatClampNeg (vp_nar .boolean (1 : Int32))) σ))) (np := 41) C (by decide +kernel) (WA_5 _ _ _) (by have h8 := h1; have h7 := h7; have e9 : (3 : Int32).toInt = 3 := (by decide); omega) rfl (WA_5_s _ _ _ _) rfl ?_
        refine ex_aload_n (q := 2) (x := 1) (np := 42) C (by decide +kernel) rfl rfl ?_
        obtain ⟨σ10, q11⟩ : ∃ x, x = A_next (sR 12 (upd (σ.2.2.1 12) (wh).toNatClampNeg (vp_nar .boolean (1 : Int32))) σ) := ⟨_, rfl⟩
        refine ex_call_v (np := 45) (fun ws H locs ls hR hsz => ex_runVN C (m_X4_next d (by omega) x y (sR 12 (upd (σ.2.2.1 12) (wh).toNatClampNeg (vp_nar .boolean (1 : Int32))) σ) hI) hd1 hd2 (by decide) hy_X4_next tg_667 hc_X4 rfl (WA_1 _ _ _) rfl rfl (Nat.le_of_ble_eq_true rfl) tn_695 tg_666 tg_4 tg_144 (by decide +kernel) ws H locs ls hR hsz (Nat.zero_le _) (Nat.zero_le _)) rfl (fun w1 hpo => ?_)
        rw [← q11] at hpo
        subst hpo
        have hI12 := inv_X4_next (sR 12 (upd (σ.2.2.1 12) (wh).toNatClampNeg (vp_nar .boolean (1 : Int32))) σ) hI; rw [← q11] at hI12
        have hF13 := fr_X4_next (sR 12 (upd (σ.2.2.1 12) (wh).toNatClampNeg (vp_nar .boolean (1 : Int32))) σ); rw [← q11] at hF13
        refine ex_aload_n (q := 2) (x := 1) (np := 46) C (by decide +kernel) rfl rfl ?_
        refine ex_gLO (np := 49) C tg_738 (by decide +kernel) rfl ?_
        refine ex_iload_n (q := 3) (x := wh) (np := 50) C (by decide +kernel) rfl rfl ?_
        refine ex_ldLO (kk := (wh).toNatClampNeg) (np := 51) C (by decide +kernel) (by have h8 := h1; have h7 := h7; have e9 : (3 : Int32).toInt = 3 := (by decide); omega) rfl rfl ?_
        refine ex_gHI (np := 54) C tg_299 (by decide +kernel) rfl ?_
        refine ex_iload_n (q := 3) (x := wh) (np := 55) C (by decide +kernel) rfl rfl ?_
        refine ex_ldHI (kk := (wh).toNatClampNeg) (np := 56) C (by decide +kernel) (by have h8 := h1; have h7 := h7; have e9 : (3 : Int32).toInt = 3 := (by decide); omega) rfl rfl ?_
        obtain ⟨r14, σ15, q16⟩ : ∃ r x, A_takeNumber (ab_lo.getD (wh).toNatClampNeg 0) (ab_hi.getD (wh).toNatClampNeg 0) σ10 = (r, x) := ex_pair _
        refine ex_call_i (np := 59) (fun ws H locs ls hR hsz => ex_runVN C (m_X4_takeNumber d (by omega) x y (ab_lo.getD (wh).toNatClampNeg 0) (ab_hi.getD (wh).toNatClampNeg 0) σ10 hI12) hd1 hd2 (by decide) hy_X4_takeNumber tg_716 hc_X4 rfl (WA_1 _ _ _) rfl rfl (Nat.le_of_ble_eq_true rfl) tn_713 tg_715 tg_15 tg_144 (by decide +kernel) ws H locs ls hR hsz (Nat.zero_le _) (Nat.zero_le _)) rfl (fun r9 w1 hpo => ?_)
        rw [q16] at hpo
        have hp1 : r14 = r9 := hpo.1.symm
        have hp2 := hpo.2
        clear hpo; subst hp1; subst hp2
        have hI17 := inv_X4_takeNumber (ab_lo.getD (wh).toNatClampNeg 0) (ab_hi.getD (wh).toNatClampNeg 0) σ10 hI12; rw [q16] at hI17
        have hF18 := fr_X4_takeNumber (ab_lo.getD (wh).toNatClampNeg 0) (ab_hi.getD (wh).toNatClampNeg 0) σ10; rw [q16] at hF18
        refine ex_if_ne (off := 5) (tgt := 64) (np := 62) C (by decide +kernel) (by decide) rfl (fun h19 => ?_) (fun h19 => ?_)
        · skip
          refine ex_aload_n (q := 1) (x := 6) (np := 65) C (by decide +kernel) rfl rfl ?_
          refine ex_getfN (q := 15) (v := .ref 19) (np := 68) C hc_X8 hin_X8 (by decide) tn_361 (by decide +kernel) (WA_6 _ _ _) rfl rfl ?_
          refine ex_iload_n (q := 3) (x := wh) (np := 69) C (by decide +kernel) rfl rfl ?_
          refine ex_aload_n (q := 2) (x := 1) (np := 70) C (by decide +kernel) rfl rfl ?_
          refine ex_getfN (q := 9) (v := .int (σ15.1 7)) (np := 73) C hc_X4 hin_X4 (by decide) tn_246 (by decide +kernel) (WA_1 _ _ _) rfl rfl ?_
          refine ex_iast (f := (σ15.2.2.1 11)) (kk := (wh).toNatClampNeg) (w1 := (WA x y (sR 11 (upd (σ15.2.2.1 11) (wh).toNatClampNeg (σ15.1 7)) σ15))) (np := 74) C (by decide +kernel) (WA_19 _ _ _) (by have h8 := h1; have h7 := h7; have e9 : (3 : Int32).toInt = 3 := (by decide); omega) rfl (WA_19_s _ _ _ _) rfl ?_
          refine ex_iconst (n := 1) (v := 1) (np := 75) C (by decide +kernel) (by decide) rfl ?_
          have E9 : A_readSetting wh σ = ((1 : Int32), (sR 11 (upd (σ15.2.2.1 11) (wh).toNatClampNeg (σ15.1 7)) σ15)) := by unfold A_readSetting; exact (if_neg h1).trans ((if_pos h7).trans ((if_pos h8).trans ((ex_lt_eq q11).trans ((ex_bd_eq q16).trans ((if_neg h19).trans (rfl))))))
          exact ex_iret C hr hlk (by decide +kernel) rfl (Nat.le_refl _) (Nat.le_refl _) (by rw [E9]; exact ⟨rfl, rfl⟩)
        · skip
          refine ex_iconst (n := 0) (v := 0) (np := 63) C (by decide +kernel) (by decide) rfl ?_
          have E9 : A_readSetting wh σ = ((0 : Int32), σ15) := by unfold A_readSetting; exact (if_neg h1).trans ((if_pos h7).trans ((if_pos h8).trans ((ex_lt_eq q11).trans ((ex_bd_eq q16).trans ((if_pos h19).trans (rfl))))))
          exact ex_iret C hr hlk (by decide +kernel) rfl (Nat.le_refl _) (Nat.le_refl _) (by rw [E9]; exact ⟨rfl, rfl⟩)
      · skip
        refine ex_aload_n (q := 2) (x := 1) (np := 29) C (by decide +kernel) rfl rfl ?_
        refine ex_iconst (n := 3) (v := 3) (np := 30) C (by decide +kernel) (by decide) rfl ?_
        obtain ⟨r20, σ21, q22⟩ : ∃ r x, A_failAs (3 : Int32) σ = (r, x) := ex_pair _
        refine ex_call_i (np := 33) (fun ws H locs ls hR hsz => ex_runVN C (m_X4_failAs d (by omega) x y (3 : Int32) σ) hd1 hd2 (by decide) hy_X4_failAs tg_694 hc_X4 rfl (WA_1 _ _ _) rfl rfl (Nat.le_of_ble_eq_true rfl) tn_691 tg_693 tg_10 tg_144 (by decide +kernel) ws H locs ls hR hsz (Nat.zero_le _) (Nat.zero_le _)) rfl (fun r9 w1 hpo => ?_)
        rw [q22] at hpo
        have hp1 : r20 = r9 := hpo.1.symm
        have hp2 := hpo.2
        clear hpo; subst hp1; subst hp2
        have hI23 := inv_X4_failAs (3 : Int32) σ hI; rw [q22] at hI23
        have hF24 := fr_X4_failAs (3 : Int32) σ; rw [q22] at hF24
        have E9 : A_readSetting wh σ = (r20, σ21) := by unfold A_readSetting; exact (if_neg h1).trans ((if_pos h7).trans ((if_neg h8).trans ((ex_bd_eq q22).trans (rfl))))
        exact ex_iret C hr hlk (by decide +kernel) (ex_nar (by have b9 := bl_X4_failAs (3 : Int32) σ; rw [q22] at b9; exact b9)) (Nat.le_refl _) (Nat.le_refl _) (by rw [E9]; exact ⟨rfl, rfl⟩)
    · skip
      refine ex_aload_n (q := 2) (x := 1) (np := 14) C (by decide +kernel) rfl rfl ?_
      refine ex_iconst (n := 1) (v := 1) (np := 15) C (by decide +kernel) (by decide) rfl ?_
      obtain ⟨r25, σ26, q27⟩ : ∃ r x, A_failAs (1 : Int32) σ = (r, x) := ex_pair _
      refine ex_call_i (np := 18) (fun ws H locs ls hR hsz => ex_runVN C (m_X4_failAs d (by omega) x y (1 : Int32) σ) hd1 hd2 (by decide) hy_X4_failAs tg_694 hc_X4 rfl (WA_1 _ _ _) rfl rfl (Nat.le_of_ble_eq_true rfl) tn_691 tg_693 tg_10 tg_144 (by decide +kernel) ws H locs ls hR hsz (Nat.zero_le _) (Nat.zero_le _)) rfl (fun r9 w1 hpo => ?_)
      rw [q27] at hpo
      have hp1 : r25 = r9 := hpo.1.symm
      have hp2 := hpo.2
      clear hpo; subst hp1; subst hp2
      have hI28 := inv_X4_failAs (1 : Int32) σ hI; rw [q27] at hI28
      have hF29 := fr_X4_failAs (1 : Int32) σ; rw [q27] at hF29
      have E9 : A_readSetting wh σ = (r25, σ26) := by unfold A_readSetting; exact (if_neg h1).trans ((if_neg h7).trans ((ex_bd_eq q27).trans (rfl)))
      exact ex_iret C hr hlk (by decide +kernel) (ex_nar (by have b9 := bl_X4_failAs (1 : Int32) σ; rw [q27] at b9; exact b9)) (Nat.le_refl _) (Nat.le_refl _) (by rw [E9]; exact ⟨rfl, rfl⟩)
set_option maxRecDepth 100000 in
set_option maxHeartbeats 4000000 in
theorem m_X9_readLine {l : Launch} {X : ab_X} {D : va_G} {A : ex_A} (d : Nat) (hd : 5 ≤ d) (x : Nat × List ex_E) (y : Nat) (σ : ex_S) (hI : A_INV σ) : ex_ctr l X D A d yX9_readLine cX9_readLine 3 (some .boolean) (WA x y σ) [.ref 4, .ref 6, .ref 1] (fun r w => r = (A_readLine σ).1 ∧ w = WA x y (A_readLine σ).2) := by
  obtain ⟨d, rfl⟩ : ∃ d9, d = d9 + 1 := ⟨d - 1, by omega⟩
  refine ex_meth (own := RX9) rfl (by decide) (Nat.le_of_ble_eq_true rfl) (fun p e R s m below meth c C hr hlk hd1 hd2 => ?_)
  show ex_ok p l e R s m _ below meth c 0 0 _ 3 X D A (WA x y σ) 0 [(0, .ref 4), (1, .ref 6), (2, .ref 1)] []
  refine ex_aload_n (q := 2) (x := 1) (np := 1) C (by decide +kernel) rfl rfl ?_
  refine ex_getfN (q := 8) (v := .int (σ.1 6)) (np := 4) C hc_X4 hin_X4 (by decide) tn_243 (by decide +kernel) (WA_1 _ _ _) rfl rfl ?_
  by_cases h1 : (σ.1 6) = 0
  · have e9 : ((σ.1 6)).toInt = 0 := by rw [h1]; decide
    refine ex_tswI (df := 82) (lo := 0) (hi := 7) (offs := #[48, 82, 82, 55, 62, 69, 69, 69]) (len := 48) (off := 48) (tgt := 52) C (by decide +kernel) (by rw [e9]; decide) (by rw [e9]; decide) (by rw [e9]; rfl) (by decide) ?_
    refine ex_aload_n (q := 0) (x := 4) (np := 53) C (by decide +kernel) rfl rfl ?_
    refine ex_aload_n (q := 1) (x := 6) (np := 54) C (by decide +kernel) rfl rfl ?_
    refine ex_aload_n (q := 2) (x := 1) (np := 55) C (by decide +kernel) rfl rfl ?_
    obtain ⟨r2, σ3, q4⟩ : ∃ r x, A_readTown σ = (r, x) := ex_pair _
    refine ex_call_i (np := 58) (fun ws H locs ls hR hsz => ex_runV (C1 := "") C (m_X9_readTown d (by omega) x y σ hI) hd1 hd2 (by decide) hy_X9_readTown tg_690 hc_X9 rfl (WA_4 _ _ _) rfl rfl (Nat.le_of_ble_eq_true rfl) rfl tg_687 tg_689 tg_9 tg_149 (by decide +kernel) ws H locs ls hR hsz (Nat.zero_le _) (Nat.zero_le _)) rfl (fun r9 w1 hpo => ?_)
    rw [q4] at hpo
    have hp1 : r2 = r9 := hpo.1.symm
    have hp2 := hpo.2
    clear hpo; subst hp1; subst hp2
    have hI5 := inv_X9_readTown σ hI; rw [q4] at hI5
    have E9 : A_readLine σ = (r2, σ3) := by unfold A_readLine; exact (if_pos h1).trans ((ex_bd_eq q4).trans (rfl))
    exact ex_iret C hr hlk (by decide +kernel) (ex_nar (by have b9 := bl_X9_readTown  σ; rw [q4] at b9; exact b9)) (Nat.le_refl _) (Nat.le_refl _) (by rw [E9]; exact ⟨rfl, rfl⟩)
  by_cases h6 : (σ.1 6) = 1
  · have e9 : ((σ.1 6)).toInt = 1 := by rw [h6]; decide
    refine ex_tswI (df := 82) (lo := 0) (hi := 7) (offs := #[48, 82, 82, 55, 62, 69, 69, 69]) (len := 48) (off := 82) (tgt := 86) C (by decide +kernel) (by rw [e9]; decide) (by rw [e9]; decide) (by rw [e9]; rfl) (by decide) ?_
    refine ex_aload_n (q := 2) (x := 1) (np := 87) C (by decide +kernel) rfl rfl ?_
    refine ex_iconst (n := 1) (v := 1) (np := 88) C (by decide +kernel) (by decide) rfl ?_
    obtain ⟨r7, σ8, q10⟩ : ∃ r x, A_failAs (1 : Int32) σ = (r, x) := ex_pair _
    refine ex_call_i (np := 91) (fun ws H locs ls hR hsz => ex_runVN C (m_X4_failAs d (by omega) x y (1 : Int32) σ) hd1 hd2 (by decide) hy_X4_failAs tg_694 hc_X4 rfl (WA_1 _ _ _) rfl rfl (Nat.le_of_ble_eq_true rfl) tn_691 tg_693 tg_10 tg_144 (by decide +kernel) ws H locs ls hR hsz (Nat.zero_le _) (Nat.zero_le _)) rfl (fun r9 w1 hpo => ?_)
    rw [q10] at hpo
    have hp1 : r7 = r9 := hpo.1.symm
    have hp2 := hpo.2
    clear hpo; subst hp1; subst hp2
    have hI11 := inv_X4_failAs (1 : Int32) σ hI; rw [q10] at hI11
    have hF12 := fr_X4_failAs (1 : Int32) σ; rw [q10] at hF12
    have E9 : A_readLine σ = (r7, σ8) := by unfold A_readLine; exact (if_neg h1).trans ((if_pos h6).trans ((ex_bd_eq q10).trans (rfl)))
    exact ex_iret C hr hlk (by decide +kernel) (ex_nar (by have b9 := bl_X4_failAs (1 : Int32) σ; rw [q10] at b9; exact b9)) (Nat.le_refl _) (Nat.le_refl _) (by rw [E9]; exact ⟨rfl, rfl⟩)
  by_cases h13 : (σ.1 6) = 2
  · have e9 : ((σ.1 6)).toInt = 2 := by rw [h13]; decide
    refine ex_tswI (df := 82) (lo := 0) (hi := 7) (offs := #[48, 82, 82, 55, 62, 69, 69, 69]) (len := 48) (off := 82) (tgt := 86) C (by decide +kernel) (by rw [e9]; decide) (by rw [e9]; decide) (by rw [e9]; rfl) (by decide) ?_
    refine ex_aload_n (q := 2) (x := 1) (np := 87) C (by decide +kernel) rfl rfl ?_
    refine ex_iconst (n := 1) (v := 1) (np := 88) C (by decide +kernel) (by decide) rfl ?_
    obtain ⟨r14, σ15, q16⟩ : ∃ r x, A_failAs (1 : Int32) σ = (r, x) := ex_pair _
    refine ex_call_i (np := 91) (fun ws H locs ls hR hsz => ex_runVN C (m_X4_failAs d (by omega) x y (1 : Int32) σ) hd1 hd2 (by decide) hy_X4_failAs tg_694 hc_X4 rfl (WA_1 _ _ _) rfl rfl (Nat.le_of_ble_eq_true rfl) tn_691 tg_693 tg_10 tg_144 (by decide +kernel) ws H locs ls hR hsz (Nat.zero_le _) (Nat.zero_le _)) rfl (fun r9 w1 hpo => ?_)
    rw [q16] at hpo
    have hp1 : r14 = r9 := hpo.1.symm
    have hp2 := hpo.2
    clear hpo; subst hp1; subst hp2
    have hI17 := inv_X4_failAs (1 : Int32) σ hI; rw [q16] at hI17
    have hF18 := fr_X4_failAs (1 : Int32) σ; rw [q16] at hF18
    have E9 : A_readLine σ = (r14, σ15) := by unfold A_readLine; exact (if_neg h1).trans ((if_neg h6).trans ((if_pos h13).trans ((ex_bd_eq q16).trans (rfl))))
    exact ex_iret C hr hlk (by decide +kernel) (ex_nar (by have b9 := bl_X4_failAs (1 : Int32) σ; rw [q16] at b9; exact b9)) (Nat.le_refl _) (Nat.le_refl _) (by rw [E9]; exact ⟨rfl, rfl⟩)
  by_cases h19 : (σ.1 6) = 3
  · have e9 : ((σ.1 6)).toInt = 3 := by rw [h19]; decide
    refine ex_tswI (df := 82) (lo := 0) (hi := 7) (offs := #[48, 82, 82, 55, 62, 69, 69, 69]) (len := 48) (off := 55) (tgt := 59) C (by decide +kernel) (by rw [e9]; decide) (by rw [e9]; decide) (by rw [e9]; rfl) (by decide) ?_
    refine ex_aload_n (q := 0) (x := 4) (np := 60) C (by decide +kernel) rfl rfl ?_
    refine ex_aload_n (q := 1) (x := 6) (np := 61) C (by decide +kernel) rfl rfl ?_
    refine ex_aload_n (q := 2) (x := 1) (np := 62) C (by decide +kernel) rfl rfl ?_
    obtain ⟨r20, σ21, q22⟩ : ∃ r x, A_readTerm σ = (r, x) := ex_pair _
    refine ex_call_i (np := 65) (fun ws H locs ls hR hsz => ex_runV (C1 := "") C (m_X9_readTerm d (by omega) x y σ hI) hd1 hd2 (by decide) hy_X9_readTerm tg_724 hc_X9 rfl (WA_4 _ _ _) rfl rfl (Nat.le_of_ble_eq_true rfl) rfl tg_721 tg_723 tg_17 tg_149 (by decide +kernel) ws H locs ls hR hsz (Nat.zero_le _) (Nat.zero_le _)) rfl (fun r9 w1 hpo => ?_)
    rw [q22] at hpo
    have hp1 : r20 = r9 := hpo.1.symm
    have hp2 := hpo.2
    clear hpo; subst hp1; subst hp2
    have hI23 := inv_X9_readTerm σ hI; rw [q22] at hI23
    have E9 : A_readLine σ = (r20, σ21) := by unfold A_readLine; exact (if_neg h1).trans ((if_neg h6).trans ((if_neg h13).trans ((if_pos h19).trans ((ex_bd_eq q22).trans (rfl)))))
    exact ex_iret C hr hlk (by decide +kernel) (ex_nar (by have b9 := bl_X9_readTerm  σ; rw [q22] at b9; exact b9)) (Nat.le_refl _) (Nat.le_refl _) (by rw [E9]; exact ⟨rfl, rfl⟩)
  by_cases h24 : (σ.1 6) = 4
  · have e9 : ((σ.1 6)).toInt = 4 := by rw [h24]; decide
    refine ex_tswI (df := 82) (lo := 0) (hi := 7) (offs := #[48, 82, 82, 55, 62, 69, 69, 69]) (len := 48) (off := 62) (tgt := 66) C (by decide +kernel) (by rw [e9]; decide) (by rw [e9]; decide) (by rw [e9]; rfl) (by decide) ?_
    refine ex_aload_n (q := 0) (x := 4) (np := 67) C (by decide +kernel) rfl rfl ?_
    refine ex_aload_n (q := 1) (x := 6) (np := 68) C (by decide +kernel) rfl rfl ?_
    refine ex_aload_n (q := 2) (x := 1) (np := 69) C (by decide +kernel) rfl rfl ?_
    obtain ⟨r25, σ26, q27⟩ : ∃ r x, A_readTrain σ = (r, x) := ex_pair _
    refine ex_call_i (np := 72) (fun ws H locs ls hR hsz => ex_runV (C1 := "") C (m_X9_readTrain d (by omega) x y σ hI) hd1 hd2 (by decide) hy_X9_readTrain tg_733 hc_X9 rfl (WA_4 _ _ _) rfl rfl (Nat.le_of_ble_eq_true rfl) rfl tg_730 tg_732 tg_19 tg_149 (by decide +kernel) ws H locs ls hR hsz (Nat.zero_le _) (Nat.zero_le _)) rfl (fun r9 w1 hpo => ?_)
    rw [q27] at hpo
    have hp1 : r25 = r9 := hpo.1.symm
    have hp2 := hpo.2
    clear hpo; subst hp1; subst hp2
    have hI28 := inv_X9_readTrain σ hI; rw [q27] at hI28
    have E9 : A_readLine σ = (r25, σ26) := by unfold A_readLine; exact (if_neg h1).trans ((if_neg h6).trans ((if_neg h13).trans ((if_neg h19).trans ((if_pos h24).trans ((ex_bd_eq q27).trans (rfl))))))
    exact ex_iret C hr hlk (by decide +kernel) (ex_nar (by have b9 := bl_X9_readTrain  σ; rw [q27] at b9; exact b9)) (Nat.le_refl _) (Nat.le_refl _) (by rw [E9]; exact ⟨rfl, rfl⟩)
  by_cases h29 : (σ.1 6) = 5
  · have e9 : ((σ.1 6)).toInt = 5 := by rw [h29]; decide
    refine ex_tswI (df := 82) (lo := 0) (hi := 7) (offs := #[48, 82, 82, 55, 62, 69, 69, 69]) (len := 48) (off := 69) (tgt := 73) C (by decide +kernel) (by rw [e9]; decide) (by rw [e9]; decide) (by rw [e9]; rfl) (by decide) ?_
    refine ex_aload_n (q := 0) (x := 4) (np := 74) C (by decide +kernel) rfl rfl ?_
    refine ex_aload_n (q := 1) (x := 6) (np := 75) C (by decide +kernel) rfl rfl ?_
    refine ex_aload_n (q := 2) (x := 1) (np := 76) C (by decide +kernel) rfl rfl ?_
    refine ex_aload_n (q := 2) (x := 1) (np := 77) C (by decide +kernel) rfl rfl ?_
    refine ex_getfN (q := 8) (v := .int (σ.1 6)) (np := 80) C hc_X4 hin_X4 (by decide) tn_243 (by decide +kernel) (WA_1 _ _ _) rfl rfl ?_
    refine ex_iconst (n := 5) (v := 5) (np := 81) C (by decide +kernel) (by decide) rfl ?_
    refine ex_isub (v := ((σ.1 6) - (5 : Int32))) (np := 82) C (by decide +kernel) rfl rfl ?_
    obtain ⟨r30, σ31, q32⟩ : ∃ r x, A_readSetting ((σ.1 6) - (5 : Int32)) σ = (r, x) := ex_pair _
    refine ex_call_i (np := 85) (fun ws H locs ls hR hsz => ex_runV (C1 := "") C (m_X9_readSetting d (by omega) x y ((σ.1 6) - (5 : Int32)) σ hI) hd1 hd2 (by decide) hy_X9_readSetting tg_737 hc_X9 rfl (WA_4 _ _ _) rfl rfl (Nat.le_of_ble_eq_true rfl) rfl tg_734 tg_736 tg_20 tg_149 (by decide +kernel) ws H locs ls hR hsz (Nat.zero_le _) (Nat.zero_le _)) rfl (fun r9 w1 hpo => ?_)
    rw [q32] at hpo
    have hp1 : r30 = r9 := hpo.1.symm
    have hp2 := hpo.2
    clear hpo; subst hp1; subst hp2
    have hI33 := inv_X9_readSetting ((σ.1 6) - (5 : Int32)) σ hI; rw [q32] at hI33
    have E9 : A_readLine σ = (r30, σ31) := by unfold A_readLine; exact (if_neg h1).trans ((if_neg h6).trans ((if_neg h13).trans ((if_neg h19).trans ((if_neg h24).trans ((if_pos h29).trans ((ex_bd_eq q32).trans (rfl)))))))
    exact ex_iret C hr hlk (by decide +kernel) (ex_nar (by have b9 := bl_X9_readSetting ((σ.1 6) - (5 : Int32)) σ; rw [q32] at b9; exact b9)) (Nat.le_refl _) (Nat.le_refl _) (by rw [E9]; exact ⟨rfl, rfl⟩)
  by_cases h34 : (σ.1 6) = 6
  · have e9 : ((σ.1 6)).toInt = 6 := by rw [h34]; decide
    refine ex_tswI (df := 82) (lo := 0) (hi := 7) (offs := #[48, 82, 82, 55, 62, 69, 69, 69]) (len := 48) (off := 69) (tgt := 73) C (by decide +kernel) (by rw [e9]; decide) (by rw [e9]; decide) (by rw [e9]; rfl) (by decide) ?_
    refine ex_aload_n (q := 0) (x := 4) (np := 74) C (by decide +kernel) rfl rfl ?_
    refine ex_aload_n (q := 1) (x := 6) (np := 75) C (by decide +kernel) rfl rfl ?_
    refine ex_aload_n (q := 2) (x := 1) (np := 76) C (by decide +kernel) rfl rfl ?_
    refine ex_aload_n (q := 2) (x := 1) (np := 77) C (by decide +kernel) rfl rfl ?_
    refine ex_getfN (q := 8) (v := .int (σ.1 6)) (np := 80) C hc_X4 hin_X4 (by decide) tn_243 (by decide +kernel) (WA_1 _ _ _) rfl rfl ?_
    refine ex_iconst (n := 5) (v := 5) (np := 81) C (by decide +kernel) (by decide) rfl ?_
    refine ex_isub (v := ((σ.1 6) - (5 : Int32))) (np := 82) C (by decide +kernel) rfl rfl ?_
    obtain ⟨r35, σ36, q37⟩ : ∃ r x, A_readSetting ((σ.1 6) - (5 : Int32)) σ = (r, x) := ex_pair _
    refine ex_call_i (np := 85) (fun ws H locs ls hR hsz => ex_runV (C1 := "") C (m_X9_readSetting d (by omega) x y ((σ.1 6) - (5 : Int32)) σ hI) hd1 hd2 (by decide) hy_X9_readSetting tg_737 hc_X9 rfl (WA_4 _ _ _) rfl rfl (Nat.le_of_ble_eq_true rfl) rfl tg_734 tg_736 tg_20 tg_149 (by decide +kernel) ws H locs ls hR hsz (Nat.zero_le _) (Nat.zero_le _)) rfl (fun r9 w1 hpo => ?_)
    rw [q37] at hpo
    have hp1 : r35 = r9 := hpo.1.symm
    have hp2 := hpo.2
    clear hpo; subst hp1; subst hp2
    have hI38 := inv_X9_readSetting ((σ.1 6) - (5 : Int32)) σ hI; rw [q37] at hI38
    have E9 : A_readLine σ = (r35, σ36) := by unfold A_readLine; exact (if_neg h1).trans ((if_neg h6).trans ((if_neg h13).trans ((if_neg h19).trans ((if_neg h24).trans ((if_neg h29).trans ((if_pos h34).trans ((ex_bd_eq q37).trans (rfl))))))))
    exact ex_iret C hr hlk (by decide +kernel) (ex_nar (by have b9 := bl_X9_readSetting ((σ.1 6) - (5 : Int32)) σ; rw [q37] at b9; exact b9)) (Nat.le_refl _) (Nat.le_refl _) (by rw [E9]; exact ⟨rfl, rfl⟩)
  by_cases h39 : (σ.1 6) = 7
  · have e9 : ((σ.1 6)).toInt = 7 := by rw [h39]; decide
    refine ex_tswI (df := 82) (lo := 0) (hi := 7) (offs := #[48, 82, 82, 55, 62, 69, 69, 69]) (len := 48) (off := 69) (tgt := 73) C (by decide +kernel) (by rw [e9]; decide) (by rw [e9]; decide) (by rw [e9]; rfl) (by decide) ?_
    refine ex_aload_n (q := 0) (x := 4) (np := 74) C (by decide +kernel) rfl rfl ?_
    refine ex_aload_n (q := 1) (x := 6) (np := 75) C (by decide +kernel) rfl rfl ?_
    refine ex_aload_n (q := 2) (x := 1) (np := 76) C (by decide +kernel) rfl rfl ?_
    refine ex_aload_n (q := 2) (x := 1) (np := 77) C (by decide +kernel) rfl rfl ?_
    refine ex_getfN (q := 8) (v := .int (σ.1 6)) (np := 80) C hc_X4 hin_X4 (by decide) tn_243 (by decide +kernel) (WA_1 _ _ _) rfl rfl ?_
    refine ex_iconst (n := 5) (v := 5) (np := 81) C (by decide +kernel) (by decide) rfl ?_
    refine ex_isub (v := ((σ.1 6) - (5 : Int32))) (np := 82) C (by decide +kernel) rfl rfl ?_
    obtain ⟨r40, σ41, q42⟩ : ∃ r x, A_readSetting ((σ.1 6) - (5 : Int32)) σ = (r, x) := ex_pair _
    refine ex_call_i (np := 85) (fun ws H locs ls hR hsz => ex_runV (C1 := "") C (m_X9_readSetting d (by omega) x y ((σ.1 6) - (5 : Int32)) σ hI) hd1 hd2 (by decide) hy_X9_readSetting tg_737 hc_X9 rfl (WA_4 _ _ _) rfl rfl (Nat.le_of_ble_eq_true rfl) rfl tg_734 tg_736 tg_20 tg_149 (by decide +kernel) ws H locs ls hR hsz (Nat.zero_le _) (Nat.zero_le _)) rfl (fun r9 w1 hpo => ?_)
    rw [q42] at hpo
    have hp1 : r40 = r9 := hpo.1.symm
    have hp2 := hpo.2
    clear hpo; subst hp1; subst hp2
    have hI43 := inv_X9_readSetting ((σ.1 6) - (5 : Int32)) σ hI; rw [q42] at hI43
    have E9 : A_readLine σ = (r40, σ41) := by unfold A_readLine; exact (if_neg h1).trans ((if_neg h6).trans ((if_neg h13).trans ((if_neg h19).trans ((if_neg h24).trans ((if_neg h29).trans ((if_neg h34).trans ((if_pos h39).trans ((ex_bd_eq q42).trans (rfl)))))))))
    exact ex_iret C hr hlk (by decide +kernel) (ex_nar (by have b9 := bl_X9_readSetting ((σ.1 6) - (5 : Int32)) σ; rw [q42] at b9; exact b9)) (Nat.le_refl _) (Nat.le_refl _) (by rw [E9]; exact ⟨rfl, rfl⟩)
  have o9 : ((σ.1 6)).toInt < 0 ∨ 7 < ((σ.1 6)).toInt := ex_out8 h1 h6 h13 h19 h24 h29 h34 h39
  refine ex_tswO (df := 82) (lo := 0) (hi := 7) (offs := #[48, 82, 82, 55, 62, 69, 69, 69]) (len := 48) (tgt := 86) C (by decide +kernel) o9 (by decide) ?_
  refine ex_aload_n (q := 2) (x := 1) (np := 87) C (by decide +kernel) rfl rfl ?_
  refine ex_iconst (n := 1) (v := 1) (np := 88) C (by decide +kernel) (by decide) rfl ?_
  obtain ⟨r44, σ45, q46⟩ : ∃ r x, A_failAs (1 : Int32) σ = (r, x) := ex_pair _
  refine ex_call_i (np := 91) (fun ws H locs ls hR hsz => ex_runVN C (m_X4_failAs d (by omega) x y (1 : Int32) σ) hd1 hd2 (by decide) hy_X4_failAs tg_694 hc_X4 rfl (WA_1 _ _ _) rfl rfl (Nat.le_of_ble_eq_true rfl) tn_691 tg_693 tg_10 tg_144 (by decide +kernel) ws H locs ls hR hsz (Nat.zero_le _) (Nat.zero_le _)) rfl (fun r9 w1 hpo => ?_)
  rw [q46] at hpo
  have hp1 : r44 = r9 := hpo.1.symm
  have hp2 := hpo.2
  clear hpo; subst hp1; subst hp2
  have hI47 := inv_X4_failAs (1 : Int32) σ hI; rw [q46] at hI47
  have hF48 := fr_X4_failAs (1 : Int32) σ; rw [q46] at hF48
  have E9 : A_readLine σ = (r44, σ45) := by unfold A_readLine; exact (if_neg h1).trans ((if_neg h6).trans ((if_neg h13).trans ((if_neg h19).trans ((if_neg h24).trans ((if_neg h29).trans ((if_neg h34).trans ((if_neg h39).trans ((ex_bd_eq q46).trans (rfl)))))))))
  exact ex_iret C hr hlk (by decide +kernel) (ex_nar (by have b9 := bl_X4_failAs (1 : Int32) σ; rw [q46] at b9; exact b9)) (Nat.le_refl _) (Nat.le_refl _) (by rw [E9]; exact ⟨rfl, rfl⟩)
set_option maxRecDepth 100000 in
set_option maxHeartbeats 4000000 in
theorem m_X9_readInto {l : Launch} {X : ab_X} {D : va_G} {A : ex_A} (d : Nat) (hd : 6 ≤ d) (x : Nat × List ex_E) (y : Nat) (σ : ex_S) (hI : (0 ≤ (σ.1 0).toInt ∧ (σ.1 0).toInt ≤ 940)) : ex_ctr l X D A d yX9_readInto cX9_readInto 4 (some .int) (WA x y σ) [.ref 4, .ref 6, .ref 1] (fun r w => r = (A_readInto σ).1 ∧ w = WA x y (A_readInto σ).2) := by
  obtain ⟨d, rfl⟩ : ∃ d9, d = d9 + 1 := ⟨d - 1, by omega⟩
  refine ex_meth (own := RX9) rfl (by decide) (Nat.le_of_ble_eq_true rfl) (fun p e R s m below meth c C hr hlk hd1 hd2 => ?_)
  show ex_ok p l e R s m _ below meth c 0 0 _ 4 X D A (WA x y σ) 0 [(0, .ref 4), (1, .ref 6), (2, .ref 1)] []
  have rest : ∀ (k n : Nat) (τ : ex_S), A_INV τ → n + k = 901 → A_readInto σ = A_ri k n τ → ex_okP p l e R s m below meth c 4 X D A [.ref 4, .ref 6, .ref 1] (fun r w => r = (A_readInto σ).1 ∧ w = WA x y (A_readInto σ).2) (some .int) (WA x y τ) 37 [(3, .int (nI n)), (0, .ref 4), (1, .ref 6), (2, .ref 1)] [] := by
    intro k
    induction k with
    | zero =>
      intro n τ hI hn hs
      have hki : (nI n).toInt = (n : Int) := nI_toInt (by omega)
      have h900 : (900 : Int32).toInt = 900 := by decide
      refine ex_aload_n (q := 2) (x := 1) (np := 38) C (by decide +kernel) rfl rfl ?_
      refine ex_call_i (np := 41) (fun ws H locs ls hR hsz => ex_runVN C (m_X4_atEnd d (by omega) x y τ) hd1 hd2 (by decide) hy_X4_atEnd tg_682 hc_X4 rfl (WA_1 _ _ _) rfl rfl (Nat.le_of_ble_eq_true rfl) tn_679 tg_681 tg_7 tg_144 (by decide +kernel) ws H locs ls hR hsz (Nat.zero_le _) (Nat.zero_le _)) rfl (fun r1 w1 hpo => ?_)
      obtain ⟨q2, rfl⟩ := hpo
      refine ex_if_ne (off := 36) (tgt := 77) (np := 44) C (by decide +kernel) (by decide) rfl (fun h3 => ?_) (fun h3 => ?_)
      · skip
        refine ex_iload_n (q := 3) (x := (nI n)) (np := 78) C (by decide +kernel) rfl rfl ?_
        have E9 : A_readInto σ = ((nI n), τ) := hs
        exact ex_iret C hr hlk (by decide +kernel) rfl (Nat.le_refl _) (Nat.le_refl _) (by rw [E9]; exact ⟨rfl, rfl⟩)
      · skip
        refine ex_iload_n (q := 3) (x := (nI n)) (np := 45) C (by decide +kernel) rfl rfl ?_
        refine ex_sipush (n := 900) (v := 900) (np := 48) C (by decide +kernel) (by decide) rfl ?_
        refine ex_icmp_gt (off := 29) (tgt := 77) (np := 51) C (by decide +kernel) (by decide) rfl (fun h4 => ?_) (fun h4 => ?_)
        · skip
          refine ex_iload_n (q := 3) (x := (nI n)) (np := 78) C (by decide +kernel) rfl rfl ?_
          have E9 : A_readInto σ = ((nI n), τ) := hs
          exact ex_iret C hr hlk (by decide +kernel) rfl (Nat.le_refl _) (Nat.le_refl _) (by rw [E9]; exact ⟨rfl, rfl⟩)
        · skip
          exfalso; rw [hki, h900] at h4; omega
    | succ k ih =>
      intro n τ hI hn hs
      have hki : (nI n).toInt = (n : Int) := nI_toInt (by omega)
      have h900 : (900 : Int32).toInt = 900 := by decide
      refine ex_aload_n (q := 2) (x := 1) (np := 38) C (by decide +kernel) rfl rfl ?_
      refine ex_call_i (np := 41) (fun ws H locs ls hR hsz => ex_runVN C (m_X4_atEnd d (by omega) x y τ) hd1 hd2 (by decide) hy_X4_atEnd tg_682 hc_X4 rfl (WA_1 _ _ _) rfl rfl (Nat.le_of_ble_eq_true rfl) tn_679 tg_681 tg_7 tg_144 (by decide +kernel) ws H locs ls hR hsz (Nat.zero_le _) (Nat.zero_le _)) rfl (fun r5 w1 hpo => ?_)
      obtain ⟨q6, rfl⟩ := hpo
      refine ex_if_ne (off := 36) (tgt := 77) (np := 44) C (by decide +kernel) (by decide) rfl (fun h7 => ?_) (fun h7 => ?_)
      · skip
        refine ex_iload_n (q := 3) (x := (nI n)) (np := 78) C (by decide +kernel) rfl rfl ?_
        have E9 : A_readInto σ = ((nI n), τ) := (hs.trans (A_ri_s.trans ((ex_lt_eq q6).trans ((if_neg h7).trans (rfl)))))
        exact ex_iret C hr hlk (by decide +kernel) rfl (Nat.le_refl _) (Nat.le_refl _) (by rw [E9]; exact ⟨rfl, rfl⟩)
      · skip
        refine ex_iload_n (q := 3) (x := (nI n)) (np := 45) C (by decide +kernel) rfl rfl ?_
        refine ex_sipush (n := 900) (v := 900) (np := 48) C (by decide +kernel) (by decide) rfl ?_
        refine ex_icmp_gt (off := 29) (tgt := 77) (np := 51) C (by decide +kernel) (by decide) rfl (fun h8 => ?_) (fun h8 => ?_)
        · skip
          exfalso; rw [hki, h900] at h8; omega
        · skip
          refine ex_aload_n (q := 0) (x := 4) (np := 52) C (by decide +kernel) rfl rfl ?_
          refine ex_aload_n (q := 1) (x := 6) (np := 53) C (by decide +kernel) rfl rfl ?_
          refine ex_aload_n (q := 2) (x := 1) (np := 54) C (by decide +kernel) rfl rfl ?_
          obtain ⟨r10, σ11, q12⟩ : ∃ r x, A_readLine τ = (r, x) := ex_pair _
          refine ex_call_i (np := 57) (fun ws H locs ls hR hsz => ex_runV (C1 := "") C (m_X9_readLine d (by omega) x y τ hI) hd1 hd2 (by decide) hy_X9_readLine tg_686 hc_X9 rfl (WA_4 _ _ _) rfl rfl (Nat.le_of_ble_eq_true rfl) rfl tg_683 tg_685 tg_8 tg_149 (by decide +kernel) ws H locs ls hR hsz (Nat.zero_le _) (Nat.zero_le _)) rfl (fun r9 w1 hpo => ?_)
          rw [q12] at hpo
          have hp1 : r10 = r9 := hpo.1.symm
          have hp2 := hpo.2
          clear hpo; subst hp1; subst hp2
          have hI13 := inv_X9_readLine τ hI; rw [q12] at hI13
          refine ex_if_eq (off := 12) (tgt := 69) (np := 60) C (by decide +kernel) (by decide) rfl (fun h14 => ?_) (fun h14 => ?_)
          · skip
            refine ex_iconst (n := (-1)) (v := (-1)) (np := 70) C (by decide +kernel) (by decide) rfl ?_
            have E9 : A_readInto σ = ((-1 : Int32), σ11) := (hs.trans (A_ri_s.trans ((ex_lt_eq q6).trans ((if_pos h7).trans ((ex_bd_eq q12).trans ((if_pos h14).trans (rfl)))))))
            exact ex_iret C hr hlk (by decide +kernel) rfl (Nat.le_refl _) (Nat.le_refl _) (by rw [E9]; exact ⟨rfl, rfl⟩)
          · skip
            refine ex_aload_n (q := 2) (x := 1) (np := 61) C (by decide +kernel) rfl rfl ?_
            refine ex_bipush (n := 59) (v := 59) (np := 63) C (by decide +kernel) (by decide) rfl ?_
            obtain ⟨r15, σ16, q17⟩ : ∃ r x, A_takeSign (59 : Int32) σ11 = (r, x) := ex_pair _
            refine ex_call_i (np := 66) (fun ws H locs ls hR hsz => ex_runVN C (m_X4_takeSign d (by omega) x y (59 : Int32) σ11 hI13) hd1 hd2 (by decide) hy_X4_takeSign tg_743 hc_X4 rfl (WA_1 _ _ _) rfl rfl (Nat.le_of_ble_eq_true rfl) tn_740 tg_742 tg_21 tg_144 (by decide +kernel) ws H locs ls hR hsz (Nat.zero_le _) (Nat.zero_le _)) rfl (fun r9 w1 hpo => ?_)
            rw [q17] at hpo
            have hp1 : r15 = r9 := hpo.1.symm
            have hp2 := hpo.2
            clear hpo; subst hp1; subst hp2
            have hI18 := inv_X4_takeSign (59 : Int32) σ11 hI13; rw [q17] at hI18
            have hF19 := fr_X4_takeSign (59 : Int32) σ11; rw [q17] at hF19
            refine ex_if_ne (off := 5) (tgt := 71) (np := 69) C (by decide +kernel) (by decide) rfl (fun h20 => ?_) (fun h20 => ?_)
            · skip
              refine ex_iinc (i := 3) (n := 1) (x := (nI n)) (v := ((nI n) + 1)) (np := 74) (lv1 := [(3, .int ((nI n) + 1)), (0, .ref 4), (1, .ref 6), (2, .ref 1)]) C (by decide) (by decide +kernel) rfl (by rfl) rfl rfl ?_
              refine ex_goto (off := (-37)) (tgt := 37) C (by decide +kernel) (by decide) ?_
              refine ex_drop (lv1 := [(3, .int ((nI n) + 1)), (0, .ref 4), (1, .ref 6), (2, .ref 1)]) [0, 1, 2, 3] rfl ?_
              rw [← nI_succ]
              exact ih (n + 1) _ hI18 (by omega) (hs.trans (A_ri_s.trans ((ex_lt_eq q6).trans ((if_pos h7).trans ((ex_bd_eq q12).trans ((if_neg h14).trans ((ex_bd_eq q17).trans ((if_neg h20).trans (rfl)))))))))
            · skip
              refine ex_iconst (n := (-1)) (v := (-1)) (np := 70) C (by decide +kernel) (by decide) rfl ?_
              have E9 : A_readInto σ = ((-1 : Int32), σ16) := (hs.trans (A_ri_s.trans ((ex_lt_eq q6).trans ((if_pos h7).trans ((ex_bd_eq q12).trans ((if_neg h14).trans ((ex_bd_eq q17).trans ((if_pos h20).trans (rfl)))))))))
              exact ex_iret C hr hlk (by decide +kernel) rfl (Nat.le_refl _) (Nat.le_refl _) (by rw [E9]; exact ⟨rfl, rfl⟩)
  refine ex_aload_n (q := 1) (x := 6) (np := 1) C (by decide +kernel) rfl rfl ?_
  obtain ⟨σ21, q22⟩ : ∃ x, x = A_makeEmpty σ := ⟨_, rfl⟩
  refine ex_call_v (np := 4) (fun ws H locs ls hR hsz => ex_runVN C (m_X8_makeEmpty d (by omega) x y σ hI) hd1 hd2 (by decide) hy_X8_makeEmpty tg_659 hc_X8 rfl (WA_6 _ _ _) rfl rfl (Nat.le_of_ble_eq_true rfl) tn_656 tg_658 tg_2 tg_150 (by decide +kernel) ws H locs ls hR hsz (Nat.zero_le _) (Nat.zero_le _)) rfl (fun w1 hpo => ?_)
  rw [← q22] at hpo
  subst hpo
  have hI23 := inv_X8_makeEmpty σ hI; rw [← q22] at hI23
  refine ex_iconst (n := 0) (v := 0) (np := 5) C (by decide +kernel) (by decide) rfl ?_
  refine ex_istore_n (q := 3) (np := 6) (lv1 := [(3, .int (0 : Int32)), (0, .ref 4), (1, .ref 6), (2, .ref 1)]) C (by decide) (by decide +kernel) rfl rfl ?_
  refine ex_iload_n (q := 3) (x := (0 : Int32)) (np := 7) C (by decide +kernel) rfl rfl ?_
  refine ex_aload_n (q := 0) (x := 4) (np := 8) C (by decide +kernel) rfl rfl ?_
  refine ex_getf (q := 0) (v := .ref 5) (np := 11) C hc_X9 hin_X9 (by decide) tg_301 (by decide +kernel) (WA_4 _ _ _) rfl rfl ?_
  refine ex_len (v := 3) (np := 12) C (by decide +kernel) (WA_5 _ _ _) (by decide) rfl ?_
  refine ex_icmp_ge (off := 16) (tgt := 28) (np := 15) C (by decide +kernel) (by decide) rfl (fun h24 => ?_) (fun h24 => ?_)
  · skip
    exact absurd (by decide) h24
  · skip
    refine ex_aload_n (q := 0) (x := 4) (np := 16) C (by decide +kernel) rfl rfl ?_
    refine ex_getf (q := 0) (v := .ref 5) (np := 19) C hc_X9 hin_X9 (by decide) tg_301 (by decide +kernel) (WA_4 _ _ _) rfl rfl ?_
    refine ex_iload_n (q := 3) (x := (0 : Int32)) (np := 20) C (by decide +kernel) rfl rfl ?_
    refine ex_iconst (n := 0) (v := 0) (np := 21) C (by decide +kernel) (by decide) rfl ?_
    refine ex_zast (f := (σ21.2.2.1 12)) (kk := 0) (w1 := (WA x y (sR 12 (upd (σ21.2.2.1 12) 0 (vp_nar .boolean (0 : Int32))) σ21))) (np := 22) C (by decide +kernel) (WA_5 _ _ _) (by decide) (by decide) (WA_5_s _ _ _ _) rfl ?_
    refine ex_iinc (i := 3) (n := 1) (x := (0 : Int32)) (v := (1 : Int32)) (np := 25) (lv1 := [(3, .int (1 : Int32)), (0, .ref 4), (1, .ref 6), (2, .ref 1)]) C (by decide) (by decide +kernel) rfl (by decide) rfl rfl ?_
    refine ex_goto (off := (-19)) (tgt := 6) C (by decide +kernel) (by decide) ?_
    refine ex_iload_n (q := 3) (x := (1 : Int32)) (np := 7) C (by decide +kernel) rfl rfl ?_
    refine ex_aload_n (q := 0) (x := 4) (np := 8) C (by decide +kernel) rfl rfl ?_
    refine ex_getf (q := 0) (v := .ref 5) (np := 11) C hc_X9 hin_X9 (by decide) tg_301 (by decide +kernel) (WA_4 _ _ _) rfl rfl ?_
    refine ex_len (v := 3) (np := 12) C (by decide +kernel) (WA_5 _ _ _) (by decide) rfl ?_
    refine ex_icmp_ge (off := 16) (tgt := 28) (np := 15) C (by decide +kernel) (by decide) rfl (fun h25 => ?_) (fun h25 => ?_)
    · skip
      exact absurd (by decide) h25
    · skip
      refine ex_aload_n (q := 0) (x := 4) (np := 16) C (by decide +kernel) rfl rfl ?_
      refine ex_getf (q := 0) (v := .ref 5) (np := 19) C hc_X9 hin_X9 (by decide) tg_301 (by decide +kernel) (WA_4 _ _ _) rfl rfl ?_
      refine ex_iload_n (q := 3) (x := (1 : Int32)) (np := 20) C (by decide +kernel) rfl rfl ?_
      refine ex_iconst (n := 0) (v := 0) (np := 21) C (by decide +kernel) (by decide) rfl ?_
      refine ex_zast (f := (upd (σ21.2.2.1 12) 0 (vp_nar .boolean (0 : Int32)))) (kk := 1) (w1 := (WA x y (sR 12 (upd (upd (σ21.2.2.1 12) 0 (vp_nar .boolean (0 : Int32))) 1 (vp_nar .boolean (0 : Int32))) (sR 12 (upd (σ21.2.2.1 12) 0 (vp_nar .boolean (0 : Int32))) σ21)))) (np := 22) C (by decide +kernel) (WA_5 _ _ _) (by decide) (by decide) (WA_5_s _ _ _ _) rfl ?_
      refine ex_iinc (i := 3) (n := 1) (x := (1 : Int32)) (v := (2 : Int32)) (np := 25) (lv1 := [(3, .int (2 : Int32)), (0, .ref 4), (1, .ref 6), (2, .ref 1)]) C (by decide) (by decide +kernel) rfl (by decide) rfl rfl ?_
      refine ex_goto (off := (-19)) (tgt := 6) C (by decide +kernel) (by decide) ?_
      refine ex_iload_n (q := 3) (x := (2 : Int32)) (np := 7) C (by decide +kernel) rfl rfl ?_
      refine ex_aload_n (q := 0) (x := 4) (np := 8) C (by decide +kernel) rfl rfl ?_
      refine ex_getf (q := 0) (v := .ref 5) (np := 11) C hc_X9 hin_X9 (by decide) tg_301 (by decide +kernel) (WA_4 _ _ _) rfl rfl ?_
      refine ex_len (v := 3) (np := 12) C (by decide +kernel) (WA_5 _ _ _) (by decide) rfl ?_
      refine ex_icmp_ge (off := 16) (tgt := 28) (np := 15) C (by decide +kernel) (by decide) rfl (fun h26 => ?_) (fun h26 => ?_)
      · skip
        exact absurd (by decide) h26
      · skip
        refine ex_aload_n (q := 0) (x := 4) (np := 16) C (by decide +kernel) rfl rfl ?_
        refine ex_getf (q := 0) (v := .ref 5) (np := 19) C hc_X9 hin_X9 (by decide) tg_301 (by decide +kernel) (WA_4 _ _ _) rfl rfl ?_
        refine ex_iload_n (q := 3) (x := (2 : Int32)) (np := 20) C (by decide +kernel) rfl rfl ?_
        refine ex_iconst (n := 0) (v := 0) (np := 21) C (by decide +kernel) (by decide) rfl ?_
        refine ex_zast (f := (upd (upd (σ21.2.2.1 12) 0 (vp_nar .boolean (0 : Int32))) 1 (vp_nar .boolean (0 : Int32)))) (kk := 2) (w1 := (WA x y (sR 12 (upd (upd (upd (σ21.2.2.1 12) 0 (vp_nar .boolean (0 : Int32))) 1 (vp_nar .boolean (0 : Int32))) 2 (vp_nar .boolean (0 : Int32))) (sR 12 (upd (upd (σ21.2.2.1 12) 0 (vp_nar .boolean (0 : Int32))) 1 (vp_nar .boolean (0 : Int32))) (sR 12 (upd (σ21.2.2.1 12) 0 (vp_nar .boolean (0 : Int32))) σ21))))) (np := 22) C (by decide +kernel) (WA_5 _ _ _) (by decide) (by decide) (WA_5_s _ _ _ _) rfl ?_
        refine ex_iinc (i := 3) (n := 1) (x := (2 : Int32)) (v := (3 : Int32)) (np := 25) (lv1 := [(3, .int (3 : Int32)), (0, .ref 4), (1, .ref 6), (2, .ref 1)]) C (by decide) (by decide +kernel) rfl (by decide) rfl rfl ?_
        refine ex_goto (off := (-19)) (tgt := 6) C (by decide +kernel) (by decide) ?_
        refine ex_iload_n (q := 3) (x := (3 : Int32)) (np := 7) C (by decide +kernel) rfl rfl ?_
        refine ex_aload_n (q := 0) (x := 4) (np := 8) C (by decide +kernel) rfl rfl ?_
        refine ex_getf (q := 0) (v := .ref 5) (np := 11) C hc_X9 hin_X9 (by decide) tg_301 (by decide +kernel) (WA_4 _ _ _) rfl rfl ?_
        refine ex_len (v := 3) (np := 12) C (by decide +kernel) (WA_5 _ _ _) (by decide) rfl ?_
        refine ex_icmp_ge (off := 16) (tgt := 28) (np := 15) C (by decide +kernel) (by decide) rfl (fun h27 => ?_) (fun h27 => ?_)
        · skip
          refine ex_aload_n (q := 2) (x := 1) (np := 29) C (by decide +kernel) rfl rfl ?_
          refine ex_sipush (n := 900) (v := 900) (np := 32) C (by decide +kernel) (by decide) rfl ?_
          obtain ⟨σ28, q29⟩ : ∃ x, x = A_begin (900 : Int32) (sR 12 (upd (upd (upd (σ21.2.2.1 12) 0 (vp_nar .boolean (0 : Int32))) 1 (vp_nar .boolean (0 : Int32))) 2 (vp_nar .boolean (0 : Int32))) (sR 12 (upd (upd (σ21.2.2.1 12) 0 (vp_nar .boolean (0 : Int32))) 1 (vp_nar .boolean (0 : Int32))) (sR 12 (upd (σ21.2.2.1 12) 0 (vp_nar .boolean (0 : Int32))) σ21))) := ⟨_, rfl⟩
          refine ex_call_v (np := 35) (fun ws H locs ls hR hsz => ex_runVN C (m_X4_begin d (by omega) x y (900 : Int32) (sR 12 (upd (upd (upd (σ21.2.2.1 12) 0 (vp_nar .boolean (0 : Int32))) 1 (vp_nar .boolean (0 : Int32))) 2 (vp_nar .boolean (0 : Int32))) (sR 12 (upd (upd (σ21.2.2.1 12) 0 (vp_nar .boolean (0 : Int32))) 1 (vp_nar .boolean (0 : Int32))) (sR 12 (upd (σ21.2.2.1 12) 0 (vp_nar .boolean (0 : Int32))) σ21))) hI23) hd1 hd2 (by decide) hy_X4_begin tg_663 hc_X4 rfl (WA_1 _ _ _) rfl rfl (Nat.le_of_ble_eq_true rfl) tn_660 tg_662 tg_3 tg_144 (by decide +kernel) ws H locs ls hR hsz (Nat.zero_le _) (Nat.zero_le _)) rfl (fun w1 hpo => ?_)
          rw [← q29] at hpo
          subst hpo
          have hI30 := inv_X4_begin (900 : Int32) (sR 12 (upd (upd (upd (σ21.2.2.1 12) 0 (vp_nar .boolean (0 : Int32))) 1 (vp_nar .boolean (0 : Int32))) 2 (vp_nar .boolean (0 : Int32))) (sR 12 (upd (upd (σ21.2.2.1 12) 0 (vp_nar .boolean (0 : Int32))) 1 (vp_nar .boolean (0 : Int32))) (sR 12 (upd (σ21.2.2.1 12) 0 (vp_nar .boolean (0 : Int32))) σ21))) hI23; rw [← q29] at hI30
          refine ex_iconst (n := 0) (v := 0) (np := 36) C (by decide +kernel) (by decide) rfl ?_
          refine ex_istore_n (q := 3) (np := 37) (lv1 := [(3, .int (0 : Int32)), (0, .ref 4), (1, .ref 6), (2, .ref 1)]) C (by decide) (by decide +kernel) rfl rfl ?_
          refine ex_drop (lv1 := [(3, .int (0 : Int32)), (0, .ref 4), (1, .ref 6), (2, .ref 1)]) [0, 1, 2, 3] rfl ?_
          exact rest 901 0 σ28 hI30 rfl (by unfold A_readInto; exact (ex_lt_eq q22).trans ((ex_lt_eq q29).trans (rfl)))
        · skip
          exact absurd h27 (by decide)
set_option maxRecDepth 100000 in
set_option maxHeartbeats 4000000 in
theorem m_X7_beginIn {l : Launch} {X : ab_X} {D : va_G} {A : ex_A} (d : Nat) (hd : 1 ≤ d) (x : Nat × List ex_E) (y : Nat) (σ : ex_S) (hI : (0 ≤ (σ.1 11).toInt ∧ (σ.1 11).toInt ≤ 7)) : ex_ctr l X D A d yX7_beginIn cX7_beginIn 3 none (WA x y σ) [.ref 20, .ref 6] (fun _ w => ∃ f g h, w = WA x y (sR 15 h (sR 14 g (sR 13 f (sI 18 0 (sI 17 0 (sI 16 0 σ))))))) := by
  obtain ⟨d, rfl⟩ : ∃ d9, d = d9 + 1 := ⟨d - 1, by omega⟩
  refine ex_meth (own := RX7) rfl (by decide) (Nat.le_of_ble_eq_true rfl) (fun p e R s m below meth c C hr hlk hd1 hd2 => ?_)
  show ex_ok p l e R s m _ below meth c 0 0 _ 3 X D A (WA x y σ) 0 [(0, .ref 20), (1, .ref 6)] []
  have loop : ∀ (n k : Nat) (f g h : Nat → Int32), k + n = 7 → ex_okP p l e R s m below meth c 3 X D A [.ref 20, .ref 6] (fun _ w => ∃ f g h, w = WA x y (sR 15 h (sR 14 g (sR 13 f (sI 18 0 (sI 17 0 (sI 16 0 σ))))))) none (WA x y (sR 15 h (sR 14 g (sR 13 f (sI 18 0 (sI 17 0 (sI 16 0 σ))))))) 17 [(2, .int (nI k)), (0, .ref 20), (1, .ref 6)] [] := by
    intro n
    induction n with
    | zero =>
      intro k f g h hk
      have hki : (nI k).toInt = (k : Int) := nI_toInt (by omega)
      have h7 : (7 : Int32).toInt = 7 := by decide
      refine ex_iload_n (q := 2) (x := (nI k)) (np := 18) C (by decide +kernel) rfl rfl ?_
      refine ex_bipush (n := 7) (v := 7) (np := 20) C (by decide +kernel) (by decide) rfl ?_
      refine ex_icmp_ge (off := 47) (tgt := 67) (np := 23) C (by decide +kernel) (by decide) rfl (fun h1 => ?_) (fun h1 => ?_)
      · skip
        exact ex_vret C hr hlk (by decide +kernel) (Nat.le_refl _) (Nat.le_refl _) ⟨f, g, h, rfl⟩
      · skip
        exfalso; rw [hki, h7] at h1; omega
    | succ n ih =>
      intro k f g h hk
      have hki : (nI k).toInt = (k : Int) := nI_toInt (by omega)
      have h7 : (7 : Int32).toInt = 7 := by decide
      refine ex_iload_n (q := 2) (x := (nI k)) (np := 18) C (by decide +kernel) rfl rfl ?_
      refine ex_bipush (n := 7) (v := 7) (np := 20) C (by decide +kernel) (by decide) rfl ?_
      refine ex_icmp_ge (off := 47) (tgt := 67) (np := 23) C (by decide +kernel) (by decide) rfl (fun h2 => ?_) (fun h2 => ?_)
      · skip
        exfalso; rw [hki, h7] at h2; omega
      · skip
        refine ex_aload_n (q := 0) (x := 20) (np := 24) C (by decide +kernel) rfl rfl ?_
        refine ex_getf (q := 3) (v := .ref 21) (np := 27) C hc_X7 hin_X7 (by decide) tg_407 (by decide +kernel) (WA_20 _ _ _) rfl rfl ?_
        refine ex_iload_n (q := 2) (x := (nI k)) (np := 28) C (by decide +kernel) rfl rfl ?_
        refine ex_iload_n (q := 2) (x := (nI k)) (np := 29) C (by decide +kernel) rfl rfl ?_
        refine ex_aload_n (q := 1) (x := 6) (np := 30) C (by decide +kernel) rfl rfl ?_
        refine ex_getfN (q := 0) (v := .int ((sI 18 0 (sI 17 0 (sI 16 0 σ))).1 11)) (np := 33) C hc_X8 hin_X8 (by decide) tn_313 (by decide +kernel) (WA_6 _ _ _) rfl rfl ?_
        refine ex_icmp_ge (off := 12) (tgt := 45) (np := 36) C (by decide +kernel) (by decide) rfl (fun h3 => ?_) (fun h3 => ?_)
        · skip
          refine ex_iconst (n := 0) (v := 0) (np := 46) C (by decide +kernel) (by decide) rfl ?_
          refine ex_iast (f := f) (kk := ((nI k)).toNatClampNeg) (w1 := (WA x y (sR 13 (upd f ((nI k)).toNatClampNeg (0 : Int32)) (sR 15 h (sR 14 g (sR 13 f (sI 18 0 (sI 17 0 (sI 16 0 σ))))))))) (np := 47) C (by decide +kernel) (WA_21 _ _ _) (by rw [hki]; omega) rfl (WA_21_s _ _ _ _) rfl ?_
          refine ex_aload_n (q := 0) (x := 20) (np := 48) C (by decide +kernel) rfl rfl ?_
          refine ex_getf (q := 4) (v := .ref 22) (np := 51) C hc_X7 hin_X7 (by decide) tg_410 (by decide +kernel) (WA_20 _ _ _) rfl rfl ?_
          refine ex_iload_n (q := 2) (x := (nI k)) (np := 52) C (by decide +kernel) rfl rfl ?_
          refine ex_iconst (n := 0) (v := 0) (np := 53) C (by decide +kernel) (by decide) rfl ?_
          refine ex_iast (f := g) (kk := ((nI k)).toNatClampNeg) (w1 := (WA x y (sR 14 (upd g ((nI k)).toNatClampNeg (0 : Int32)) (sR 13 (upd f ((nI k)).toNatClampNeg (0 : Int32)) (sR 15 h (sR 14 g (sR 13 f (sI 18 0 (sI 17 0 (sI 16 0 σ)))))))))) (np := 54) C (by decide +kernel) (WA_22 _ _ _) (by rw [hki]; omega) rfl (WA_22_s _ _ _ _) rfl ?_
          refine ex_aload_n (q := 0) (x := 20) (np := 55) C (by decide +kernel) rfl rfl ?_
          refine ex_getf (q := 5) (v := .ref 23) (np := 58) C hc_X7 hin_X7 (by decide) tg_413 (by decide +kernel) (WA_20 _ _ _) rfl rfl ?_
          refine ex_iload_n (q := 2) (x := (nI k)) (np := 59) C (by decide +kernel) rfl rfl ?_
          refine ex_iconst (n := 0) (v := 0) (np := 60) C (by decide +kernel) (by decide) rfl ?_
          refine ex_iast (f := h) (kk := ((nI k)).toNatClampNeg) (w1 := (WA x y (sR 15 (upd h ((nI k)).toNatClampNeg (0 : Int32)) (sR 14 (upd g ((nI k)).toNatClampNeg (0 : Int32)) (sR 13 (upd f ((nI k)).toNatClampNeg (0 : Int32)) (sR 15 h (sR 14 g (sR 13 f (sI 18 0 (sI 17 0 (sI 16 0 σ))))))))))) (np := 61) C (by decide +kernel) (WA_23 _ _ _) (by rw [hki]; omega) rfl (WA_23_s _ _ _ _) rfl ?_
          refine ex_iinc (i := 2) (n := 1) (x := (nI k)) (v := ((nI k) + 1)) (np := 64) (lv1 := [(2, .int ((nI k) + 1)), (0, .ref 20), (1, .ref 6)]) C (by decide) (by decide +kernel) rfl (by rfl) rfl rfl ?_
          refine ex_goto (off := (-47)) (tgt := 17) C (by decide +kernel) (by decide) ?_
          refine ex_drop (lv1 := [(2, .int ((nI k) + 1)), (0, .ref 20), (1, .ref 6)]) [0, 1, 2] rfl ?_
          rw [← nI_succ, ex_r3]
          exact ih (k + 1) _ _ _ (by omega)
        · skip
          refine ex_aload_n (q := 1) (x := 6) (np := 37) C (by decide +kernel) rfl rfl ?_
          refine ex_getfN (q := 3) (v := .ref 9) (np := 40) C hc_X8 hin_X8 (by decide) tn_324 (by decide +kernel) (WA_6 _ _ _) rfl rfl ?_
          refine ex_iload_n (q := 2) (x := (nI k)) (np := 41) C (by decide +kernel) rfl rfl ?_
          refine ex_iald (f := ((sI 18 0 (sI 17 0 (sI 16 0 σ))).2.2.1 2)) (kk := ((nI k)).toNatClampNeg) (np := 42) C (by decide +kernel) (WA_9 _ _ _) (by rw [hki]; omega) rfl rfl ?_
          refine ex_goto (off := 4) (tgt := 46) C (by decide +kernel) (by decide) ?_
          refine ex_iast (f := f) (kk := ((nI k)).toNatClampNeg) (w1 := (WA x y (sR 13 (upd f ((nI k)).toNatClampNeg (((sI 18 0 (sI 17 0 (sI 16 0 σ))).2.2.1 2) ((nI k)).toNatClampNeg)) (sR 15 h (sR 14 g (sR 13 f (sI 18 0 (sI 17 0 (sI 16 0 σ))))))))) (np := 47) C (by decide +kernel) (WA_21 _ _ _) (by rw [hki]; omega) rfl (WA_21_s _ _ _ _) rfl ?_
          refine ex_aload_n (q := 0) (x := 20) (np := 48) C (by decide +kernel) rfl rfl ?_
          refine ex_getf (q := 4) (v := .ref 22) (np := 51) C hc_X7 hin_X7 (by decide) tg_410 (by decide +kernel) (WA_20 _ _ _) rfl rfl ?_
          refine ex_iload_n (q := 2) (x := (nI k)) (np := 52) C (by decide +kernel) rfl rfl ?_
          refine ex_iconst (n := 0) (v := 0) (np := 53) C (by decide +kernel) (by decide) rfl ?_
          refine ex_iast (f := g) (kk := ((nI k)).toNatClampNeg) (w1 := (WA x y (sR 14 (upd g ((nI k)).toNatClampNeg (0 : Int32)) (sR 13 (upd f ((nI k)).toNatClampNeg (((sI 18 0 (sI 17 0 (sI 16 0 σ))).2.2.1 2) ((nI k)).toNatClampNeg)) (sR 15 h (sR 14 g (sR 13 f (sI 18 0 (sI 17 0 (sI 16 0 σ)))))))))) (np := 54) C (by decide +kernel) (WA_22 _ _ _) (by rw [hki]; omega) rfl (WA_22_s _ _ _ _) rfl ?_
          refine ex_aload_n (q := 0) (x := 20) (np := 55) C (by decide +kernel) rfl rfl ?_
          refine ex_getf (q := 5) (v := .ref 23) (np := 58) C hc_X7 hin_X7 (by decide) tg_413 (by decide +kernel) (WA_20 _ _ _) rfl rfl ?_
          refine ex_iload_n (q := 2) (x := (nI k)) (np := 59) C (by decide +kernel) rfl rfl ?_
          refine ex_iconst (n := 0) (v := 0) (np := 60) C (by decide +kernel) (by decide) rfl ?_
          refine ex_iast (f := h) (kk := ((nI k)).toNatClampNeg) (w1 := (WA x y (sR 15 (upd h ((nI k)).toNatClampNeg (0 : Int32)) (sR 14 (upd g ((nI k)).toNatClampNeg (0 : Int32)) (sR 13 (upd f ((nI k)).toNatClampNeg (((sI 18 0 (sI 17 0 (sI 16 0 σ))).2.2.1 2) ((nI k)).toNatClampNeg)) (sR 15 h (sR 14 g (sR 13 f (sI 18 0 (sI 17 0 (sI 16 0 σ))))))))))) (np := 61) C (by decide +kernel) (WA_23 _ _ _) (by rw [hki]; omega) rfl (WA_23_s _ _ _ _) rfl ?_
          refine ex_iinc (i := 2) (n := 1) (x := (nI k)) (v := ((nI k) + 1)) (np := 64) (lv1 := [(2, .int ((nI k) + 1)), (0, .ref 20), (1, .ref 6)]) C (by decide) (by decide +kernel) rfl (by rfl) rfl rfl ?_
          refine ex_goto (off := (-47)) (tgt := 17) C (by decide +kernel) (by decide) ?_
          refine ex_drop (lv1 := [(2, .int ((nI k) + 1)), (0, .ref 20), (1, .ref 6)]) [0, 1, 2] rfl ?_
          rw [← nI_succ, ex_r3]
          exact ih (k + 1) _ _ _ (by omega)
  refine ex_aload_n (q := 0) (x := 20) (np := 1) C (by decide +kernel) rfl rfl ?_
  refine ex_iconst (n := 0) (v := 0) (np := 2) C (by decide +kernel) (by decide) rfl ?_
  refine ex_putf (q := 0) (w1 := (WA x y (sI 16 (0 : Int32) σ))) (np := 5) C hc_X7 hin_X7 (by decide) tyX7_ok nmX7 tg_401 rfl (by decide +kernel) (WA_20 _ _ _) (Nat.le_of_ble_eq_true rfl) rfl rfl (WA_20_0 _ _ _ _) rfl ?_
  refine ex_aload_n (q := 0) (x := 20) (np := 6) C (by decide +kernel) rfl rfl ?_
  refine ex_iconst (n := 0) (v := 0) (np := 7) C (by decide +kernel) (by decide) rfl ?_
  refine ex_putf (q := 1) (w1 := (WA x y (sI 17 (0 : Int32) (sI 16 (0 : Int32) σ)))) (np := 10) C hc_X7 hin_X7 (by decide) tyX7_ok nmX7 tg_404 rfl (by decide +kernel) (WA_20 _ _ _) (Nat.le_of_ble_eq_true rfl) rfl rfl (WA_20_1 _ _ _ _) rfl ?_
  refine ex_aload_n (q := 0) (x := 20) (np := 11) C (by decide +kernel) rfl rfl ?_
  refine ex_iconst (n := 0) (v := 0) (np := 12) C (by decide +kernel) (by decide) rfl ?_
  refine ex_putf (q := 2) (w1 := (WA x y (sI 18 (0 : Int32) (sI 17 (0 : Int32) (sI 16 (0 : Int32) σ))))) (np := 15) C hc_X7 hin_X7 (by decide) tyX7_ok nmX7 tg_406 rfl (by decide +kernel) (WA_20 _ _ _) (Nat.le_of_ble_eq_true rfl) rfl rfl (WA_20_2 _ _ _ _) rfl ?_
  refine ex_iconst (n := 0) (v := 0) (np := 16) C (by decide +kernel) (by decide) rfl ?_
  refine ex_istore_n (q := 2) (np := 17) (lv1 := [(2, .int (0 : Int32)), (0, .ref 20), (1, .ref 6)]) C (by decide) (by decide +kernel) rfl rfl ?_
  refine ex_drop (lv1 := [(2, .int (0 : Int32)), (0, .ref 20), (1, .ref 6)]) [0, 1, 2] rfl ?_
  have h9 := loop 7 0 (σ.2.2.1 13) (σ.2.2.1 14) (σ.2.2.1 15) rfl
  rw [ex_rid (k := 13) (σ := (sI 18 0 (sI 17 0 (sI 16 0 σ)))) (f := σ.2.2.1 13) rfl, ex_rid (k := 14) (σ := (sI 18 0 (sI 17 0 (sI 16 0 σ)))) (f := σ.2.2.1 14) rfl, ex_rid (k := 15) (σ := (sI 18 0 (sI 17 0 (sI 16 0 σ)))) (f := σ.2.2.1 15) rfl] at h9
  exact h9
