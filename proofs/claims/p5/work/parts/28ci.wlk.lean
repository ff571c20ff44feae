/-! Contracts of the parsers' methods. -/
set_option maxRecDepth 100000 in
set_option maxHeartbeats 4000000 in
theorem m_X11_sign {l : Launch} {X : ab_X} {D : va_G} {A : ex_A} (d : Nat) (hd : 3 ≤ d) (ch : Int32) (σ : ex_S) (hI : B_INV σ) : ex_ctr l X D A d yX11_sign cX11_sign 2 (some .boolean) (WB σ) [.ref 0, .int ch] (fun r w => r = (B_sign ch σ).1 ∧ w = WB (B_sign ch σ).2) := by
  obtain ⟨d, rfl⟩ : ∃ d9, d = d9 + 1 := ⟨d - 1, by omega⟩
  refine ex_meth (own := RX11) rfl (by decide) (Nat.le_of_ble_eq_true rfl) (fun p e R s m below meth c C hr hlk hd1 hd2 => ?_)
  show ex_ok p l e R s m _ below meth c 0 0 _ 2 X D A (WB σ) 0 [(0, .ref 0), (1, .int ch)] []
  refine ex_aload_n (q := 0) (x := 0) (np := 1) C (by decide +kernel) rfl rfl ?_
  refine ex_iload_n (q := 1) (x := ch) (np := 2) C (by decide +kernel) rfl rfl ?_
  refine ex_call_i (np := 5) (fun ws H locs ls hR hsz => ex_runV (C1 := "") C (m_X11_isSign d (by omega) ch σ) hd1 hd2 (by decide) hy_X11_isSign tg_1624 hc_X11 rfl (WB_0 _) rfl rfl (Nat.le_of_ble_eq_true rfl) rfl tg_1621 tg_1623 tg_101 tg_158 (by decide +kernel) ws H locs ls hR hsz (Nat.zero_le _) (Nat.zero_le _)) rfl (fun r1 w1 hpo => ?_)
  obtain ⟨q2, rfl⟩ := hpo
  refine ex_if_ne (off := 9) (tgt := 14) (np := 8) C (by decide +kernel) (by decide) rfl (fun h3 => ?_) (fun h3 => ?_)
  · skip
    refine ex_aload_n (q := 0) (x := 0) (np := 15) C (by decide +kernel) rfl rfl ?_
    obtain ⟨σ4, q5⟩ : ∃ x, x = B_next σ := ⟨_, rfl⟩
    refine ex_call_v (np := 18) (fun ws H locs ls hR hsz => ex_runV (C1 := "") C (m_X11_next d (by omega) σ hI) hd1 hd2 (by decide) hy_X11_next tg_1540 hc_X11 rfl (WB_0 _) rfl rfl (Nat.le_of_ble_eq_true rfl) rfl tg_1537 tg_1539 tg_83 tg_158 (by decide +kernel) ws H locs ls hR hsz (Nat.zero_le _) (Nat.zero_le _)) rfl (fun w1 hpo => ?_)
    rw [← q5] at hpo
    subst hpo
    have hI6 := inv_X11_next σ hI; rw [← q5] at hI6
    refine ex_iconst (n := 1) (v := 1) (np := 19) C (by decide +kernel) (by decide) rfl ?_
    have E9 : B_sign ch σ = ((1 : Int32), σ4) := by unfold B_sign; exact (ex_lt_eq q2).trans ((if_neg h3).trans ((ex_lt_eq q5).trans (rfl)))
    exact ex_iret C hr hlk (by decide +kernel) rfl (Nat.le_refl _) (Nat.le_refl _) (by rw [E9]; exact ⟨rfl, rfl⟩)
  · skip
    refine ex_aload_n (q := 0) (x := 0) (np := 9) C (by decide +kernel) rfl rfl ?_
    refine ex_iconst (n := 1) (v := 1) (np := 10) C (by decide +kernel) (by decide) rfl ?_
    obtain ⟨r7, σ8, q10⟩ : ∃ r x, B_bad (1 : Int32) σ = (r, x) := ex_pair _
    refine ex_call_i (np := 13) (fun ws H locs ls hR hsz => ex_runV (C1 := "") C (m_X11_bad d (by omega) (1 : Int32) σ) hd1 hd2 (by decide) hy_X11_bad tg_1566 hc_X11 rfl (WB_0 _) rfl rfl (Nat.le_of_ble_eq_true rfl) rfl tg_1563 tg_1565 tg_88 tg_158 (by decide +kernel) ws H locs ls hR hsz (Nat.zero_le _) (Nat.zero_le _)) rfl (fun r9 w1 hpo => ?_)
    rw [q10] at hpo
    have hp1 : r7 = r9 := hpo.1.symm
    have hp2 := hpo.2
    clear hpo; subst hp1; subst hp2
    have hI11 := inv_X11_bad (1 : Int32) σ hI; rw [q10] at hI11
    have E9 : B_sign ch σ = (r7, σ8) := by unfold B_sign; exact (ex_lt_eq q2).trans ((if_pos h3).trans ((ex_bd_eq q10).trans (rfl)))
    exact ex_iret C hr hlk (by decide +kernel) (ex_nar (by have b9 := bl_X11_bad (1 : Int32) σ; rw [q10] at b9; exact b9)) (Nat.le_refl _) (Nat.le_refl _) (by rw [E9]; exact ⟨rfl, rfl⟩)
set_option maxRecDepth 100000 in
set_option maxHeartbeats 4000000 in
theorem m_X11_takes {l : Launch} {X : ab_X} {D : va_G} {A : ex_A} (d : Nat) (hd : 3 ≤ d) (lo : Int32) (hi : Int32) (σ : ex_S) (hI : B_INV σ) : ex_ctr l X D A d yX11_takes cX11_takes 3 (some .boolean) (WB σ) [.ref 0, .int lo, .int hi] (fun r w => r = (B_takes lo hi σ).1 ∧ w = WB (B_takes lo hi σ).2) := by
  obtain ⟨d, rfl⟩ : ∃ d9, d = d9 + 1 := ⟨d - 1, by omega⟩
  refine ex_meth (own := RX11) rfl (by decide) (Nat.le_of_ble_eq_true rfl) (fun p e R s m below meth c C hr hlk hd1 hd2 => ?_)
  show ex_ok p l e R s m _ below meth c 0 0 _ 3 X D A (WB σ) 0 [(0, .ref 0), (1, .int lo), (2, .int hi)] []
  refine ex_aload_n (q := 0) (x := 0) (np := 1) C (by decide +kernel) rfl rfl ?_
  refine ex_getf (q := 11) (v := .int (σ.1 5)) (np := 4) C hc_X11 hin_X11 (by decide) tg_1386 (by decide +kernel) (WB_0 _) rfl rfl ?_
  refine ex_iconst (n := 2) (v := 2) (np := 5) C (by decide +kernel) (by decide) rfl ?_
  refine ex_icmp_eq (off := 9) (tgt := 14) (np := 8) C (by decide +kernel) (by decide) rfl (fun h1 => ?_) (fun h1 => ?_)
  · skip
    refine ex_aload_n (q := 0) (x := 0) (np := 15) C (by decide +kernel) rfl rfl ?_
    refine ex_getf (q := 14) (v := .int (σ.1 8)) (np := 18) C hc_X11 hin_X11 (by decide) tg_1389 (by decide +kernel) (WB_0 _) rfl rfl ?_
    refine ex_iload_n (q := 1) (x := lo) (np := 19) C (by decide +kernel) rfl rfl ?_
    refine ex_iload_n (q := 2) (x := hi) (np := 20) C (by decide +kernel) rfl rfl ?_
    refine ex_call_i (np := 23) (fun ws H locs ls hR hsz => ex_runS C (m_X11_isIn d (by omega) (WB σ) (σ.1 8) lo hi) hd1 hd2 (by decide) hy_X11_isIn tg_1589 rfl rfl (Nat.le_of_ble_eq_true rfl) tg_1587 tg_1588 tg_158 (by decide +kernel) ws H locs ls hR hsz (Nat.zero_le _) (Nat.zero_le _)) rfl (fun r2 w1 hpo => ?_)
    obtain ⟨q3, rfl⟩ := hpo
    refine ex_if_ne (off := 9) (tgt := 32) (np := 26) C (by decide +kernel) (by decide) rfl (fun h4 => ?_) (fun h4 => ?_)
    · skip
      refine ex_aload_n (q := 0) (x := 0) (np := 33) C (by decide +kernel) rfl rfl ?_
      refine ex_aload_n (q := 0) (x := 0) (np := 34) C (by decide +kernel) rfl rfl ?_
      refine ex_getf (q := 14) (v := .int (σ.1 8)) (np := 37) C hc_X11 hin_X11 (by decide) tg_1389 (by decide +kernel) (WB_0 _) rfl rfl ?_
      refine ex_putf (q := 18) (w1 := (WB (sI 11 (σ.1 8) σ))) (np := 40) C hc_X11 hin_X11 (by decide) tyX11_ok nmX11 tg_1393 rfl (by decide +kernel) (WB_0 _) (Nat.le_of_ble_eq_true rfl) rfl rfl (WB_0_18 _ _) rfl ?_
      refine ex_aload_n (q := 0) (x := 0) (np := 41) C (by decide +kernel) rfl rfl ?_
      obtain ⟨σ5, q6⟩ : ∃ x, x = B_next (sI 11 (σ.1 8) σ) := ⟨_, rfl⟩
      refine ex_call_v (np := 44) (fun ws H locs ls hR hsz => ex_runV (C1 := "") C (m_X11_next d (by omega) (sI 11 (σ.1 8) σ) hI) hd1 hd2 (by decide) hy_X11_next tg_1540 hc_X11 rfl (WB_0 _) rfl rfl (Nat.le_of_ble_eq_true rfl) rfl tg_1537 tg_1539 tg_83 tg_158 (by decide +kernel) ws H locs ls hR hsz (Nat.zero_le _) (Nat.zero_le _)) rfl (fun w1 hpo => ?_)
      rw [← q6] at hpo
      subst hpo
      have hI7 := inv_X11_next (sI 11 (σ.1 8) σ) hI; rw [← q6] at hI7
      refine ex_iconst (n := 1) (v := 1) (np := 45) C (by decide +kernel) (by decide) rfl ?_
      have E9 : B_takes lo hi σ = ((1 : Int32), σ5) := by unfold B_takes; exact (if_pos h1).trans ((ex_lt_eq q3).trans ((if_neg h4).trans ((ex_lt_eq q6).trans (rfl))))
      exact ex_iret C hr hlk (by decide +kernel) rfl (Nat.le_refl _) (Nat.le_refl _) (by rw [E9]; exact ⟨rfl, rfl⟩)
    · skip
      refine ex_aload_n (q := 0) (x := 0) (np := 27) C (by decide +kernel) rfl rfl ?_
      refine ex_iconst (n := 2) (v := 2) (np := 28) C (by decide +kernel) (by decide) rfl ?_
      obtain ⟨r8, σ10, q11⟩ : ∃ r x, B_bad (2 : Int32) σ = (r, x) := ex_pair _
      refine ex_call_i (np := 31) (fun ws H locs ls hR hsz => ex_runV (C1 := "") C (m_X11_bad d (by omega) (2 : Int32) σ) hd1 hd2 (by decide) hy_X11_bad tg_1566 hc_X11 rfl (WB_0 _) rfl rfl (Nat.le_of_ble_eq_true rfl) rfl tg_1563 tg_1565 tg_88 tg_158 (by decide +kernel) ws H locs ls hR hsz (Nat.zero_le _) (Nat.zero_le _)) rfl (fun r9 w1 hpo => ?_)
      rw [q11] at hpo
      have hp1 : r8 = r9 := hpo.1.symm
      have hp2 := hpo.2
      clear hpo; subst hp1; subst hp2
      have hI12 := inv_X11_bad (2 : Int32) σ hI; rw [q11] at hI12
      have E9 : B_takes lo hi σ = (r8, σ10) := by unfold B_takes; exact (if_pos h1).trans ((ex_lt_eq q3).trans ((if_pos h4).trans ((ex_bd_eq q11).trans (rfl))))
      exact ex_iret C hr hlk (by decide +kernel) (ex_nar (by have b9 := bl_X11_bad (2 : Int32) σ; rw [q11] at b9; exact b9)) (Nat.le_refl _) (Nat.le_refl _) (by rw [E9]; exact ⟨rfl, rfl⟩)
  · skip
    refine ex_aload_n (q := 0) (x := 0) (np := 9) C (by decide +kernel) rfl rfl ?_
    refine ex_iconst (n := 1) (v := 1) (np := 10) C (by decide +kernel) (by decide) rfl ?_
    obtain ⟨r13, σ14, q15⟩ : ∃ r x, B_bad (1 : Int32) σ = (r, x) := ex_pair _
    refine ex_call_i (np := 13) (fun ws H locs ls hR hsz => ex_runV (C1 := "") C (m_X11_bad d (by omega) (1 : Int32) σ) hd1 hd2 (by decide) hy_X11_bad tg_1566 hc_X11 rfl (WB_0 _) rfl rfl (Nat.le_of_ble_eq_true rfl) rfl tg_1563 tg_1565 tg_88 tg_158 (by decide +kernel) ws H locs ls hR hsz (Nat.zero_le _) (Nat.zero_le _)) rfl (fun r9 w1 hpo => ?_)
    rw [q15] at hpo
    have hp1 : r13 = r9 := hpo.1.symm
    have hp2 := hpo.2
    clear hpo; subst hp1; subst hp2
    have hI16 := inv_X11_bad (1 : Int32) σ hI; rw [q15] at hI16
    have E9 : B_takes lo hi σ = (r13, σ14) := by unfold B_takes; exact (if_neg h1).trans ((ex_bd_eq q15).trans (rfl))
    exact ex_iret C hr hlk (by decide +kernel) (ex_nar (by have b9 := bl_X11_bad (1 : Int32) σ; rw [q15] at b9; exact b9)) (Nat.le_refl _) (Nat.le_refl _) (by rw [E9]; exact ⟨rfl, rfl⟩)
set_option maxRecDepth 100000 in
set_option maxHeartbeats 4000000 in
theorem m_X11_takesWay {l : Launch} {X : ab_X} {D : va_G} {A : ex_A} (d : Nat) (hd : 4 ≤ d) (lo : Int32) (hi : Int32) (σ : ex_S) (hI : B_INV σ) : ex_ctr l X D A d yX11_takesWay cX11_takesWay 4 (some .boolean) (WB σ) [.ref 0, .int lo, .int hi] (fun r w => r = (B_takesWay lo hi σ).1 ∧ w = WB (B_takesWay lo hi σ).2) := by
  obtain ⟨d, rfl⟩ : ∃ d9, d = d9 + 1 := ⟨d - 1, by omega⟩
  refine ex_meth (own := RX11) rfl (by decide) (Nat.le_of_ble_eq_true rfl) (fun p e R s m below meth c C hr hlk hd1 hd2 => ?_)
  show ex_ok p l e R s m _ below meth c 0 0 _ 4 X D A (WB σ) 0 [(0, .ref 0), (1, .int lo), (2, .int hi)] []
  refine ex_aload_n (q := 0) (x := 0) (np := 1) C (by decide +kernel) rfl rfl ?_
  refine ex_ldc2 (np := 4) C tg_1351 (by decide +kernel) rfl ?_
  refine ex_call_i (np := 7) (fun ws H locs ls hR hsz => ex_runV (C1 := "") C (m_X11_isWord d (by omega) (1936486263 : Int64) σ) hd1 hd2 (by decide) hy_X11_isWord tg_1558 hc_X11 rfl (WB_0 _) rfl rfl (Nat.le_of_ble_eq_true rfl) rfl tg_1555 tg_1557 tg_86 tg_158 (by decide +kernel) ws H locs ls hR hsz (Nat.zero_le _) (Nat.zero_le _)) rfl (fun r1 w1 hpo => ?_)
  obtain ⟨q2, rfl⟩ := hpo
  refine ex_istore_n (q := 3) (np := 8) (lv1 := [(3, .int r1), (0, .ref 0), (1, .int lo), (2, .int hi)]) C (by decide) (by decide +kernel) rfl rfl ?_
  refine ex_iload_n (q := 3) (x := r1) (np := 9) C (by decide +kernel) rfl rfl ?_
  refine ex_if_ne (off := 19) (tgt := 28) (np := 12) C (by decide +kernel) (by decide) rfl (fun h3 => ?_) (fun h3 => ?_)
  · skip
    refine ex_aload_n (q := 0) (x := 0) (np := 29) C (by decide +kernel) rfl rfl ?_
    obtain ⟨σ4, q5⟩ : ∃ x, x = B_next σ := ⟨_, rfl⟩
    refine ex_call_v (np := 32) (fun ws H locs ls hR hsz => ex_runV (C1 := "") C (m_X11_next d (by omega) σ hI) hd1 hd2 (by decide) hy_X11_next tg_1540 hc_X11 rfl (WB_0 _) rfl rfl (Nat.le_of_ble_eq_true rfl) rfl tg_1537 tg_1539 tg_83 tg_158 (by decide +kernel) ws H locs ls hR hsz (Nat.zero_le _) (Nat.zero_le _)) rfl (fun w1 hpo => ?_)
    rw [← q5] at hpo
    subst hpo
    have hI6 := inv_X11_next σ hI; rw [← q5] at hI6
    refine ex_aload_n (q := 0) (x := 0) (np := 33) C (by decide +kernel) rfl rfl ?_
    refine ex_iload_n (q := 1) (x := lo) (np := 34) C (by decide +kernel) rfl rfl ?_
    refine ex_iload_n (q := 2) (x := hi) (np := 35) C (by decide +kernel) rfl rfl ?_
    obtain ⟨r7, σ8, q10⟩ : ∃ r x, B_takes lo hi σ4 = (r, x) := ex_pair _
    refine ex_call_i (np := 38) (fun ws H locs ls hR hsz => ex_runV (C1 := "") C (m_X11_takes d (by omega) lo hi σ4 hI6) hd1 hd2 (by decide) hy_X11_takes tg_1586 hc_X11 rfl (WB_0 _) rfl rfl (Nat.le_of_ble_eq_true rfl) rfl tg_1583 tg_1585 tg_93 tg_158 (by decide +kernel) ws H locs ls hR hsz (Nat.zero_le _) (Nat.zero_le _)) rfl (fun r9 w1 hpo => ?_)
    rw [q10] at hpo
    have hp1 : r7 = r9 := hpo.1.symm
    have hp2 := hpo.2
    clear hpo; subst hp1; subst hp2
    have hI11 := inv_X11_takes lo hi σ4 hI6; rw [q10] at hI11
    refine ex_if_ne (off := 5) (tgt := 43) (np := 41) C (by decide +kernel) (by decide) rfl (fun h12 => ?_) (fun h12 => ?_)
    · skip
      refine ex_aload_n (q := 0) (x := 0) (np := 44) C (by decide +kernel) rfl rfl ?_
      refine ex_iload_n (q := 3) (x := r1) (np := 45) C (by decide +kernel) rfl rfl ?_
      refine ex_if_eq (off := 11) (tgt := 56) (np := 48) C (by decide +kernel) (by decide) rfl (fun h13 => ?_) (fun h13 => ?_)
      · skip
        refine ex_aload_n (q := 0) (x := 0) (np := 57) C (by decide +kernel) rfl rfl ?_
        refine ex_getf (q := 18) (v := .int (σ8.1 11)) (np := 60) C hc_X11 hin_X11 (by decide) tg_1393 (by decide +kernel) (WB_0 _) rfl rfl ?_
        refine ex_putf (q := 18) (w1 := (WB (sI 11 (σ8.1 11) σ8))) (np := 63) C hc_X11 hin_X11 (by decide) tyX11_ok nmX11 tg_1393 rfl (by decide +kernel) (WB_0 _) (Nat.le_of_ble_eq_true rfl) rfl rfl (WB_0_18 _ _) rfl ?_
        refine ex_iconst (n := 1) (v := 1) (np := 64) C (by decide +kernel) (by decide) rfl ?_
        have E9 : B_takesWay lo hi σ = ((1 : Int32), (sI 11 (σ8.1 11) σ8)) := by unfold B_takesWay; exact (ex_lt_eq q2).trans ((if_neg h3).trans ((ex_lt_eq q5).trans ((ex_bd_eq q10).trans ((if_neg h12).trans ((if_pos h13).trans (rfl))))))
        exact ex_iret C hr hlk (by decide +kernel) rfl (Nat.le_refl _) (Nat.le_refl _) (by rw [E9]; exact ⟨rfl, rfl⟩)
      · skip
        refine ex_aload_n (q := 0) (x := 0) (np := 49) C (by decide +kernel) rfl rfl ?_
        refine ex_getf (q := 18) (v := .int (σ8.1 11)) (np := 52) C hc_X11 hin_X11 (by decide) tg_1393 (by decide +kernel) (WB_0 _) rfl rfl ?_
        refine ex_ineg (np := 53) C (by decide +kernel) rfl ?_
        refine ex_goto (off := 7) (tgt := 60) C (by decide +kernel) (by decide) ?_
        refine ex_putf (q := 18) (w1 := (WB (sI 11 (-(σ8.1 11)) σ8))) (np := 63) C hc_X11 hin_X11 (by decide) tyX11_ok nmX11 tg_1393 rfl (by decide +kernel) (WB_0 _) (Nat.le_of_ble_eq_true rfl) rfl rfl (WB_0_18 _ _) rfl ?_
        refine ex_iconst (n := 1) (v := 1) (np := 64) C (by decide +kernel) (by decide) rfl ?_
        have E9 : B_takesWay lo hi σ = ((1 : Int32), (sI 11 (-(σ8.1 11)) σ8)) := by unfold B_takesWay; exact (ex_lt_eq q2).trans ((if_neg h3).trans ((ex_lt_eq q5).trans ((ex_bd_eq q10).trans ((if_neg h12).trans ((if_neg h13).trans (rfl))))))
        exact ex_iret C hr hlk (by decide +kernel) rfl (Nat.le_refl _) (Nat.le_refl _) (by rw [E9]; exact ⟨rfl, rfl⟩)
    · skip
      refine ex_iconst (n := 0) (v := 0) (np := 42) C (by decide +kernel) (by decide) rfl ?_
      have E9 : B_takesWay lo hi σ = ((0 : Int32), σ8) := by unfold B_takesWay; exact (ex_lt_eq q2).trans ((if_neg h3).trans ((ex_lt_eq q5).trans ((ex_bd_eq q10).trans ((if_pos h12).trans (rfl)))))
      exact ex_iret C hr hlk (by decide +kernel) rfl (Nat.le_refl _) (Nat.le_refl _) (by rw [E9]; exact ⟨rfl, rfl⟩)
  · skip
    refine ex_aload_n (q := 0) (x := 0) (np := 13) C (by decide +kernel) rfl rfl ?_
    refine ex_ldc2 (np := 16) C tg_1350 (by decide +kernel) rfl ?_
    refine ex_call_i (np := 19) (fun ws H locs ls hR hsz => ex_runV (C1 := "") C (m_X11_isWord d (by omega) (1717662580 : Int64) σ) hd1 hd2 (by decide) hy_X11_isWord tg_1558 hc_X11 rfl (WB_0 _) rfl rfl (Nat.le_of_ble_eq_true rfl) rfl tg_1555 tg_1557 tg_86 tg_158 (by decide +kernel) ws H locs ls hR hsz (Nat.zero_le _) (Nat.zero_le _)) rfl (fun r14 w1 hpo => ?_)
    obtain ⟨q15, rfl⟩ := hpo
    refine ex_if_ne (off := 9) (tgt := 28) (np := 22) C (by decide +kernel) (by decide) rfl (fun h16 => ?_) (fun h16 => ?_)
    · skip
      refine ex_aload_n (q := 0) (x := 0) (np := 29) C (by decide +kernel) rfl rfl ?_
      obtain ⟨σ17, q18⟩ : ∃ x, x = B_next σ := ⟨_, rfl⟩
      refine ex_call_v (np := 32) (fun ws H locs ls hR hsz => ex_runV (C1 := "") C (m_X11_next d (by omega) σ hI) hd1 hd2 (by decide) hy_X11_next tg_1540 hc_X11 rfl (WB_0 _) rfl rfl (Nat.le_of_ble_eq_true rfl) rfl tg_1537 tg_1539 tg_83 tg_158 (by decide +kernel) ws H locs ls hR hsz (Nat.zero_le _) (Nat.zero_le _)) rfl (fun w1 hpo => ?_)
      rw [← q18] at hpo
      subst hpo
      have hI19 := inv_X11_next σ hI; rw [← q18] at hI19
      refine ex_aload_n (q := 0) (x := 0) (np := 33) C (by decide +kernel) rfl rfl ?_
      refine ex_iload_n (q := 1) (x := lo) (np := 34) C (by decide +kernel) rfl rfl ?_
      refine ex_iload_n (q := 2) (x := hi) (np := 35) C (by decide +kernel) rfl rfl ?_
      obtain ⟨r20, σ21, q22⟩ : ∃ r x, B_takes lo hi σ17 = (r, x) := ex_pair _
      refine ex_call_i (np := 38) (fun ws H locs ls hR hsz => ex_runV (C1 := "") C (m_X11_takes d (by omega) lo hi σ17 hI19) hd1 hd2 (by decide) hy_X11_takes tg_1586 hc_X11 rfl (WB_0 _) rfl rfl (Nat.le_of_ble_eq_true rfl) rfl tg_1583 tg_1585 tg_93 tg_158 (by decide +kernel) ws H locs ls hR hsz (Nat.zero_le _) (Nat.zero_le _)) rfl (fun r9 w1 hpo => ?_)
      rw [q22] at hpo
      have hp1 : r20 = r9 := hpo.1.symm
      have hp2 := hpo.2
      clear hpo; subst hp1; subst hp2
      have hI23 := inv_X11_takes lo hi σ17 hI19; rw [q22] at hI23
      refine ex_if_ne (off := 5) (tgt := 43) (np := 41) C (by decide +kernel) (by decide) rfl (fun h24 => ?_) (fun h24 => ?_)
      · skip
        refine ex_aload_n (q := 0) (x := 0) (np := 44) C (by decide +kernel) rfl rfl ?_
        refine ex_iload_n (q := 3) (x := r1) (np := 45) C (by decide +kernel) rfl rfl ?_
        refine ex_if_eq (off := 11) (tgt := 56) (np := 48) C (by decide +kernel) (by decide) rfl (fun h25 => ?_) (fun h25 => ?_)
        · skip
          refine ex_aload_n (q := 0) (x := 0) (np := 57) C (by decide +kernel) rfl rfl ?_
          refine ex_getf (q := 18) (v := .int (σ21.1 11)) (np := 60) C hc_X11 hin_X11 (by decide) tg_1393 (by decide +kernel) (WB_0 _) rfl rfl ?_
          refine ex_putf (q := 18) (w1 := (WB (sI 11 (σ21.1 11) σ21))) (np := 63) C hc_X11 hin_X11 (by decide) tyX11_ok nmX11 tg_1393 rfl (by decide +kernel) (WB_0 _) (Nat.le_of_ble_eq_true rfl) rfl rfl (WB_0_18 _ _) rfl ?_
          refine ex_iconst (n := 1) (v := 1) (np := 64) C (by decide +kernel) (by decide) rfl ?_
          have E9 : B_takesWay lo hi σ = ((1 : Int32), (sI 11 (σ21.1 11) σ21)) := by unfold B_takesWay; exact (ex_lt_eq q2).trans ((if_pos h3).trans ((ex_lt_eq q15).trans ((if_neg h16).trans ((ex_lt_eq q18).trans ((ex_bd_eq q22).trans ((if_neg h24).trans ((if_pos h25).trans (rfl))))))))
          exact ex_iret C hr hlk (by decide +kernel) rfl (Nat.le_refl _) (Nat.le_refl _) (by rw [E9]; exact ⟨rfl, rfl⟩)
        · skip
          refine ex_aload_n (q := 0) (x := 0) (np := 49) C (by decide +kernel) rfl rfl ?_
          refine ex_getf (q := 18) (v := .int (σ21.1 11)) (np := 52) C hc_X11 hin_X11 (by decide) tg_1393 (by decide +kernel) (WB_0 _) rfl rfl ?_
          refine ex_ineg (np := 53) C (by decide +kernel) rfl ?_
          refine ex_goto (off := 7) (tgt := 60) C (by decide +kernel) (by decide) ?_
          refine ex_putf (q := 18) (w1 := (WB (sI 11 (-(σ21.1 11)) σ21))) (np := 63) C hc_X11 hin_X11 (by decide) tyX11_ok nmX11 tg_1393 rfl (by decide +kernel) (WB_0 _) (Nat.le_of_ble_eq_true rfl) rfl rfl (WB_0_18 _ _) rfl ?_
          refine ex_iconst (n := 1) (v := 1) (np := 64) C (by decide +kernel) (by decide) rfl ?_
          have E9 : B_takesWay lo hi σ = ((1 : Int32), (sI 11 (-(σ21.1 11)) σ21)) := by unfold B_takesWay; exact (ex_lt_eq q2).trans ((if_pos h3).trans ((ex_lt_eq q15).trans ((if_neg h16).trans ((ex_lt_eq q18).trans ((ex_bd_eq q22).trans ((if_neg h24).trans ((if_neg h25).trans (rfl))))))))
          exact ex_iret C hr hlk (by decide +kernel) rfl (Nat.le_refl _) (Nat.le_refl _) (by rw [E9]; exact ⟨rfl, rfl⟩)
      · skip
        refine ex_iconst (n := 0) (v := 0) (np := 42) C (by decide +kernel) (by decide) rfl ?_
        have E9 : B_takesWay lo hi σ = ((0 : Int32), σ21) := by unfold B_takesWay; exact (ex_lt_eq q2).trans ((if_pos h3).trans ((ex_lt_eq q15).trans ((if_neg h16).trans ((ex_lt_eq q18).trans ((ex_bd_eq q22).trans ((if_pos h24).trans (rfl)))))))
        exact ex_iret C hr hlk (by decide +kernel) rfl (Nat.le_refl _) (Nat.le_refl _) (by rw [E9]; exact ⟨rfl, rfl⟩)
    · skip
      refine ex_aload_n (q := 0) (x := 0) (np := 23) C (by decide +kernel) rfl rfl ?_
      refine ex_iconst (n := 1) (v := 1) (np := 24) C (by decide +kernel) (by decide) rfl ?_
      obtain ⟨r26, σ27, q28⟩ : ∃ r x, B_bad (1 : Int32) σ = (r, x) := ex_pair _
      refine ex_call_i (np := 27) (fun ws H locs ls hR hsz => ex_runV (C1 := "") C (m_X11_bad d (by omega) (1 : Int32) σ) hd1 hd2 (by decide) hy_X11_bad tg_1566 hc_X11 rfl (WB_0 _) rfl rfl (Nat.le_of_ble_eq_true rfl) rfl tg_1563 tg_1565 tg_88 tg_158 (by decide +kernel) ws H locs ls hR hsz (Nat.zero_le _) (Nat.zero_le _)) rfl (fun r9 w1 hpo => ?_)
      rw [q28] at hpo
      have hp1 : r26 = r9 := hpo.1.symm
      have hp2 := hpo.2
      clear hpo; subst hp1; subst hp2
      have hI29 := inv_X11_bad (1 : Int32) σ hI; rw [q28] at hI29
      have E9 : B_takesWay lo hi σ = (r26, σ27) := by unfold B_takesWay; exact (ex_lt_eq q2).trans ((if_pos h3).trans ((ex_lt_eq q15).trans ((if_pos h16).trans ((ex_bd_eq q28).trans (rfl)))))
      exact ex_iret C hr hlk (by decide +kernel) (ex_nar (by have b9 := bl_X11_bad (1 : Int32) σ; rw [q28] at b9; exact b9)) (Nat.le_refl _) (Nat.le_refl _) (by rw [E9]; exact ⟨rfl, rfl⟩)
set_option maxRecDepth 100000 in
set_option maxHeartbeats 4000000 in
theorem m_X11_puts {l : Launch} {X : ab_X} {D : va_G} {A : ex_A} (d : Nat) (hd : 4 ≤ d) (to : Int32) (lo : Int32) (hi : Int32) (σ : ex_S) (hI : B_INV σ) (hto : 3 ≤ (to).toInt ∧ (to).toInt < 100) : ex_ctr l X D A d yX11_puts cX11_puts 4 (some .boolean) (WB σ) [.ref 0, .int to, .int lo, .int hi] (fun r w => r = (B_puts to lo hi σ).1 ∧ w = WB (B_puts to lo hi σ).2) := by
  obtain ⟨d, rfl⟩ : ∃ d9, d = d9 + 1 := ⟨d - 1, by omega⟩
  refine ex_meth (own := RX11) rfl (by decide) (Nat.le_of_ble_eq_true rfl) (fun p e R s m below meth c C hr hlk hd1 hd2 => ?_)
  show ex_ok p l e R s m _ below meth c 0 0 _ 4 X D A (WB σ) 0 [(0, .ref 0), (1, .int to), (2, .int lo), (3, .int hi)] []
  refine ex_aload_n (q := 0) (x := 0) (np := 1) C (by decide +kernel) rfl rfl ?_
  refine ex_iload_n (q := 2) (x := lo) (np := 2) C (by decide +kernel) rfl rfl ?_
  refine ex_iload_n (q := 3) (x := hi) (np := 3) C (by decide +kernel) rfl rfl ?_
  obtain ⟨r1, σ2, q3⟩ : ∃ r x, B_takes lo hi σ = (r, x) := ex_pair _
  refine ex_call_i (np := 6) (fun ws H locs ls hR hsz => ex_runV (C1 := "") C (m_X11_takes d (by omega) lo hi σ hI) hd1 hd2 (by decide) hy_X11_takes tg_1586 hc_X11 rfl (WB_0 _) rfl rfl (Nat.le_of_ble_eq_true rfl) rfl tg_1583 tg_1585 tg_93 tg_158 (by decide +kernel) ws H locs ls hR hsz (Nat.zero_le _) (Nat.zero_le _)) rfl (fun r9 w1 hpo => ?_)
  rw [q3] at hpo
  have hp1 : r1 = r9 := hpo.1.symm
  have hp2 := hpo.2
  clear hpo; subst hp1; subst hp2
  have hI4 := inv_X11_takes lo hi σ hI; rw [q3] at hI4
  refine ex_if_ne (off := 5) (tgt := 11) (np := 9) C (by decide +kernel) (by decide) rfl (fun h5 => ?_) (fun h5 => ?_)
  · skip
    refine ex_aload_n (q := 0) (x := 0) (np := 12) C (by decide +kernel) rfl rfl ?_
    refine ex_getf (q := 7) (v := .ref 3) (np := 15) C hc_X11 hin_X11 (by decide) tg_1382 (by decide +kernel) (WB_0 _) rfl rfl ?_
    refine ex_iload_n (q := 1) (x := to) (np := 16) C (by decide +kernel) rfl rfl ?_
    refine ex_aload_n (q := 0) (x := 0) (np := 17) C (by decide +kernel) rfl rfl ?_
    refine ex_getf (q := 18) (v := .int (σ2.1 11)) (np := 20) C hc_X11 hin_X11 (by decide) tg_1393 (by decide +kernel) (WB_0 _) rfl rfl ?_
    refine ex_iast (f := (σ2.2.2.1 2)) (kk := (to).toNatClampNeg) (w1 := (WB (sR 2 (upd (σ2.2.2.1 2) (to).toNatClampNeg (σ2.1 11)) σ2))) (np := 21) C (by decide +kernel) (WB_3 _) (by omega) rfl (WB_3_s _ _) rfl ?_
    refine ex_iconst (n := 1) (v := 1) (np := 22) C (by decide +kernel) (by decide) rfl ?_
    have E9 : B_puts to lo hi σ = ((1 : Int32), (sR 2 (upd (σ2.2.2.1 2) (to).toNatClampNeg (σ2.1 11)) σ2)) := by unfold B_puts; exact (ex_bd_eq q3).trans ((if_neg h5).trans (rfl))
    exact ex_iret C hr hlk (by decide +kernel) rfl (Nat.le_refl _) (Nat.le_refl _) (by rw [E9]; exact ⟨rfl, rfl⟩)
  · skip
    refine ex_iconst (n := 0) (v := 0) (np := 10) C (by decide +kernel) (by decide) rfl ?_
    have E9 : B_puts to lo hi σ = ((0 : Int32), σ2) := by unfold B_puts; exact (ex_bd_eq q3).trans ((if_pos h5).trans (rfl))
    exact ex_iret C hr hlk (by decide +kernel) rfl (Nat.le_refl _) (Nat.le_refl _) (by rw [E9]; exact ⟨rfl, rfl⟩)
set_option maxRecDepth 100000 in
set_option maxHeartbeats 4000000 in
theorem m_X11_fresh {l : Launch} {X : ab_X} {D : va_G} {A : ex_A} (d : Nat) (hd : 3 ≤ d) (to : Int32) (σ : ex_S) (hI : B_INV σ) (hto : 15 ≤ (to).toInt ∧ (to).toInt < 30) : ex_ctr l X D A d yX11_fresh cX11_fresh 2 (some .boolean) (WB σ) [.ref 0, .int to] (fun r w => r = (B_fresh to σ).1 ∧ w = WB (B_fresh to σ).2) := by
  obtain ⟨d, rfl⟩ : ∃ d9, d = d9 + 1 := ⟨d - 1, by omega⟩
  refine ex_meth (own := RX11) rfl (by decide) (Nat.le_of_ble_eq_true rfl) (fun p e R s m below meth c C hr hlk hd1 hd2 => ?_)
  show ex_ok p l e R s m _ below meth c 0 0 _ 2 X D A (WB σ) 0 [(0, .ref 0), (1, .int to)] []
  refine ex_aload_n (q := 0) (x := 0) (np := 1) C (by decide +kernel) rfl rfl ?_
  refine ex_call_i (np := 4) (fun ws H locs ls hR hsz => ex_runV (C1 := "") C (m_X11_isName d (by omega) σ) hd1 hd2 (by decide) hy_X11_isName tg_1574 hc_X11 rfl (WB_0 _) rfl rfl (Nat.le_of_ble_eq_true rfl) rfl tg_1571 tg_1573 tg_90 tg_158 (by decide +kernel) ws H locs ls hR hsz (Nat.zero_le _) (Nat.zero_le _)) rfl (fun r1 w1 hpo => ?_)
  obtain ⟨q2, rfl⟩ := hpo
  refine ex_if_ne (off := 9) (tgt := 13) (np := 7) C (by decide +kernel) (by decide) rfl (fun h3 => ?_) (fun h3 => ?_)
  · skip
    refine ex_aload_n (q := 0) (x := 0) (np := 14) C (by decide +kernel) rfl rfl ?_
    refine ex_bipush (n := 15) (v := 15) (np := 16) C (by decide +kernel) (by decide) rfl ?_
    refine ex_aload_n (q := 0) (x := 0) (np := 17) C (by decide +kernel) rfl rfl ?_
    refine ex_getf (q := 7) (v := .ref 3) (np := 20) C hc_X11 hin_X11 (by decide) tg_1382 (by decide +kernel) (WB_0 _) rfl rfl ?_
    refine ex_iconst (n := 0) (v := 0) (np := 21) C (by decide +kernel) (by decide) rfl ?_
    refine ex_iald (f := (σ.2.2.1 2)) (kk := 0) (np := 22) C (by decide +kernel) (WB_3 _) (by decide) (by decide) rfl ?_
    refine ex_call_i (np := 25) (fun ws H locs ls hR hsz => ex_runV (C1 := "") C (m_X11_find d (by omega) (15 : Int32) ((σ.2.2.1 2) 0) σ (B_h15 hI)) hd1 hd2 (by decide) hy_X11_find tg_1578 hc_X11 rfl (WB_0 _) rfl rfl (Nat.le_of_ble_eq_true rfl) rfl tg_1575 tg_1577 tg_91 tg_158 (by decide +kernel) ws H locs ls hR hsz (Nat.zero_le _) (Nat.zero_le _)) rfl (fun r4 w1 hpo => ?_)
    obtain ⟨q5, rfl⟩ := hpo
    refine ex_if_ge (off := 18) (tgt := 43) (np := 28) C (by decide +kernel) (by decide) rfl (fun h6 => ?_) (fun h6 => ?_)
    · skip
      refine ex_aload_n (q := 0) (x := 0) (np := 44) C (by decide +kernel) rfl rfl ?_
      refine ex_iconst (n := 3) (v := 3) (np := 45) C (by decide +kernel) (by decide) rfl ?_
      obtain ⟨r7, σ8, q10⟩ : ∃ r x, B_bad (3 : Int32) σ = (r, x) := ex_pair _
      refine ex_call_i (np := 48) (fun ws H locs ls hR hsz => ex_runV (C1 := "") C (m_X11_bad d (by omega) (3 : Int32) σ) hd1 hd2 (by decide) hy_X11_bad tg_1566 hc_X11 rfl (WB_0 _) rfl rfl (Nat.le_of_ble_eq_true rfl) rfl tg_1563 tg_1565 tg_88 tg_158 (by decide +kernel) ws H locs ls hR hsz (Nat.zero_le _) (Nat.zero_le _)) rfl (fun r9 w1 hpo => ?_)
      rw [q10] at hpo
      have hp1 : r7 = r9 := hpo.1.symm
      have hp2 := hpo.2
      clear hpo; subst hp1; subst hp2
      have hI11 := inv_X11_bad (3 : Int32) σ hI; rw [q10] at hI11
      have E9 : B_fresh to σ = (r7, σ8) := by unfold B_fresh; exact (ex_lt_eq q2).trans ((if_neg h3).trans ((ex_lt_eq q5).trans ((if_neg h6).trans ((ex_bd_eq q10).trans (rfl)))))
      exact ex_iret C hr hlk (by decide +kernel) (ex_nar (by have b9 := bl_X11_bad (3 : Int32) σ; rw [q10] at b9; exact b9)) (Nat.le_refl _) (Nat.le_refl _) (by rw [E9]; exact ⟨rfl, rfl⟩)
    · skip
      refine ex_aload_n (q := 0) (x := 0) (np := 29) C (by decide +kernel) rfl rfl ?_
      refine ex_bipush (n := 22) (v := 22) (np := 31) C (by decide +kernel) (by decide) rfl ?_
      refine ex_aload_n (q := 0) (x := 0) (np := 32) C (by decide +kernel) rfl rfl ?_
      refine ex_getf (q := 7) (v := .ref 3) (np := 35) C hc_X11 hin_X11 (by decide) tg_1382 (by decide +kernel) (WB_0 _) rfl rfl ?_
      refine ex_iconst (n := 2) (v := 2) (np := 36) C (by decide +kernel) (by decide) rfl ?_
      refine ex_iald (f := (σ.2.2.1 2)) (kk := 2) (np := 37) C (by decide +kernel) (WB_3 _) (by decide) (by decide) rfl ?_
      refine ex_call_i (np := 40) (fun ws H locs ls hR hsz => ex_runV (C1 := "") C (m_X11_find d (by omega) (22 : Int32) ((σ.2.2.1 2) 2) σ (B_h22 hI)) hd1 hd2 (by decide) hy_X11_find tg_1578 hc_X11 rfl (WB_0 _) rfl rfl (Nat.le_of_ble_eq_true rfl) rfl tg_1575 tg_1577 tg_91 tg_158 (by decide +kernel) ws H locs ls hR hsz (Nat.zero_le _) (Nat.zero_le _)) rfl (fun r12 w1 hpo => ?_)
      obtain ⟨q13, rfl⟩ := hpo
      refine ex_if_lt (off := 9) (tgt := 49) (np := 43) C (by decide +kernel) (by decide) rfl (fun h14 => ?_) (fun h14 => ?_)
      · skip
        refine ex_aload_n (q := 0) (x := 0) (np := 50) C (by decide +kernel) rfl rfl ?_
        refine ex_getf (q := 9) (v := .ref 5) (np := 53) C hc_X11 hin_X11 (by decide) tg_1384 (by decide +kernel) (WB_0 _) rfl rfl ?_
        refine ex_iload_n (q := 1) (x := to) (np := 54) C (by decide +kernel) rfl rfl ?_
        refine ex_aload_n (q := 0) (x := 0) (np := 55) C (by decide +kernel) rfl rfl ?_
        refine ex_getf (q := 17) (v := .long (σ.2.1 0)) (np := 58) C hc_X11 hin_X11 (by decide) tg_1392 (by decide +kernel) (WB_0 _) rfl rfl ?_
        refine ex_last (f := (σ.2.2.2 0)) (kk := (to).toNatClampNeg) (w1 := (WB (sQ 0 (vp_updL (σ.2.2.2 0) (to).toNatClampNeg (σ.2.1 0)) σ))) (np := 59) C (by decide +kernel) (WB_5 _) (by omega) rfl (WB_5_s _ _) rfl ?_
        refine ex_aload_n (q := 0) (x := 0) (np := 60) C (by decide +kernel) rfl rfl ?_
        obtain ⟨σ15, q16⟩ : ∃ x, x = B_next (sQ 0 (vp_updL (σ.2.2.2 0) (to).toNatClampNeg (σ.2.1 0)) σ) := ⟨_, rfl⟩
        refine ex_call_v (np := 63) (fun ws H locs ls hR hsz => ex_runV (C1 := "") C (m_X11_next d (by omega) (sQ 0 (vp_updL (σ.2.2.2 0) (to).toNatClampNeg (σ.2.1 0)) σ) hI) hd1 hd2 (by decide) hy_X11_next tg_1540 hc_X11 rfl (WB_0 _) rfl rfl (Nat.le_of_ble_eq_true rfl) rfl tg_1537 tg_1539 tg_83 tg_158 (by decide +kernel) ws H locs ls hR hsz (Nat.zero_le _) (Nat.zero_le _)) rfl (fun w1 hpo => ?_)
        rw [← q16] at hpo
        subst hpo
        have hI17 := inv_X11_next (sQ 0 (vp_updL (σ.2.2.2 0) (to).toNatClampNeg (σ.2.1 0)) σ) hI; rw [← q16] at hI17
        refine ex_iconst (n := 1) (v := 1) (np := 64) C (by decide +kernel) (by decide) rfl ?_
        have E9 : B_fresh to σ = ((1 : Int32), σ15) := by unfold B_fresh; exact (ex_lt_eq q2).trans ((if_neg h3).trans ((ex_lt_eq q5).trans ((if_pos h6).trans ((ex_lt_eq q13).trans ((if_pos h14).trans ((ex_lt_eq q16).trans (rfl)))))))
        exact ex_iret C hr hlk (by decide +kernel) rfl (Nat.le_refl _) (Nat.le_refl _) (by rw [E9]; exact ⟨rfl, rfl⟩)
      · skip
        refine ex_aload_n (q := 0) (x := 0) (np := 44) C (by decide +kernel) rfl rfl ?_
        refine ex_iconst (n := 3) (v := 3) (np := 45) C (by decide +kernel) (by decide) rfl ?_
        obtain ⟨r18, σ19, q20⟩ : ∃ r x, B_bad (3 : Int32) σ = (r, x) := ex_pair _
        refine ex_call_i (np := 48) (fun ws H locs ls hR hsz => ex_runV (C1 := "") C (m_X11_bad d (by omega) (3 : Int32) σ) hd1 hd2 (by decide) hy_X11_bad tg_1566 hc_X11 rfl (WB_0 _) rfl rfl (Nat.le_of_ble_eq_true rfl) rfl tg_1563 tg_1565 tg_88 tg_158 (by decide +kernel) ws H locs ls hR hsz (Nat.zero_le _) (Nat.zero_le _)) rfl (fun r9 w1 hpo => ?_)
        rw [q20] at hpo
        have hp1 : r18 = r9 := hpo.1.symm
        have hp2 := hpo.2
        clear hpo; subst hp1; subst hp2
        have hI21 := inv_X11_bad (3 : Int32) σ hI; rw [q20] at hI21
        have E9 : B_fresh to σ = (r18, σ19) := by unfold B_fresh; exact (ex_lt_eq q2).trans ((if_neg h3).trans ((ex_lt_eq q5).trans ((if_pos h6).trans ((ex_lt_eq q13).trans ((if_neg h14).trans ((ex_bd_eq q20).trans (rfl)))))))
        exact ex_iret C hr hlk (by decide +kernel) (ex_nar (by have b9 := bl_X11_bad (3 : Int32) σ; rw [q20] at b9; exact b9)) (Nat.le_refl _) (Nat.le_refl _) (by rw [E9]; exact ⟨rfl, rfl⟩)
  · skip
    refine ex_aload_n (q := 0) (x := 0) (np := 8) C (by decide +kernel) rfl rfl ?_
    refine ex_iconst (n := 1) (v := 1) (np := 9) C (by decide +kernel) (by decide) rfl ?_
    obtain ⟨r22, σ23, q24⟩ : ∃ r x, B_bad (1 : Int32) σ = (r, x) := ex_pair _
    refine ex_call_i (np := 12) (fun ws H locs ls hR hsz => ex_runV (C1 := "") C (m_X11_bad d (by omega) (1 : Int32) σ) hd1 hd2 (by decide) hy_X11_bad tg_1566 hc_X11 rfl (WB_0 _) rfl rfl (Nat.le_of_ble_eq_true rfl) rfl tg_1563 tg_1565 tg_88 tg_158 (by decide +kernel) ws H locs ls hR hsz (Nat.zero_le _) (Nat.zero_le _)) rfl (fun r9 w1 hpo => ?_)
    rw [q24] at hpo
    have hp1 : r22 = r9 := hpo.1.symm
    have hp2 := hpo.2
    clear hpo; subst hp1; subst hp2
    have hI25 := inv_X11_bad (1 : Int32) σ hI; rw [q24] at hI25
    have E9 : B_fresh to σ = (r22, σ23) := by unfold B_fresh; exact (ex_lt_eq q2).trans ((if_pos h3).trans ((ex_bd_eq q24).trans (rfl)))
    exact ex_iret C hr hlk (by decide +kernel) (ex_nar (by have b9 := bl_X11_bad (1 : Int32) σ; rw [q24] at b9; exact b9)) (Nat.le_refl _) (Nat.le_refl _) (by rw [E9]; exact ⟨rfl, rfl⟩)
set_option maxRecDepth 100000 in
set_option maxHeartbeats 4000000 in
theorem m_X11_looksAt {l : Launch} {X : ab_X} {D : va_G} {A : ex_A} (d : Nat) (hd : 3 ≤ d) (fr : Int32) (ma : Int32) (σ : ex_S) (hI : B_INV σ) (hfm : (0 ≤ (fr).toInt ∧ 0 ≤ (ma).toInt) ∧ (fr).toInt + (ma).toInt ≤ 30) : ex_ctr l X D A d yX11_looksAt cX11_looksAt 3 (some .boolean) (WB σ) [.ref 0, .int fr, .int ma] (fun r w => r = (B_looksAt fr ma σ).1 ∧ w = WB (B_looksAt fr ma σ).2) := by
  obtain ⟨d, rfl⟩ : ∃ d9, d = d9 + 1 := ⟨d - 1, by omega⟩
  refine ex_meth (own := RX11) rfl (by decide) (Nat.le_of_ble_eq_true rfl) (fun p e R s m below meth c C hr hlk hd1 hd2 => ?_)
  show ex_ok p l e R s m _ below meth c 0 0 _ 3 X D A (WB σ) 0 [(0, .ref 0), (1, .int fr), (2, .int ma)] []
  refine ex_aload_n (q := 0) (x := 0) (np := 1) C (by decide +kernel) rfl rfl ?_
  refine ex_call_i (np := 4) (fun ws H locs ls hR hsz => ex_runV (C1 := "") C (m_X11_isName d (by omega) σ) hd1 hd2 (by decide) hy_X11_isName tg_1574 hc_X11 rfl (WB_0 _) rfl rfl (Nat.le_of_ble_eq_true rfl) rfl tg_1571 tg_1573 tg_90 tg_158 (by decide +kernel) ws H locs ls hR hsz (Nat.zero_le _) (Nat.zero_le _)) rfl (fun r1 w1 hpo => ?_)
  obtain ⟨q2, rfl⟩ := hpo
  refine ex_if_ne (off := 9) (tgt := 13) (np := 7) C (by decide +kernel) (by decide) rfl (fun h3 => ?_) (fun h3 => ?_)
  · skip
    refine ex_aload_n (q := 0) (x := 0) (np := 14) C (by decide +kernel) rfl rfl ?_
    refine ex_aload_n (q := 0) (x := 0) (np := 15) C (by decide +kernel) rfl rfl ?_
    refine ex_iload_n (q := 1) (x := fr) (np := 16) C (by decide +kernel) rfl rfl ?_
    refine ex_iload_n (q := 2) (x := ma) (np := 17) C (by decide +kernel) rfl rfl ?_
    refine ex_call_i (np := 20) (fun ws H locs ls hR hsz => ex_runV (C1 := "") C (m_X11_find d (by omega) fr ma σ hfm) hd1 hd2 (by decide) hy_X11_find tg_1578 hc_X11 rfl (WB_0 _) rfl rfl (Nat.le_of_ble_eq_true rfl) rfl tg_1575 tg_1577 tg_91 tg_158 (by decide +kernel) ws H locs ls hR hsz (Nat.zero_le _) (Nat.zero_le _)) rfl (fun r4 w1 hpo => ?_)
    obtain ⟨q5, rfl⟩ := hpo
    refine ex_putf (q := 18) (w1 := (WB (sI 11 r4 σ))) (np := 23) C hc_X11 hin_X11 (by decide) tyX11_ok nmX11 tg_1393 rfl (by decide +kernel) (WB_0 _) (Nat.le_of_ble_eq_true rfl) rfl rfl (WB_0_18 _ _) rfl ?_
    refine ex_aload_n (q := 0) (x := 0) (np := 24) C (by decide +kernel) rfl rfl ?_
    refine ex_getf (q := 18) (v := .int r4) (np := 27) C hc_X11 hin_X11 (by decide) tg_1393 (by decide +kernel) (WB_0 _) rfl rfl ?_
    refine ex_if_ge (off := 11) (tgt := 38) (np := 30) C (by decide +kernel) (by decide) rfl (fun h6 => ?_) (fun h6 => ?_)
    · skip
      refine ex_iconst (n := 1) (v := 1) (np := 39) C (by decide +kernel) (by decide) rfl ?_
      refine ex_goto (off := 4) (tgt := 43) C (by decide +kernel) (by decide) ?_
      have E9 : B_looksAt fr ma σ = ((1 : Int32), (sI 11 r4 σ)) := by unfold B_looksAt; exact (ex_lt_eq q2).trans ((if_neg h3).trans ((ex_lt_eq q5).trans ((if_neg h6).trans (rfl))))
      exact ex_iret C hr hlk (by decide +kernel) rfl (Nat.le_refl _) (Nat.le_refl _) (by rw [E9]; exact ⟨rfl, rfl⟩)
    · skip
      refine ex_aload_n (q := 0) (x := 0) (np := 31) C (by decide +kernel) rfl rfl ?_
      refine ex_iconst (n := 3) (v := 3) (np := 32) C (by decide +kernel) (by decide) rfl ?_
      obtain ⟨r7, σ8, q10⟩ : ∃ r x, B_bad (3 : Int32) (sI 11 r4 σ) = (r, x) := ex_pair _
      refine ex_call_i (np := 35) (fun ws H locs ls hR hsz => ex_runV (C1 := "") C (m_X11_bad d (by omega) (3 : Int32) (sI 11 r4 σ)) hd1 hd2 (by decide) hy_X11_bad tg_1566 hc_X11 rfl (WB_0 _) rfl rfl (Nat.le_of_ble_eq_true rfl) rfl tg_1563 tg_1565 tg_88 tg_158 (by decide +kernel) ws H locs ls hR hsz (Nat.zero_le _) (Nat.zero_le _)) rfl (fun r9 w1 hpo => ?_)
      rw [q10] at hpo
      have hp1 : r7 = r9 := hpo.1.symm
      have hp2 := hpo.2
      clear hpo; subst hp1; subst hp2
      have hI11 := inv_X11_bad (3 : Int32) (sI 11 r4 σ) hI; rw [q10] at hI11
      refine ex_if_eq (off := 7) (tgt := 42) (np := 38) C (by decide +kernel) (by decide) rfl (fun h12 => ?_) (fun h12 => ?_)
      · skip
        refine ex_iconst (n := 0) (v := 0) (np := 43) C (by decide +kernel) (by decide) rfl ?_
        have E9 : B_looksAt fr ma σ = ((0 : Int32), σ8) := by unfold B_looksAt; exact (ex_lt_eq q2).trans ((if_neg h3).trans ((ex_lt_eq q5).trans ((if_pos h6).trans ((ex_bd_eq q10).trans ((if_pos h12).trans (rfl))))))
        exact ex_iret C hr hlk (by decide +kernel) rfl (Nat.le_refl _) (Nat.le_refl _) (by rw [E9]; exact ⟨rfl, rfl⟩)
      · skip
        refine ex_iconst (n := 1) (v := 1) (np := 39) C (by decide +kernel) (by decide) rfl ?_
        refine ex_goto (off := 4) (tgt := 43) C (by decide +kernel) (by decide) ?_
        have E9 : B_looksAt fr ma σ = ((1 : Int32), σ8) := by unfold B_looksAt; exact (ex_lt_eq q2).trans ((if_neg h3).trans ((ex_lt_eq q5).trans ((if_pos h6).trans ((ex_bd_eq q10).trans ((if_neg h12).trans (rfl))))))
        exact ex_iret C hr hlk (by decide +kernel) rfl (Nat.le_refl _) (Nat.le_refl _) (by rw [E9]; exact ⟨rfl, rfl⟩)
  · skip
    refine ex_aload_n (q := 0) (x := 0) (np := 8) C (by decide +kernel) rfl rfl ?_
    refine ex_iconst (n := 1) (v := 1) (np := 9) C (by decide +kernel) (by decide) rfl ?_
    obtain ⟨r13, σ14, q15⟩ : ∃ r x, B_bad (1 : Int32) σ = (r, x) := ex_pair _
    refine ex_call_i (np := 12) (fun ws H locs ls hR hsz => ex_runV (C1 := "") C (m_X11_bad d (by omega) (1 : Int32) σ) hd1 hd2 (by decide) hy_X11_bad tg_1566 hc_X11 rfl (WB_0 _) rfl rfl (Nat.le_of_ble_eq_true rfl) rfl tg_1563 tg_1565 tg_88 tg_158 (by decide +kernel) ws H locs ls hR hsz (Nat.zero_le _) (Nat.zero_le _)) rfl (fun r9 w1 hpo => ?_)
    rw [q15] at hpo
    have hp1 : r13 = r9 := hpo.1.symm
    have hp2 := hpo.2
    clear hpo; subst hp1; subst hp2
    have hI16 := inv_X11_bad (1 : Int32) σ hI; rw [q15] at hI16
    have E9 : B_looksAt fr ma σ = (r13, σ14) := by unfold B_looksAt; exact (ex_lt_eq q2).trans ((if_pos h3).trans ((ex_bd_eq q15).trans (rfl)))
    exact ex_iret C hr hlk (by decide +kernel) (ex_nar (by have b9 := bl_X11_bad (1 : Int32) σ; rw [q15] at b9; exact b9)) (Nat.le_refl _) (Nat.le_refl _) (by rw [E9]; exact ⟨rfl, rfl⟩)
set_option maxRecDepth 100000 in
set_option maxHeartbeats 4000000 in
theorem m_X11_takesName {l : Launch} {X : ab_X} {D : va_G} {A : ex_A} (d : Nat) (hd : 4 ≤ d) (fr : Int32) (ma : Int32) (σ : ex_S) (hI : B_INV σ) (hfm : (0 ≤ (fr).toInt ∧ 0 ≤ (ma).toInt) ∧ (fr).toInt + (ma).toInt ≤ 30) : ex_ctr l X D A d yX11_takesName cX11_takesName 3 (some .boolean) (WB σ) [.ref 0, .int fr, .int ma] (fun r w => r = (B_takesName fr ma σ).1 ∧ w = WB (B_takesName fr ma σ).2) := by
  obtain ⟨d, rfl⟩ : ∃ d9, d = d9 + 1 := ⟨d - 1, by omega⟩
  refine ex_meth (own := RX11) rfl (by decide) (Nat.le_of_ble_eq_true rfl) (fun p e R s m below meth c C hr hlk hd1 hd2 => ?_)
  show ex_ok p l e R s m _ below meth c 0 0 _ 3 X D A (WB σ) 0 [(0, .ref 0), (1, .int fr), (2, .int ma)] []
  refine ex_aload_n (q := 0) (x := 0) (np := 1) C (by decide +kernel) rfl rfl ?_
  refine ex_iload_n (q := 1) (x := fr) (np := 2) C (by decide +kernel) rfl rfl ?_
  refine ex_iload_n (q := 2) (x := ma) (np := 3) C (by decide +kernel) rfl rfl ?_
  obtain ⟨r1, σ2, q3⟩ : ∃ r x, B_looksAt fr ma σ = (r, x) := ex_pair _
  refine ex_call_i (np := 6) (fun ws H locs ls hR hsz => ex_runV (C1 := "") C (m_X11_looksAt d (by omega) fr ma σ hI hfm) hd1 hd2 (by decide) hy_X11_looksAt tg_1605 hc_X11 rfl (WB_0 _) rfl rfl (Nat.le_of_ble_eq_true rfl) rfl tg_1602 tg_1604 tg_97 tg_158 (by decide +kernel) ws H locs ls hR hsz (Nat.zero_le _) (Nat.zero_le _)) rfl (fun r9 w1 hpo => ?_)
  rw [q3] at hpo
  have hp1 : r1 = r9 := hpo.1.symm
  have hp2 := hpo.2
  clear hpo; subst hp1; subst hp2
  have hI4 := inv_X11_looksAt fr ma σ hI hfm; rw [q3] at hI4
  refine ex_if_ne (off := 5) (tgt := 11) (np := 9) C (by decide +kernel) (by decide) rfl (fun h5 => ?_) (fun h5 => ?_)
  · skip
    refine ex_aload_n (q := 0) (x := 0) (np := 12) C (by decide +kernel) rfl rfl ?_
    obtain ⟨σ6, q7⟩ : ∃ x, x = B_next σ2 := ⟨_, rfl⟩
    refine ex_call_v (np := 15) (fun ws H locs ls hR hsz => ex_runV (C1 := "") C (m_X11_next d (by omega) σ2 hI4) hd1 hd2 (by decide) hy_X11_next tg_1540 hc_X11 rfl (WB_0 _) rfl rfl (Nat.le_of_ble_eq_true rfl) rfl tg_1537 tg_1539 tg_83 tg_158 (by decide +kernel) ws H locs ls hR hsz (Nat.zero_le _) (Nat.zero_le _)) rfl (fun w1 hpo => ?_)
    rw [← q7] at hpo
    subst hpo
    have hI8 := inv_X11_next σ2 hI4; rw [← q7] at hI8
    refine ex_iconst (n := 1) (v := 1) (np := 16) C (by decide +kernel) (by decide) rfl ?_
    have E9 : B_takesName fr ma σ = ((1 : Int32), σ6) := by unfold B_takesName; exact (ex_bd_eq q3).trans ((if_neg h5).trans ((ex_lt_eq q7).trans (rfl)))
    exact ex_iret C hr hlk (by decide +kernel) rfl (Nat.le_refl _) (Nat.le_refl _) (by rw [E9]; exact ⟨rfl, rfl⟩)
  · skip
    refine ex_iconst (n := 0) (v := 0) (np := 10) C (by decide +kernel) (by decide) rfl ?_
    have E9 : B_takesName fr ma σ = ((0 : Int32), σ2) := by unfold B_takesName; exact (ex_bd_eq q3).trans ((if_pos h5).trans (rfl))
    exact ex_iret C hr hlk (by decide +kernel) rfl (Nat.le_refl _) (Nat.le_refl _) (by rw [E9]; exact ⟨rfl, rfl⟩)
set_option maxRecDepth 100000 in
set_option maxHeartbeats 4000000 in
theorem m_X11_once {l : Launch} {X : ab_X} {D : va_G} {A : ex_A} (d : Nat) (hd : 5 ≤ d) (k : Int32) (to : Int32) (lo : Int32) (hi : Int32) (σ : ex_S) (hI : B_INV σ) (hto : 3 ≤ (to).toInt ∧ (to).toInt < 100) : ex_ctr l X D A d yX11_once cX11_once 5 (some .boolean) (WB σ) [.ref 0, .int k, .int to, .int lo, .int hi] (fun r w => r = (B_once k to lo hi σ).1 ∧ w = WB (B_once k to lo hi σ).2) := by
  obtain ⟨d, rfl⟩ : ∃ d9, d = d9 + 1 := ⟨d - 1, by omega⟩
  refine ex_meth (own := RX11) rfl (by decide) (Nat.le_of_ble_eq_true rfl) (fun p e R s m below meth c C hr hlk hd1 hd2 => ?_)
  show ex_ok p l e R s m _ below meth c 0 0 _ 5 X D A (WB σ) 0 [(0, .ref 0), (1, .int k), (2, .int to), (3, .int lo), (4, .int hi)] []
  refine ex_aload_n (q := 0) (x := 0) (np := 1) C (by decide +kernel) rfl rfl ?_
  refine ex_getf (q := 20) (v := .int (σ.1 13)) (np := 4) C hc_X11 hin_X11 (by decide) tg_1395 (by decide +kernel) (WB_0 _) rfl rfl ?_
  refine ex_iload_n (q := 1) (x := k) (np := 5) C (by decide +kernel) rfl rfl ?_
  refine ex_call_i (np := 8) (fun ws H locs ls hR hsz => ex_runS C (m_X11_bitOf d (by omega) (WB σ) (σ.1 13) k) hd1 hd2 (by decide) hy_X11_bitOf tg_1616 rfl rfl (Nat.le_of_ble_eq_true rfl) tg_1614 tg_1615 tg_158 (by decide +kernel) ws H locs ls hR hsz (Nat.zero_le _) (Nat.zero_le _)) rfl (fun r1 w1 hpo => ?_)
  obtain ⟨q2, rfl⟩ := hpo
  refine ex_if_eq (off := 9) (tgt := 17) (np := 11) C (by decide +kernel) (by decide) rfl (fun h3 => ?_) (fun h3 => ?_)
  · skip
    refine ex_aload_n (q := 0) (x := 0) (np := 18) C (by decide +kernel) rfl rfl ?_
    refine ex_dup (np := 19) C rfl (by decide +kernel) rfl ?_
    refine ex_getf (q := 20) (v := .int (σ.1 13)) (np := 22) C hc_X11 hin_X11 (by decide) tg_1395 (by decide +kernel) (WB_0 _) rfl rfl ?_
    refine ex_iconst (n := 1) (v := 1) (np := 23) C (by decide +kernel) (by decide) rfl ?_
    refine ex_iload_n (q := 1) (x := k) (np := 24) C (by decide +kernel) rfl rfl ?_
    refine ex_ishl (v := ((1 : Int32) <<< (k &&& 31))) (np := 25) C (by decide +kernel) rfl rfl ?_
    refine ex_ior (v := ((σ.1 13) ||| ((1 : Int32) <<< (k &&& 31)))) (np := 26) C (by decide +kernel) rfl rfl ?_
    refine ex_putf (q := 20) (w1 := (WB (sI 13 ((σ.1 13) ||| ((1 : Int32) <<< (k &&& 31))) σ))) (np := 29) C hc_X11 hin_X11 (by decide) tyX11_ok nmX11 tg_1395 rfl (by decide +kernel) (WB_0 _) (Nat.le_of_ble_eq_true rfl) rfl rfl (WB_0_20 _ _) rfl ?_
    refine ex_aload_n (q := 0) (x := 0) (np := 30) C (by decide +kernel) rfl rfl ?_
    obtain ⟨σ4, q5⟩ : ∃ x, x = B_next (sI 13 ((σ.1 13) ||| ((1 : Int32) <<< (k &&& 31))) σ) := ⟨_, rfl⟩
    refine ex_call_v (np := 33) (fun ws H locs ls hR hsz => ex_runV (C1 := "") C (m_X11_next d (by omega) (sI 13 ((σ.1 13) ||| ((1 : Int32) <<< (k &&& 31))) σ) hI) hd1 hd2 (by decide) hy_X11_next tg_1540 hc_X11 rfl (WB_0 _) rfl rfl (Nat.le_of_ble_eq_true rfl) rfl tg_1537 tg_1539 tg_83 tg_158 (by decide +kernel) ws H locs ls hR hsz (Nat.zero_le _) (Nat.zero_le _)) rfl (fun w1 hpo => ?_)
    rw [← q5] at hpo
    subst hpo
    have hI6 := inv_X11_next (sI 13 ((σ.1 13) ||| ((1 : Int32) <<< (k &&& 31))) σ) hI; rw [← q5] at hI6
    refine ex_aload_n (q := 0) (x := 0) (np := 34) C (by decide +kernel) rfl rfl ?_
    refine ex_iload_n (q := 2) (x := to) (np := 35) C (by decide +kernel) rfl rfl ?_
    refine ex_iload_n (q := 3) (x := lo) (np := 36) C (by decide +kernel) rfl rfl ?_
    refine ex_iload (i := 4) (x := hi) (np := 38) C (by decide +kernel) rfl rfl ?_
    obtain ⟨r7, σ8, q10⟩ : ∃ r x, B_puts to lo hi σ4 = (r, x) := ex_pair _
    refine ex_call_i (np := 41) (fun ws H locs ls hR hsz => ex_runV (C1 := "") C (m_X11_puts d (by omega) to lo hi σ4 hI6 hto) hd1 hd2 (by decide) hy_X11_puts tg_1582 hc_X11 rfl (WB_0 _) rfl rfl (Nat.le_of_ble_eq_true rfl) rfl tg_1579 tg_1581 tg_92 tg_158 (by decide +kernel) ws H locs ls hR hsz (Nat.zero_le _) (Nat.zero_le _)) rfl (fun r9 w1 hpo => ?_)
    rw [q10] at hpo
    have hp1 : r7 = r9 := hpo.1.symm
    have hp2 := hpo.2
    clear hpo; subst hp1; subst hp2
    have hI11 := inv_X11_puts to lo hi σ4 hI6 hto; rw [q10] at hI11
    have E9 : B_once k to lo hi σ = (r7, σ8) := by unfold B_once; exact (ex_lt_eq q2).trans ((if_pos h3).trans ((ex_lt_eq q5).trans ((ex_bd_eq q10).trans (rfl))))
    exact ex_iret C hr hlk (by decide +kernel) (ex_nar (by have b9 := bl_X11_puts to lo hi σ4; rw [q10] at b9; exact b9)) (Nat.le_refl _) (Nat.le_refl _) (by rw [E9]; exact ⟨rfl, rfl⟩)
  · skip
    refine ex_aload_n (q := 0) (x := 0) (np := 12) C (by decide +kernel) rfl rfl ?_
    refine ex_iconst (n := 3) (v := 3) (np := 13) C (by decide +kernel) (by decide) rfl ?_
    obtain ⟨r12, σ13, q14⟩ : ∃ r x, B_bad (3 : Int32) σ = (r, x) := ex_pair _
    refine ex_call_i (np := 16) (fun ws H locs ls hR hsz => ex_runV (C1 := "") C (m_X11_bad d (by omega) (3 : Int32) σ) hd1 hd2 (by decide) hy_X11_bad tg_1566 hc_X11 rfl (WB_0 _) rfl rfl (Nat.le_of_ble_eq_true rfl) rfl tg_1563 tg_1565 tg_88 tg_158 (by decide +kernel) ws H locs ls hR hsz (Nat.zero_le _) (Nat.zero_le _)) rfl (fun r9 w1 hpo => ?_)
    rw [q14] at hpo
    have hp1 : r12 = r9 := hpo.1.symm
    have hp2 := hpo.2
    clear hpo; subst hp1; subst hp2
    have hI15 := inv_X11_bad (3 : Int32) σ hI; rw [q14] at hI15
    have E9 : B_once k to lo hi σ = (r12, σ13) := by unfold B_once; exact (ex_lt_eq q2).trans ((if_neg h3).trans ((ex_bd_eq q14).trans (rfl)))
    exact ex_iret C hr hlk (by decide +kernel) (ex_nar (by have b9 := bl_X11_bad (3 : Int32) σ; rw [q14] at b9; exact b9)) (Nat.le_refl _) (Nat.le_refl _) (by rw [E9]; exact ⟨rfl, rfl⟩)
set_option maxRecDepth 100000 in
set_option maxHeartbeats 4000000 in
theorem m_X11_clears {l : Launch} {X : ab_X} {D : va_G} {A : ex_A} (d : Nat) (hd : 1 ≤ d) (σ : ex_S) : ex_ctr l X D A d yX11_clears cX11_clears 2 none (WB σ) [.ref 0] (fun _ w => w = WB (B_clears σ)) := by
  obtain ⟨d, rfl⟩ : ∃ d9, d = d9 + 1 := ⟨d - 1, by omega⟩
  refine ex_meth (own := RX11) rfl (by decide) (Nat.le_of_ble_eq_true rfl) (fun p e R s m below meth c C hr hlk hd1 hd2 => ?_)
  show ex_ok p l e R s m _ below meth c 0 0 _ 2 X D A (WB σ) 0 [(0, .ref 0)] []
  have loop : ∀ (n k : Nat), k + n = 100 → ex_okP p l e R s m below meth c 2 X D A [.ref 0] (fun _ w => w = WB (B_clears σ)) none (WB (sR 2 (fun j => if j < k then 0 else σ.2.2.1 2 j) σ)) 2 [(1, .int (nI k)), (0, .ref 0)] [] := by
    intro n
    induction n with
    | zero =>
      intro k hk
      have hki : (nI k).toInt = (k : Int) := nI_toInt (by omega)
      have h100 : (100 : Int32).toInt = 100 := by decide
      refine ex_iload_n (q := 1) (x := (nI k)) (np := 3) C (by decide +kernel) rfl rfl ?_
      refine ex_bipush (n := 100) (v := 100) (np := 5) C (by decide +kernel) (by decide) rfl ?_
      refine ex_icmp_ge (off := 16) (tgt := 21) (np := 8) C (by decide +kernel) (by decide) rfl (fun h1 => ?_) (fun h1 => ?_)
      · skip
        refine ex_aload_n (q := 0) (x := 0) (np := 22) C (by decide +kernel) rfl rfl ?_
        refine ex_getf (q := 7) (v := .ref 3) (np := 25) C hc_X11 hin_X11 (by decide) tg_1382 (by decide +kernel) (WB_0 _) rfl rfl ?_
        refine ex_iconst (n := 3) (v := 3) (np := 26) C (by decide +kernel) (by decide) rfl ?_
        refine ex_iconst (n := 3) (v := 3) (np := 27) C (by decide +kernel) (by decide) rfl ?_
        refine ex_iast (f := (fun j => if j < k then 0 else σ.2.2.1 2 j)) (kk := 3) (w1 := (WB (sR 2 (upd (fun j => if j < k then 0 else σ.2.2.1 2 j) 3 (3 : Int32)) (sR 2 (fun j => if j < k then 0 else σ.2.2.1 2 j) σ)))) (np := 28) C (by decide +kernel) (WB_3 _) (by decide) (by decide) (WB_3_s _ _) rfl ?_
        refine ex_aload_n (q := 0) (x := 0) (np := 29) C (by decide +kernel) rfl rfl ?_
        refine ex_getf (q := 7) (v := .ref 3) (np := 32) C hc_X11 hin_X11 (by decide) tg_1382 (by decide +kernel) (WB_0 _) rfl rfl ?_
        refine ex_iconst (n := 4) (v := 4) (np := 33) C (by decide +kernel) (by decide) rfl ?_
        refine ex_iconst (n := 2) (v := 2) (np := 34) C (by decide +kernel) (by decide) rfl ?_
        refine ex_iast (f := (upd (fun j => if j < k then 0 else σ.2.2.1 2 j) 3 (3 : Int32))) (kk := 4) (w1 := (WB (sR 2 (upd (upd (fun j => if j < k then 0 else σ.2.2.1 2 j) 3 (3 : Int32)) 4 (2 : Int32)) (sR 2 (upd (fun j => if j < k then 0 else σ.2.2.1 2 j) 3 (3 : Int32)) (sR 2 (fun j => if j < k then 0 else σ.2.2.1 2 j) σ))))) (np := 35) C (by decide +kernel) (WB_3 _) (by decide) (by decide) (WB_3_s _ _) rfl ?_
        refine ex_aload_n (q := 0) (x := 0) (np := 36) C (by decide +kernel) rfl rfl ?_
        refine ex_getf (q := 7) (v := .ref 3) (np := 39) C hc_X11 hin_X11 (by decide) tg_1382 (by decide +kernel) (WB_0 _) rfl rfl ?_
        refine ex_iconst (n := 5) (v := 5) (np := 40) C (by decide +kernel) (by decide) rfl ?_
        refine ex_iconst (n := 1) (v := 1) (np := 41) C (by decide +kernel) (by decide) rfl ?_
        refine ex_iast (f := (upd (upd (fun j => if j < k then 0 else σ.2.2.1 2 j) 3 (3 : Int32)) 4 (2 : Int32))) (kk := 5) (w1 := (WB (sR 2 (upd (upd (upd (fun j => if j < k then 0 else σ.2.2.1 2 j) 3 (3 : Int32)) 4 (2 : Int32)) 5 (1 : Int32)) (sR 2 (upd (upd (fun j => if j < k then 0 else σ.2.2.1 2 j) 3 (3 : Int32)) 4 (2 : Int32)) (sR 2 (upd (fun j => if j < k then 0 else σ.2.2.1 2 j) 3 (3 : Int32)) (sR 2 (fun j => if j < k then 0 else σ.2.2.1 2 j) σ)))))) (np := 42) C (by decide +kernel) (WB_3 _) (by decide) (by decide) (WB_3_s _ _) rfl ?_
        refine ex_vret C hr hlk (by decide +kernel) (Nat.le_refl _) (Nat.le_refl _) ?_
        have E9 : B_clears σ = (sR 2 (upd (upd (upd (fun j => if j < k then 0 else σ.2.2.1 2 j) 3 (3 : Int32)) 4 (2 : Int32)) 5 (1 : Int32)) (sR 2 (upd (upd (fun j => if j < k then 0 else σ.2.2.1 2 j) 3 (3 : Int32)) 4 (2 : Int32)) (sR 2 (upd (fun j => if j < k then 0 else σ.2.2.1 2 j) 3 (3 : Int32)) (sR 2 (fun j => if j < k then 0 else σ.2.2.1 2 j) σ)))) := (by unfold B_clears; rw [ex_rr, ex_rr, ex_rr]; exact congrArg (fun f => sR 2 f σ) (ex_cl1 (by omega)))
        rw [E9]
      · skip
        exfalso; rw [hki, h100] at h1; omega
    | succ n ih =>
      intro k hk
      have hki : (nI k).toInt = (k : Int) := nI_toInt (by omega)
      have h100 : (100 : Int32).toInt = 100 := by decide
      refine ex_iload_n (q := 1) (x := (nI k)) (np := 3) C (by decide +kernel) rfl rfl ?_
      refine ex_bipush (n := 100) (v := 100) (np := 5) C (by decide +kernel) (by decide) rfl ?_
      refine ex_icmp_ge (off := 16) (tgt := 21) (np := 8) C (by decide +kernel) (by decide) rfl (fun h2 => ?_) (fun h2 => ?_)
      · skip
        exfalso; rw [hki, h100] at h2; omega
      · skip
        refine ex_aload_n (q := 0) (x := 0) (np := 9) C (by decide +kernel) rfl rfl ?_
        refine ex_getf (q := 7) (v := .ref 3) (np := 12) C hc_X11 hin_X11 (by decide) tg_1382 (by decide +kernel) (WB_0 _) rfl rfl ?_
        refine ex_iload_n (q := 1) (x := (nI k)) (np := 13) C (by decide +kernel) rfl rfl ?_
        refine ex_iconst (n := 0) (v := 0) (np := 14) C (by decide +kernel) (by decide) rfl ?_
        refine ex_iast (f := (fun j => if j < k then 0 else σ.2.2.1 2 j)) (kk := ((nI k)).toNatClampNeg) (w1 := (WB (sR 2 (upd (fun j => if j < k then 0 else σ.2.2.1 2 j) ((nI k)).toNatClampNeg (0 : Int32)) (sR 2 (fun j => if j < k then 0 else σ.2.2.1 2 j) σ)))) (np := 15) C (by decide +kernel) (WB_3 _) (by rw [hki]; omega) rfl (WB_3_s _ _) rfl ?_
        refine ex_iinc (i := 1) (n := 1) (x := (nI k)) (v := ((nI k) + 1)) (np := 18) (lv1 := [(1, .int ((nI k) + 1)), (0, .ref 0)]) C (by decide) (by decide +kernel) rfl (by rfl) rfl rfl ?_
        refine ex_goto (off := (-16)) (tgt := 2) C (by decide +kernel) (by decide) ?_
        refine ex_drop (lv1 := [(1, .int ((nI k) + 1)), (0, .ref 0)]) [0, 1] rfl ?_
        rw [← nI_succ, ex_rr, ex_nk (by omega), ex_cl0 k]
        exact ih (k + 1) (by omega)
  refine ex_iconst (n := 0) (v := 0) (np := 1) C (by decide +kernel) (by decide) rfl ?_
  refine ex_istore_n (q := 1) (np := 2) (lv1 := [(1, .int (0 : Int32)), (0, .ref 0)]) C (by decide) (by decide +kernel) rfl rfl ?_
  have h9 := loop 100 0 rfl
  rw [ex_rid (k := 2) (σ := σ) (f := fun j => if j < 0 then 0 else σ.2.2.1 2 j) (funext fun j => (if_neg (Nat.not_lt_zero j)).symm)] at h9
  exact h9
