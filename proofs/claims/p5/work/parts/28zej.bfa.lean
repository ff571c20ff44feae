/-! The reader within a book. -/
set_option maxRecDepth 100000 in
set_option maxHeartbeats 4000000 in
theorem m_X4_takeWay_S {l : Launch} {X : ab_X} {D : va_G} {A : ex_A} (d : Nat) (hd : 3 ≤ d) (σ : ex_S) (hI : A_INV σ) : ex_ctr l X D A d yX4_takeWay cX4_takeWay 1 (some .boolean) (WS σ) [.ref 1] (fun r w => r = (A_takeWay σ).1 ∧ w = WS (A_takeWay σ).2) := by
  obtain ⟨d, rfl⟩ : ∃ d9, d = d9 + 1 := ⟨d - 1, by omega⟩
  refine ex_meth (own := RX4) rfl (by decide) (Nat.le_of_ble_eq_true rfl) (fun p e R s m below meth c C hr hlk hd1 hd2 => ?_)
  show ex_ok p l e R s m _ below meth c 0 0 _ 1 X D A (WS σ) 0 [(0, .ref 1)] []
  refine ex_aload_n (q := 0) (x := 1) (np := 1) C (by decide +kernel) rfl rfl ?_
  refine ex_getf (q := 8) (v := .int (σ.1 6)) (np := 4) C hc_X4 hin_X4 (by decide) tg_241 (by decide +kernel) (WS_1 _) rfl rfl ?_
  refine ex_iconst (n := 1) (v := 1) (np := 5) C (by decide +kernel) (by decide) rfl ?_
  refine ex_icmp_eq (off := 17) (tgt := 22) (np := 8) C (by decide +kernel) (by decide) rfl (fun h1 => ?_) (fun h1 => ?_)
  · skip
    refine ex_aload_n (q := 0) (x := 1) (np := 23) C (by decide +kernel) rfl rfl ?_
    refine ex_aload_n (q := 0) (x := 1) (np := 24) C (by decide +kernel) rfl rfl ?_
    refine ex_getf (q := 8) (v := .int (σ.1 6)) (np := 27) C hc_X4 hin_X4 (by decide) tg_241 (by decide +kernel) (WS_1 _) rfl rfl ?_
    refine ex_iconst (n := 1) (v := 1) (np := 28) C (by decide +kernel) (by decide) rfl ?_
    refine ex_icmp_ne (off := 7) (tgt := 35) (np := 31) C (by decide +kernel) (by decide) rfl (fun h2 => ?_) (fun h2 => ?_)
    · skip
      refine ex_iconst (n := (-1)) (v := (-1)) (np := 36) C (by decide +kernel) (by decide) rfl ?_
      refine ex_putf (q := 11) (w1 := (WS (sI 8 (-1 : Int32) σ))) (np := 39) C hc_X4 hin_X4 (by decide) tyX4_ok nmX4 tg_251 rfl (by decide +kernel) (WS_1 _) (Nat.le_of_ble_eq_true rfl) rfl rfl (WS_1_11 _ _) rfl ?_
      refine ex_aload_n (q := 0) (x := 1) (np := 40) C (by decide +kernel) rfl rfl ?_
      obtain ⟨σ3, q4⟩ : ∃ x, x = A_next (sI 8 (-1 : Int32) σ) := ⟨_, rfl⟩
      refine ex_call_v (np := 43) (fun ws H locs ls hR hsz => ex_runV (C1 := "") C (m_X4_next_S d (by omega) (sI 8 (-1 : Int32) σ) hI) hd1 hd2 (by decide) hy_X4_next tg_667 hc_X4 rfl (WS_1 _) rfl rfl (Nat.le_of_ble_eq_true rfl) rfl tg_664 tg_666 tg_4 tg_144 (by decide +kernel) ws H locs ls hR hsz (Nat.zero_le _) (Nat.zero_le _)) rfl (fun w1 hpo => ?_)
      rw [← q4] at hpo
      subst hpo
      have hI5 := inv_X4_next (sI 8 (-1 : Int32) σ) hI; rw [← q4] at hI5
      have hF6 := fr_X4_next (sI 8 (-1 : Int32) σ); rw [← q4] at hF6
      refine ex_iconst (n := 1) (v := 1) (np := 44) C (by decide +kernel) (by decide) rfl ?_
      have E9 : A_takeWay σ = ((1 : Int32), σ3) := by unfold A_takeWay; exact (if_pos h1).trans ((if_neg h2).trans ((ex_lt_eq q4).trans (rfl)))
      exact ex_iret C hr hlk (by decide +kernel) rfl (Nat.le_refl _) (Nat.le_refl _) (by rw [E9]; exact ⟨rfl, rfl⟩)
    · skip
      refine ex_iconst (n := 1) (v := 1) (np := 32) C (by decide +kernel) (by decide) rfl ?_
      refine ex_goto (off := 4) (tgt := 36) C (by decide +kernel) (by decide) ?_
      refine ex_putf (q := 11) (w1 := (WS (sI 8 (1 : Int32) σ))) (np := 39) C hc_X4 hin_X4 (by decide) tyX4_ok nmX4 tg_251 rfl (by decide +kernel) (WS_1 _) (Nat.le_of_ble_eq_true rfl) rfl rfl (WS_1_11 _ _) rfl ?_
      refine ex_aload_n (q := 0) (x := 1) (np := 40) C (by decide +kernel) rfl rfl ?_
      obtain ⟨σ7, q8⟩ : ∃ x, x = A_next (sI 8 (1 : Int32) σ) := ⟨_, rfl⟩
      refine ex_call_v (np := 43) (fun ws H locs ls hR hsz => ex_runV (C1 := "") C (m_X4_next_S d (by omega) (sI 8 (1 : Int32) σ) hI) hd1 hd2 (by decide) hy_X4_next tg_667 hc_X4 rfl (WS_1 _) rfl rfl (Nat.le_of_ble_eq_true rfl) rfl tg_664 tg_666 tg_4 tg_144 (by decide +kernel) ws H locs ls hR hsz (Nat.zero_le _) (Nat.zero_le _)) rfl (fun w1 hpo => ?_)
      rw [← q8] at hpo
      subst hpo
      have hI10 := inv_X4_next (sI 8 (1 : Int32) σ) hI; rw [← q8] at hI10
      have hF11 := fr_X4_next (sI 8 (1 : Int32) σ); rw [← q8] at hF11
      refine ex_iconst (n := 1) (v := 1) (np := 44) C (by decide +kernel) (by decide) rfl ?_
      have E9 : A_takeWay σ = ((1 : Int32), σ7) := by unfold A_takeWay; exact (if_pos h1).trans ((if_pos h2).trans ((ex_lt_eq q8).trans (rfl)))
      exact ex_iret C hr hlk (by decide +kernel) rfl (Nat.le_refl _) (Nat.le_refl _) (by rw [E9]; exact ⟨rfl, rfl⟩)
  · skip
    refine ex_aload_n (q := 0) (x := 1) (np := 9) C (by decide +kernel) rfl rfl ?_
    refine ex_getf (q := 8) (v := .int (σ.1 6)) (np := 12) C hc_X4 hin_X4 (by decide) tg_241 (by decide +kernel) (WS_1 _) rfl rfl ?_
    refine ex_iconst (n := 2) (v := 2) (np := 13) C (by decide +kernel) (by decide) rfl ?_
    refine ex_icmp_eq (off := 9) (tgt := 22) (np := 16) C (by decide +kernel) (by decide) rfl (fun h12 => ?_) (fun h12 => ?_)
    · skip
      refine ex_aload_n (q := 0) (x := 1) (np := 23) C (by decide +kernel) rfl rfl ?_
      refine ex_aload_n (q := 0) (x := 1) (np := 24) C (by decide +kernel) rfl rfl ?_
      refine ex_getf (q := 8) (v := .int (σ.1 6)) (np := 27) C hc_X4 hin_X4 (by decide) tg_241 (by decide +kernel) (WS_1 _) rfl rfl ?_
      refine ex_iconst (n := 1) (v := 1) (np := 28) C (by decide +kernel) (by decide) rfl ?_
      refine ex_icmp_ne (off := 7) (tgt := 35) (np := 31) C (by decide +kernel) (by decide) rfl (fun h13 => ?_) (fun h13 => ?_)
      · skip
        refine ex_iconst (n := (-1)) (v := (-1)) (np := 36) C (by decide +kernel) (by decide) rfl ?_
        refine ex_putf (q := 11) (w1 := (WS (sI 8 (-1 : Int32) σ))) (np := 39) C hc_X4 hin_X4 (by decide) tyX4_ok nmX4 tg_251 rfl (by decide +kernel) (WS_1 _) (Nat.le_of_ble_eq_true rfl) rfl rfl (WS_1_11 _ _) rfl ?_
        refine ex_aload_n (q := 0) (x := 1) (np := 40) C (by decide +kernel) rfl rfl ?_
        obtain ⟨σ14, q15⟩ : ∃ x, x = A_next (sI 8 (-1 : Int32) σ) := ⟨_, rfl⟩
        refine ex_call_v (np := 43) (fun ws H locs ls hR hsz => ex_runV (C1 := "") C (m_X4_next_S d (by omega) (sI 8 (-1 : Int32) σ) hI) hd1 hd2 (by decide) hy_X4_next tg_667 hc_X4 rfl (WS_1 _) rfl rfl (Nat.le_of_ble_eq_true rfl) rfl tg_664 tg_666 tg_4 tg_144 (by decide +kernel) ws H locs ls hR hsz (Nat.zero_le _) (Nat.zero_le _)) rfl (fun w1 hpo => ?_)
        rw [← q15] at hpo
        subst hpo
        have hI16 := inv_X4_next (sI 8 (-1 : Int32) σ) hI; rw [← q15] at hI16
        have hF17 := fr_X4_next (sI 8 (-1 : Int32) σ); rw [← q15] at hF17
        refine ex_iconst (n := 1) (v := 1) (np := 44) C (by decide +kernel) (by decide) rfl ?_
        have E9 : A_takeWay σ = ((1 : Int32), σ14) := by unfold A_takeWay; exact (if_neg h1).trans ((if_pos h12).trans ((if_neg h13).trans ((ex_lt_eq q15).trans (rfl))))
        exact ex_iret C hr hlk (by decide +kernel) rfl (Nat.le_refl _) (Nat.le_refl _) (by rw [E9]; exact ⟨rfl, rfl⟩)
      · skip
        refine ex_iconst (n := 1) (v := 1) (np := 32) C (by decide +kernel) (by decide) rfl ?_
        refine ex_goto (off := 4) (tgt := 36) C (by decide +kernel) (by decide) ?_
        refine ex_putf (q := 11) (w1 := (WS (sI 8 (1 : Int32) σ))) (np := 39) C hc_X4 hin_X4 (by decide) tyX4_ok nmX4 tg_251 rfl (by decide +kernel) (WS_1 _) (Nat.le_of_ble_eq_true rfl) rfl rfl (WS_1_11 _ _) rfl ?_
        refine ex_aload_n (q := 0) (x := 1) (np := 40) C (by decide +kernel) rfl rfl ?_
        obtain ⟨σ18, q19⟩ : ∃ x, x = A_next (sI 8 (1 : Int32) σ) := ⟨_, rfl⟩
        refine ex_call_v (np := 43) (fun ws H locs ls hR hsz => ex_runV (C1 := "") C (m_X4_next_S d (by omega) (sI 8 (1 : Int32) σ) hI) hd1 hd2 (by decide) hy_X4_next tg_667 hc_X4 rfl (WS_1 _) rfl rfl (Nat.le_of_ble_eq_true rfl) rfl tg_664 tg_666 tg_4 tg_144 (by decide +kernel) ws H locs ls hR hsz (Nat.zero_le _) (Nat.zero_le _)) rfl (fun w1 hpo => ?_)
        rw [← q19] at hpo
        subst hpo
        have hI20 := inv_X4_next (sI 8 (1 : Int32) σ) hI; rw [← q19] at hI20
        have hF21 := fr_X4_next (sI 8 (1 : Int32) σ); rw [← q19] at hF21
        refine ex_iconst (n := 1) (v := 1) (np := 44) C (by decide +kernel) (by decide) rfl ?_
        have E9 : A_takeWay σ = ((1 : Int32), σ18) := by unfold A_takeWay; exact (if_neg h1).trans ((if_pos h12).trans ((if_pos h13).trans ((ex_lt_eq q19).trans (rfl))))
        exact ex_iret C hr hlk (by decide +kernel) rfl (Nat.le_refl _) (Nat.le_refl _) (by rw [E9]; exact ⟨rfl, rfl⟩)
    · skip
      refine ex_aload_n (q := 0) (x := 1) (np := 17) C (by decide +kernel) rfl rfl ?_
      refine ex_iconst (n := 1) (v := 1) (np := 18) C (by decide +kernel) (by decide) rfl ?_
      obtain ⟨r22, σ23, q24⟩ : ∃ r x, A_failAs (1 : Int32) σ = (r, x) := ex_pair _
      refine ex_call_i (np := 21) (fun ws H locs ls hR hsz => ex_runV (C1 := "") C (m_X4_failAs_S d (by omega) (1 : Int32) σ) hd1 hd2 (by decide) hy_X4_failAs tg_694 hc_X4 rfl (WS_1 _) rfl rfl (Nat.le_of_ble_eq_true rfl) rfl tg_704 tg_693 tg_10 tg_144 (by decide +kernel) ws H locs ls hR hsz (Nat.zero_le _) (Nat.zero_le _)) rfl (fun r9 w1 hpo => ?_)
      rw [q24] at hpo
      have hp1 : r22 = r9 := hpo.1.symm
      have hp2 := hpo.2
      clear hpo; subst hp1; subst hp2
      have hI25 := inv_X4_failAs (1 : Int32) σ hI; rw [q24] at hI25
      have hF26 := fr_X4_failAs (1 : Int32) σ; rw [q24] at hF26
      have E9 : A_takeWay σ = (r22, σ23) := by unfold A_takeWay; exact (if_neg h1).trans ((if_neg h12).trans ((ex_bd_eq q24).trans (rfl)))
      exact ex_iret C hr hlk (by decide +kernel) (ex_nar (by have b9 := bl_X4_failAs (1 : Int32) σ; rw [q24] at b9; exact b9)) (Nat.le_refl _) (Nat.le_refl _) (by rw [E9]; exact ⟨rfl, rfl⟩)
