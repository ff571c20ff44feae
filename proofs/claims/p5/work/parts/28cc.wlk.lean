/-! Contracts of the parsers' methods. -/
set_option maxRecDepth 100000 in
set_option maxHeartbeats 4000000 in
theorem m_X4_takeSign {l : Launch} {X : ab_X} {D : va_G} {A : ex_A} (d : Nat) (hd : 3 ≤ d) (x : Nat × List ex_E) (y : Nat) (ch : Int32) (σ : ex_S) (hI : A_INV σ) : ex_ctr l X D A d yX4_takeSign cX4_takeSign 2 (some .boolean) (WA x y σ) [.ref 1, .int ch] (fun r w => r = (A_takeSign ch σ).1 ∧ w = WA x y (A_takeSign ch σ).2) := by
  obtain ⟨d, rfl⟩ : ∃ d9, d = d9 + 1 := ⟨d - 1, by omega⟩
  refine ex_meth (own := RX4) rfl (by decide) (Nat.le_of_ble_eq_true rfl) (fun p e R s m below meth c C hr hlk hd1 hd2 => ?_)
  show ex_ok p l e R s m _ below meth c 0 0 _ 2 X D A (WA x y σ) 0 [(0, .ref 1), (1, .int ch)] []
  refine ex_aload_n (q := 0) (x := 1) (np := 1) C (by decide +kernel) rfl rfl ?_
  refine ex_getf (q := 5) (v := .int (σ.1 4)) (np := 4) C hc_X4 hin_X4 (by decide) tg_236 (by decide +kernel) (WA_1 _ _ _) rfl rfl ?_
  refine ex_iload_n (q := 1) (x := ch) (np := 5) C (by decide +kernel) rfl rfl ?_
  refine ex_icmp_eq (off := 9) (tgt := 14) (np := 8) C (by decide +kernel) (by decide) rfl (fun h1 => ?_) (fun h1 => ?_)
  · skip
    refine ex_aload_n (q := 0) (x := 1) (np := 15) C (by decide +kernel) rfl rfl ?_
    obtain ⟨σ2, q3⟩ : ∃ x, x = A_next σ := ⟨_, rfl⟩
    refine ex_call_v (np := 18) (fun ws H locs ls hR hsz => ex_runV (C1 := "") C (m_X4_next d (by omega) x y σ hI) hd1 hd2 (by decide) hy_X4_next tg_667 hc_X4 rfl (WA_1 _ _ _) rfl rfl (Nat.le_of_ble_eq_true rfl) rfl tg_664 tg_666 tg_4 tg_144 (by decide +kernel) ws H locs ls hR hsz (Nat.zero_le _) (Nat.zero_le _)) rfl (fun w1 hpo => ?_)
    rw [← q3] at hpo
    subst hpo
    have hI4 := inv_X4_next σ hI; rw [← q3] at hI4
    have hF5 := fr_X4_next σ; rw [← q3] at hF5
    refine ex_iconst (n := 1) (v := 1) (np := 19) C (by decide +kernel) (by decide) rfl ?_
    have E9 : A_takeSign ch σ = ((1 : Int32), σ2) := by unfold A_takeSign; exact (if_pos h1).trans ((ex_lt_eq q3).trans (rfl))
    exact ex_iret C hr hlk (by decide +kernel) rfl (Nat.le_refl _) (Nat.le_refl _) (by rw [E9]; exact ⟨rfl, rfl⟩)
  · skip
    refine ex_aload_n (q := 0) (x := 1) (np := 9) C (by decide +kernel) rfl rfl ?_
    refine ex_iconst (n := 1) (v := 1) (np := 10) C (by decide +kernel) (by decide) rfl ?_
    obtain ⟨r6, σ7, q8⟩ : ∃ r x, A_failAs (1 : Int32) σ = (r, x) := ex_pair _
    refine ex_call_i (np := 13) (fun ws H locs ls hR hsz => ex_runV (C1 := "") C (m_X4_failAs d (by omega) x y (1 : Int32) σ) hd1 hd2 (by decide) hy_X4_failAs tg_694 hc_X4 rfl (WA_1 _ _ _) rfl rfl (Nat.le_of_ble_eq_true rfl) rfl tg_704 tg_693 tg_10 tg_144 (by decide +kernel) ws H locs ls hR hsz (Nat.zero_le _) (Nat.zero_le _)) rfl (fun r9 w1 hpo => ?_)
    rw [q8] at hpo
    have hp1 : r6 = r9 := hpo.1.symm
    have hp2 := hpo.2
    clear hpo; subst hp1; subst hp2
    have hI10 := inv_X4_failAs (1 : Int32) σ hI; rw [q8] at hI10
    have hF11 := fr_X4_failAs (1 : Int32) σ; rw [q8] at hF11
    have E9 : A_takeSign ch σ = (r6, σ7) := by unfold A_takeSign; exact (if_neg h1).trans ((ex_bd_eq q8).trans (rfl))
    exact ex_iret C hr hlk (by decide +kernel) (ex_nar (by have b9 := bl_X4_failAs (1 : Int32) σ; rw [q8] at b9; exact b9)) (Nat.le_refl _) (Nat.le_refl _) (by rw [E9]; exact ⟨rfl, rfl⟩)
set_option maxRecDepth 100000 in
set_option maxHeartbeats 4000000 in
theorem m_X4_takeNumber {l : Launch} {X : ab_X} {D : va_G} {A : ex_A} (d : Nat) (hd : 3 ≤ d) (x : Nat × List ex_E) (y : Nat) (lo : Int32) (hi : Int32) (σ : ex_S) (hI : A_INV σ) : ex_ctr l X D A d yX4_takeNumber cX4_takeNumber 3 (some .boolean) (WA x y σ) [.ref 1, .int lo, .int hi] (fun r w => r = (A_takeNumber lo hi σ).1 ∧ w = WA x y (A_takeNumber lo hi σ).2) := by
  obtain ⟨d, rfl⟩ : ∃ d9, d = d9 + 1 := ⟨d - 1, by omega⟩
  refine ex_meth (own := RX4) rfl (by decide) (Nat.le_of_ble_eq_true rfl) (fun p e R s m below meth c C hr hlk hd1 hd2 => ?_)
  show ex_ok p l e R s m _ below meth c 0 0 _ 3 X D A (WA x y σ) 0 [(0, .ref 1), (1, .int lo), (2, .int hi)] []
  refine ex_aload_n (q := 0) (x := 1) (np := 1) C (by decide +kernel) rfl rfl ?_
  refine ex_getf (q := 5) (v := .int (σ.1 4)) (np := 4) C hc_X4 hin_X4 (by decide) tg_236 (by decide +kernel) (WA_1 _ _ _) rfl rfl ?_
  refine ex_iconst (n := 3) (v := 3) (np := 5) C (by decide +kernel) (by decide) rfl ?_
  refine ex_icmp_eq (off := 9) (tgt := 14) (np := 8) C (by decide +kernel) (by decide) rfl (fun h1 => ?_) (fun h1 => ?_)
  · skip
    refine ex_aload_n (q := 0) (x := 1) (np := 15) C (by decide +kernel) rfl rfl ?_
    refine ex_getf (q := 7) (v := .int (σ.1 5)) (np := 18) C hc_X4 hin_X4 (by decide) tg_240 (by decide +kernel) (WA_1 _ _ _) rfl rfl ?_
    refine ex_iload_n (q := 1) (x := lo) (np := 19) C (by decide +kernel) rfl rfl ?_
    refine ex_icmp_lt (off := 11) (tgt := 30) (np := 22) C (by decide +kernel) (by decide) rfl (fun h2 => ?_) (fun h2 => ?_)
    · skip
      refine ex_aload_n (q := 0) (x := 1) (np := 31) C (by decide +kernel) rfl rfl ?_
      refine ex_iconst (n := 2) (v := 2) (np := 32) C (by decide +kernel) (by decide) rfl ?_
      obtain ⟨r3, σ4, q5⟩ : ∃ r x, A_failAs (2 : Int32) σ = (r, x) := ex_pair _
      refine ex_call_i (np := 35) (fun ws H locs ls hR hsz => ex_runV (C1 := "") C (m_X4_failAs d (by omega) x y (2 : Int32) σ) hd1 hd2 (by decide) hy_X4_failAs tg_694 hc_X4 rfl (WA_1 _ _ _) rfl rfl (Nat.le_of_ble_eq_true rfl) rfl tg_704 tg_693 tg_10 tg_144 (by decide +kernel) ws H locs ls hR hsz (Nat.zero_le _) (Nat.zero_le _)) rfl (fun r9 w1 hpo => ?_)
      rw [q5] at hpo
      have hp1 : r3 = r9 := hpo.1.symm
      have hp2 := hpo.2
      clear hpo; subst hp1; subst hp2
      have hI6 := inv_X4_failAs (2 : Int32) σ hI; rw [q5] at hI6
      have hF7 := fr_X4_failAs (2 : Int32) σ; rw [q5] at hF7
      have E9 : A_takeNumber lo hi σ = (r3, σ4) := by unfold A_takeNumber; exact (if_pos h1).trans ((if_pos h2).trans ((ex_bd_eq q5).trans (rfl)))
      exact ex_iret C hr hlk (by decide +kernel) (ex_nar (by have b9 := bl_X4_failAs (2 : Int32) σ; rw [q5] at b9; exact b9)) (Nat.le_refl _) (Nat.le_refl _) (by rw [E9]; exact ⟨rfl, rfl⟩)
    · skip
      refine ex_aload_n (q := 0) (x := 1) (np := 23) C (by decide +kernel) rfl rfl ?_
      refine ex_getf (q := 7) (v := .int (σ.1 5)) (np := 26) C hc_X4 hin_X4 (by decide) tg_240 (by decide +kernel) (WA_1 _ _ _) rfl rfl ?_
      refine ex_iload_n (q := 2) (x := hi) (np := 27) C (by decide +kernel) rfl rfl ?_
      refine ex_icmp_le (off := 9) (tgt := 36) (np := 30) C (by decide +kernel) (by decide) rfl (fun h8 => ?_) (fun h8 => ?_)
      · skip
        refine ex_aload_n (q := 0) (x := 1) (np := 37) C (by decide +kernel) rfl rfl ?_
        refine ex_aload_n (q := 0) (x := 1) (np := 38) C (by decide +kernel) rfl rfl ?_
        refine ex_getf (q := 7) (v := .int (σ.1 5)) (np := 41) C hc_X4 hin_X4 (by decide) tg_240 (by decide +kernel) (WA_1 _ _ _) rfl rfl ?_
        refine ex_putf (q := 9) (w1 := (WA x y (sI 7 (σ.1 5) σ))) (np := 44) C hc_X4 hin_X4 (by decide) tyX4_ok nmX4 tg_245 rfl (by decide +kernel) (WA_1 _ _ _) (Nat.le_of_ble_eq_true rfl) rfl rfl (WA_1_9 _ _ _ _) rfl ?_
        refine ex_aload_n (q := 0) (x := 1) (np := 45) C (by decide +kernel) rfl rfl ?_
        obtain ⟨σ10, q11⟩ : ∃ x, x = A_next (sI 7 (σ.1 5) σ) := ⟨_, rfl⟩
        refine ex_call_v (np := 48) (fun ws H locs ls hR hsz => ex_runV (C1 := "") C (m_X4_next d (by omega) x y (sI 7 (σ.1 5) σ) hI) hd1 hd2 (by decide) hy_X4_next tg_667 hc_X4 rfl (WA_1 _ _ _) rfl rfl (Nat.le_of_ble_eq_true rfl) rfl tg_664 tg_666 tg_4 tg_144 (by decide +kernel) ws H locs ls hR hsz (Nat.zero_le _) (Nat.zero_le _)) rfl (fun w1 hpo => ?_)
        rw [← q11] at hpo
        subst hpo
        have hI12 := inv_X4_next (sI 7 (σ.1 5) σ) hI; rw [← q11] at hI12
        have hF13 := fr_X4_next (sI 7 (σ.1 5) σ); rw [← q11] at hF13
        refine ex_iconst (n := 1) (v := 1) (np := 49) C (by decide +kernel) (by decide) rfl ?_
        have E9 : A_takeNumber lo hi σ = ((1 : Int32), σ10) := by unfold A_takeNumber; exact (if_pos h1).trans ((if_neg h2).trans ((if_neg h8).trans ((ex_lt_eq q11).trans (rfl))))
        exact ex_iret C hr hlk (by decide +kernel) rfl (Nat.le_refl _) (Nat.le_refl _) (by rw [E9]; exact ⟨rfl, rfl⟩)
      · skip
        refine ex_aload_n (q := 0) (x := 1) (np := 31) C (by decide +kernel) rfl rfl ?_
        refine ex_iconst (n := 2) (v := 2) (np := 32) C (by decide +kernel) (by decide) rfl ?_
        obtain ⟨r14, σ15, q16⟩ : ∃ r x, A_failAs (2 : Int32) σ = (r, x) := ex_pair _
        refine ex_call_i (np := 35) (fun ws H locs ls hR hsz => ex_runV (C1 := "") C (m_X4_failAs d (by omega) x y (2 : Int32) σ) hd1 hd2 (by decide) hy_X4_failAs tg_694 hc_X4 rfl (WA_1 _ _ _) rfl rfl (Nat.le_of_ble_eq_true rfl) rfl tg_704 tg_693 tg_10 tg_144 (by decide +kernel) ws H locs ls hR hsz (Nat.zero_le _) (Nat.zero_le _)) rfl (fun r9 w1 hpo => ?_)
        rw [q16] at hpo
        have hp1 : r14 = r9 := hpo.1.symm
        have hp2 := hpo.2
        clear hpo; subst hp1; subst hp2
        have hI17 := inv_X4_failAs (2 : Int32) σ hI; rw [q16] at hI17
        have hF18 := fr_X4_failAs (2 : Int32) σ; rw [q16] at hF18
        have E9 : A_takeNumber lo hi σ = (r14, σ15) := by unfold A_takeNumber; exact (if_pos h1).trans ((if_neg h2).trans ((if_pos h8).trans ((ex_bd_eq q16).trans (rfl))))
        exact ex_iret C hr hlk (by decide +kernel) (ex_nar (by have b9 := bl_X4_failAs (2 : Int32) σ; rw [q16] at b9; exact b9)) (Nat.le_refl _) (Nat.le_refl _) (by rw [E9]; exact ⟨rfl, rfl⟩)
  · skip
    refine ex_aload_n (q := 0) (x := 1) (np := 9) C (by decide +kernel) rfl rfl ?_
    refine ex_iconst (n := 1) (v := 1) (np := 10) C (by decide +kernel) (by decide) rfl ?_
    obtain ⟨r19, σ20, q21⟩ : ∃ r x, A_failAs (1 : Int32) σ = (r, x) := ex_pair _
    refine ex_call_i (np := 13) (fun ws H locs ls hR hsz => ex_runV (C1 := "") C (m_X4_failAs d (by omega) x y (1 : Int32) σ) hd1 hd2 (by decide) hy_X4_failAs tg_694 hc_X4 rfl (WA_1 _ _ _) rfl rfl (Nat.le_of_ble_eq_true rfl) rfl tg_704 tg_693 tg_10 tg_144 (by decide +kernel) ws H locs ls hR hsz (Nat.zero_le _) (Nat.zero_le _)) rfl (fun r9 w1 hpo => ?_)
    rw [q21] at hpo
    have hp1 : r19 = r9 := hpo.1.symm
    have hp2 := hpo.2
    clear hpo; subst hp1; subst hp2
    have hI22 := inv_X4_failAs (1 : Int32) σ hI; rw [q21] at hI22
    have hF23 := fr_X4_failAs (1 : Int32) σ; rw [q21] at hF23
    have E9 : A_takeNumber lo hi σ = (r19, σ20) := by unfold A_takeNumber; exact (if_neg h1).trans ((ex_bd_eq q21).trans (rfl))
    exact ex_iret C hr hlk (by decide +kernel) (ex_nar (by have b9 := bl_X4_failAs (1 : Int32) σ; rw [q21] at b9; exact b9)) (Nat.le_refl _) (Nat.le_refl _) (by rw [E9]; exact ⟨rfl, rfl⟩)
set_option maxRecDepth 100000 in
set_option maxHeartbeats 4000000 in
theorem m_X4_takeWay {l : Launch} {X : ab_X} {D : va_G} {A : ex_A} (d : Nat) (hd : 3 ≤ d) (x : Nat × List ex_E) (y : Nat) (σ : ex_S) (hI : A_INV σ) : ex_ctr l X D A d yX4_takeWay cX4_takeWay 1 (some .boolean) (WA x y σ) [.ref 1] (fun r w => r = (A_takeWay σ).1 ∧ w = WA x y (A_takeWay σ).2) := by
  obtain ⟨d, rfl⟩ : ∃ d9, d = d9 + 1 := ⟨d - 1, by omega⟩
  refine ex_meth (own := RX4) rfl (by decide) (Nat.le_of_ble_eq_true rfl) (fun p e R s m below meth c C hr hlk hd1 hd2 => ?_)
  show ex_ok p l e R s m _ below meth c 0 0 _ 1 X D A (WA x y σ) 0 [(0, .ref 1)] []
  refine ex_aload_n (q := 0) (x := 1) (np := 1) C (by decide +kernel) rfl rfl ?_
  refine ex_getf (q := 8) (v := .int (σ.1 6)) (np := 4) C hc_X4 hin_X4 (by decide) tg_241 (by decide +kernel) (WA_1 _ _ _) rfl rfl ?_
  refine ex_iconst (n := 1) (v := 1) (np := 5) C (by decide +kernel) (by decide) rfl ?_
  refine ex_icmp_eq (off := 17) (tgt := 22) (np := 8) C (by decide +kernel) (by decide) rfl (fun h1 => ?_) (fun h1 => ?_)
  · skip
    refine ex_aload_n (q := 0) (x := 1) (np := 23) C (by decide +kernel) rfl rfl ?_
    refine ex_aload_n (q := 0) (x := 1) (np := 24) C (by decide +kernel) rfl rfl ?_
    refine ex_getf (q := 8) (v := .int (σ.1 6)) (np := 27) C hc_X4 hin_X4 (by decide) tg_241 (by decide +kernel) (WA_1 _ _ _) rfl rfl ?_
    refine ex_iconst (n := 1) (v := 1) (np := 28) C (by decide +kernel) (by decide) rfl ?_
    refine ex_icmp_ne (off := 7) (tgt := 35) (np := 31) C (by decide +kernel) (by decide) rfl (fun h2 => ?_) (fun h2 => ?_)
    · skip
      refine ex_iconst (n := (-1)) (v := (-1)) (np := 36) C (by decide +kernel) (by decide) rfl ?_
      refine ex_putf (q := 11) (w1 := (WA x y (sI 8 (-1 : Int32) σ))) (np := 39) C hc_X4 hin_X4 (by decide) tyX4_ok nmX4 tg_251 rfl (by decide +kernel) (WA_1 _ _ _) (Nat.le_of_ble_eq_true rfl) rfl rfl (WA_1_11 _ _ _ _) rfl ?_
      refine ex_aload_n (q := 0) (x := 1) (np := 40) C (by decide +kernel) rfl rfl ?_
      obtain ⟨σ3, q4⟩ : ∃ x, x = A_next (sI 8 (-1 : Int32) σ) := ⟨_, rfl⟩
      refine ex_call_v (np := 43) (fun ws H locs ls hR hsz => ex_runV (C1 := "") C (m_X4_next d (by omega) x y (sI 8 (-1 : Int32) σ) hI) hd1 hd2 (by decide) hy_X4_next tg_667 hc_X4 rfl (WA_1 _ _ _) rfl rfl (Nat.le_of_ble_eq_true rfl) rfl tg_664 tg_666 tg_4 tg_144 (by decide +kernel) ws H locs ls hR hsz (Nat.zero_le _) (Nat.zero_le _)) rfl (fun w1 hpo => ?_)
      rw [← q4] at hpo
      subst hpo
      have hI5 := inv_X4_next (sI 8 (-1 : Int32) σ) hI; rw [← q4] at hI5
      have hF6 := fr_X4_next (sI 8 (-1 : Int32) σ); rw [← q4] at hF6
      refine ex_iconst (n := 1) (v := 1) (np := 44) C (by decide +kernel) (by decide) rfl ?_
      have E9 : A_takeWay σ = ((1 : Int32), σ3) := by unfold A_takeWay; exact (if_pos h1).trans ((if_neg h2).trans ((ex_lt_eq q4).trans (rfl)))
      exact ex_iret C hr hlk (by decide +kernel) rfl (Nat.le_refl _) (Nat.le_refl _) (by rw [E9]; exact ⟨rfl, rfl⟩)
    · skip
      refine ex_iconst (n := 1) (v := 1) (np := 32) C (by decide +kernel) (by decide) rfl ?_
      refine ex_goto (off := 4) (tgt := 36) C (by decide +kernel) (by decide) ?_
      refine ex_putf (q := 11) (w1 := (WA x y (sI 8 (1 : Int32) σ))) (np := 39) C hc_X4 hin_X4 (by decide) tyX4_ok nmX4 tg_251 rfl (by decide +kernel) (WA_1 _ _ _) (Nat.le_of_ble_eq_true rfl) rfl rfl (WA_1_11 _ _ _ _) rfl ?_
      refine ex_aload_n (q := 0) (x := 1) (np := 40) C (by decide +kernel) rfl rfl ?_
      obtain ⟨σ7, q8⟩ : ∃ x, x = A_next (sI 8 (1 : Int32) σ) := ⟨_, rfl⟩
      refine ex_call_v (np := 43) (fun ws H locs ls hR hsz => ex_runV (C1 := "") C (m_X4_next d (by omega) x y (sI 8 (1 : Int32) σ) hI) hd1 hd2 (by decide) hy_X4_next tg_667 hc_X4 rfl (WA_1 _ _ _) rfl rfl (Nat.le_of_ble_eq_true rfl) rfl tg_664 tg_666 tg_4 tg_144 (by decide +kernel) ws H locs ls hR hsz (Nat.zero_le _) (Nat.zero_le _)) rfl (fun w1 hpo => ?_)
      rw [← q8] at hpo
      subst hpo
      have hI10 := inv_X4_next (sI 8 (1 : Int32) σ) hI; rw [← q8] at hI10
      have hF11 := fr_X4_next (sI 8 (1 : Int32) σ); rw [← q8] at hF11
      refine ex_iconst (n := 1) (v := 1) (np := 44) C (by decide +kernel) (by decide) rfl ?_
      have E9 : A_takeWay σ = ((1 : Int32), σ7) := by unfold A_takeWay; exact (if_pos h1).trans ((if_pos h2).trans ((ex_lt_eq q8).trans (rfl)))
      exact ex_iret C hr hlk (by decide +kernel) rfl (Nat.le_refl _) (Nat.le_refl _) (by rw [E9]; exact ⟨rfl, rfl⟩)
  · skip
    refine ex_aload_n (q := 0) (x := 1) (np := 9) C (by decide +kernel) rfl rfl ?_
    refine ex_getf (q := 8) (v := .int (σ.1 6)) (np := 12) C hc_X4 hin_X4 (by decide) tg_241 (by decide +kernel) (WA_1 _ _ _) rfl rfl ?_
    refine ex_iconst (n := 2) (v := 2) (np := 13) C (by decide +kernel) (by decide) rfl ?_
    refine ex_icmp_eq (off := 9) (tgt := 22) (np := 16) C (by decide +kernel) (by decide) rfl (fun h12 => ?_) (fun h12 => ?_)
    · skip
      refine ex_aload_n (q := 0) (x := 1) (np := 23) C (by decide +kernel) rfl rfl ?_
      refine ex_aload_n (q := 0) (x := 1) (np := 24) C (by decide +kernel) rfl rfl ?_
      refine ex_getf (q := 8) (v := .int (σ.1 6)) (np := 27) C hc_X4 hin_X4 (by decide) tg_241 (by decide +kernel) (WA_1 _ _ _) rfl rfl ?_
      refine ex_iconst (n := 1) (v := 1) (np := 28) C (by decide +kernel) (by decide) rfl ?_
      refine ex_icmp_ne (off := 7) (tgt := 35) (np := 31) C (by decide +kernel) (by decide) rfl (fun h13 => ?_) (fun h13 => ?_)
      · skip
        refine ex_iconst (n := (-1)) (v := (-1)) (np := 36) C (by decide +kernel) (by decide) rfl ?_
        refine ex_putf (q := 11) (w1 := (WA x y (sI 8 (-1 : Int32) σ))) (np := 39) C hc_X4 hin_X4 (by decide) tyX4_ok nmX4 tg_251 rfl (by decide +kernel) (WA_1 _ _ _) (Nat.le_of_ble_eq_true rfl) rfl rfl (WA_1_11 _ _ _ _) rfl ?_
        refine ex_aload_n (q := 0) (x := 1) (np := 40) C (by decide +kernel) rfl rfl ?_
        obtain ⟨σ14, q15⟩ : ∃ x, x = A_next (sI 8 (-1 : Int32) σ) := ⟨_, rfl⟩
        refine ex_call_v (np := 43) (fun ws H locs ls hR hsz => ex_runV (C1 := "") C (m_X4_next d (by omega) x y (sI 8 (-1 : Int32) σ) hI) hd1 hd2 (by decide) hy_X4_next tg_667 hc_X4 rfl (WA_1 _ _ _) rfl rfl (Nat.le_of_ble_eq_true rfl) rfl tg_664 tg_666 tg_4 tg_144 (by decide +kernel) ws H locs ls hR hsz (Nat.zero_le _) (Nat.zero_le _)) rfl (fun w1 hpo => ?_)
        rw [← q15] at hpo
        subst hpo
        have hI16 := inv_X4_next (sI 8 (-1 : Int32) σ) hI; rw [← q15] at hI16
        have hF17 := fr_X4_next (sI 8 (-1 : Int32) σ); rw [← q15] at hF17
        refine ex_iconst (n := 1) (v := 1) (np := 44) C (by decide +kernel) (by decide) rfl ?_
        have E9 : A_takeWay σ = ((1 : Int32), σ14) := by unfold A_takeWay; exact (if_neg h1).trans ((if_pos h12).trans ((if_neg h13).trans ((ex_lt_eq q15).trans (rfl))))
        exact ex_iret C hr hlk (by decide +kernel) rfl (Nat.le_refl _) (Nat.le_refl _) (by rw [E9]; exact ⟨rfl, rfl⟩)
      · skip
        refine ex_iconst (n := 1) (v := 1) (np := 32) C (by decide +kernel) (by decide) rfl ?_
        refine ex_goto (off := 4) (tgt := 36) C (by decide +kernel) (by decide) ?_
        refine ex_putf (q := 11) (w1 := (WA x y (sI 8 (1 : Int32) σ))) (np := 39) C hc_X4 hin_X4 (by decide) tyX4_ok nmX4 tg_251 rfl (by decide +kernel) (WA_1 _ _ _) (Nat.le_of_ble_eq_true rfl) rfl rfl (WA_1_11 _ _ _ _) rfl ?_
        refine ex_aload_n (q := 0) (x := 1) (np := 40) C (by decide +kernel) rfl rfl ?_
        obtain ⟨σ18, q19⟩ : ∃ x, x = A_next (sI 8 (1 : Int32) σ) := ⟨_, rfl⟩
        refine ex_call_v (np := 43) (fun ws H locs ls hR hsz => ex_runV (C1 := "") C (m_X4_next d (by omega) x y (sI 8 (1 : Int32) σ) hI) hd1 hd2 (by decide) hy_X4_next tg_667 hc_X4 rfl (WA_1 _ _ _) rfl rfl (Nat.le_of_ble_eq_true rfl) rfl tg_664 tg_666 tg_4 tg_144 (by decide +kernel) ws H locs ls hR hsz (Nat.zero_le _) (Nat.zero_le _)) rfl (fun w1 hpo => ?_)
        rw [← q19] at hpo
        subst hpo
        have hI20 := inv_X4_next (sI 8 (1 : Int32) σ) hI; rw [← q19] at hI20
        have hF21 := fr_X4_next (sI 8 (1 : Int32) σ); rw [← q19] at hF21
        refine ex_iconst (n := 1) (v := 1) (np := 44) C (by decide +kernel) (by decide) rfl ?_
        have E9 : A_takeWay σ = ((1 : Int32), σ18) := by unfold A_takeWay; exact (if_neg h1).trans ((if_pos h12).trans ((if_pos h13).trans ((ex_lt_eq q19).trans (rfl))))
        exact ex_iret C hr hlk (by decide +kernel) rfl (Nat.le_refl _) (Nat.le_refl _) (by rw [E9]; exact ⟨rfl, rfl⟩)
    · skip
      refine ex_aload_n (q := 0) (x := 1) (np := 17) C (by decide +kernel) rfl rfl ?_
      refine ex_iconst (n := 1) (v := 1) (np := 18) C (by decide +kernel) (by decide) rfl ?_
      obtain ⟨r22, σ23, q24⟩ : ∃ r x, A_failAs (1 : Int32) σ = (r, x) := ex_pair _
      refine ex_call_i (np := 21) (fun ws H locs ls hR hsz => ex_runV (C1 := "") C (m_X4_failAs d (by omega) x y (1 : Int32) σ) hd1 hd2 (by decide) hy_X4_failAs tg_694 hc_X4 rfl (WA_1 _ _ _) rfl rfl (Nat.le_of_ble_eq_true rfl) rfl tg_704 tg_693 tg_10 tg_144 (by decide +kernel) ws H locs ls hR hsz (Nat.zero_le _) (Nat.zero_le _)) rfl (fun r9 w1 hpo => ?_)
      rw [q24] at hpo
      have hp1 : r22 = r9 := hpo.1.symm
      have hp2 := hpo.2
      clear hpo; subst hp1; subst hp2
      have hI25 := inv_X4_failAs (1 : Int32) σ hI; rw [q24] at hI25
      have hF26 := fr_X4_failAs (1 : Int32) σ; rw [q24] at hF26
      have E9 : A_takeWay σ = (r22, σ23) := by unfold A_takeWay; exact (if_neg h1).trans ((if_neg h12).trans ((ex_bd_eq q24).trans (rfl)))
      exact ex_iret C hr hlk (by decide +kernel) (ex_nar (by have b9 := bl_X4_failAs (1 : Int32) σ; rw [q24] at b9; exact b9)) (Nat.le_refl _) (Nat.le_refl _) (by rw [E9]; exact ⟨rfl, rfl⟩)
set_option maxRecDepth 100000 in
set_option maxHeartbeats 4000000 in
theorem m_X8_townNamed {l : Launch} {X : ab_X} {D : va_G} {A : ex_A} (d : Nat) (hd : 1 ≤ d) (x : Nat × List ex_E) (y : Nat) (nm : Int64) (σ : ex_S) (hI : A_INV σ) : ex_ctr l X D A d yX8_townNamed cX8_townNamed 4 (some .int) (WA x y σ) [.ref 6, .long nm] (fun r w => r = A_townNamed nm σ ∧ w = WA x y σ) := by
  obtain ⟨d, rfl⟩ : ∃ d9, d = d9 + 1 := ⟨d - 1, by omega⟩
  refine ex_meth (own := RX8) rfl (by decide) (Nat.le_of_ble_eq_true rfl) (fun p e R s m below meth c C hr hlk hd1 hd2 => ?_)
  show ex_ok p l e R s m _ below meth c 0 0 _ 4 X D A (WA x y σ) 0 [(0, .ref 6), (1, .long nm)] []
  refine ex_iconst (n := 0) (v := 0) (np := 1) C (by decide +kernel) (by decide) rfl ?_
  refine ex_istore_n (q := 3) (np := 2) (lv1 := [(3, .int (0 : Int32)), (0, .ref 6), (1, .long nm)]) C (by decide) (by decide +kernel) rfl rfl ?_
  have hI9 := hI; unfold A_INV at hI9
  have hN := ex_nat (x := σ.1 11) (by omega)
  have loop : ∀ (n k : Nat), k + n = (σ.1 11).toInt.toNat → A_townNamed nm σ = ex_find (σ.2.2.2 1) nm n k → ex_okP p l e R s m below meth c 4 X D A [.ref 6, .long nm] (fun r w => r = A_townNamed nm σ ∧ w = WA x y σ) (some .int) (WA x y σ) 2 [(3, .int (nI k)), (0, .ref 6), (1, .long nm)] [] := by
    intro n
    induction n with
    | zero =>
      intro k hk hs
      have hki : (nI k).toInt = (k : Int) := nI_toInt (by omega)
      refine ex_iload_n (q := 3) (x := (nI k)) (np := 3) C (by decide +kernel) rfl rfl ?_
      refine ex_aload_n (q := 0) (x := 6) (np := 4) C (by decide +kernel) rfl rfl ?_
      refine ex_getf (q := 0) (v := .int (σ.1 11)) (np := 7) C hc_X8 hin_X8 (by decide) tg_312 (by decide +kernel) (WA_6 _ _ _) rfl rfl ?_
      refine ex_icmp_ge (off := 22) (tgt := 29) (np := 10) C (by decide +kernel) (by decide) rfl (fun h1 => ?_) (fun h1 => ?_)
      · skip
        refine ex_iconst (n := (-1)) (v := (-1)) (np := 30) C (by decide +kernel) (by decide) rfl ?_
        have E9 : A_townNamed nm σ = (-1 : Int32) := hs
        exact ex_iret C hr hlk (by decide +kernel) rfl (Nat.le_refl _) (Nat.le_refl _) ⟨E9.symm, rfl⟩
      · skip
        exfalso; rw [hki] at h1; omega
    | succ n ih =>
      intro k hk hs
      have hki : (nI k).toInt = (k : Int) := nI_toInt (by omega)
      refine ex_iload_n (q := 3) (x := (nI k)) (np := 3) C (by decide +kernel) rfl rfl ?_
      refine ex_aload_n (q := 0) (x := 6) (np := 4) C (by decide +kernel) rfl rfl ?_
      refine ex_getf (q := 0) (v := .int (σ.1 11)) (np := 7) C hc_X8 hin_X8 (by decide) tg_312 (by decide +kernel) (WA_6 _ _ _) rfl rfl ?_
      refine ex_icmp_ge (off := 22) (tgt := 29) (np := 10) C (by decide +kernel) (by decide) rfl (fun h2 => ?_) (fun h2 => ?_)
      · skip
        exfalso; rw [hki] at h2; omega
      · skip
        refine ex_aload_n (q := 0) (x := 6) (np := 11) C (by decide +kernel) rfl rfl ?_
        refine ex_getf (q := 1) (v := .ref 7) (np := 14) C hc_X8 hin_X8 (by decide) tg_316 (by decide +kernel) (WA_6 _ _ _) rfl rfl ?_
        refine ex_iload_n (q := 3) (x := (nI k)) (np := 15) C (by decide +kernel) rfl rfl ?_
        refine ex_lald (f := (σ.2.2.2 1)) (kk := ((nI k)).toNatClampNeg) (np := 16) C (by decide +kernel) (WA_7 _ _ _) (by rw [hki]; omega) rfl rfl ?_
        refine ex_lload_n (q := 1) (x := nm) (np := 17) C (by decide +kernel) rfl rfl ?_
        refine ex_lcmp (np := 18) C (by decide +kernel) rfl ?_
        refine ex_if_ne (off := 5) (tgt := 23) (np := 21) C (by decide +kernel) (by decide) rfl (fun h3 => ?_) (fun h3 => ?_)
        · skip
          refine ex_iinc (i := 3) (n := 1) (x := (nI k)) (v := ((nI k) + 1)) (np := 26) (lv1 := [(3, .int ((nI k) + 1)), (0, .ref 6), (1, .long nm)]) C (by decide) (by decide +kernel) rfl (by rfl) rfl rfl ?_
          refine ex_goto (off := (-24)) (tgt := 2) C (by decide +kernel) (by decide) ?_
          rw [← nI_succ]
          exact ih (k + 1) (by omega) (hs.trans (ex_find_s.trans (if_neg (by rw [← ex_nk (k := k) (by omega)]; exact h3))))
        · skip
          refine ex_iload_n (q := 3) (x := (nI k)) (np := 22) C (by decide +kernel) rfl rfl ?_
          have E9 : A_townNamed nm σ = (nI k) := (hs.trans (ex_find_s.trans (if_pos (by rw [← ex_nk (k := k) (by omega)]; exact h3))))
          exact ex_iret C hr hlk (by decide +kernel) rfl (Nat.le_refl _) (Nat.le_refl _) ⟨E9.symm, rfl⟩
  exact loop ((σ.1 11).toInt.toNat) 0 (by omega) rfl
set_option maxRecDepth 100000 in
set_option maxHeartbeats 4000000 in
theorem m_X8_isTold {l : Launch} {X : ab_X} {D : va_G} {A : ex_A} (d : Nat) (hd : 2 ≤ d) (x : Nat × List ex_E) (y : Nat) (nm : Int64) (σ : ex_S) (hI : A_INV σ) : ex_ctr l X D A d yX8_isTold cX8_isTold 4 (some .boolean) (WA x y σ) [.ref 6, .long nm] (fun r w => r = A_isTold nm σ ∧ w = WA x y σ) := by
  obtain ⟨d, rfl⟩ : ∃ d9, d = d9 + 1 := ⟨d - 1, by omega⟩
  refine ex_meth (own := RX8) rfl (by decide) (Nat.le_of_ble_eq_true rfl) (fun p e R s m below meth c C hr hlk hd1 hd2 => ?_)
  show ex_ok p l e R s m _ below meth c 0 0 _ 4 X D A (WA x y σ) 0 [(0, .ref 6), (1, .long nm)] []
  refine ex_iconst (n := 0) (v := 0) (np := 1) C (by decide +kernel) (by decide) rfl ?_
  refine ex_istore_n (q := 3) (np := 2) (lv1 := [(3, .int (0 : Int32)), (0, .ref 6), (1, .long nm)]) C (by decide) (by decide +kernel) rfl rfl ?_
  have hI9 := hI; unfold A_INV at hI9
  have hN := ex_nat (x := σ.1 13) (by omega)
  have loop : ∀ (n k : Nat), k + n = (σ.1 13).toInt.toNat → ex_find (σ.2.2.2 2) nm (σ.1 13).toInt.toNat 0 = ex_find (σ.2.2.2 2) nm n k → ex_okP p l e R s m below meth c 4 X D A [.ref 6, .long nm] (fun r w => r = A_isTold nm σ ∧ w = WA x y σ) (some .boolean) (WA x y σ) 2 [(3, .int (nI k)), (0, .ref 6), (1, .long nm)] [] := by
    intro n
    induction n with
    | zero =>
      intro k hk hs
      have hki : (nI k).toInt = (k : Int) := nI_toInt (by omega)
      refine ex_iload_n (q := 3) (x := (nI k)) (np := 3) C (by decide +kernel) rfl rfl ?_
      refine ex_aload_n (q := 0) (x := 6) (np := 4) C (by decide +kernel) rfl rfl ?_
      refine ex_getf (q := 9) (v := .int (σ.1 13)) (np := 7) C hc_X8 hin_X8 (by decide) tg_337 (by decide +kernel) (WA_6 _ _ _) rfl rfl ?_
      refine ex_icmp_ge (off := 22) (tgt := 29) (np := 10) C (by decide +kernel) (by decide) rfl (fun h1 => ?_) (fun h1 => ?_)
      · skip
        refine ex_aload_n (q := 0) (x := 6) (np := 30) C (by decide +kernel) rfl rfl ?_
        refine ex_lload_n (q := 1) (x := nm) (np := 31) C (by decide +kernel) rfl rfl ?_
        refine ex_call_i (np := 34) (fun ws H locs ls hR hsz => ex_runV (C1 := "") C (m_X8_townNamed d (by omega) x y nm σ hI) hd1 hd2 (by decide) hy_X8_townNamed tg_712 hc_X8 rfl (WA_6 _ _ _) rfl rfl (Nat.le_of_ble_eq_true rfl) rfl tg_709 tg_711 tg_14 tg_150 (by decide +kernel) ws H locs ls hR hsz (Nat.zero_le _) (Nat.zero_le _)) rfl (fun r2 w1 hpo => ?_)
        obtain ⟨q3, rfl⟩ := hpo
        refine ex_iconst (n := (-1)) (v := (-1)) (np := 35) C (by decide +kernel) (by decide) rfl ?_
        refine ex_icmp_eq (off := 7) (tgt := 42) (np := 38) C (by decide +kernel) (by decide) rfl (fun h4 => ?_) (fun h4 => ?_)
        · skip
          refine ex_iconst (n := 0) (v := 0) (np := 43) C (by decide +kernel) (by decide) rfl ?_
          have E9 : A_isTold nm σ = (0 : Int32) := ((if_pos (hs.trans rfl)).trans (if_pos (by rw [← q3]; exact h4)))
          exact ex_iret C hr hlk (by decide +kernel) rfl (Nat.le_refl _) (Nat.le_refl _) ⟨E9.symm, rfl⟩
        · skip
          refine ex_iconst (n := 1) (v := 1) (np := 39) C (by decide +kernel) (by decide) rfl ?_
          refine ex_goto (off := 4) (tgt := 43) C (by decide +kernel) (by decide) ?_
          have E9 : A_isTold nm σ = (1 : Int32) := ((if_pos (hs.trans rfl)).trans (if_neg (by rw [← q3]; exact h4)))
          exact ex_iret C hr hlk (by decide +kernel) rfl (Nat.le_refl _) (Nat.le_refl _) ⟨E9.symm, rfl⟩
      · skip
        exfalso; rw [hki] at h1; omega
    | succ n ih =>
      intro k hk hs
      have hki : (nI k).toInt = (k : Int) := nI_toInt (by omega)
      refine ex_iload_n (q := 3) (x := (nI k)) (np := 3) C (by decide +kernel) rfl rfl ?_
      refine ex_aload_n (q := 0) (x := 6) (np := 4) C (by decide +kernel) rfl rfl ?_
      refine ex_getf (q := 9) (v := .int (σ.1 13)) (np := 7) C hc_X8 hin_X8 (by decide) tg_337 (by decide +kernel) (WA_6 _ _ _) rfl rfl ?_
      refine ex_icmp_ge (off := 22) (tgt := 29) (np := 10) C (by decide +kernel) (by decide) rfl (fun h5 => ?_) (fun h5 => ?_)
      · skip
        exfalso; rw [hki] at h5; omega
      · skip
        refine ex_aload_n (q := 0) (x := 6) (np := 11) C (by decide +kernel) rfl rfl ?_
        refine ex_getf (q := 10) (v := .ref 14) (np := 14) C hc_X8 hin_X8 (by decide) tg_341 (by decide +kernel) (WA_6 _ _ _) rfl rfl ?_
        refine ex_iload_n (q := 3) (x := (nI k)) (np := 15) C (by decide +kernel) rfl rfl ?_
        refine ex_lald (f := (σ.2.2.2 2)) (kk := ((nI k)).toNatClampNeg) (np := 16) C (by decide +kernel) (WA_14 _ _ _) (by rw [hki]; omega) rfl rfl ?_
        refine ex_lload_n (q := 1) (x := nm) (np := 17) C (by decide +kernel) rfl rfl ?_
        refine ex_lcmp (np := 18) C (by decide +kernel) rfl ?_
        refine ex_if_ne (off := 5) (tgt := 23) (np := 21) C (by decide +kernel) (by decide) rfl (fun h6 => ?_) (fun h6 => ?_)
        · skip
          refine ex_iinc (i := 3) (n := 1) (x := (nI k)) (v := ((nI k) + 1)) (np := 26) (lv1 := [(3, .int ((nI k) + 1)), (0, .ref 6), (1, .long nm)]) C (by decide) (by decide +kernel) rfl (by rfl) rfl rfl ?_
          refine ex_goto (off := (-24)) (tgt := 2) C (by decide +kernel) (by decide) ?_
          rw [← nI_succ]
          exact ih (k + 1) (by omega) (hs.trans (ex_find_s.trans (if_neg (by rw [← ex_nk (k := k) (by omega)]; exact h6))))
        · skip
          refine ex_iconst (n := 1) (v := 1) (np := 22) C (by decide +kernel) (by decide) rfl ?_
          have E9 : A_isTold nm σ = (1 : Int32) := (if_neg (by rw [hs.trans (ex_find_s.trans (if_pos (by rw [← ex_nk (k := k) (by omega)]; exact h6)))]; exact ex_nI1 (by omega)))
          exact ex_iret C hr hlk (by decide +kernel) rfl (Nat.le_refl _) (Nat.le_refl _) ⟨E9.symm, rfl⟩
  exact loop ((σ.1 13).toInt.toNat) 0 (by omega) rfl
set_option maxRecDepth 100000 in
set_option maxHeartbeats 4000000 in
theorem m_X4_takeNewName {l : Launch} {X : ab_X} {D : va_G} {A : ex_A} (d : Nat) (hd : 3 ≤ d) (x : Nat × List ex_E) (y : Nat) (σ : ex_S) (hI : A_INV σ) : ex_ctr l X D A d yX4_takeNewName cX4_takeNewName 2 (some .boolean) (WA x y σ) [.ref 1, .ref 6] (fun r w => r = (A_takeNewName σ).1 ∧ w = WA x y (A_takeNewName σ).2) := by
  obtain ⟨d, rfl⟩ : ∃ d9, d = d9 + 1 := ⟨d - 1, by omega⟩
  refine ex_meth (own := RX4) rfl (by decide) (Nat.le_of_ble_eq_true rfl) (fun p e R s m below meth c C hr hlk hd1 hd2 => ?_)
  show ex_ok p l e R s m _ below meth c 0 0 _ 2 X D A (WA x y σ) 0 [(0, .ref 1), (1, .ref 6)] []
  refine ex_aload_n (q := 0) (x := 1) (np := 1) C (by decide +kernel) rfl rfl ?_
  refine ex_call_i (np := 4) (fun ws H locs ls hR hsz => ex_runV (C1 := "") C (m_X4_isName d (by omega) x y σ) hd1 hd2 (by decide) hy_X4_isName tg_703 hc_X4 rfl (WA_1 _ _ _) rfl rfl (Nat.le_of_ble_eq_true rfl) rfl tg_700 tg_702 tg_12 tg_144 (by decide +kernel) ws H locs ls hR hsz (Nat.zero_le _) (Nat.zero_le _)) rfl (fun r1 w1 hpo => ?_)
  obtain ⟨q2, rfl⟩ := hpo
  refine ex_if_ne (off := 9) (tgt := 13) (np := 7) C (by decide +kernel) (by decide) rfl (fun h3 => ?_) (fun h3 => ?_)
  · skip
    refine ex_aload_n (q := 1) (x := 6) (np := 14) C (by decide +kernel) rfl rfl ?_
    refine ex_aload_n (q := 0) (x := 1) (np := 15) C (by decide +kernel) rfl rfl ?_
    refine ex_getf (q := 6) (v := .long (σ.2.1 0)) (np := 18) C hc_X4 hin_X4 (by decide) tg_239 (by decide +kernel) (WA_1 _ _ _) rfl rfl ?_
    refine ex_call_i (np := 21) (fun ws H locs ls hR hsz => ex_runVN C (m_X8_isTold d (by omega) x y (σ.2.1 0) σ hI) hd1 hd2 (by decide) hy_X8_isTold tg_708 hc_X8 rfl (WA_6 _ _ _) rfl rfl (Nat.le_of_ble_eq_true rfl) tn_705 tg_707 tg_13 tg_150 (by decide +kernel) ws H locs ls hR hsz (Nat.zero_le _) (Nat.zero_le _)) rfl (fun r4 w1 hpo => ?_)
    obtain ⟨q5, rfl⟩ := hpo
    refine ex_if_eq (off := 9) (tgt := 30) (np := 24) C (by decide +kernel) (by decide) rfl (fun h6 => ?_) (fun h6 => ?_)
    · skip
      refine ex_aload_n (q := 0) (x := 1) (np := 31) C (by decide +kernel) rfl rfl ?_
      refine ex_aload_n (q := 0) (x := 1) (np := 32) C (by decide +kernel) rfl rfl ?_
      refine ex_getf (q := 6) (v := .long (σ.2.1 0)) (np := 35) C hc_X4 hin_X4 (by decide) tg_239 (by decide +kernel) (WA_1 _ _ _) rfl rfl ?_
      refine ex_putf (q := 10) (w1 := (WA x y (sL 1 (σ.2.1 0) σ))) (np := 38) C hc_X4 hin_X4 (by decide) tyX4_ok nmX4 tg_249 rfl (by decide +kernel) (WA_1 _ _ _) (Nat.le_of_ble_eq_true rfl) rfl rfl (WA_1_10 _ _ _ _) rfl ?_
      refine ex_aload_n (q := 0) (x := 1) (np := 39) C (by decide +kernel) rfl rfl ?_
      obtain ⟨σ7, q8⟩ : ∃ x, x = A_next (sL 1 (σ.2.1 0) σ) := ⟨_, rfl⟩
      refine ex_call_v (np := 42) (fun ws H locs ls hR hsz => ex_runV (C1 := "") C (m_X4_next d (by omega) x y (sL 1 (σ.2.1 0) σ) hI) hd1 hd2 (by decide) hy_X4_next tg_667 hc_X4 rfl (WA_1 _ _ _) rfl rfl (Nat.le_of_ble_eq_true rfl) rfl tg_664 tg_666 tg_4 tg_144 (by decide +kernel) ws H locs ls hR hsz (Nat.zero_le _) (Nat.zero_le _)) rfl (fun w1 hpo => ?_)
      rw [← q8] at hpo
      subst hpo
      have hI10 := inv_X4_next (sL 1 (σ.2.1 0) σ) hI; rw [← q8] at hI10
      have hF11 := fr_X4_next (sL 1 (σ.2.1 0) σ); rw [← q8] at hF11
      refine ex_iconst (n := 1) (v := 1) (np := 43) C (by decide +kernel) (by decide) rfl ?_
      have E9 : A_takeNewName σ = ((1 : Int32), σ7) := by unfold A_takeNewName; exact (ex_lt_eq q2).trans ((if_neg h3).trans ((ex_lt_eq q5).trans ((if_pos h6).trans ((ex_lt_eq q8).trans (rfl)))))
      exact ex_iret C hr hlk (by decide +kernel) rfl (Nat.le_refl _) (Nat.le_refl _) (by rw [E9]; exact ⟨rfl, rfl⟩)
    · skip
      refine ex_aload_n (q := 0) (x := 1) (np := 25) C (by decide +kernel) rfl rfl ?_
      refine ex_iconst (n := 3) (v := 3) (np := 26) C (by decide +kernel) (by decide) rfl ?_
      obtain ⟨r12, σ13, q14⟩ : ∃ r x, A_failAs (3 : Int32) σ = (r, x) := ex_pair _
      refine ex_call_i (np := 29) (fun ws H locs ls hR hsz => ex_runV (C1 := "") C (m_X4_failAs d (by omega) x y (3 : Int32) σ) hd1 hd2 (by decide) hy_X4_failAs tg_694 hc_X4 rfl (WA_1 _ _ _) rfl rfl (Nat.le_of_ble_eq_true rfl) rfl tg_704 tg_693 tg_10 tg_144 (by decide +kernel) ws H locs ls hR hsz (Nat.zero_le _) (Nat.zero_le _)) rfl (fun r9 w1 hpo => ?_)
      rw [q14] at hpo
      have hp1 : r12 = r9 := hpo.1.symm
      have hp2 := hpo.2
      clear hpo; subst hp1; subst hp2
      have hI15 := inv_X4_failAs (3 : Int32) σ hI; rw [q14] at hI15
      have hF16 := fr_X4_failAs (3 : Int32) σ; rw [q14] at hF16
      have E9 : A_takeNewName σ = (r12, σ13) := by unfold A_takeNewName; exact (ex_lt_eq q2).trans ((if_neg h3).trans ((ex_lt_eq q5).trans ((if_neg h6).trans ((ex_bd_eq q14).trans (rfl)))))
      exact ex_iret C hr hlk (by decide +kernel) (ex_nar (by have b9 := bl_X4_failAs (3 : Int32) σ; rw [q14] at b9; exact b9)) (Nat.le_refl _) (Nat.le_refl _) (by rw [E9]; exact ⟨rfl, rfl⟩)
  · skip
    refine ex_aload_n (q := 0) (x := 1) (np := 8) C (by decide +kernel) rfl rfl ?_
    refine ex_iconst (n := 1) (v := 1) (np := 9) C (by decide +kernel) (by decide) rfl ?_
    obtain ⟨r17, σ18, q19⟩ : ∃ r x, A_failAs (1 : Int32) σ = (r, x) := ex_pair _
    refine ex_call_i (np := 12) (fun ws H locs ls hR hsz => ex_runV (C1 := "") C (m_X4_failAs d (by omega) x y (1 : Int32) σ) hd1 hd2 (by decide) hy_X4_failAs tg_694 hc_X4 rfl (WA_1 _ _ _) rfl rfl (Nat.le_of_ble_eq_true rfl) rfl tg_704 tg_693 tg_10 tg_144 (by decide +kernel) ws H locs ls hR hsz (Nat.zero_le _) (Nat.zero_le _)) rfl (fun r9 w1 hpo => ?_)
    rw [q19] at hpo
    have hp1 : r17 = r9 := hpo.1.symm
    have hp2 := hpo.2
    clear hpo; subst hp1; subst hp2
    have hI20 := inv_X4_failAs (1 : Int32) σ hI; rw [q19] at hI20
    have hF21 := fr_X4_failAs (1 : Int32) σ; rw [q19] at hF21
    have E9 : A_takeNewName σ = (r17, σ18) := by unfold A_takeNewName; exact (ex_lt_eq q2).trans ((if_pos h3).trans ((ex_bd_eq q19).trans (rfl)))
    exact ex_iret C hr hlk (by decide +kernel) (ex_nar (by have b9 := bl_X4_failAs (1 : Int32) σ; rw [q19] at b9; exact b9)) (Nat.le_refl _) (Nat.le_refl _) (by rw [E9]; exact ⟨rfl, rfl⟩)
set_option maxRecDepth 100000 in
set_option maxHeartbeats 4000000 in
theorem m_X4_takeTown {l : Launch} {X : ab_X} {D : va_G} {A : ex_A} (d : Nat) (hd : 3 ≤ d) (x : Nat × List ex_E) (y : Nat) (un : Int32) (σ : ex_S) (hI : A_INV σ) : ex_ctr l X D A d yX4_takeTown cX4_takeTown 4 (some .boolean) (WA x y σ) [.ref 1, .ref 6, .int un] (fun r w => r = (A_takeTown un σ).1 ∧ w = WA x y (A_takeTown un σ).2) := by
  obtain ⟨d, rfl⟩ : ∃ d9, d = d9 + 1 := ⟨d - 1, by omega⟩
  refine ex_meth (own := RX4) rfl (by decide) (Nat.le_of_ble_eq_true rfl) (fun p e R s m below meth c C hr hlk hd1 hd2 => ?_)
  show ex_ok p l e R s m _ below meth c 0 0 _ 4 X D A (WA x y σ) 0 [(0, .ref 1), (1, .ref 6), (2, .int un)] []
  refine ex_aload_n (q := 0) (x := 1) (np := 1) C (by decide +kernel) rfl rfl ?_
  refine ex_call_i (np := 4) (fun ws H locs ls hR hsz => ex_runV (C1 := "") C (m_X4_isName d (by omega) x y σ) hd1 hd2 (by decide) hy_X4_isName tg_703 hc_X4 rfl (WA_1 _ _ _) rfl rfl (Nat.le_of_ble_eq_true rfl) rfl tg_700 tg_702 tg_12 tg_144 (by decide +kernel) ws H locs ls hR hsz (Nat.zero_le _) (Nat.zero_le _)) rfl (fun r1 w1 hpo => ?_)
  obtain ⟨q2, rfl⟩ := hpo
  refine ex_if_ne (off := 9) (tgt := 13) (np := 7) C (by decide +kernel) (by decide) rfl (fun h3 => ?_) (fun h3 => ?_)
  · skip
    refine ex_aload_n (q := 1) (x := 6) (np := 14) C (by decide +kernel) rfl rfl ?_
    refine ex_aload_n (q := 0) (x := 1) (np := 15) C (by decide +kernel) rfl rfl ?_
    refine ex_getf (q := 6) (v := .long (σ.2.1 0)) (np := 18) C hc_X4 hin_X4 (by decide) tg_239 (by decide +kernel) (WA_1 _ _ _) rfl rfl ?_
    refine ex_call_i (np := 21) (fun ws H locs ls hR hsz => ex_runVN C (m_X8_townNamed d (by omega) x y (σ.2.1 0) σ hI) hd1 hd2 (by decide) hy_X8_townNamed tg_712 hc_X8 rfl (WA_6 _ _ _) rfl rfl (Nat.le_of_ble_eq_true rfl) tn_729 tg_711 tg_14 tg_150 (by decide +kernel) ws H locs ls hR hsz (Nat.zero_le _) (Nat.zero_le _)) rfl (fun r4 w1 hpo => ?_)
    obtain ⟨q5, rfl⟩ := hpo
    refine ex_istore_n (q := 3) (np := 22) (lv1 := [(3, .int r4), (0, .ref 1), (1, .ref 6), (2, .int un)]) C (by decide) (by decide +kernel) rfl rfl ?_
    refine ex_iload_n (q := 3) (x := r4) (np := 23) C (by decide +kernel) rfl rfl ?_
    refine ex_iconst (n := (-1)) (v := (-1)) (np := 24) C (by decide +kernel) (by decide) rfl ?_
    refine ex_icmp_eq (off := 8) (tgt := 32) (np := 27) C (by decide +kernel) (by decide) rfl (fun h6 => ?_) (fun h6 => ?_)
    · skip
      refine ex_aload_n (q := 0) (x := 1) (np := 33) C (by decide +kernel) rfl rfl ?_
      refine ex_iconst (n := 3) (v := 3) (np := 34) C (by decide +kernel) (by decide) rfl ?_
      obtain ⟨r7, σ8, q10⟩ : ∃ r x, A_failAs (3 : Int32) σ = (r, x) := ex_pair _
      refine ex_call_i (np := 37) (fun ws H locs ls hR hsz => ex_runV (C1 := "") C (m_X4_failAs d (by omega) x y (3 : Int32) σ) hd1 hd2 (by decide) hy_X4_failAs tg_694 hc_X4 rfl (WA_1 _ _ _) rfl rfl (Nat.le_of_ble_eq_true rfl) rfl tg_704 tg_693 tg_10 tg_144 (by decide +kernel) ws H locs ls hR hsz (Nat.zero_le _) (Nat.zero_le _)) rfl (fun r9 w1 hpo => ?_)
      rw [q10] at hpo
      have hp1 : r7 = r9 := hpo.1.symm
      have hp2 := hpo.2
      clear hpo; subst hp1; subst hp2
      have hI11 := inv_X4_failAs (3 : Int32) σ hI; rw [q10] at hI11
      have hF12 := fr_X4_failAs (3 : Int32) σ; rw [q10] at hF12
      have E9 : A_takeTown un σ = (r7, σ8) := by unfold A_takeTown; exact (ex_lt_eq q2).trans ((if_neg h3).trans ((ex_lt_eq q5).trans ((if_pos h6).trans ((ex_bd_eq q10).trans (rfl)))))
      exact ex_iret C hr hlk (by decide +kernel) (ex_nar (by have b9 := bl_X4_failAs (3 : Int32) σ; rw [q10] at b9; exact b9)) (Nat.le_refl _) (Nat.le_refl _) (by rw [E9]; exact ⟨rfl, rfl⟩)
    · skip
      refine ex_iload_n (q := 3) (x := r4) (np := 28) C (by decide +kernel) rfl rfl ?_
      refine ex_iload_n (q := 2) (x := un) (np := 29) C (by decide +kernel) rfl rfl ?_
      refine ex_icmp_ne (off := 9) (tgt := 38) (np := 32) C (by decide +kernel) (by decide) rfl (fun h13 => ?_) (fun h13 => ?_)
      · skip
        refine ex_aload_n (q := 0) (x := 1) (np := 39) C (by decide +kernel) rfl rfl ?_
        refine ex_iload_n (q := 3) (x := r4) (np := 40) C (by decide +kernel) rfl rfl ?_
        refine ex_putf (q := 9) (w1 := (WA x y (sI 7 r4 σ))) (np := 43) C hc_X4 hin_X4 (by decide) tyX4_ok nmX4 tg_245 rfl (by decide +kernel) (WA_1 _ _ _) (Nat.le_of_ble_eq_true rfl) rfl rfl (WA_1_9 _ _ _ _) rfl ?_
        refine ex_aload_n (q := 0) (x := 1) (np := 44) C (by decide +kernel) rfl rfl ?_
        obtain ⟨σ14, q15⟩ : ∃ x, x = A_next (sI 7 r4 σ) := ⟨_, rfl⟩
        refine ex_call_v (np := 47) (fun ws H locs ls hR hsz => ex_runV (C1 := "") C (m_X4_next d (by omega) x y (sI 7 r4 σ) hI) hd1 hd2 (by decide) hy_X4_next tg_667 hc_X4 rfl (WA_1 _ _ _) rfl rfl (Nat.le_of_ble_eq_true rfl) rfl tg_664 tg_666 tg_4 tg_144 (by decide +kernel) ws H locs ls hR hsz (Nat.zero_le _) (Nat.zero_le _)) rfl (fun w1 hpo => ?_)
        rw [← q15] at hpo
        subst hpo
        have hI16 := inv_X4_next (sI 7 r4 σ) hI; rw [← q15] at hI16
        have hF17 := fr_X4_next (sI 7 r4 σ); rw [← q15] at hF17
        refine ex_iconst (n := 1) (v := 1) (np := 48) C (by decide +kernel) (by decide) rfl ?_
        have E9 : A_takeTown un σ = ((1 : Int32), σ14) := by unfold A_takeTown; exact (ex_lt_eq q2).trans ((if_neg h3).trans ((ex_lt_eq q5).trans ((if_neg h6).trans ((if_neg h13).trans ((ex_lt_eq q15).trans (rfl))))))
        exact ex_iret C hr hlk (by decide +kernel) rfl (Nat.le_refl _) (Nat.le_refl _) (by rw [E9]; exact ⟨rfl, rfl⟩)
      · skip
        refine ex_aload_n (q := 0) (x := 1) (np := 33) C (by decide +kernel) rfl rfl ?_
        refine ex_iconst (n := 3) (v := 3) (np := 34) C (by decide +kernel) (by decide) rfl ?_
        obtain ⟨r18, σ19, q20⟩ : ∃ r x, A_failAs (3 : Int32) σ = (r, x) := ex_pair _
        refine ex_call_i (np := 37) (fun ws H locs ls hR hsz => ex_runV (C1 := "") C (m_X4_failAs d (by omega) x y (3 : Int32) σ) hd1 hd2 (by decide) hy_X4_failAs tg_694 hc_X4 rfl (WA_1 _ _ _) rfl rfl (Nat.le_of_ble_eq_true rfl) rfl tg_704 tg_693 tg_10 tg_144 (by decide +kernel) ws H locs ls hR hsz (Nat.zero_le _) (Nat.zero_le _)) rfl (fun r9 w1 hpo => ?_)
        rw [q20] at hpo
        have hp1 : r18 = r9 := hpo.1.symm
        have hp2 := hpo.2
        clear hpo; subst hp1; subst hp2
        have hI21 := inv_X4_failAs (3 : Int32) σ hI; rw [q20] at hI21
        have hF22 := fr_X4_failAs (3 : Int32) σ; rw [q20] at hF22
        have E9 : A_takeTown un σ = (r18, σ19) := by unfold A_takeTown; exact (ex_lt_eq q2).trans ((if_neg h3).trans ((ex_lt_eq q5).trans ((if_neg h6).trans ((if_pos h13).trans ((ex_bd_eq q20).trans (rfl))))))
        exact ex_iret C hr hlk (by decide +kernel) (ex_nar (by have b9 := bl_X4_failAs (3 : Int32) σ; rw [q20] at b9; exact b9)) (Nat.le_refl _) (Nat.le_refl _) (by rw [E9]; exact ⟨rfl, rfl⟩)
  · skip
    refine ex_aload_n (q := 0) (x := 1) (np := 8) C (by decide +kernel) rfl rfl ?_
    refine ex_iconst (n := 1) (v := 1) (np := 9) C (by decide +kernel) (by decide) rfl ?_
    obtain ⟨r23, σ24, q25⟩ : ∃ r x, A_failAs (1 : Int32) σ = (r, x) := ex_pair _
    refine ex_call_i (np := 12) (fun ws H locs ls hR hsz => ex_runV (C1 := "") C (m_X4_failAs d (by omega) x y (1 : Int32) σ) hd1 hd2 (by decide) hy_X4_failAs tg_694 hc_X4 rfl (WA_1 _ _ _) rfl rfl (Nat.le_of_ble_eq_true rfl) rfl tg_704 tg_693 tg_10 tg_144 (by decide +kernel) ws H locs ls hR hsz (Nat.zero_le _) (Nat.zero_le _)) rfl (fun r9 w1 hpo => ?_)
    rw [q25] at hpo
    have hp1 : r23 = r9 := hpo.1.symm
    have hp2 := hpo.2
    clear hpo; subst hp1; subst hp2
    have hI26 := inv_X4_failAs (1 : Int32) σ hI; rw [q25] at hI26
    have hF27 := fr_X4_failAs (1 : Int32) σ; rw [q25] at hF27
    have E9 : A_takeTown un σ = (r23, σ24) := by unfold A_takeTown; exact (ex_lt_eq q2).trans ((if_pos h3).trans ((ex_bd_eq q25).trans (rfl)))
    exact ex_iret C hr hlk (by decide +kernel) (ex_nar (by have b9 := bl_X4_failAs (1 : Int32) σ; rw [q25] at b9; exact b9)) (Nat.le_refl _) (Nat.le_refl _) (by rw [E9]; exact ⟨rfl, rfl⟩)
set_option maxRecDepth 100000 in
set_option maxHeartbeats 4000000 in
theorem m_X8_makeEmpty {l : Launch} {X : ab_X} {D : va_G} {A : ex_A} (d : Nat) (hd : 1 ≤ d) (x : Nat × List ex_E) (y : Nat) (σ : ex_S) (hI : (0 ≤ (σ.1 0).toInt ∧ (σ.1 0).toInt ≤ 940)) : ex_ctr l X D A d yX8_makeEmpty cX8_makeEmpty 1 none (WA x y σ) [.ref 6] (fun _ w => w = WA x y (A_makeEmpty σ)) := by
  obtain ⟨d, rfl⟩ : ∃ d9, d = d9 + 1 := ⟨d - 1, by omega⟩
  refine ex_meth (own := RX8) rfl (by decide) (Nat.le_of_ble_eq_true rfl) (fun p e R s m below meth c C hr hlk hd1 hd2 => ?_)
  show ex_ok p l e R s m _ below meth c 0 0 _ 1 X D A (WA x y σ) 0 [(0, .ref 6)] []
  refine ex_aload_n (q := 0) (x := 6) (np := 1) C (by decide +kernel) rfl rfl ?_
  refine ex_iconst (n := 0) (v := 0) (np := 2) C (by decide +kernel) (by decide) rfl ?_
  refine ex_putf (q := 0) (w1 := (WA x y (sI 11 (0 : Int32) σ))) (np := 5) C hc_X8 hin_X8 (by decide) tyX8_ok nmX8 tg_312 rfl (by decide +kernel) (WA_6 _ _ _) (Nat.le_of_ble_eq_true rfl) rfl rfl (WA_6_0 _ _ _ _) rfl ?_
  refine ex_aload_n (q := 0) (x := 6) (np := 6) C (by decide +kernel) rfl rfl ?_
  refine ex_iconst (n := 0) (v := 0) (np := 7) C (by decide +kernel) (by decide) rfl ?_
  refine ex_putf (q := 4) (w1 := (WA x y (sI 12 (0 : Int32) (sI 11 (0 : Int32) σ)))) (np := 10) C hc_X8 hin_X8 (by decide) tyX8_ok nmX8 tg_326 rfl (by decide +kernel) (WA_6 _ _ _) (Nat.le_of_ble_eq_true rfl) rfl rfl (WA_6_4 _ _ _ _) rfl ?_
  refine ex_aload_n (q := 0) (x := 6) (np := 11) C (by decide +kernel) rfl rfl ?_
  refine ex_iconst (n := 0) (v := 0) (np := 12) C (by decide +kernel) (by decide) rfl ?_
  refine ex_putf (q := 9) (w1 := (WA x y (sI 13 (0 : Int32) (sI 12 (0 : Int32) (sI 11 (0 : Int32) σ))))) (np := 15) C hc_X8 hin_X8 (by decide) tyX8_ok nmX8 tg_337 rfl (by decide +kernel) (WA_6 _ _ _) (Nat.le_of_ble_eq_true rfl) rfl rfl (WA_6_9 _ _ _ _) rfl ?_
  refine ex_aload_n (q := 0) (x := 6) (np := 16) C (by decide +kernel) rfl rfl ?_
  refine ex_getf (q := 15) (v := .ref 19) (np := 19) C hc_X8 hin_X8 (by decide) tg_360 (by decide +kernel) (WA_6 _ _ _) rfl rfl ?_
  refine ex_iconst (n := 0) (v := 0) (np := 20) C (by decide +kernel) (by decide) rfl ?_
  refine ex_iconst (n := 3) (v := 3) (np := 21) C (by decide +kernel) (by decide) rfl ?_
  refine ex_iast (f := (σ.2.2.1 11)) (kk := 0) (w1 := (WA x y (sR 11 (upd (σ.2.2.1 11) 0 (3 : Int32)) (sI 13 (0 : Int32) (sI 12 (0 : Int32) (sI 11 (0 : Int32) σ)))))) (np := 22) C (by decide +kernel) (WA_19 _ _ _) (by decide) (by decide) (WA_19_s _ _ _ _) rfl ?_
  refine ex_aload_n (q := 0) (x := 6) (np := 23) C (by decide +kernel) rfl rfl ?_
  refine ex_getf (q := 15) (v := .ref 19) (np := 26) C hc_X8 hin_X8 (by decide) tg_360 (by decide +kernel) (WA_6 _ _ _) rfl rfl ?_
  refine ex_iconst (n := 1) (v := 1) (np := 27) C (by decide +kernel) (by decide) rfl ?_
  refine ex_iconst (n := 2) (v := 2) (np := 28) C (by decide +kernel) (by decide) rfl ?_
  refine ex_iast (f := (upd (σ.2.2.1 11) 0 (3 : Int32))) (kk := 1) (w1 := (WA x y (sR 11 (upd (upd (σ.2.2.1 11) 0 (3 : Int32)) 1 (2 : Int32)) (sR 11 (upd (σ.2.2.1 11) 0 (3 : Int32)) (sI 13 (0 : Int32) (sI 12 (0 : Int32) (sI 11 (0 : Int32) σ))))))) (np := 29) C (by decide +kernel) (WA_19 _ _ _) (by decide) (by decide) (WA_19_s _ _ _ _) rfl ?_
  refine ex_aload_n (q := 0) (x := 6) (np := 30) C (by decide +kernel) rfl rfl ?_
  refine ex_getf (q := 15) (v := .ref 19) (np := 33) C hc_X8 hin_X8 (by decide) tg_360 (by decide +kernel) (WA_6 _ _ _) rfl rfl ?_
  refine ex_iconst (n := 2) (v := 2) (np := 34) C (by decide +kernel) (by decide) rfl ?_
  refine ex_iconst (n := 1) (v := 1) (np := 35) C (by decide +kernel) (by decide) rfl ?_
  refine ex_iast (f := (upd (upd (σ.2.2.1 11) 0 (3 : Int32)) 1 (2 : Int32))) (kk := 2) (w1 := (WA x y (sR 11 (upd (upd (upd (σ.2.2.1 11) 0 (3 : Int32)) 1 (2 : Int32)) 2 (1 : Int32)) (sR 11 (upd (upd (σ.2.2.1 11) 0 (3 : Int32)) 1 (2 : Int32)) (sR 11 (upd (σ.2.2.1 11) 0 (3 : Int32)) (sI 13 (0 : Int32) (sI 12 (0 : Int32) (sI 11 (0 : Int32) σ)))))))) (np := 36) C (by decide +kernel) (WA_19 _ _ _) (by decide) (by decide) (WA_19_s _ _ _ _) rfl ?_
  refine ex_vret C hr hlk (by decide +kernel) (Nat.le_refl _) (Nat.le_refl _) ?_
  have E9 : A_makeEmpty σ = (sR 11 (upd (upd (upd (σ.2.2.1 11) 0 (3 : Int32)) 1 (2 : Int32)) 2 (1 : Int32)) (sR 11 (upd (upd (σ.2.2.1 11) 0 (3 : Int32)) 1 (2 : Int32)) (sR 11 (upd (σ.2.2.1 11) 0 (3 : Int32)) (sI 13 (0 : Int32) (sI 12 (0 : Int32) (sI 11 (0 : Int32) σ)))))) := by unfold A_makeEmpty; exact rfl
  rw [E9]
set_option maxRecDepth 100000 in
set_option maxHeartbeats 4000000 in
theorem m_X4_begin {l : Launch} {X : ab_X} {D : va_G} {A : ex_A} (d : Nat) (hd : 3 ≤ d) (x : Nat × List ex_E) (y : Nat) (mo : Int32) (σ : ex_S) (hI : A_IN0 σ) : ex_ctr l X D A d yX4_begin cX4_begin 2 none (WA x y σ) [.ref 1, .int mo] (fun _ w => w = WA x y (A_begin mo σ)) := by
  obtain ⟨d, rfl⟩ : ∃ d9, d = d9 + 1 := ⟨d - 1, by omega⟩
  refine ex_meth (own := RX4) rfl (by decide) (Nat.le_of_ble_eq_true rfl) (fun p e R s m below meth c C hr hlk hd1 hd2 => ?_)
  show ex_ok p l e R s m _ below meth c 0 0 _ 2 X D A (WA x y σ) 0 [(0, .ref 1), (1, .int mo)] []
  refine ex_aload_n (q := 0) (x := 1) (np := 1) C (by decide +kernel) rfl rfl ?_
  refine ex_iload_n (q := 1) (x := mo) (np := 2) C (by decide +kernel) rfl rfl ?_
  refine ex_putf (q := 2) (w1 := (WA x y (sI 1 mo σ))) (np := 5) C hc_X4 hin_X4 (by decide) tyX4_ok nmX4 tg_233 rfl (by decide +kernel) (WA_1 _ _ _) (Nat.le_of_ble_eq_true rfl) rfl rfl (WA_1_2 _ _ _ _) rfl ?_
  refine ex_aload_n (q := 0) (x := 1) (np := 6) C (by decide +kernel) rfl rfl ?_
  refine ex_iconst (n := 0) (v := 0) (np := 7) C (by decide +kernel) (by decide) rfl ?_
  refine ex_putf (q := 3) (w1 := (WA x y (sI 2 (0 : Int32) (sI 1 mo σ)))) (np := 10) C hc_X4 hin_X4 (by decide) tyX4_ok nmX4 tg_234 rfl (by decide +kernel) (WA_1 _ _ _) (Nat.le_of_ble_eq_true rfl) rfl rfl (WA_1_3 _ _ _ _) rfl ?_
  refine ex_aload_n (q := 0) (x := 1) (np := 11) C (by decide +kernel) rfl rfl ?_
  refine ex_iconst (n := 0) (v := 0) (np := 12) C (by decide +kernel) (by decide) rfl ?_
  refine ex_putf (q := 12) (w1 := (WA x y (sI 9 (0 : Int32) (sI 2 (0 : Int32) (sI 1 mo σ))))) (np := 15) C hc_X4 hin_X4 (by decide) tyX4_ok nmX4 tg_254 rfl (by decide +kernel) (WA_1 _ _ _) (Nat.le_of_ble_eq_true rfl) rfl rfl (WA_1_12 _ _ _ _) rfl ?_
  refine ex_aload_n (q := 0) (x := 1) (np := 16) C (by decide +kernel) rfl rfl ?_
  refine ex_iconst (n := 0) (v := 0) (np := 17) C (by decide +kernel) (by decide) rfl ?_
  refine ex_putf (q := 13) (w1 := (WA x y (sI 10 (0 : Int32) (sI 9 (0 : Int32) (sI 2 (0 : Int32) (sI 1 mo σ)))))) (np := 20) C hc_X4 hin_X4 (by decide) tyX4_ok nmX4 tg_256 rfl (by decide +kernel) (WA_1 _ _ _) (Nat.le_of_ble_eq_true rfl) rfl rfl (WA_1_13 _ _ _ _) rfl ?_
  refine ex_aload_n (q := 0) (x := 1) (np := 21) C (by decide +kernel) rfl rfl ?_
  obtain ⟨σ1, q2⟩ : ∃ x, x = A_next (sI 10 (0 : Int32) (sI 9 (0 : Int32) (sI 2 (0 : Int32) (sI 1 mo σ)))) := ⟨_, rfl⟩
  refine ex_call_v (np := 24) (fun ws H locs ls hR hsz => ex_runV (C1 := "") C (m_X4_next d (by omega) x y (sI 10 (0 : Int32) (sI 9 (0 : Int32) (sI 2 (0 : Int32) (sI 1 mo σ)))) (A_IN0_b hI)) hd1 hd2 (by decide) hy_X4_next tg_667 hc_X4 rfl (WA_1 _ _ _) rfl rfl (Nat.le_of_ble_eq_true rfl) rfl tg_664 tg_666 tg_4 tg_144 (by decide +kernel) ws H locs ls hR hsz (Nat.zero_le _) (Nat.zero_le _)) rfl (fun w1 hpo => ?_)
  rw [← q2] at hpo
  subst hpo
  have hI3 := inv_X4_next (sI 10 (0 : Int32) (sI 9 (0 : Int32) (sI 2 (0 : Int32) (sI 1 mo σ)))) (A_IN0_b hI); rw [← q2] at hI3
  have hF4 := fr_X4_next (sI 10 (0 : Int32) (sI 9 (0 : Int32) (sI 2 (0 : Int32) (sI 1 mo σ)))); rw [← q2] at hF4
  refine ex_vret C hr hlk (by decide +kernel) (Nat.le_refl _) (Nat.le_refl _) ?_
  have E9 : A_begin mo σ = σ1 := by unfold A_begin; exact (ex_lt_eq q2).trans (rfl)
  rw [E9]
