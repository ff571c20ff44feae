/-! count. -/
theorem ex_out7 {x : Int32} (h0 : ¬ x = 0) (h1 : ¬ x = 1) (h2 : ¬ x = 2) (h3 : ¬ x = 3) (h4 : ¬ x = 4) (h5 : ¬ x = 5) (h6 : ¬ x = 6) : x.toInt < 0 ∨ 6 < x.toInt := by
  have f : ∀ k : Int32, ¬ x = k → ¬ x.toInt = k.toInt := fun k h q => h (Int32.toInt_inj.mp q)
  have g0 : ¬ x.toInt = 0 := f 0 h0
  have g1 : ¬ x.toInt = 1 := f 1 h1
  have g2 : ¬ x.toInt = 2 := f 2 h2
  have g3 : ¬ x.toInt = 3 := f 3 h3
  have g4 : ¬ x.toInt = 4 := f 4 h4
  have g5 : ¬ x.toInt = 5 := f 5 h5
  have g6 : ¬ x.toInt = 6 := f 6 h6
  omega
theorem J_in5 {v r : Int32} (h : r = B_isIn v (0 : Int32) (5 : Int32)) (h2 : ¬ r = 0) : 0 ≤ v.toInt ∧ v.toInt < 305 := by
  unfold B_isIn at h
  have e0 : (0 : Int32).toInt = 0 := by decide
  have e5 : (5 : Int32).toInt = 5 := by decide
  split at h
  · exact absurd h h2
  · split at h
    · exact absurd h h2
    · omega
noncomputable def I_limit (σ : ex_S) : Int32 :=
  ((σ.2.2.1 10) 0)
noncomputable def I_change (σ : ex_S) : Int32 :=
  ((σ.2.2.1 10) 1)
noncomputable def I_frost (σ : ex_S) : Int32 :=
  ((σ.2.2.1 10) 2)
noncomputable def I_count (wh : Int32) (σ : ex_S) : Int32 :=
  if wh = 0 then
    (σ.1 0)
  else
    if wh = 1 then
      (σ.1 1)
    else
      if wh = 2 then
        (σ.1 2)
      else
        if wh = 3 then
          ex_lt (I_limit σ) (fun r5 =>
          r5)
        else
          if wh = 4 then
            ex_lt (I_change σ) (fun r8 =>
            r8)
          else
            if wh = 5 then
              ex_lt (I_frost σ) (fun r12 =>
              r12)
            else
              if wh = 6 then
                (σ.1 3001)
              else
                (-1 : Int32)
noncomputable def J_count (wh : Int32) (σ : ex_S) : Int32 × ex_S :=
  if wh = (6 : Int32) then
    ((σ.1 1), (sI 0 (0 : Int32) σ))
  else
    ex_lt (B_isIn wh (0 : Int32) (5 : Int32)) (fun r2 =>
    if r2 = 0 then
      ((-1 : Int32), (sI 0 (0 : Int32) σ))
    else
      (((σ.2.2.1 0) (wh).toNatClampNeg), (sI 0 (0 : Int32) σ)))
set_option maxRecDepth 100000 in
set_option maxHeartbeats 4000000 in
set_option maxRecDepth 100000 in
set_option maxHeartbeats 4000000 in
theorem m_X8_limit {l : Launch} {X : ab_X} {D : va_G} {A : ex_A} (d : Nat) (hd : 1 ≤ d) (g9 : Nat → Option Nat) (σ : ex_S) : ex_ctr l X D A d yX8_limit cX8_limit 1 (some .int) (WI g9 σ) [.ref 2] (fun r w => r = I_limit σ ∧ w = WI g9 σ) := by
  obtain ⟨d, rfl⟩ : ∃ d9, d = d9 + 1 := ⟨d - 1, by omega⟩
  refine ex_meth (own := RX8) rfl (by decide) (Nat.le_of_ble_eq_true rfl) (fun p e R s m below meth c C hr hlk hd1 hd2 => ?_)
  show ex_ok p l e R s m _ below meth c 0 0 _ 1 X D A (WI g9 σ) 0 [(0, .ref 2)] []
  refine ex_aload_n (q := 0) (x := 2) (np := 1) C (by decide +kernel) rfl rfl ?_
  refine ex_getf (q := 15) (v := .ref 15) (np := 4) C hc_X8 hin_X8 (by decide) tg_360 (by decide +kernel) (WI_2 _ _) rfl rfl ?_
  refine ex_iconst (n := 0) (v := 0) (np := 5) C (by decide +kernel) (by decide) rfl ?_
  refine ex_iald (f := (σ.2.2.1 10)) (kk := 0) (np := 6) C (by decide +kernel) (WI_15 _ _) (by decide) (by decide) rfl ?_
  have E9 : I_limit σ = ((σ.2.2.1 10) 0) := by unfold I_limit; exact rfl
  exact ex_iret C hr hlk (by decide +kernel) rfl (Nat.le_refl _) (Nat.le_refl _) ⟨E9.symm, rfl⟩
set_option maxRecDepth 100000 in
set_option maxHeartbeats 4000000 in
set_option maxRecDepth 100000 in
set_option maxHeartbeats 4000000 in
theorem m_X8_change {l : Launch} {X : ab_X} {D : va_G} {A : ex_A} (d : Nat) (hd : 1 ≤ d) (g9 : Nat → Option Nat) (σ : ex_S) : ex_ctr l X D A d yX8_change cX8_change 1 (some .int) (WI g9 σ) [.ref 2] (fun r w => r = I_change σ ∧ w = WI g9 σ) := by
  obtain ⟨d, rfl⟩ : ∃ d9, d = d9 + 1 := ⟨d - 1, by omega⟩
  refine ex_meth (own := RX8) rfl (by decide) (Nat.le_of_ble_eq_true rfl) (fun p e R s m below meth c C hr hlk hd1 hd2 => ?_)
  show ex_ok p l e R s m _ below meth c 0 0 _ 1 X D A (WI g9 σ) 0 [(0, .ref 2)] []
  refine ex_aload_n (q := 0) (x := 2) (np := 1) C (by decide +kernel) rfl rfl ?_
  refine ex_getf (q := 15) (v := .ref 15) (np := 4) C hc_X8 hin_X8 (by decide) tg_360 (by decide +kernel) (WI_2 _ _) rfl rfl ?_
  refine ex_iconst (n := 1) (v := 1) (np := 5) C (by decide +kernel) (by decide) rfl ?_
  refine ex_iald (f := (σ.2.2.1 10)) (kk := 1) (np := 6) C (by decide +kernel) (WI_15 _ _) (by decide) (by decide) rfl ?_
  have E9 : I_change σ = ((σ.2.2.1 10) 1) := by unfold I_change; exact rfl
  exact ex_iret C hr hlk (by decide +kernel) rfl (Nat.le_refl _) (Nat.le_refl _) ⟨E9.symm, rfl⟩
set_option maxRecDepth 100000 in
set_option maxHeartbeats 4000000 in
set_option maxRecDepth 100000 in
set_option maxHeartbeats 4000000 in
theorem m_X8_frost {l : Launch} {X : ab_X} {D : va_G} {A : ex_A} (d : Nat) (hd : 1 ≤ d) (g9 : Nat → Option Nat) (σ : ex_S) : ex_ctr l X D A d yX8_frost cX8_frost 1 (some .int) (WI g9 σ) [.ref 2] (fun r w => r = I_frost σ ∧ w = WI g9 σ) := by
  obtain ⟨d, rfl⟩ : ∃ d9, d = d9 + 1 := ⟨d - 1, by omega⟩
  refine ex_meth (own := RX8) rfl (by decide) (Nat.le_of_ble_eq_true rfl) (fun p e R s m below meth c C hr hlk hd1 hd2 => ?_)
  show ex_ok p l e R s m _ below meth c 0 0 _ 1 X D A (WI g9 σ) 0 [(0, .ref 2)] []
  refine ex_aload_n (q := 0) (x := 2) (np := 1) C (by decide +kernel) rfl rfl ?_
  refine ex_getf (q := 15) (v := .ref 15) (np := 4) C hc_X8 hin_X8 (by decide) tg_360 (by decide +kernel) (WI_2 _ _) rfl rfl ?_
  refine ex_iconst (n := 2) (v := 2) (np := 5) C (by decide +kernel) (by decide) rfl ?_
  refine ex_iald (f := (σ.2.2.1 10)) (kk := 2) (np := 6) C (by decide +kernel) (WI_15 _ _) (by decide) (by decide) rfl ?_
  have E9 : I_frost σ = ((σ.2.2.1 10) 2) := by unfold I_frost; exact rfl
  exact ex_iret C hr hlk (by decide +kernel) rfl (Nat.le_refl _) (Nat.le_refl _) ⟨E9.symm, rfl⟩
set_option maxRecDepth 100000 in
set_option maxHeartbeats 4000000 in
set_option maxRecDepth 100000 in
set_option maxHeartbeats 4000000 in
theorem m_X10_count {l : Launch} {X : ab_X} {D : va_G} {A : ex_A} (d : Nat) (hd : 2 ≤ d) (g9 : Nat → Option Nat) (wh : Int32) (σ : ex_S) : ex_ctr l X D A d yX10_count cX10_count 2 (some .int) (WI g9 σ) [.ref 0, .int wh] (fun r w => r = I_count wh σ ∧ w = WI g9 σ) := by
  obtain ⟨d, rfl⟩ : ∃ d9, d = d9 + 1 := ⟨d - 1, by omega⟩
  refine ex_meth (own := RX10) rfl (by decide) (Nat.le_of_ble_eq_true rfl) (fun p e R s m below meth c C hr hlk hd1 hd2 => ?_)
  show ex_ok p l e R s m _ below meth c 0 0 _ 2 X D A (WI g9 σ) 0 [(0, .ref 0), (1, .int wh)] []
  refine ex_iload_n (q := 1) (x := wh) (np := 1) C (by decide +kernel) rfl rfl ?_
  by_cases h1 : wh = 0
  · have e9 : (wh).toInt = 0 := by rw [h1]; decide
    refine ex_tswI (df := 99) (lo := 0) (hi := 6) (offs := #[43, 51, 59, 67, 75, 83, 91]) (len := 43) (off := 43) (tgt := 44) C (by decide +kernel) (by rw [e9]; decide) (by rw [e9]; decide) (by rw [e9]; rfl) (by decide) ?_
    refine ex_aload_n (q := 0) (x := 0) (np := 45) C (by decide +kernel) rfl rfl ?_
    refine ex_getf (q := 2) (v := .ref 2) (np := 48) C hc_X10 hin_X10 (by decide) tg_586 (by decide +kernel) (WI_0 _ _) rfl rfl ?_
    refine ex_getfN (q := 0) (v := .int (σ.1 0)) (np := 51) C hc_X8 hin_X8 (by decide) tn_315 (by decide +kernel) (WI_2 _ _) rfl rfl ?_
    have E9 : I_count wh σ = (σ.1 0) := by unfold I_count; exact (if_pos h1).trans (rfl)
    exact ex_iret C hr hlk (by decide +kernel) rfl (Nat.le_refl _) (Nat.le_refl _) ⟨E9.symm, rfl⟩
  by_cases h2 : wh = 1
  · have e9 : (wh).toInt = 1 := by rw [h2]; decide
    refine ex_tswI (df := 99) (lo := 0) (hi := 6) (offs := #[43, 51, 59, 67, 75, 83, 91]) (len := 43) (off := 51) (tgt := 52) C (by decide +kernel) (by rw [e9]; decide) (by rw [e9]; decide) (by rw [e9]; rfl) (by decide) ?_
    refine ex_aload_n (q := 0) (x := 0) (np := 53) C (by decide +kernel) rfl rfl ?_
    refine ex_getf (q := 2) (v := .ref 2) (np := 56) C hc_X10 hin_X10 (by decide) tg_586 (by decide +kernel) (WI_0 _ _) rfl rfl ?_
    refine ex_getfN (q := 4) (v := .int (σ.1 1)) (np := 59) C hc_X8 hin_X8 (by decide) tn_328 (by decide +kernel) (WI_2 _ _) rfl rfl ?_
    have E9 : I_count wh σ = (σ.1 1) := by unfold I_count; exact (if_neg h1).trans ((if_pos h2).trans (rfl))
    exact ex_iret C hr hlk (by decide +kernel) rfl (Nat.le_refl _) (Nat.le_refl _) ⟨E9.symm, rfl⟩
  by_cases h3 : wh = 2
  · have e9 : (wh).toInt = 2 := by rw [h3]; decide
    refine ex_tswI (df := 99) (lo := 0) (hi := 6) (offs := #[43, 51, 59, 67, 75, 83, 91]) (len := 43) (off := 59) (tgt := 60) C (by decide +kernel) (by rw [e9]; decide) (by rw [e9]; decide) (by rw [e9]; rfl) (by decide) ?_
    refine ex_aload_n (q := 0) (x := 0) (np := 61) C (by decide +kernel) rfl rfl ?_
    refine ex_getf (q := 2) (v := .ref 2) (np := 64) C hc_X10 hin_X10 (by decide) tg_586 (by decide +kernel) (WI_0 _ _) rfl rfl ?_
    refine ex_getfN (q := 9) (v := .int (σ.1 2)) (np := 67) C hc_X8 hin_X8 (by decide) tn_340 (by decide +kernel) (WI_2 _ _) rfl rfl ?_
    have E9 : I_count wh σ = (σ.1 2) := by unfold I_count; exact (if_neg h1).trans ((if_neg h2).trans ((if_pos h3).trans (rfl)))
    exact ex_iret C hr hlk (by decide +kernel) rfl (Nat.le_refl _) (Nat.le_refl _) ⟨E9.symm, rfl⟩
  by_cases h4 : wh = 3
  · have e9 : (wh).toInt = 3 := by rw [h4]; decide
    refine ex_tswI (df := 99) (lo := 0) (hi := 6) (offs := #[43, 51, 59, 67, 75, 83, 91]) (len := 43) (off := 67) (tgt := 68) C (by decide +kernel) (by rw [e9]; decide) (by rw [e9]; decide) (by rw [e9]; rfl) (by decide) ?_
    refine ex_aload_n (q := 0) (x := 0) (np := 69) C (by decide +kernel) rfl rfl ?_
    refine ex_getf (q := 2) (v := .ref 2) (np := 72) C hc_X10 hin_X10 (by decide) tg_586 (by decide +kernel) (WI_0 _ _) rfl rfl ?_
    refine ex_call_i (np := 75) (fun ws H locs ls hR hsz => ex_runVN C (m_X8_limit d (by omega) g9 σ) hd1 hd2 (by decide) hy_X8_limit tg_774 hc_X8 rfl (WI_2 _ _) rfl rfl (Nat.le_of_ble_eq_true rfl) tn_1158 tg_773 tg_26 tg_150 (by decide +kernel) ws H locs ls hR hsz (Nat.zero_le _) (Nat.zero_le _)) rfl (fun r5 w1 hpo => ?_)
    obtain ⟨q6, rfl⟩ := hpo
    have E9 : I_count wh σ = r5 := by unfold I_count; exact (if_neg h1).trans ((if_neg h2).trans ((if_neg h3).trans ((if_pos h4).trans ((ex_lt_eq q6).trans (rfl)))))
    exact ex_iret C hr hlk (by decide +kernel) rfl (Nat.le_refl _) (Nat.le_refl _) ⟨E9.symm, rfl⟩
  by_cases h7 : wh = 4
  · have e9 : (wh).toInt = 4 := by rw [h7]; decide
    refine ex_tswI (df := 99) (lo := 0) (hi := 6) (offs := #[43, 51, 59, 67, 75, 83, 91]) (len := 43) (off := 75) (tgt := 76) C (by decide +kernel) (by rw [e9]; decide) (by rw [e9]; decide) (by rw [e9]; rfl) (by decide) ?_
    refine ex_aload_n (q := 0) (x := 0) (np := 77) C (by decide +kernel) rfl rfl ?_
    refine ex_getf (q := 2) (v := .ref 2) (np := 80) C hc_X10 hin_X10 (by decide) tg_586 (by decide +kernel) (WI_0 _ _) rfl rfl ?_
    refine ex_call_i (np := 83) (fun ws H locs ls hR hsz => ex_runVN C (m_X8_change d (by omega) g9 σ) hd1 hd2 (by decide) hy_X8_change tg_926 hc_X8 rfl (WI_2 _ _) rfl rfl (Nat.le_of_ble_eq_true rfl) tn_1159 tg_925 tg_50 tg_150 (by decide +kernel) ws H locs ls hR hsz (Nat.zero_le _) (Nat.zero_le _)) rfl (fun r8 w1 hpo => ?_)
    obtain ⟨q10, rfl⟩ := hpo
    have E9 : I_count wh σ = r8 := by unfold I_count; exact (if_neg h1).trans ((if_neg h2).trans ((if_neg h3).trans ((if_neg h4).trans ((if_pos h7).trans ((ex_lt_eq q10).trans (rfl))))))
    exact ex_iret C hr hlk (by decide +kernel) rfl (Nat.le_refl _) (Nat.le_refl _) ⟨E9.symm, rfl⟩
  by_cases h11 : wh = 5
  · have e9 : (wh).toInt = 5 := by rw [h11]; decide
    refine ex_tswI (df := 99) (lo := 0) (hi := 6) (offs := #[43, 51, 59, 67, 75, 83, 91]) (len := 43) (off := 83) (tgt := 84) C (by decide +kernel) (by rw [e9]; decide) (by rw [e9]; decide) (by rw [e9]; rfl) (by decide) ?_
    refine ex_aload_n (q := 0) (x := 0) (np := 85) C (by decide +kernel) rfl rfl ?_
    refine ex_getf (q := 2) (v := .ref 2) (np := 88) C hc_X10 hin_X10 (by decide) tg_586 (by decide +kernel) (WI_0 _ _) rfl rfl ?_
    refine ex_call_i (np := 91) (fun ws H locs ls hR hsz => ex_runVN C (m_X8_frost d (by omega) g9 σ) hd1 hd2 (by decide) hy_X8_frost tg_1010 hc_X8 rfl (WI_2 _ _) rfl rfl (Nat.le_of_ble_eq_true rfl) tn_1160 tg_1009 tg_60 tg_150 (by decide +kernel) ws H locs ls hR hsz (Nat.zero_le _) (Nat.zero_le _)) rfl (fun r12 w1 hpo => ?_)
    obtain ⟨q13, rfl⟩ := hpo
    have E9 : I_count wh σ = r12 := by unfold I_count; exact (if_neg h1).trans ((if_neg h2).trans ((if_neg h3).trans ((if_neg h4).trans ((if_neg h7).trans ((if_pos h11).trans ((ex_lt_eq q13).trans (rfl)))))))
    exact ex_iret C hr hlk (by decide +kernel) rfl (Nat.le_refl _) (Nat.le_refl _) ⟨E9.symm, rfl⟩
  by_cases h14 : wh = 6
  · have e9 : (wh).toInt = 6 := by rw [h14]; decide
    refine ex_tswI (df := 99) (lo := 0) (hi := 6) (offs := #[43, 51, 59, 67, 75, 83, 91]) (len := 43) (off := 91) (tgt := 92) C (by decide +kernel) (by rw [e9]; decide) (by rw [e9]; decide) (by rw [e9]; rfl) (by decide) ?_
    refine ex_aload_n (q := 0) (x := 0) (np := 93) C (by decide +kernel) rfl rfl ?_
    refine ex_getf (q := 0) (v := .ref 71) (np := 96) C hc_X10 hin_X10 (by decide) tg_584 (by decide +kernel) (WI_0 _ _) rfl rfl ?_
    refine ex_getfN (q := 1) (v := .int (σ.1 3001)) (np := 99) C hc_X4 hin_X4 (by decide) tn_232 (by decide +kernel) (WI_71 _ _) rfl rfl ?_
    have E9 : I_count wh σ = (σ.1 3001) := by unfold I_count; exact (if_neg h1).trans ((if_neg h2).trans ((if_neg h3).trans ((if_neg h4).trans ((if_neg h7).trans ((if_neg h11).trans ((if_pos h14).trans (rfl)))))))
    exact ex_iret C hr hlk (by decide +kernel) rfl (Nat.le_refl _) (Nat.le_refl _) ⟨E9.symm, rfl⟩
  have o9 : (wh).toInt < 0 ∨ 6 < (wh).toInt := ex_out7 h1 h2 h3 h4 h7 h11 h14
  refine ex_tswO (df := 99) (lo := 0) (hi := 6) (offs := #[43, 51, 59, 67, 75, 83, 91]) (len := 43) (tgt := 100) C (by decide +kernel) o9 (by decide) ?_
  refine ex_iconst (n := (-1)) (v := (-1)) (np := 101) C (by decide +kernel) (by decide) rfl ?_
  have E9 : I_count wh σ = (-1 : Int32) := by unfold I_count; exact (if_neg h1).trans ((if_neg h2).trans ((if_neg h3).trans ((if_neg h4).trans ((if_neg h7).trans ((if_neg h11).trans ((if_neg h14).trans (rfl)))))))
  exact ex_iret C hr hlk (by decide +kernel) rfl (Nat.le_refl _) (Nat.le_refl _) ⟨E9.symm, rfl⟩
set_option maxRecDepth 100000 in
set_option maxHeartbeats 4000000 in
set_option maxRecDepth 100000 in
set_option maxHeartbeats 4000000 in
theorem m_X11_count {l : Launch} {X : ab_X} {D : va_G} {A : ex_A} (d : Nat) (hd : 2 ≤ d) (wh : Int32) (σ : ex_S) : ex_ctr l X D A d yX11_count cX11_count 2 (some .int) (WJ σ) [.ref 0, .int wh] (fun r w => r = (J_count wh σ).1 ∧ w = WJ (J_count wh σ).2) := by
  obtain ⟨d, rfl⟩ : ∃ d9, d = d9 + 1 := ⟨d - 1, by omega⟩
  refine ex_meth (own := RX11) rfl (by decide) (Nat.le_of_ble_eq_true rfl) (fun p e R s m below meth c C hr hlk hd1 hd2 => ?_)
  show ex_ok p l e R s m _ below meth c 0 0 _ 2 X D A (WJ σ) 0 [(0, .ref 0), (1, .int wh)] []
  refine ex_aload_n (q := 0) (x := 0) (np := 1) C (by decide +kernel) rfl rfl ?_
  refine ex_iconst (n := 0) (v := 0) (np := 2) C (by decide +kernel) (by decide) rfl ?_
  refine ex_putf (q := 0) (w1 := (WJ (sI 0 (0 : Int32) σ))) (np := 5) C hc_X11 hin_X11 (by decide) tyX11_ok nmX11 tg_1379 rfl (by decide +kernel) (WJ_0 _) (Nat.le_of_ble_eq_true rfl) rfl rfl (WJ_0_0 _ _) rfl ?_
  refine ex_iload_n (q := 1) (x := wh) (np := 6) C (by decide +kernel) rfl rfl ?_
  refine ex_bipush (n := 6) (v := 6) (np := 8) C (by decide +kernel) (by decide) rfl ?_
  refine ex_icmp_ne (off := 10) (tgt := 18) (np := 11) C (by decide +kernel) (by decide) rfl (fun h1 => ?_) (fun h1 => ?_)
  · skip
    refine ex_iload_n (q := 1) (x := wh) (np := 19) C (by decide +kernel) rfl rfl ?_
    refine ex_iconst (n := 0) (v := 0) (np := 20) C (by decide +kernel) (by decide) rfl ?_
    refine ex_iconst (n := 5) (v := 5) (np := 21) C (by decide +kernel) (by decide) rfl ?_
    refine ex_call_i (np := 24) (fun ws H locs ls hR hsz => ex_runS C (m_X11_isIn d (by omega) (WJ (sI 0 (0 : Int32) σ)) wh (0 : Int32) (5 : Int32)) hd1 hd2 (by decide) hy_X11_isIn tg_1593 rfl rfl (Nat.le_of_ble_eq_true rfl) tg_1591 tg_1592 tg_158 (by decide +kernel) ws H locs ls hR hsz (Nat.zero_le _) (Nat.zero_le _)) rfl (fun r2 w1 hpo => ?_)
    obtain ⟨q3, rfl⟩ := hpo
    refine ex_if_eq (off := 12) (tgt := 36) (np := 27) C (by decide +kernel) (by decide) rfl (fun h4 => ?_) (fun h4 => ?_)
    · skip
      refine ex_iconst (n := (-1)) (v := (-1)) (np := 37) C (by decide +kernel) (by decide) rfl ?_
      have E9 : J_count wh σ = ((-1 : Int32), (sI 0 (0 : Int32) σ)) := by unfold J_count; exact (if_neg h1).trans ((ex_lt_eq q3).trans ((if_pos h4).trans (rfl)))
      exact ex_iret C hr hlk (by decide +kernel) rfl (Nat.le_refl _) (Nat.le_refl _) (by rw [E9]; exact ⟨rfl, rfl⟩)
    · skip
      refine ex_aload_n (q := 0) (x := 0) (np := 28) C (by decide +kernel) rfl rfl ?_
      refine ex_getf (q := 6) (v := .ref 1) (np := 31) C hc_X11 hin_X11 (by decide) tg_1385 (by decide +kernel) (WJ_0 _) rfl rfl ?_
      refine ex_iload_n (q := 1) (x := wh) (np := 32) C (by decide +kernel) rfl rfl ?_
      refine ex_iald (f := (σ.2.2.1 0)) (kk := (wh).toNatClampNeg) (np := 33) C (by decide +kernel) (WJ_1 _) (J_in5 q3 h4) rfl rfl ?_
      refine ex_goto (off := 4) (tgt := 37) C (by decide +kernel) (by decide) ?_
      have E9 : J_count wh σ = (((σ.2.2.1 0) (wh).toNatClampNeg), (sI 0 (0 : Int32) σ)) := by unfold J_count; exact (if_neg h1).trans ((ex_lt_eq q3).trans ((if_neg h4).trans (rfl)))
      exact ex_iret C hr hlk (by decide +kernel) rfl (Nat.le_refl _) (Nat.le_refl _) (by rw [E9]; exact ⟨rfl, rfl⟩)
  · skip
    refine ex_aload_n (q := 0) (x := 0) (np := 12) C (by decide +kernel) rfl rfl ?_
    refine ex_getf (q := 2) (v := .int (σ.1 1)) (np := 15) C hc_X11 hin_X11 (by decide) tg_1381 (by decide +kernel) (WJ_0 _) rfl rfl ?_
    refine ex_goto (off := 22) (tgt := 37) C (by decide +kernel) (by decide) ?_
    have E9 : J_count wh σ = ((σ.1 1), (sI 0 (0 : Int32) σ)) := by unfold J_count; exact (if_pos h1).trans (rfl)
    exact ex_iret C hr hlk (by decide +kernel) rfl (Nat.le_refl _) (Nat.le_refl _) (by rw [E9]; exact ⟨rfl, rfl⟩)
