/-! Contracts of the parsers' methods. -/
set_option maxRecDepth 100000 in
set_option maxHeartbeats 4000000 in
theorem m_X10_valley {l : Launch} {X : ab_X} {D : va_G} {A : ex_A} (d : Nat) (hd : 7 ≤ d) (L : List ex_E) (σ : ex_S) (hI : (0 ≤ (σ.1 0).toInt ∧ (σ.1 0).toInt ≤ 940)) : ex_ctr l X D A d yX10_valley cX10_valley 3 (some .int) (WA (26,L) 6 σ) [.ref 0] (fun r w => r = A_valley σ ∧ A_vend L σ w) := by
  obtain ⟨d, rfl⟩ : ∃ d9, d = d9 + 1 := ⟨d - 1, by omega⟩
  refine ex_meth (own := RX10) rfl (by decide) (Nat.le_of_ble_eq_true rfl) (fun p e R s m below meth c C hr hlk hd1 hd2 => ?_)
  show ex_ok p l e R s m _ below meth c 0 0 _ 3 X D A (WA (26,L) 6 σ) 0 [(0, .ref 0)] []
  refine ex_aload_n (q := 0) (x := 0) (np := 1) C (by decide +kernel) rfl rfl ?_
  refine ex_getf (q := 1) (v := .ref 4) (np := 4) C hc_X10 hin_X10 (by decide) tg_585 (by decide +kernel) (WA_0 _ _ _) rfl rfl ?_
  refine ex_aload_n (q := 0) (x := 0) (np := 5) C (by decide +kernel) rfl rfl ?_
  refine ex_getf (q := 3) (v := .ref 6) (np := 8) C hc_X10 hin_X10 (by decide) tg_587 (by decide +kernel) (WA_0 _ _ _) rfl rfl ?_
  refine ex_aload_n (q := 0) (x := 0) (np := 9) C (by decide +kernel) rfl rfl ?_
  refine ex_getf (q := 0) (v := .ref 1) (np := 12) C hc_X10 hin_X10 (by decide) tg_584 (by decide +kernel) (WA_0 _ _ _) rfl rfl ?_
  obtain ⟨r1, σ2, q3⟩ : ∃ r x, A_readInto σ = (r, x) := ex_pair _
  refine ex_call_i (np := 15) (fun ws H locs ls hR hsz => ex_runVN C (m_X9_readInto d (by omega) (26,L) 6 σ hI) hd1 hd2 (by decide) hy_X9_readInto tg_655 hc_X9 rfl (WA_4 _ _ _) rfl rfl (Nat.le_of_ble_eq_true rfl) tn_652 tg_654 tg_1 tg_149 (by decide +kernel) ws H locs ls hR hsz (Nat.zero_le _) (Nat.zero_le _)) rfl (fun r9 w1 hpo => ?_)
  rw [q3] at hpo
  have hp1 : r1 = r9 := hpo.1.symm
  have hp2 := hpo.2
  clear hpo; subst hp1; subst hp2
  have hI4 := inv_X9_readInto σ hI; rw [q3] at hI4
  refine ex_istore_n (q := 1) (np := 16) (lv1 := [(1, .int r1), (0, .ref 0)]) C (by decide) (by decide +kernel) rfl rfl ?_
  refine ex_aload_n (q := 0) (x := 0) (np := 17) C (by decide +kernel) rfl rfl ?_
  refine ex_getf (q := 0) (v := .ref 1) (np := 20) C hc_X10 hin_X10 (by decide) tg_584 (by decide +kernel) (WA_0 _ _ _) rfl rfl ?_
  refine ex_iconst (n := 0) (v := 0) (np := 21) C (by decide +kernel) (by decide) rfl ?_
  refine ex_putfN (q := 1) (w1 := (WA (26,L) 6 (sI 0 (0 : Int32) σ2))) (np := 24) C hc_X4 hin_X4 (by decide) tyX4_ok nmX4 tn_232 rfl (by decide +kernel) (WA_1 _ _ _) (Nat.le_of_ble_eq_true rfl) rfl rfl (WA_1_1 _ _ _ _) rfl ?_
  refine ex_iload_n (q := 1) (x := r1) (np := 25) C (by decide +kernel) rfl rfl ?_
  refine ex_iconst (n := (-1)) (v := (-1)) (np := 26) C (by decide +kernel) (by decide) rfl ?_
  refine ex_icmp_ne (off := 13) (tgt := 39) (np := 29) C (by decide +kernel) (by decide) rfl (fun h5 => ?_) (fun h5 => ?_)
  · skip
    refine ex_aload_n (q := 0) (x := 0) (np := 40) C (by decide +kernel) rfl rfl ?_
    refine ex_getf (q := 2) (v := .ref 26) (np := 43) C hc_X10 hin_X10 (by decide) tg_586 (by decide +kernel) (WA_0 _ _ _) rfl rfl ?_
    refine ex_astore_n (q := 2) (np := 44) (lv1 := [(2, .ref 26), (1, .int r1), (0, .ref 0)]) C (by decide) (by decide +kernel) rfl rfl ?_
    refine ex_aload_n (q := 0) (x := 0) (np := 45) C (by decide +kernel) rfl rfl ?_
    refine ex_aload_n (q := 0) (x := 0) (np := 46) C (by decide +kernel) rfl rfl ?_
    refine ex_getf (q := 3) (v := .ref 6) (np := 49) C hc_X10 hin_X10 (by decide) tg_587 (by decide +kernel) (WA_0 _ _ _) rfl rfl ?_
    refine ex_putf (q := 2) (w1 := (WA (6,L) 6 (sI 0 (0 : Int32) σ2))) (np := 52) C hc_X10 hin_X10 (by decide) tyX10_ok nmX10 tg_586 rfl (by decide +kernel) (WA_0 _ _ _) (Nat.le_of_ble_eq_true rfl) rfl rfl (WA_0_2 _ _ _ _) rfl ?_
    refine ex_aload_n (q := 0) (x := 0) (np := 53) C (by decide +kernel) rfl rfl ?_
    refine ex_aload_n (q := 2) (x := 26) (np := 54) C (by decide +kernel) rfl rfl ?_
    refine ex_putf (q := 3) (w1 := (WA (6,L) 26 (sI 0 (0 : Int32) σ2))) (np := 57) C hc_X10 hin_X10 (by decide) tyX10_ok nmX10 tg_587 rfl (by decide +kernel) (WA_0 _ _ _) (Nat.le_of_ble_eq_true rfl) rfl rfl (WA_0_3 _ _ _ _) rfl ?_
    refine ex_aload_n (q := 0) (x := 0) (np := 58) C (by decide +kernel) rfl rfl ?_
    refine ex_getf (q := 4) (v := .ref 20) (np := 61) C hc_X10 hin_X10 (by decide) tg_588 (by decide +kernel) (WA_0 _ _ _) rfl rfl ?_
    refine ex_aload_n (q := 0) (x := 0) (np := 62) C (by decide +kernel) rfl rfl ?_
    refine ex_getf (q := 2) (v := .ref 6) (np := 65) C hc_X10 hin_X10 (by decide) tg_586 (by decide +kernel) (WA_0 _ _ _) rfl rfl ?_
    refine ex_call_v (np := 68) (fun ws H locs ls hR hsz => ex_runVN C (m_X7_beginIn d (by omega) (6,L) 26 (sI 0 (0 : Int32) σ2) hI4.2.2.1) hd1 hd2 (by decide) hy_X7_beginIn tg_747 hc_X7 rfl (WA_20 _ _ _) rfl rfl (Nat.le_of_ble_eq_true rfl) tn_744 tg_746 tg_22 tg_151 (by decide +kernel) ws H locs ls hR hsz (Nat.zero_le _) (Nat.zero_le _)) rfl (fun w1 hpo => ?_)
    obtain ⟨f, g, h, rfl⟩ := hpo
    refine ex_aload_n (q := 0) (x := 0) (np := 69) C (by decide +kernel) rfl rfl ?_
    refine ex_getf (q := 7) (v := .ref 24) (np := 72) C hc_X10 hin_X10 (by decide) tg_591 (by decide +kernel) (WA_0 _ _ _) rfl rfl ?_
    refine ex_iconst (n := 0) (v := 0) (np := 73) C (by decide +kernel) (by decide) rfl ?_
    refine ex_putfN (q := 3) (w1 := (WA (6,L) 26 (sI 20 (0 : Int32) (sR 15 h (sR 14 g (sR 13 f (sI 18 0 (sI 17 0 (sI 16 0 (sI 0 (0 : Int32) σ2)))))))))) (np := 76) C hc_X6 hin_X6 (by decide) tyX6_ok nmX6 tn_458 rfl (by decide +kernel) (WA_24 _ _ _) (Nat.le_of_ble_eq_true rfl) rfl rfl (WA_24_3 _ _ _ _) rfl ?_
    refine ex_aload_n (q := 0) (x := 0) (np := 77) C (by decide +kernel) rfl rfl ?_
    refine ex_getf (q := 6) (v := .ref 25) (np := 80) C hc_X10 hin_X10 (by decide) tg_590 (by decide +kernel) (WA_0 _ _ _) rfl rfl ?_
    refine ex_iconst (n := 0) (v := 0) (np := 81) C (by decide +kernel) (by decide) rfl ?_
    refine ex_putfN (q := 1) (w1 := (WA (6,L) 26 (sI 22 (0 : Int32) (sI 20 (0 : Int32) (sR 15 h (sR 14 g (sR 13 f (sI 18 0 (sI 17 0 (sI 16 0 (sI 0 (0 : Int32) σ2))))))))))) (np := 84) C hc_X1 hin_X1 (by decide) tyX1_ok nmX1 tn_442 rfl (by decide +kernel) (WA_25 _ _ _) (Nat.le_of_ble_eq_true rfl) rfl rfl (WA_25_1 _ _ _ _) rfl ?_
    refine ex_iload_n (q := 1) (x := r1) (np := 85) C (by decide +kernel) rfl rfl ?_
    exact ex_iret C hr hlk (by decide +kernel) rfl (Nat.le_refl _) (Nat.le_refl _) (And.intro (by show _ = A_valley σ; unfold A_valley; exact Eq.symm ((ex_bd_eq q3).trans ((if_neg h5).trans (rfl)))) (by unfold A_vend; rw [q3]; exact Or.inr ⟨h5, f, g, h, rfl⟩))
  · skip
    refine ex_iconst (n := (-1)) (v := (-1)) (np := 30) C (by decide +kernel) (by decide) rfl ?_
    refine ex_aload_n (q := 0) (x := 0) (np := 31) C (by decide +kernel) rfl rfl ?_
    refine ex_getf (q := 0) (v := .ref 1) (np := 34) C hc_X10 hin_X10 (by decide) tg_584 (by decide +kernel) (WA_0 _ _ _) rfl rfl ?_
    refine ex_getfN (q := 13) (v := .int (σ2.1 10)) (np := 37) C hc_X4 hin_X4 (by decide) tn_257 (by decide +kernel) (WA_1 _ _ _) rfl rfl ?_
    refine ex_isub (v := ((-1 : Int32) - (σ2.1 10))) (np := 38) C (by decide +kernel) rfl rfl ?_
    exact ex_iret C hr hlk (by decide +kernel) rfl (Nat.le_refl _) (Nat.le_refl _) (And.intro (by show _ = A_valley σ; unfold A_valley; exact Eq.symm ((ex_bd_eq q3).trans ((if_pos h5).trans (rfl)))) (by unfold A_vend; rw [q3]; exact Or.inl ⟨h5, rfl⟩))
set_option maxRecDepth 100000 in
set_option maxHeartbeats 4000000 in
theorem m_X11_four {l : Launch} {X : ab_X} {D : va_G} {A : ex_A} (d : Nat) (hd : 1 ≤ d) (v : Int32) (σ : ex_S) (hI : (0 ≤ (σ.1 1).toInt ∧ (σ.1 1).toInt + 4 ≤ 940)) : ex_ctr l X D A d yX11_four cX11_four 3 none (WB σ) [.ref 0, .int v] (fun _ w => w = WB (B_four v σ)) := by
  obtain ⟨d, rfl⟩ : ∃ d9, d = d9 + 1 := ⟨d - 1, by omega⟩
  refine ex_meth (own := RX11) rfl (by decide) (Nat.le_of_ble_eq_true rfl) (fun p e R s m below meth c C hr hlk hd1 hd2 => ?_)
  show ex_ok p l e R s m _ below meth c 0 0 _ 3 X D A (WB σ) 0 [(0, .ref 0), (1, .int v)] []
  refine ex_bipush (n := 24) (v := 24) (np := 2) C (by decide +kernel) (by decide) rfl ?_
  refine ex_istore_n (q := 2) (np := 3) (lv1 := [(2, .int (24 : Int32)), (0, .ref 0), (1, .int v)]) C (by decide) (by decide +kernel) rfl rfl ?_
  refine ex_iload_n (q := 2) (x := (24 : Int32)) (np := 4) C (by decide +kernel) rfl rfl ?_
  refine ex_if_lt (off := 32) (tgt := 36) (np := 7) C (by decide +kernel) (by decide) rfl (fun h1 => ?_) (fun h1 => ?_)
  · skip
    exact absurd h1 (by decide)
  · skip
    refine ex_aload_n (q := 0) (x := 0) (np := 8) C (by decide +kernel) rfl rfl ?_
    refine ex_getf (q := 1) (v := .ref 1) (np := 11) C hc_X11 hin_X11 (by decide) tg_1376 (by decide +kernel) (WB_0 _) rfl rfl ?_
    refine ex_aload_n (q := 0) (x := 0) (np := 12) C (by decide +kernel) rfl rfl ?_
    refine ex_getf (q := 2) (v := .int (σ.1 1)) (np := 15) C hc_X11 hin_X11 (by decide) tg_1377 (by decide +kernel) (WB_0 _) rfl rfl ?_
    refine ex_iload_n (q := 1) (x := v) (np := 16) C (by decide +kernel) rfl rfl ?_
    refine ex_iload_n (q := 2) (x := (24 : Int32)) (np := 17) C (by decide +kernel) rfl rfl ?_
    refine ex_ishr (v := (v >>> ((24 : Int32) &&& 31))) (np := 18) C (by decide +kernel) rfl rfl ?_
    refine ex_i2b (np := 19) C (by decide +kernel) rfl ?_
    refine ex_bast (f := (σ.2.2.1 0)) (kk := ((σ.1 1)).toNatClampNeg) (w1 := (WB (sR 0 (upd (σ.2.2.1 0) ((σ.1 1)).toNatClampNeg (vp_nar .byte (v >>> ((24 : Int32) &&& 31)).toInt8.toInt32)) σ))) (np := 20) C (by decide +kernel) (WB_1 _) (by have z9 := ex_4 hI; have e9 : (940 : Int32).toInt = 940 := (by decide); omega) rfl (WB_1_s _ _) rfl ?_
    refine ex_aload_n (q := 0) (x := 0) (np := 21) C (by decide +kernel) rfl rfl ?_
    refine ex_dup (np := 22) C rfl (by decide +kernel) rfl ?_
    refine ex_getf (q := 2) (v := .int (σ.1 1)) (np := 25) C hc_X11 hin_X11 (by decide) tg_1377 (by decide +kernel) (WB_0 _) rfl rfl ?_
    refine ex_iconst (n := 1) (v := 1) (np := 26) C (by decide +kernel) (by decide) rfl ?_
    refine ex_iadd (v := ((σ.1 1) + (1 : Int32))) (np := 27) C (by decide +kernel) rfl rfl ?_
    refine ex_putf (q := 2) (w1 := (WB (sI 1 ((σ.1 1) + (1 : Int32)) (sR 0 (upd (σ.2.2.1 0) ((σ.1 1)).toNatClampNeg (vp_nar .byte (v >>> ((24 : Int32) &&& 31)).toInt8.toInt32)) σ)))) (np := 30) C hc_X11 hin_X11 (by decide) tyX11_ok nmX11 tg_1377 rfl (by decide +kernel) (WB_0 _) (Nat.le_of_ble_eq_true rfl) rfl rfl (WB_0_2 _ _) rfl ?_
    refine ex_iinc (i := 2) (n := (-8)) (x := (24 : Int32)) (v := (16 : Int32)) (np := 33) (lv1 := [(2, .int (16 : Int32)), (0, .ref 0), (1, .int v)]) C (by decide) (by decide +kernel) rfl (by decide) rfl rfl ?_
    refine ex_goto (off := (-30)) (tgt := 3) C (by decide +kernel) (by decide) ?_
    refine ex_iload_n (q := 2) (x := (16 : Int32)) (np := 4) C (by decide +kernel) rfl rfl ?_
    refine ex_if_lt (off := 32) (tgt := 36) (np := 7) C (by decide +kernel) (by decide) rfl (fun h2 => ?_) (fun h2 => ?_)
    · skip
      exact absurd h2 (by decide)
    · skip
      refine ex_aload_n (q := 0) (x := 0) (np := 8) C (by decide +kernel) rfl rfl ?_
      refine ex_getf (q := 1) (v := .ref 1) (np := 11) C hc_X11 hin_X11 (by decide) tg_1376 (by decide +kernel) (WB_0 _) rfl rfl ?_
      refine ex_aload_n (q := 0) (x := 0) (np := 12) C (by decide +kernel) rfl rfl ?_
      refine ex_getf (q := 2) (v := .int ((σ.1 1) + (1 : Int32))) (np := 15) C hc_X11 hin_X11 (by decide) tg_1377 (by decide +kernel) (WB_0 _) rfl rfl ?_
      refine ex_iload_n (q := 1) (x := v) (np := 16) C (by decide +kernel) rfl rfl ?_
      refine ex_iload_n (q := 2) (x := (16 : Int32)) (np := 17) C (by decide +kernel) rfl rfl ?_
      refine ex_ishr (v := (v >>> ((16 : Int32) &&& 31))) (np := 18) C (by decide +kernel) rfl rfl ?_
      refine ex_i2b (np := 19) C (by decide +kernel) rfl ?_
      refine ex_bast (f := (upd (σ.2.2.1 0) ((σ.1 1)).toNatClampNeg (vp_nar .byte (v >>> ((24 : Int32) &&& 31)).toInt8.toInt32))) (kk := (((σ.1 1) + (1 : Int32))).toNatClampNeg) (w1 := (WB (sR 0 (upd (upd (σ.2.2.1 0) ((σ.1 1)).toNatClampNeg (vp_nar .byte (v >>> ((24 : Int32) &&& 31)).toInt8.toInt32)) (((σ.1 1) + (1 : Int32))).toNatClampNeg (vp_nar .byte (v >>> ((16 : Int32) &&& 31)).toInt8.toInt32)) (sI 1 ((σ.1 1) + (1 : Int32)) (sR 0 (upd (σ.2.2.1 0) ((σ.1 1)).toNatClampNeg (vp_nar .byte (v >>> ((24 : Int32) &&& 31)).toInt8.toInt32)) σ))))) (np := 20) C (by decide +kernel) (WB_1 _) (by have z9 := ex_4 hI; have e9 : (940 : Int32).toInt = 940 := (by decide); omega) rfl (WB_1_s _ _) rfl ?_
      refine ex_aload_n (q := 0) (x := 0) (np := 21) C (by decide +kernel) rfl rfl ?_
      refine ex_dup (np := 22) C rfl (by decide +kernel) rfl ?_
      refine ex_getf (q := 2) (v := .int ((σ.1 1) + (1 : Int32))) (np := 25) C hc_X11 hin_X11 (by decide) tg_1377 (by decide +kernel) (WB_0 _) rfl rfl ?_
      refine ex_iconst (n := 1) (v := 1) (np := 26) C (by decide +kernel) (by decide) rfl ?_
      refine ex_iadd (v := (((σ.1 1) + (1 : Int32)) + (1 : Int32))) (np := 27) C (by decide +kernel) rfl rfl ?_
      refine ex_putf (q := 2) (w1 := (WB (sI 1 (((σ.1 1) + (1 : Int32)) + (1 : Int32)) (sR 0 (upd (upd (σ.2.2.1 0) ((σ.1 1)).toNatClampNeg (vp_nar .byte (v >>> ((24 : Int32) &&& 31)).toInt8.toInt32)) (((σ.1 1) + (1 : Int32))).toNatClampNeg (vp_nar .byte (v >>> ((16 : Int32) &&& 31)).toInt8.toInt32)) (sI 1 ((σ.1 1) + (1 : Int32)) (sR 0 (upd (σ.2.2.1 0) ((σ.1 1)).toNatClampNeg (vp_nar .byte (v >>> ((24 : Int32) &&& 31)).toInt8.toInt32)) σ)))))) (np := 30) C hc_X11 hin_X11 (by decide) tyX11_ok nmX11 tg_1377 rfl (by decide +kernel) (WB_0 _) (Nat.le_of_ble_eq_true rfl) rfl rfl (WB_0_2 _ _) rfl ?_
      refine ex_iinc (i := 2) (n := (-8)) (x := (16 : Int32)) (v := (8 : Int32)) (np := 33) (lv1 := [(2, .int (8 : Int32)), (0, .ref 0), (1, .int v)]) C (by decide) (by decide +kernel) rfl (by decide) rfl rfl ?_
      refine ex_goto (off := (-30)) (tgt := 3) C (by decide +kernel) (by decide) ?_
      refine ex_iload_n (q := 2) (x := (8 : Int32)) (np := 4) C (by decide +kernel) rfl rfl ?_
      refine ex_if_lt (off := 32) (tgt := 36) (np := 7) C (by decide +kernel) (by decide) rfl (fun h3 => ?_) (fun h3 => ?_)
      · skip
        exact absurd h3 (by decide)
      · skip
        refine ex_aload_n (q := 0) (x := 0) (np := 8) C (by decide +kernel) rfl rfl ?_
        refine ex_getf (q := 1) (v := .ref 1) (np := 11) C hc_X11 hin_X11 (by decide) tg_1376 (by decide +kernel) (WB_0 _) rfl rfl ?_
        refine ex_aload_n (q := 0) (x := 0) (np := 12) C (by decide +kernel) rfl rfl ?_
        refine ex_getf (q := 2) (v := .int (((σ.1 1) + (1 : Int32)) + (1 : Int32))) (np := 15) C hc_X11 hin_X11 (by decide) tg_1377 (by decide +kernel) (WB_0 _) rfl rfl ?_
        refine ex_iload_n (q := 1) (x := v) (np := 16) C (by decide +kernel) rfl rfl ?_
        refine ex_iload_n (q := 2) (x := (8 : Int32)) (np := 17) C (by decide +kernel) rfl rfl ?_
        refine ex_ishr (v := (v >>> ((8 : Int32) &&& 31))) (np := 18) C (by decide +kernel) rfl rfl ?_
        refine ex_i2b (np := 19) C (by decide +kernel) rfl ?_
        refine ex_bast (f := (upd (upd (σ.2.2.1 0) ((σ.1 1)).toNatClampNeg (vp_nar .byte (v >>> ((24 : Int32) &&& 31)).toInt8.toInt32)) (((σ.1 1) + (1 : Int32))).toNatClampNeg (vp_nar .byte (v >>> ((16 : Int32) &&& 31)).toInt8.toInt32))) (kk := ((((σ.1 1) + (1 : Int32)) + (1 : Int32))).toNatClampNeg) (w1 := (WB (sR 0 (upd (upd (upd (σ.2.2.1 0) ((σ.1 1)).toNatClampNeg (vp_nar .byte (v >>> ((24 : Int32) &&& 31)).toInt8.toInt32)) (((σ.1 1) + (1 : Int32))).toNatClampNeg (vp_nar .byte (v >>> ((16 : Int32) &&& 31)).toInt8.toInt32)) ((((σ.1 1) + (1 : Int32)) + (1 : Int32))).toNatClampNeg (vp_nar .byte (v >>> ((8 : Int32) &&& 31)).toInt8.toInt32)) (sI 1 (((σ.1 1) + (1 : Int32)) + (1 : Int32)) (sR 0 (upd (upd (σ.2.2.1 0) ((σ.1 1)).toNatClampNeg (vp_nar .byte (v >>> ((24 : Int32) &&& 31)).toInt8.toInt32)) (((σ.1 1) + (1 : Int32))).toNatClampNeg (vp_nar .byte (v >>> ((16 : Int32) &&& 31)).toInt8.toInt32)) (sI 1 ((σ.1 1) + (1 : Int32)) (sR 0 (upd (σ.2.2.1 0) ((σ.1 1)).toNatClampNeg (vp_nar .byte (v >>> ((24 : Int32) &&& 31)).toInt8.toInt32)) σ))))))) (np := 20) C (by decide +kernel) (WB_1 _) (by have z9 := ex_4 hI; have e9 : (940 : Int32).toInt = 940 := (by decide); omega) rfl (WB_1_s _ _) rfl ?_
        refine ex_aload_n (q := 0) (x := 0) (np := 21) C (by decide +kernel) rfl rfl ?_
        refine ex_dup (np := 22) C rfl (by decide +kernel) rfl ?_
        refine ex_getf (q := 2) (v := .int (((σ.1 1) + (1 : Int32)) + (1 : Int32))) (np := 25) C hc_X11 hin_X11 (by decide) tg_1377 (by decide +kernel) (WB_0 _) rfl rfl ?_
        refine ex_iconst (n := 1) (v := 1) (np := 26) C (by decide +kernel) (by decide) rfl ?_
        refine ex_iadd (v := ((((σ.1 1) + (1 : Int32)) + (1 : Int32)) + (1 : Int32))) (np := 27) C (by decide +kernel) rfl rfl ?_
        refine ex_putf (q := 2) (w1 := (WB (sI 1 ((((σ.1 1) + (1 : Int32)) + (1 : Int32)) + (1 : Int32)) (sR 0 (upd (upd (upd (σ.2.2.1 0) ((σ.1 1)).toNatClampNeg (vp_nar .byte (v >>> ((24 : Int32) &&& 31)).toInt8.toInt32)) (((σ.1 1) + (1 : Int32))).toNatClampNeg (vp_nar .byte (v >>> ((16 : Int32) &&& 31)).toInt8.toInt32)) ((((σ.1 1) + (1 : Int32)) + (1 : Int32))).toNatClampNeg (vp_nar .byte (v >>> ((8 : Int32) &&& 31)).toInt8.toInt32)) (sI 1 (((σ.1 1) + (1 : Int32)) + (1 : Int32)) (sR 0 (upd (upd (σ.2.2.1 0) ((σ.1 1)).toNatClampNeg (vp_nar .byte (v >>> ((24 : Int32) &&& 31)).toInt8.toInt32)) (((σ.1 1) + (1 : Int32))).toNatClampNeg (vp_nar .byte (v >>> ((16 : Int32) &&& 31)).toInt8.toInt32)) (sI 1 ((σ.1 1) + (1 : Int32)) (sR 0 (upd (σ.2.2.1 0) ((σ.1 1)).toNatClampNeg (vp_nar .byte (v >>> ((24 : Int32) &&& 31)).toInt8.toInt32)) σ)))))))) (np := 30) C hc_X11 hin_X11 (by decide) tyX11_ok nmX11 tg_1377 rfl (by decide +kernel) (WB_0 _) (Nat.le_of_ble_eq_true rfl) rfl rfl (WB_0_2 _ _) rfl ?_
        refine ex_iinc (i := 2) (n := (-8)) (x := (8 : Int32)) (v := (0 : Int32)) (np := 33) (lv1 := [(2, .int (0 : Int32)), (0, .ref 0), (1, .int v)]) C (by decide) (by decide +kernel) rfl (by decide) rfl rfl ?_
        refine ex_goto (off := (-30)) (tgt := 3) C (by decide +kernel) (by decide) ?_
        refine ex_iload_n (q := 2) (x := (0 : Int32)) (np := 4) C (by decide +kernel) rfl rfl ?_
        refine ex_if_lt (off := 32) (tgt := 36) (np := 7) C (by decide +kernel) (by decide) rfl (fun h4 => ?_) (fun h4 => ?_)
        · skip
          exact absurd h4 (by decide)
        · skip
          refine ex_aload_n (q := 0) (x := 0) (np := 8) C (by decide +kernel) rfl rfl ?_
          refine ex_getf (q := 1) (v := .ref 1) (np := 11) C hc_X11 hin_X11 (by decide) tg_1376 (by decide +kernel) (WB_0 _) rfl rfl ?_
          refine ex_aload_n (q := 0) (x := 0) (np := 12) C (by decide +kernel) rfl rfl ?_
          refine ex_getf (q := 2) (v := .int ((((σ.1 1) + (1 : Int32)) + (1 : Int32)) + (1 : Int32))) (np := 15) C hc_X11 hin_X11 (by decide) tg_1377 (by decide +kernel) (WB_0 _) rfl rfl ?_
          refine ex_iload_n (q := 1) (x := v) (np := 16) C (by decide +kernel) rfl rfl ?_
          refine ex_iload_n (q := 2) (x := (0 : Int32)) (np := 17) C (by decide +kernel) rfl rfl ?_
          refine ex_ishr (v := (v >>> ((0 : Int32) &&& 31))) (np := 18) C (by decide +kernel) rfl rfl ?_
          refine ex_i2b (np := 19) C (by decide +kernel) rfl ?_
          refine ex_bast (f := (upd (upd (upd (σ.2.2.1 0) ((σ.1 1)).toNatClampNeg (vp_nar .byte (v >>> ((24 : Int32) &&& 31)).toInt8.toInt32)) (((σ.1 1) + (1 : Int32))).toNatClampNeg (vp_nar .byte (v >>> ((16 : Int32) &&& 31)).toInt8.toInt32)) ((((σ.1 1) + (1 : Int32)) + (1 : Int32))).toNatClampNeg (vp_nar .byte (v >>> ((8 : Int32) &&& 31)).toInt8.toInt32))) (kk := (((((σ.1 1) + (1 : Int32)) + (1 : Int32)) + (1 : Int32))).toNatClampNeg) (w1 := (WB (sR 0 (upd (upd (upd (upd (σ.2.2.1 0) ((σ.1 1)).toNatClampNeg (vp_nar .byte (v >>> ((24 : Int32) &&& 31)).toInt8.toInt32)) (((σ.1 1) + (1 : Int32))).toNatClampNeg (vp_nar .byte (v >>> ((16 : Int32) &&& 31)).toInt8.toInt32)) ((((σ.1 1) + (1 : Int32)) + (1 : Int32))).toNatClampNeg (vp_nar .byte (v >>> ((8 : Int32) &&& 31)).toInt8.toInt32)) (((((σ.1 1) + (1 : Int32)) + (1 : Int32)) + (1 : Int32))).toNatClampNeg (vp_nar .byte (v >>> ((0 : Int32) &&& 31)).toInt8.toInt32)) (sI 1 ((((σ.1 1) + (1 : Int32)) + (1 : Int32)) + (1 : Int32)) (sR 0 (upd (upd (upd (σ.2.2.1 0) ((σ.1 1)).toNatClampNeg (vp_nar .byte (v >>> ((24 : Int32) &&& 31)).toInt8.toInt32)) (((σ.1 1) + (1 : Int32))).toNatClampNeg (vp_nar .byte (v >>> ((16 : Int32) &&& 31)).toInt8.toInt32)) ((((σ.1 1) + (1 : Int32)) + (1 : Int32))).toNatClampNeg (vp_nar .byte (v >>> ((8 : Int32) &&& 31)).toInt8.toInt32)) (sI 1 (((σ.1 1) + (1 : Int32)) + (1 : Int32)) (sR 0 (upd (upd (σ.2.2.1 0) ((σ.1 1)).toNatClampNeg (vp_nar .byte (v >>> ((24 : Int32) &&& 31)).toInt8.toInt32)) (((σ.1 1) + (1 : Int32))).toNatClampNeg (vp_nar .byte (v >>> ((16 : Int32) &&& 31)).toInt8.toInt32)) (sI 1 ((σ.1 1) + (1 : Int32)) (sR 0 (upd (σ.2.2.1 0) ((σ.1 1)).toNatClampNeg (vp_nar .byte (v >>> ((24 : Int32) &&& 31)).toInt8.toInt32)) σ))))))))) (np := 20) C (by decide +kernel) (WB_1 _) (by have z9 := ex_4 hI; have e9 : (940 : Int32).toInt = 940 := (by decide); omega) rfl (WB_1_s _ _) rfl ?_
          refine ex_aload_n (q := 0) (x := 0) (np := 21) C (by decide +kernel) rfl rfl ?_
          refine ex_dup (np := 22) C rfl (by decide +kernel) rfl ?_
          refine ex_getf (q := 2) (v := .int ((((σ.1 1) + (1 : Int32)) + (1 : Int32)) + (1 : Int32))) (np := 25) C hc_X11 hin_X11 (by decide) tg_1377 (by decide +kernel) (WB_0 _) rfl rfl ?_
          refine ex_iconst (n := 1) (v := 1) (np := 26) C (by decide +kernel) (by decide) rfl ?_
          refine ex_iadd (v := (((((σ.1 1) + (1 : Int32)) + (1 : Int32)) + (1 : Int32)) + (1 : Int32))) (np := 27) C (by decide +kernel) rfl rfl ?_
          refine ex_putf (q := 2) (w1 := (WB (sI 1 (((((σ.1 1) + (1 : Int32)) + (1 : Int32)) + (1 : Int32)) + (1 : Int32)) (sR 0 (upd (upd (upd (upd (σ.2.2.1 0) ((σ.1 1)).toNatClampNeg (vp_nar .byte (v >>> ((24 : Int32) &&& 31)).toInt8.toInt32)) (((σ.1 1) + (1 : Int32))).toNatClampNeg (vp_nar .byte (v >>> ((16 : Int32) &&& 31)).toInt8.toInt32)) ((((σ.1 1) + (1 : Int32)) + (1 : Int32))).toNatClampNeg (vp_nar .byte (v >>> ((8 : Int32) &&& 31)).toInt8.toInt32)) (((((σ.1 1) + (1 : Int32)) + (1 : Int32)) + (1 : Int32))).toNatClampNeg (vp_nar .byte (v >>> ((0 : Int32) &&& 31)).toInt8.toInt32)) (sI 1 ((((σ.1 1) + (1 : Int32)) + (1 : Int32)) + (1 : Int32)) (sR 0 (upd (upd (upd (σ.2.2.1 0) ((σ.1 1)).toNatClampNeg (vp_nar .byte (v >>> ((24 : Int32) &&& 31)).toInt8.toInt32)) (((σ.1 1) + (1 : Int32))).toNatClampNeg (vp_nar .byte (v >>> ((16 : Int32) &&& 31)).toInt8.toInt32)) ((((σ.1 1) + (1 : Int32)) + (1 : Int32))).toNatClampNeg (vp_nar .byte (v >>> ((8 : Int32) &&& 31)).toInt8.toInt32)) (sI 1 (((σ.1 1) + (1 : Int32)) + (1 : Int32)) (sR 0 (upd (upd (σ.2.2.1 0) ((σ.1 1)).toNatClampNeg (vp_nar .byte (v >>> ((24 : Int32) &&& 31)).toInt8.toInt32)) (((σ.1 1) + (1 : Int32))).toNatClampNeg (vp_nar .byte (v >>> ((16 : Int32) &&& 31)).toInt8.toInt32)) (sI 1 ((σ.1 1) + (1 : Int32)) (sR 0 (upd (σ.2.2.1 0) ((σ.1 1)).toNatClampNeg (vp_nar .byte (v >>> ((24 : Int32) &&& 31)).toInt8.toInt32)) σ)))))))))) (np := 30) C hc_X11 hin_X11 (by decide) tyX11_ok nmX11 tg_1377 rfl (by decide +kernel) (WB_0 _) (Nat.le_of_ble_eq_true rfl) rfl rfl (WB_0_2 _ _) rfl ?_
          refine ex_iinc (i := 2) (n := (-8)) (x := (0 : Int32)) (v := (-8 : Int32)) (np := 33) (lv1 := [(2, .int (-8 : Int32)), (0, .ref 0), (1, .int v)]) C (by decide) (by decide +kernel) rfl (by decide) rfl rfl ?_
          refine ex_goto (off := (-30)) (tgt := 3) C (by decide +kernel) (by decide) ?_
          refine ex_iload_n (q := 2) (x := (-8 : Int32)) (np := 4) C (by decide +kernel) rfl rfl ?_
          refine ex_if_lt (off := 32) (tgt := 36) (np := 7) C (by decide +kernel) (by decide) rfl (fun h5 => ?_) (fun h5 => ?_)
          · skip
            refine ex_vret C hr hlk (by decide +kernel) (Nat.le_refl _) (Nat.le_refl _) ?_
            have E9 : B_four v σ = (sI 1 (((((σ.1 1) + (1 : Int32)) + (1 : Int32)) + (1 : Int32)) + (1 : Int32)) (sR 0 (upd (upd (upd (upd (σ.2.2.1 0) ((σ.1 1)).toNatClampNeg (vp_nar .byte (v >>> ((24 : Int32) &&& 31)).toInt8.toInt32)) (((σ.1 1) + (1 : Int32))).toNatClampNeg (vp_nar .byte (v >>> ((16 : Int32) &&& 31)).toInt8.toInt32)) ((((σ.1 1) + (1 : Int32)) + (1 : Int32))).toNatClampNeg (vp_nar .byte (v >>> ((8 : Int32) &&& 31)).toInt8.toInt32)) (((((σ.1 1) + (1 : Int32)) + (1 : Int32)) + (1 : Int32))).toNatClampNeg (vp_nar .byte (v >>> ((0 : Int32) &&& 31)).toInt8.toInt32)) (sI 1 ((((σ.1 1) + (1 : Int32)) + (1 : Int32)) + (1 : Int32)) (sR 0 (upd (upd (upd (σ.2.2.1 0) ((σ.1 1)).toNatClampNeg (vp_nar .byte (v >>> ((24 : Int32) &&& 31)).toInt8.toInt32)) (((σ.1 1) + (1 : Int32))).toNatClampNeg (vp_nar .byte (v >>> ((16 : Int32) &&& 31)).toInt8.toInt32)) ((((σ.1 1) + (1 : Int32)) + (1 : Int32))).toNatClampNeg (vp_nar .byte (v >>> ((8 : Int32) &&& 31)).toInt8.toInt32)) (sI 1 (((σ.1 1) + (1 : Int32)) + (1 : Int32)) (sR 0 (upd (upd (σ.2.2.1 0) ((σ.1 1)).toNatClampNeg (vp_nar .byte (v >>> ((24 : Int32) &&& 31)).toInt8.toInt32)) (((σ.1 1) + (1 : Int32))).toNatClampNeg (vp_nar .byte (v >>> ((16 : Int32) &&& 31)).toInt8.toInt32)) (sI 1 ((σ.1 1) + (1 : Int32)) (sR 0 (upd (σ.2.2.1 0) ((σ.1 1)).toNatClampNeg (vp_nar .byte (v >>> ((24 : Int32) &&& 31)).toInt8.toInt32)) σ)))))))) := by unfold B_four; exact rfl
            rw [E9]
          · skip
            exact absurd (by decide) h5
set_option maxRecDepth 100000 in
set_option maxHeartbeats 4000000 in
theorem m_X11_feed {l : Launch} {X : ab_X} {D : va_G} {A : ex_A} (d : Nat) (hd : 2 ≤ d) (v1 : Int32) (v2 : Int32) (v3 : Int32) (v4 : Int32) (v5 : Int32) (σ : ex_S) (hI : (0 ≤ (σ.1 1).toInt ∧ (σ.1 1).toInt ≤ 940)) : ex_ctr l X D A d yX11_feed cX11_feed 6 (some .int) (WB σ) [.ref 0, .int v1, .int v2, .int v3, .int v4, .int v5] (fun r w => r = (B_feed v1 v2 v3 v4 v5 σ).1 ∧ w = WB (B_feed v1 v2 v3 v4 v5 σ).2) := by
  obtain ⟨d, rfl⟩ : ∃ d9, d = d9 + 1 := ⟨d - 1, by omega⟩
  refine ex_meth (own := RX11) rfl (by decide) (Nat.le_of_ble_eq_true rfl) (fun p e R s m below meth c C hr hlk hd1 hd2 => ?_)
  show ex_ok p l e R s m _ below meth c 0 0 _ 6 X D A (WB σ) 0 [(0, .ref 0), (1, .int v1), (2, .int v2), (3, .int v3), (4, .int v4), (5, .int v5)] []
  refine ex_aload_n (q := 0) (x := 0) (np := 1) C (by decide +kernel) rfl rfl ?_
  refine ex_iconst (n := 0) (v := 0) (np := 2) C (by decide +kernel) (by decide) rfl ?_
  refine ex_putf (q := 0) (w1 := (WB (sI 0 (0 : Int32) σ))) (np := 5) C hc_X11 hin_X11 (by decide) tyX11_ok nmX11 tg_1375 rfl (by decide +kernel) (WB_0 _) (Nat.le_of_ble_eq_true rfl) rfl rfl (WB_0_0 _ _) rfl ?_
  refine ex_aload_n (q := 0) (x := 0) (np := 6) C (by decide +kernel) rfl rfl ?_
  refine ex_getf (q := 2) (v := .int (σ.1 1)) (np := 9) C hc_X11 hin_X11 (by decide) tg_1377 (by decide +kernel) (WB_0 _) rfl rfl ?_
  refine ex_bipush (n := 20) (v := 20) (np := 11) C (by decide +kernel) (by decide) rfl ?_
  refine ex_iadd (v := ((σ.1 1) + (20 : Int32))) (np := 12) C (by decide +kernel) rfl rfl ?_
  refine ex_sipush (n := 940) (v := 940) (np := 15) C (by decide +kernel) (by decide) rfl ?_
  refine ex_icmp_le (off := 5) (tgt := 20) (np := 18) C (by decide +kernel) (by decide) rfl (fun h1 => ?_) (fun h1 => ?_)
  · skip
    refine ex_aload_n (q := 0) (x := 0) (np := 21) C (by decide +kernel) rfl rfl ?_
    refine ex_iload_n (q := 1) (x := v1) (np := 22) C (by decide +kernel) rfl rfl ?_
    obtain ⟨σ2, q3⟩ : ∃ x, x = B_four v1 (sI 0 (0 : Int32) σ) := ⟨_, rfl⟩
    refine ex_call_v (np := 25) (fun ws H locs ls hR hsz => ex_runV (C1 := "") C (m_X11_four d (by omega) v1 (sI 0 (0 : Int32) σ) (by have s9 := ex_20 hI; have e9 : (940 : Int32).toInt = 940 := (by decide); have e8 : ((sI 0 (0 : Int32) σ).1 1).toInt = (σ.1 1).toInt := rfl; omega)) hd1 hd2 (by decide) hy_X11_four tg_1339 hc_X11 rfl (WB_0 _) rfl rfl (Nat.le_of_ble_eq_true rfl) rfl tg_1335 tg_1337 tg_80 tg_158 (by decide +kernel) ws H locs ls hR hsz (Nat.zero_le _) (Nat.zero_le _)) rfl (fun w1 hpo => ?_)
    rw [← q3] at hpo
    subst hpo
    have hI4 := inv_X11_four v1 (sI 0 (0 : Int32) σ) (by have s9 := ex_20 hI; have e9 : (940 : Int32).toInt = 940 := (by decide); have e8 : ((sI 0 (0 : Int32) σ).1 1).toInt = (σ.1 1).toInt := rfl; omega); rw [← q3] at hI4
    refine ex_aload_n (q := 0) (x := 0) (np := 26) C (by decide +kernel) rfl rfl ?_
    refine ex_iload_n (q := 2) (x := v2) (np := 27) C (by decide +kernel) rfl rfl ?_
    obtain ⟨σ5, q6⟩ : ∃ x, x = B_four v2 σ2 := ⟨_, rfl⟩
    refine ex_call_v (np := 30) (fun ws H locs ls hR hsz => ex_runV (C1 := "") C (m_X11_four d (by omega) v2 σ2 (by have s9 := ex_20 hI; have e9 : (940 : Int32).toInt = 940 := (by decide); have e8 : ((sI 0 (0 : Int32) σ).1 1).toInt = (σ.1 1).toInt := rfl; omega)) hd1 hd2 (by decide) hy_X11_four tg_1339 hc_X11 rfl (WB_0 _) rfl rfl (Nat.le_of_ble_eq_true rfl) rfl tg_1335 tg_1337 tg_80 tg_158 (by decide +kernel) ws H locs ls hR hsz (Nat.zero_le _) (Nat.zero_le _)) rfl (fun w1 hpo => ?_)
    rw [← q6] at hpo
    subst hpo
    have hI7 := inv_X11_four v2 σ2 (by have s9 := ex_20 hI; have e9 : (940 : Int32).toInt = 940 := (by decide); have e8 : ((sI 0 (0 : Int32) σ).1 1).toInt = (σ.1 1).toInt := rfl; omega); rw [← q6] at hI7
    refine ex_aload_n (q := 0) (x := 0) (np := 31) C (by decide +kernel) rfl rfl ?_
    refine ex_iload_n (q := 3) (x := v3) (np := 32) C (by decide +kernel) rfl rfl ?_
    obtain ⟨σ8, q10⟩ : ∃ x, x = B_four v3 σ5 := ⟨_, rfl⟩
    refine ex_call_v (np := 35) (fun ws H locs ls hR hsz => ex_runV (C1 := "") C (m_X11_four d (by omega) v3 σ5 (by have s9 := ex_20 hI; have e9 : (940 : Int32).toInt = 940 := (by decide); have e8 : ((sI 0 (0 : Int32) σ).1 1).toInt = (σ.1 1).toInt := rfl; omega)) hd1 hd2 (by decide) hy_X11_four tg_1339 hc_X11 rfl (WB_0 _) rfl rfl (Nat.le_of_ble_eq_true rfl) rfl tg_1335 tg_1337 tg_80 tg_158 (by decide +kernel) ws H locs ls hR hsz (Nat.zero_le _) (Nat.zero_le _)) rfl (fun w1 hpo => ?_)
    rw [← q10] at hpo
    subst hpo
    have hI11 := inv_X11_four v3 σ5 (by have s9 := ex_20 hI; have e9 : (940 : Int32).toInt = 940 := (by decide); have e8 : ((sI 0 (0 : Int32) σ).1 1).toInt = (σ.1 1).toInt := rfl; omega); rw [← q10] at hI11
    refine ex_aload_n (q := 0) (x := 0) (np := 36) C (by decide +kernel) rfl rfl ?_
    refine ex_iload (i := 4) (x := v4) (np := 38) C (by decide +kernel) rfl rfl ?_
    obtain ⟨σ12, q13⟩ : ∃ x, x = B_four v4 σ8 := ⟨_, rfl⟩
    refine ex_call_v (np := 41) (fun ws H locs ls hR hsz => ex_runV (C1 := "") C (m_X11_four d (by omega) v4 σ8 (by have s9 := ex_20 hI; have e9 : (940 : Int32).toInt = 940 := (by decide); have e8 : ((sI 0 (0 : Int32) σ).1 1).toInt = (σ.1 1).toInt := rfl; omega)) hd1 hd2 (by decide) hy_X11_four tg_1339 hc_X11 rfl (WB_0 _) rfl rfl (Nat.le_of_ble_eq_true rfl) rfl tg_1335 tg_1337 tg_80 tg_158 (by decide +kernel) ws H locs ls hR hsz (Nat.zero_le _) (Nat.zero_le _)) rfl (fun w1 hpo => ?_)
    rw [← q13] at hpo
    subst hpo
    have hI14 := inv_X11_four v4 σ8 (by have s9 := ex_20 hI; have e9 : (940 : Int32).toInt = 940 := (by decide); have e8 : ((sI 0 (0 : Int32) σ).1 1).toInt = (σ.1 1).toInt := rfl; omega); rw [← q13] at hI14
    refine ex_aload_n (q := 0) (x := 0) (np := 42) C (by decide +kernel) rfl rfl ?_
    refine ex_iload (i := 5) (x := v5) (np := 44) C (by decide +kernel) rfl rfl ?_
    obtain ⟨σ15, q16⟩ : ∃ x, x = B_four v5 σ12 := ⟨_, rfl⟩
    refine ex_call_v (np := 47) (fun ws H locs ls hR hsz => ex_runV (C1 := "") C (m_X11_four d (by omega) v5 σ12 (by have s9 := ex_20 hI; have e9 : (940 : Int32).toInt = 940 := (by decide); have e8 : ((sI 0 (0 : Int32) σ).1 1).toInt = (σ.1 1).toInt := rfl; omega)) hd1 hd2 (by decide) hy_X11_four tg_1339 hc_X11 rfl (WB_0 _) rfl rfl (Nat.le_of_ble_eq_true rfl) rfl tg_1335 tg_1337 tg_80 tg_158 (by decide +kernel) ws H locs ls hR hsz (Nat.zero_le _) (Nat.zero_le _)) rfl (fun w1 hpo => ?_)
    rw [← q16] at hpo
    subst hpo
    have hI17 := inv_X11_four v5 σ12 (by have s9 := ex_20 hI; have e9 : (940 : Int32).toInt = 940 := (by decide); have e8 : ((sI 0 (0 : Int32) σ).1 1).toInt = (σ.1 1).toInt := rfl; omega); rw [← q16] at hI17
    refine ex_aload_n (q := 0) (x := 0) (np := 48) C (by decide +kernel) rfl rfl ?_
    refine ex_getf (q := 2) (v := .int (σ15.1 1)) (np := 51) C hc_X11 hin_X11 (by decide) tg_1377 (by decide +kernel) (WB_0 _) rfl rfl ?_
    have E9 : B_feed v1 v2 v3 v4 v5 σ = ((σ15.1 1), σ15) := by unfold B_feed; exact (if_neg h1).trans ((ex_lt_eq q3).trans ((ex_lt_eq q6).trans ((ex_lt_eq q10).trans ((ex_lt_eq q13).trans ((ex_lt_eq q16).trans (rfl))))))
    exact ex_iret C hr hlk (by decide +kernel) rfl (Nat.le_refl _) (Nat.le_refl _) (by rw [E9]; exact ⟨rfl, rfl⟩)
  · skip
    refine ex_iconst (n := (-1)) (v := (-1)) (np := 19) C (by decide +kernel) (by decide) rfl ?_
    have E9 : B_feed v1 v2 v3 v4 v5 σ = ((-1 : Int32), (sI 0 (0 : Int32) σ)) := by unfold B_feed; exact (if_pos h1).trans (rfl)
    exact ex_iret C hr hlk (by decide +kernel) rfl (Nat.le_refl _) (Nat.le_refl _) (by rw [E9]; exact ⟨rfl, rfl⟩)
set_option maxRecDepth 100000 in
set_option maxHeartbeats 4000000 in
theorem m_X11_isIn {l : Launch} {X : ab_X} {D : va_G} {A : ex_A} (d : Nat) (hd : 1 ≤ d) (w0 : List ex_E) (v : Int32) (lo : Int32) (hi : Int32) : ex_ctr l X D A d yX11_isIn cX11_isIn 3 (some .boolean) w0 [.int v, .int lo, .int hi] (fun r w => r = B_isIn v lo hi ∧ w = w0) := by
  obtain ⟨d, rfl⟩ : ∃ d9, d = d9 + 1 := ⟨d - 1, by omega⟩
  refine ex_meth (own := RX11) rfl (by decide) (Nat.le_of_ble_eq_true rfl) (fun p e R s m below meth c C hr hlk hd1 hd2 => ?_)
  show ex_ok p l e R s m _ below meth c 0 0 _ 3 X D A w0 0 [(0, .int v), (1, .int lo), (2, .int hi)] []
  refine ex_iload_n (q := 0) (x := v) (np := 1) C (by decide +kernel) rfl rfl ?_
  refine ex_iload_n (q := 1) (x := lo) (np := 2) C (by decide +kernel) rfl rfl ?_
  refine ex_icmp_lt (off := 12) (tgt := 14) (np := 5) C (by decide +kernel) (by decide) rfl (fun h1 => ?_) (fun h1 => ?_)
  · skip
    refine ex_iconst (n := 0) (v := 0) (np := 15) C (by decide +kernel) (by decide) rfl ?_
    have E9 : B_isIn v lo hi = (0 : Int32) := by unfold B_isIn; exact (if_pos h1).trans (rfl)
    exact ex_iret C hr hlk (by decide +kernel) rfl (Nat.le_refl _) (Nat.le_refl _) ⟨E9.symm, rfl⟩
  · skip
    refine ex_iload_n (q := 0) (x := v) (np := 6) C (by decide +kernel) rfl rfl ?_
    refine ex_iload_n (q := 2) (x := hi) (np := 7) C (by decide +kernel) rfl rfl ?_
    refine ex_icmp_gt (off := 7) (tgt := 14) (np := 10) C (by decide +kernel) (by decide) rfl (fun h2 => ?_) (fun h2 => ?_)
    · skip
      refine ex_iconst (n := 0) (v := 0) (np := 15) C (by decide +kernel) (by decide) rfl ?_
      have E9 : B_isIn v lo hi = (0 : Int32) := by unfold B_isIn; exact (if_neg h1).trans ((if_pos h2).trans (rfl))
      exact ex_iret C hr hlk (by decide +kernel) rfl (Nat.le_refl _) (Nat.le_refl _) ⟨E9.symm, rfl⟩
    · skip
      refine ex_iconst (n := 1) (v := 1) (np := 11) C (by decide +kernel) (by decide) rfl ?_
      refine ex_goto (off := 4) (tgt := 15) C (by decide +kernel) (by decide) ?_
      have E9 : B_isIn v lo hi = (1 : Int32) := by unfold B_isIn; exact (if_neg h1).trans ((if_neg h2).trans (rfl))
      exact ex_iret C hr hlk (by decide +kernel) rfl (Nat.le_refl _) (Nat.le_refl _) ⟨E9.symm, rfl⟩
set_option maxRecDepth 100000 in
set_option maxHeartbeats 4000000 in
theorem m_X11_bitOf {l : Launch} {X : ab_X} {D : va_G} {A : ex_A} (d : Nat) (hd : 1 ≤ d) (w0 : List ex_E) (v : Int32) (k : Int32) : ex_ctr l X D A d yX11_bitOf cX11_bitOf 2 (some .boolean) w0 [.int v, .int k] (fun r w => r = B_bitOf v k ∧ w = w0) := by
  obtain ⟨d, rfl⟩ : ∃ d9, d = d9 + 1 := ⟨d - 1, by omega⟩
  refine ex_meth (own := RX11) rfl (by decide) (Nat.le_of_ble_eq_true rfl) (fun p e R s m below meth c C hr hlk hd1 hd2 => ?_)
  show ex_ok p l e R s m _ below meth c 0 0 _ 2 X D A w0 0 [(0, .int v), (1, .int k)] []
  refine ex_iload_n (q := 0) (x := v) (np := 1) C (by decide +kernel) rfl rfl ?_
  refine ex_iload_n (q := 1) (x := k) (np := 2) C (by decide +kernel) rfl rfl ?_
  refine ex_ishr (v := (v >>> (k &&& 31))) (np := 3) C (by decide +kernel) rfl rfl ?_
  refine ex_iconst (n := 1) (v := 1) (np := 4) C (by decide +kernel) (by decide) rfl ?_
  refine ex_iand (v := ((v >>> (k &&& 31)) &&& (1 : Int32))) (np := 5) C (by decide +kernel) rfl rfl ?_
  refine ex_iconst (n := 1) (v := 1) (np := 6) C (by decide +kernel) (by decide) rfl ?_
  refine ex_icmp_ne (off := 7) (tgt := 13) (np := 9) C (by decide +kernel) (by decide) rfl (fun h1 => ?_) (fun h1 => ?_)
  · skip
    refine ex_iconst (n := 0) (v := 0) (np := 14) C (by decide +kernel) (by decide) rfl ?_
    have E9 : B_bitOf v k = (0 : Int32) := by unfold B_bitOf; exact (if_neg h1).trans (rfl)
    exact ex_iret C hr hlk (by decide +kernel) rfl (Nat.le_refl _) (Nat.le_refl _) ⟨E9.symm, rfl⟩
  · skip
    refine ex_iconst (n := 1) (v := 1) (np := 10) C (by decide +kernel) (by decide) rfl ?_
    refine ex_goto (off := 4) (tgt := 14) C (by decide +kernel) (by decide) ?_
    have E9 : B_bitOf v k = (1 : Int32) := by unfold B_bitOf; exact (if_pos h1).trans (rfl)
    exact ex_iret C hr hlk (by decide +kernel) rfl (Nat.le_refl _) (Nat.le_refl _) ⟨E9.symm, rfl⟩
set_option maxRecDepth 100000 in
set_option maxHeartbeats 4000000 in
theorem m_X11_isSmall {l : Launch} {X : ab_X} {D : va_G} {A : ex_A} (d : Nat) (hd : 1 ≤ d) (w0 : List ex_E) (ch : Int32) : ex_ctr l X D A d yX11_isSmall cX11_isSmall 1 (some .boolean) w0 [.int ch] (fun r w => r = B_isSmall ch ∧ w = w0) := by
  obtain ⟨d, rfl⟩ : ∃ d9, d = d9 + 1 := ⟨d - 1, by omega⟩
  refine ex_meth (own := RX11) rfl (by decide) (Nat.le_of_ble_eq_true rfl) (fun p e R s m below meth c C hr hlk hd1 hd2 => ?_)
  show ex_ok p l e R s m _ below meth c 0 0 _ 1 X D A w0 0 [(0, .int ch)] []
  refine ex_iload_n (q := 0) (x := ch) (np := 1) C (by decide +kernel) rfl rfl ?_
  refine ex_bipush (n := 97) (v := 97) (np := 3) C (by decide +kernel) (by decide) rfl ?_
  refine ex_icmp_lt (off := 13) (tgt := 16) (np := 6) C (by decide +kernel) (by decide) rfl (fun h1 => ?_) (fun h1 => ?_)
  · skip
    refine ex_iconst (n := 0) (v := 0) (np := 17) C (by decide +kernel) (by decide) rfl ?_
    have E9 : B_isSmall ch = (0 : Int32) := by unfold B_isSmall; exact (if_pos h1).trans (rfl)
    exact ex_iret C hr hlk (by decide +kernel) rfl (Nat.le_refl _) (Nat.le_refl _) ⟨E9.symm, rfl⟩
  · skip
    refine ex_iload_n (q := 0) (x := ch) (np := 7) C (by decide +kernel) rfl rfl ?_
    refine ex_bipush (n := 122) (v := 122) (np := 9) C (by decide +kernel) (by decide) rfl ?_
    refine ex_icmp_gt (off := 7) (tgt := 16) (np := 12) C (by decide +kernel) (by decide) rfl (fun h2 => ?_) (fun h2 => ?_)
    · skip
      refine ex_iconst (n := 0) (v := 0) (np := 17) C (by decide +kernel) (by decide) rfl ?_
      have E9 : B_isSmall ch = (0 : Int32) := by unfold B_isSmall; exact (if_neg h1).trans ((if_pos h2).trans (rfl))
      exact ex_iret C hr hlk (by decide +kernel) rfl (Nat.le_refl _) (Nat.le_refl _) ⟨E9.symm, rfl⟩
    · skip
      refine ex_iconst (n := 1) (v := 1) (np := 13) C (by decide +kernel) (by decide) rfl ?_
      refine ex_goto (off := 4) (tgt := 17) C (by decide +kernel) (by decide) ?_
      have E9 : B_isSmall ch = (1 : Int32) := by unfold B_isSmall; exact (if_neg h1).trans ((if_neg h2).trans (rfl))
      exact ex_iret C hr hlk (by decide +kernel) rfl (Nat.le_refl _) (Nat.le_refl _) ⟨E9.symm, rfl⟩
set_option maxRecDepth 100000 in
set_option maxHeartbeats 4000000 in
theorem m_X11_isDigit {l : Launch} {X : ab_X} {D : va_G} {A : ex_A} (d : Nat) (hd : 1 ≤ d) (w0 : List ex_E) (ch : Int32) : ex_ctr l X D A d yX11_isDigit cX11_isDigit 1 (some .boolean) w0 [.int ch] (fun r w => r = B_isDigit ch ∧ w = w0) := by
  obtain ⟨d, rfl⟩ : ∃ d9, d = d9 + 1 := ⟨d - 1, by omega⟩
  refine ex_meth (own := RX11) rfl (by decide) (Nat.le_of_ble_eq_true rfl) (fun p e R s m below meth c C hr hlk hd1 hd2 => ?_)
  show ex_ok p l e R s m _ below meth c 0 0 _ 1 X D A w0 0 [(0, .int ch)] []
  refine ex_iload_n (q := 0) (x := ch) (np := 1) C (by decide +kernel) rfl rfl ?_
  refine ex_bipush (n := 48) (v := 48) (np := 3) C (by decide +kernel) (by decide) rfl ?_
  refine ex_icmp_lt (off := 13) (tgt := 16) (np := 6) C (by decide +kernel) (by decide) rfl (fun h1 => ?_) (fun h1 => ?_)
  · skip
    refine ex_iconst (n := 0) (v := 0) (np := 17) C (by decide +kernel) (by decide) rfl ?_
    have E9 : B_isDigit ch = (0 : Int32) := by unfold B_isDigit; exact (if_pos h1).trans (rfl)
    exact ex_iret C hr hlk (by decide +kernel) rfl (Nat.le_refl _) (Nat.le_refl _) ⟨E9.symm, rfl⟩
  · skip
    refine ex_iload_n (q := 0) (x := ch) (np := 7) C (by decide +kernel) rfl rfl ?_
    refine ex_bipush (n := 57) (v := 57) (np := 9) C (by decide +kernel) (by decide) rfl ?_
    refine ex_icmp_gt (off := 7) (tgt := 16) (np := 12) C (by decide +kernel) (by decide) rfl (fun h2 => ?_) (fun h2 => ?_)
    · skip
      refine ex_iconst (n := 0) (v := 0) (np := 17) C (by decide +kernel) (by decide) rfl ?_
      have E9 : B_isDigit ch = (0 : Int32) := by unfold B_isDigit; exact (if_neg h1).trans ((if_pos h2).trans (rfl))
      exact ex_iret C hr hlk (by decide +kernel) rfl (Nat.le_refl _) (Nat.le_refl _) ⟨E9.symm, rfl⟩
    · skip
      refine ex_iconst (n := 1) (v := 1) (np := 13) C (by decide +kernel) (by decide) rfl ?_
      refine ex_goto (off := 4) (tgt := 17) C (by decide +kernel) (by decide) ?_
      have E9 : B_isDigit ch = (1 : Int32) := by unfold B_isDigit; exact (if_neg h1).trans ((if_neg h2).trans (rfl))
      exact ex_iret C hr hlk (by decide +kernel) rfl (Nat.le_refl _) (Nat.le_refl _) ⟨E9.symm, rfl⟩
set_option maxRecDepth 100000 in
set_option maxHeartbeats 4000000 in
theorem m_X11_taken {l : Launch} {X : ab_X} {D : va_G} {A : ex_A} (d : Nat) (hd : 1 ≤ d) (mo : Int32) (σ : ex_S) : ex_ctr l X D A d yX11_taken cX11_taken 2 none (WB σ) [.ref 0, .int mo] (fun _ w => w = WB (B_taken mo σ)) := by
  obtain ⟨d, rfl⟩ : ∃ d9, d = d9 + 1 := ⟨d - 1, by omega⟩
  refine ex_meth (own := RX11) rfl (by decide) (Nat.le_of_ble_eq_true rfl) (fun p e R s m below meth c C hr hlk hd1 hd2 => ?_)
  show ex_ok p l e R s m _ below meth c 0 0 _ 2 X D A (WB σ) 0 [(0, .ref 0), (1, .int mo)] []
  refine ex_aload_n (q := 0) (x := 0) (np := 1) C (by decide +kernel) rfl rfl ?_
  refine ex_aload_n (q := 0) (x := 0) (np := 2) C (by decide +kernel) rfl rfl ?_
  refine ex_getf (q := 2) (v := .int (σ.1 1)) (np := 5) C hc_X11 hin_X11 (by decide) tg_1377 (by decide +kernel) (WB_0 _) rfl rfl ?_
  refine ex_putf (q := 3) (w1 := (WB (sI 2 (σ.1 1) σ))) (np := 8) C hc_X11 hin_X11 (by decide) tyX11_ok nmX11 tg_1378 rfl (by decide +kernel) (WB_0 _) (Nat.le_of_ble_eq_true rfl) rfl rfl (WB_0_3 _ _) rfl ?_
  refine ex_aload_n (q := 0) (x := 0) (np := 9) C (by decide +kernel) rfl rfl ?_
  refine ex_iconst (n := 0) (v := 0) (np := 10) C (by decide +kernel) (by decide) rfl ?_
  refine ex_putf (q := 2) (w1 := (WB (sI 1 (0 : Int32) (sI 2 (σ.1 1) σ)))) (np := 13) C hc_X11 hin_X11 (by decide) tyX11_ok nmX11 tg_1377 rfl (by decide +kernel) (WB_0 _) (Nat.le_of_ble_eq_true rfl) rfl rfl (WB_0_2 _ _) rfl ?_
  refine ex_aload_n (q := 0) (x := 0) (np := 14) C (by decide +kernel) rfl rfl ?_
  refine ex_iconst (n := 0) (v := 0) (np := 15) C (by decide +kernel) (by decide) rfl ?_
  refine ex_putf (q := 4) (w1 := (WB (sI 3 (0 : Int32) (sI 1 (0 : Int32) (sI 2 (σ.1 1) σ))))) (np := 18) C hc_X11 hin_X11 (by decide) tyX11_ok nmX11 tg_1379 rfl (by decide +kernel) (WB_0 _) (Nat.le_of_ble_eq_true rfl) rfl rfl (WB_0_4 _ _) rfl ?_
  refine ex_aload_n (q := 0) (x := 0) (np := 19) C (by decide +kernel) rfl rfl ?_
  refine ex_iload_n (q := 1) (x := mo) (np := 20) C (by decide +kernel) rfl rfl ?_
  refine ex_putf (q := 5) (w1 := (WB (sI 4 mo (sI 3 (0 : Int32) (sI 1 (0 : Int32) (sI 2 (σ.1 1) σ)))))) (np := 23) C hc_X11 hin_X11 (by decide) tyX11_ok nmX11 tg_1380 rfl (by decide +kernel) (WB_0 _) (Nat.le_of_ble_eq_true rfl) rfl rfl (WB_0_5 _ _) rfl ?_
  refine ex_vret C hr hlk (by decide +kernel) (Nat.le_refl _) (Nat.le_refl _) ?_
  have E9 : B_taken mo σ = (sI 4 mo (sI 3 (0 : Int32) (sI 1 (0 : Int32) (sI 2 (σ.1 1) σ)))) := by unfold B_taken; exact rfl
  rw [E9]
set_option maxRecDepth 100000 in
set_option maxHeartbeats 4000000 in
theorem m_X11_peek {l : Launch} {X : ab_X} {D : va_G} {A : ex_A} (d : Nat) (hd : 1 ≤ d) (σ : ex_S) (hI : B_INV σ) : ex_ctr l X D A d yX11_peek cX11_peek 1 (some .int) (WB σ) [.ref 0] (fun r w => r = B_peek σ ∧ w = WB σ) := by
  obtain ⟨d, rfl⟩ : ∃ d9, d = d9 + 1 := ⟨d - 1, by omega⟩
  refine ex_meth (own := RX11) rfl (by decide) (Nat.le_of_ble_eq_true rfl) (fun p e R s m below meth c C hr hlk hd1 hd2 => ?_)
  show ex_ok p l e R s m _ below meth c 0 0 _ 1 X D A (WB σ) 0 [(0, .ref 0)] []
  refine ex_aload_n (q := 0) (x := 0) (np := 1) C (by decide +kernel) rfl rfl ?_
  refine ex_getf (q := 4) (v := .int (σ.1 3)) (np := 4) C hc_X11 hin_X11 (by decide) tg_1379 (by decide +kernel) (WB_0 _) rfl rfl ?_
  refine ex_aload_n (q := 0) (x := 0) (np := 5) C (by decide +kernel) rfl rfl ?_
  refine ex_getf (q := 3) (v := .int (σ.1 2)) (np := 8) C hc_X11 hin_X11 (by decide) tg_1378 (by decide +kernel) (WB_0 _) rfl rfl ?_
  refine ex_icmp_ge (off := 19) (tgt := 27) (np := 11) C (by decide +kernel) (by decide) rfl (fun h1 => ?_) (fun h1 => ?_)
  · skip
    refine ex_iconst (n := (-1)) (v := (-1)) (np := 28) C (by decide +kernel) (by decide) rfl ?_
    have E9 : B_peek σ = (-1 : Int32) := by unfold B_peek; exact (if_neg h1).trans (rfl)
    exact ex_iret C hr hlk (by decide +kernel) rfl (Nat.le_refl _) (Nat.le_refl _) ⟨E9.symm, rfl⟩
  · skip
    refine ex_aload_n (q := 0) (x := 0) (np := 12) C (by decide +kernel) rfl rfl ?_
    refine ex_getf (q := 1) (v := .ref 1) (np := 15) C hc_X11 hin_X11 (by decide) tg_1376 (by decide +kernel) (WB_0 _) rfl rfl ?_
    refine ex_aload_n (q := 0) (x := 0) (np := 16) C (by decide +kernel) rfl rfl ?_
    refine ex_getf (q := 4) (v := .int (σ.1 3)) (np := 19) C hc_X11 hin_X11 (by decide) tg_1379 (by decide +kernel) (WB_0 _) rfl rfl ?_
    refine ex_bald (f := (σ.2.2.1 0)) (kk := ((σ.1 3)).toNatClampNeg) (np := 20) C (by decide +kernel) (WB_1 _) (by have h9 := hI; unfold B_INV at h9; have h8 := h1; omega) rfl rfl ?_
    refine ex_sipush (n := 255) (v := 255) (np := 23) C (by decide +kernel) (by decide) rfl ?_
    refine ex_iand (v := (((σ.2.2.1 0) ((σ.1 3)).toNatClampNeg) &&& (255 : Int32))) (np := 24) C (by decide +kernel) rfl rfl ?_
    refine ex_goto (off := 4) (tgt := 28) C (by decide +kernel) (by decide) ?_
    have E9 : B_peek σ = (((σ.2.2.1 0) ((σ.1 3)).toNatClampNeg) &&& (255 : Int32)) := by unfold B_peek; exact (if_pos h1).trans (rfl)
    exact ex_iret C hr hlk (by decide +kernel) rfl (Nat.le_refl _) (Nat.le_refl _) ⟨E9.symm, rfl⟩
set_option maxRecDepth 100000 in
set_option maxHeartbeats 4000000 in
theorem m_X11_bad {l : Launch} {X : ab_X} {D : va_G} {A : ex_A} (d : Nat) (hd : 1 ≤ d) (why : Int32) (σ : ex_S) : ex_ctr l X D A d yX11_bad cX11_bad 2 (some .boolean) (WB σ) [.ref 0, .int why] (fun r w => r = (B_bad why σ).1 ∧ w = WB (B_bad why σ).2) := by
  obtain ⟨d, rfl⟩ : ∃ d9, d = d9 + 1 := ⟨d - 1, by omega⟩
  refine ex_meth (own := RX11) rfl (by decide) (Nat.le_of_ble_eq_true rfl) (fun p e R s m below meth c C hr hlk hd1 hd2 => ?_)
  show ex_ok p l e R s m _ below meth c 0 0 _ 2 X D A (WB σ) 0 [(0, .ref 0), (1, .int why)] []
  refine ex_aload_n (q := 0) (x := 0) (np := 1) C (by decide +kernel) rfl rfl ?_
  refine ex_iload_n (q := 1) (x := why) (np := 2) C (by decide +kernel) rfl rfl ?_
  refine ex_putf (q := 15) (w1 := (WB (sI 9 why σ))) (np := 5) C hc_X11 hin_X11 (by decide) tyX11_ok nmX11 tg_1390 rfl (by decide +kernel) (WB_0 _) (Nat.le_of_ble_eq_true rfl) rfl rfl (WB_0_15 _ _) rfl ?_
  refine ex_aload_n (q := 0) (x := 0) (np := 6) C (by decide +kernel) rfl rfl ?_
  refine ex_aload_n (q := 0) (x := 0) (np := 7) C (by decide +kernel) rfl rfl ?_
  refine ex_getf (q := 12) (v := .int (σ.1 6)) (np := 10) C hc_X11 hin_X11 (by decide) tg_1387 (by decide +kernel) (WB_0 _) rfl rfl ?_
  refine ex_putf (q := 16) (w1 := (WB (sI 10 (σ.1 6) (sI 9 why σ)))) (np := 13) C hc_X11 hin_X11 (by decide) tyX11_ok nmX11 tg_1391 rfl (by decide +kernel) (WB_0 _) (Nat.le_of_ble_eq_true rfl) rfl rfl (WB_0_16 _ _) rfl ?_
  refine ex_iconst (n := 0) (v := 0) (np := 14) C (by decide +kernel) (by decide) rfl ?_
  have E9 : B_bad why σ = ((0 : Int32), (sI 10 (σ.1 6) (sI 9 why σ))) := by unfold B_bad; exact rfl
  exact ex_iret C hr hlk (by decide +kernel) rfl (Nat.le_refl _) (Nat.le_refl _) (by rw [E9]; exact ⟨rfl, rfl⟩)
set_option maxRecDepth 100000 in
set_option maxHeartbeats 4000000 in
theorem m_X11_isWord {l : Launch} {X : ab_X} {D : va_G} {A : ex_A} (d : Nat) (hd : 1 ≤ d) (w8 : Int64) (σ : ex_S) : ex_ctr l X D A d yX11_isWord cX11_isWord 3 (some .boolean) (WB σ) [.ref 0, .long w8] (fun r w => r = B_isWord w8 σ ∧ w = WB σ) := by
  obtain ⟨d, rfl⟩ : ∃ d9, d = d9 + 1 := ⟨d - 1, by omega⟩
  refine ex_meth (own := RX11) rfl (by decide) (Nat.le_of_ble_eq_true rfl) (fun p e R s m below meth c C hr hlk hd1 hd2 => ?_)
  show ex_ok p l e R s m _ below meth c 0 0 _ 3 X D A (WB σ) 0 [(0, .ref 0), (1, .long w8)] []
  refine ex_aload_n (q := 0) (x := 0) (np := 1) C (by decide +kernel) rfl rfl ?_
  refine ex_getf (q := 11) (v := .int (σ.1 5)) (np := 4) C hc_X11 hin_X11 (by decide) tg_1386 (by decide +kernel) (WB_0 _) rfl rfl ?_
  refine ex_iconst (n := 1) (v := 1) (np := 5) C (by decide +kernel) (by decide) rfl ?_
  refine ex_icmp_ne (off := 16) (tgt := 21) (np := 8) C (by decide +kernel) (by decide) rfl (fun h1 => ?_) (fun h1 => ?_)
  · skip
    refine ex_iconst (n := 0) (v := 0) (np := 22) C (by decide +kernel) (by decide) rfl ?_
    have E9 : B_isWord w8 σ = (0 : Int32) := by unfold B_isWord; exact (if_neg h1).trans (rfl)
    exact ex_iret C hr hlk (by decide +kernel) rfl (Nat.le_refl _) (Nat.le_refl _) ⟨E9.symm, rfl⟩
  · skip
    refine ex_aload_n (q := 0) (x := 0) (np := 9) C (by decide +kernel) rfl rfl ?_
    refine ex_getf (q := 17) (v := .long (σ.2.1 0)) (np := 12) C hc_X11 hin_X11 (by decide) tg_1392 (by decide +kernel) (WB_0 _) rfl rfl ?_
    refine ex_lload_n (q := 1) (x := w8) (np := 13) C (by decide +kernel) rfl rfl ?_
    refine ex_lcmp (np := 14) C (by decide +kernel) rfl ?_
    refine ex_if_ne (off := 7) (tgt := 21) (np := 17) C (by decide +kernel) (by decide) rfl (fun h2 => ?_) (fun h2 => ?_)
    · skip
      refine ex_iconst (n := 0) (v := 0) (np := 22) C (by decide +kernel) (by decide) rfl ?_
      have E9 : B_isWord w8 σ = (0 : Int32) := by unfold B_isWord; exact (if_pos h1).trans ((if_neg h2).trans (rfl))
      exact ex_iret C hr hlk (by decide +kernel) rfl (Nat.le_refl _) (Nat.le_refl _) ⟨E9.symm, rfl⟩
    · skip
      refine ex_iconst (n := 1) (v := 1) (np := 18) C (by decide +kernel) (by decide) rfl ?_
      refine ex_goto (off := 4) (tgt := 22) C (by decide +kernel) (by decide) ?_
      have E9 : B_isWord w8 σ = (1 : Int32) := by unfold B_isWord; exact (if_pos h1).trans ((if_pos h2).trans (rfl))
      exact ex_iret C hr hlk (by decide +kernel) rfl (Nat.le_refl _) (Nat.le_refl _) ⟨E9.symm, rfl⟩
set_option maxRecDepth 100000 in
set_option maxHeartbeats 4000000 in
theorem m_X11_isSign {l : Launch} {X : ab_X} {D : va_G} {A : ex_A} (d : Nat) (hd : 1 ≤ d) (ch : Int32) (σ : ex_S) : ex_ctr l X D A d yX11_isSign cX11_isSign 2 (some .boolean) (WB σ) [.ref 0, .int ch] (fun r w => r = B_isSign ch σ ∧ w = WB σ) := by
  obtain ⟨d, rfl⟩ : ∃ d9, d = d9 + 1 := ⟨d - 1, by omega⟩
  refine ex_meth (own := RX11) rfl (by decide) (Nat.le_of_ble_eq_true rfl) (fun p e R s m below meth c C hr hlk hd1 hd2 => ?_)
  show ex_ok p l e R s m _ below meth c 0 0 _ 2 X D A (WB σ) 0 [(0, .ref 0), (1, .int ch)] []
  refine ex_aload_n (q := 0) (x := 0) (np := 1) C (by decide +kernel) rfl rfl ?_
  refine ex_getf (q := 11) (v := .int (σ.1 5)) (np := 4) C hc_X11 hin_X11 (by decide) tg_1386 (by decide +kernel) (WB_0 _) rfl rfl ?_
  refine ex_iconst (n := 3) (v := 3) (np := 5) C (by decide +kernel) (by decide) rfl ?_
  refine ex_icmp_ne (off := 15) (tgt := 20) (np := 8) C (by decide +kernel) (by decide) rfl (fun h1 => ?_) (fun h1 => ?_)
  · skip
    refine ex_iconst (n := 0) (v := 0) (np := 21) C (by decide +kernel) (by decide) rfl ?_
    have E9 : B_isSign ch σ = (0 : Int32) := by unfold B_isSign; exact (if_neg h1).trans (rfl)
    exact ex_iret C hr hlk (by decide +kernel) rfl (Nat.le_refl _) (Nat.le_refl _) ⟨E9.symm, rfl⟩
  · skip
    refine ex_aload_n (q := 0) (x := 0) (np := 9) C (by decide +kernel) rfl rfl ?_
    refine ex_getf (q := 14) (v := .int (σ.1 8)) (np := 12) C hc_X11 hin_X11 (by decide) tg_1389 (by decide +kernel) (WB_0 _) rfl rfl ?_
    refine ex_iload_n (q := 1) (x := ch) (np := 13) C (by decide +kernel) rfl rfl ?_
    refine ex_icmp_ne (off := 7) (tgt := 20) (np := 16) C (by decide +kernel) (by decide) rfl (fun h2 => ?_) (fun h2 => ?_)
    · skip
      refine ex_iconst (n := 0) (v := 0) (np := 21) C (by decide +kernel) (by decide) rfl ?_
      have E9 : B_isSign ch σ = (0 : Int32) := by unfold B_isSign; exact (if_pos h1).trans ((if_neg h2).trans (rfl))
      exact ex_iret C hr hlk (by decide +kernel) rfl (Nat.le_refl _) (Nat.le_refl _) ⟨E9.symm, rfl⟩
    · skip
      refine ex_iconst (n := 1) (v := 1) (np := 17) C (by decide +kernel) (by decide) rfl ?_
      refine ex_goto (off := 4) (tgt := 21) C (by decide +kernel) (by decide) ?_
      have E9 : B_isSign ch σ = (1 : Int32) := by unfold B_isSign; exact (if_pos h1).trans ((if_pos h2).trans (rfl))
      exact ex_iret C hr hlk (by decide +kernel) rfl (Nat.le_refl _) (Nat.le_refl _) ⟨E9.symm, rfl⟩
set_option maxRecDepth 100000 in
set_option maxHeartbeats 4000000 in
theorem m_X11_find {l : Launch} {X : ab_X} {D : va_G} {A : ex_A} (d : Nat) (hd : 1 ≤ d) (fr : Int32) (ma : Int32) (σ : ex_S) (hfm : (0 ≤ (fr).toInt ∧ 0 ≤ (ma).toInt) ∧ (fr).toInt + (ma).toInt ≤ 30) : ex_ctr l X D A d yX11_find cX11_find 4 (some .int) (WB σ) [.ref 0, .int fr, .int ma] (fun r w => r = B_find fr ma σ ∧ w = WB σ) := by
  obtain ⟨d, rfl⟩ : ∃ d9, d = d9 + 1 := ⟨d - 1, by omega⟩
  refine ex_meth (own := RX11) rfl (by decide) (Nat.le_of_ble_eq_true rfl) (fun p e R s m below meth c C hr hlk hd1 hd2 => ?_)
  show ex_ok p l e R s m _ below meth c 0 0 _ 4 X D A (WB σ) 0 [(0, .ref 0), (1, .int fr), (2, .int ma)] []
  refine ex_iconst (n := 0) (v := 0) (np := 1) C (by decide +kernel) (by decide) rfl ?_
  refine ex_istore_n (q := 3) (np := 2) (lv1 := [(3, .int (0 : Int32)), (0, .ref 0), (1, .int fr), (2, .int ma)]) C (by decide) (by decide +kernel) rfl rfl ?_
  have hN := ex_nat (x := ma) hfm.1.2
  have loop : ∀ (n k : Nat), k + n = ma.toInt.toNat → B_find fr ma σ = ex_find (fun k => σ.2.2.2 0 (fr + nI k).toNatClampNeg) (σ.2.1 0) n k → ex_okP p l e R s m below meth c 4 X D A [.ref 0, .int fr, .int ma] (fun r w => r = B_find fr ma σ ∧ w = WB σ) (some .int) (WB σ) 2 [(3, .int (nI k)), (0, .ref 0), (1, .int fr), (2, .int ma)] [] := by
    intro n
    induction n with
    | zero =>
      intro k hk hs
      have hki : (nI k).toInt = (k : Int) := nI_toInt (by omega)
      refine ex_iload_n (q := 3) (x := (nI k)) (np := 3) C (by decide +kernel) rfl rfl ?_
      refine ex_iload_n (q := 2) (x := ma) (np := 4) C (by decide +kernel) rfl rfl ?_
      refine ex_icmp_ge (off := 27) (tgt := 31) (np := 7) C (by decide +kernel) (by decide) rfl (fun h1 => ?_) (fun h1 => ?_)
      · skip
        refine ex_iconst (n := (-1)) (v := (-1)) (np := 32) C (by decide +kernel) (by decide) rfl ?_
        have E9 : B_find fr ma σ = (-1 : Int32) := hs
        exact ex_iret C hr hlk (by decide +kernel) rfl (Nat.le_refl _) (Nat.le_refl _) ⟨E9.symm, rfl⟩
      · skip
        exfalso; rw [hki] at h1; omega
    | succ n ih =>
      intro k hk hs
      have hki : (nI k).toInt = (k : Int) := nI_toInt (by omega)
      have hfk : (fr + nI k).toInt = fr.toInt + k := ex_add hfm.1.1 hki (by omega)
      refine ex_iload_n (q := 3) (x := (nI k)) (np := 3) C (by decide +kernel) rfl rfl ?_
      refine ex_iload_n (q := 2) (x := ma) (np := 4) C (by decide +kernel) rfl rfl ?_
      refine ex_icmp_ge (off := 27) (tgt := 31) (np := 7) C (by decide +kernel) (by decide) rfl (fun h2 => ?_) (fun h2 => ?_)
      · skip
        exfalso; rw [hki] at h2; omega
      · skip
        refine ex_aload_n (q := 0) (x := 0) (np := 8) C (by decide +kernel) rfl rfl ?_
        refine ex_getf (q := 9) (v := .ref 5) (np := 11) C hc_X11 hin_X11 (by decide) tg_1384 (by decide +kernel) (WB_0 _) rfl rfl ?_
        refine ex_iload_n (q := 1) (x := fr) (np := 12) C (by decide +kernel) rfl rfl ?_
        refine ex_iload_n (q := 3) (x := (nI k)) (np := 13) C (by decide +kernel) rfl rfl ?_
        refine ex_iadd (v := (fr + (nI k))) (np := 14) C (by decide +kernel) rfl rfl ?_
        refine ex_lald (f := (σ.2.2.2 0)) (kk := ((fr + (nI k))).toNatClampNeg) (np := 15) C (by decide +kernel) (WB_5 _) (by rw [hfk]; omega) rfl rfl ?_
        refine ex_aload_n (q := 0) (x := 0) (np := 16) C (by decide +kernel) rfl rfl ?_
        refine ex_getf (q := 17) (v := .long (σ.2.1 0)) (np := 19) C hc_X11 hin_X11 (by decide) tg_1392 (by decide +kernel) (WB_0 _) rfl rfl ?_
        refine ex_lcmp (np := 20) C (by decide +kernel) rfl ?_
        refine ex_if_ne (off := 5) (tgt := 25) (np := 23) C (by decide +kernel) (by decide) rfl (fun h3 => ?_) (fun h3 => ?_)
        · skip
          refine ex_iinc (i := 3) (n := 1) (x := (nI k)) (v := ((nI k) + 1)) (np := 28) (lv1 := [(3, .int ((nI k) + 1)), (0, .ref 0), (1, .int fr), (2, .int ma)]) C (by decide) (by decide +kernel) rfl (by rfl) rfl rfl ?_
          refine ex_goto (off := (-26)) (tgt := 2) C (by decide +kernel) (by decide) ?_
          rw [← nI_succ]
          exact ih (k + 1) (by omega) (hs.trans (ex_find_s.trans (if_neg h3)))
        · skip
          refine ex_iload_n (q := 3) (x := (nI k)) (np := 24) C (by decide +kernel) rfl rfl ?_
          have E9 : B_find fr ma σ = (nI k) := (hs.trans (ex_find_s.trans (if_pos h3)))
          exact ex_iret C hr hlk (by decide +kernel) rfl (Nat.le_refl _) (Nat.le_refl _) ⟨E9.symm, rfl⟩
  exact loop (ma.toInt.toNat) 0 (by omega) rfl
