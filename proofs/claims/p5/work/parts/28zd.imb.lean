/-! The reference's image and restore. -/
set_option maxRecDepth 100000 in
set_option maxHeartbeats 4000000 in
theorem m_X11_image_0 {l : Launch} {X : ab_X} {D : va_G} {A : ex_A} (d : Nat) (hd : 2 ≤ d) (σ : ex_S) : ex_ctr l X D A d yX11_image cX11_image 3 (some .boolean) (WJ σ) [.ref 0, .int (0 : Int32)] (fun r w => r = (1 : Int32) ∧ ∃ (f : Nat → Int32) (g : Nat → Int64), ((∀ j : Nat, j < 305 → f (0 + j) = σ.2.2.1 0 j) ∧ (∀ j : Nat, (j < 0 ∨ 305 ≤ j) → f j = σ.2.2.1 1 j) ∧ (∀ j : Nat, j < 15 → g (0 + j) = σ.2.2.2 0 j) ∧ (∀ j : Nat, (j < 0 ∨ 15 ≤ j) → g j = σ.2.2.2 1 j)) ∧ w = WJ (sR 2 (upd (σ.2.2.1 2) 0 (vp_nar .boolean (1 : Int32))) (sQ 1 g (sR 1 f (sI 0 (0 : Int32) σ))))) := by
  obtain ⟨d, rfl⟩ : ∃ d9, d = d9 + 1 := ⟨d - 1, by omega⟩
  refine ex_meth (own := RX11) rfl (by decide) (Nat.le_of_ble_eq_true rfl) (fun p e R s m below meth c C hr hlk hd1 hd2 => ?_)
  show ex_ok p l e R s m _ below meth c 0 0 _ 3 X D A (WJ σ) 0 [(0, .ref 0), (1, .int (0 : Int32))] []
  refine ex_aload_n (q := 0) (x := 0) (np := 1) C (by decide +kernel) rfl rfl ?_
  refine ex_iconst (n := 0) (v := 0) (np := 2) C (by decide +kernel) (by decide) rfl ?_
  refine ex_putf (q := 0) (w1 := (WJ (sI 0 (0 : Int32) σ))) (np := 5) C hc_X11 hin_X11 (by decide) tyX11_ok nmX11 tg_1375 rfl (by decide +kernel) (WJ_0 _) (Nat.le_of_ble_eq_true rfl) rfl rfl (WJ_0_0 _ _) rfl ?_
  refine ex_iload_n (q := 1) (x := (0 : Int32)) (np := 6) C (by decide +kernel) rfl rfl ?_
  refine ex_iconst (n := 0) (v := 0) (np := 7) C (by decide +kernel) (by decide) rfl ?_
  refine ex_iconst (n := 1) (v := 1) (np := 8) C (by decide +kernel) (by decide) rfl ?_
  refine ex_call_i (np := 11) (fun ws H locs ls hR hsz => ex_runS C (m_X11_isIn d (by omega) (WJ (sI 0 (0 : Int32) σ)) (0 : Int32) (0 : Int32) (1 : Int32)) hd1 hd2 (by decide) hy_X11_isIn tg_1589 rfl rfl (Nat.le_of_ble_eq_true rfl) tg_1587 tg_1588 tg_158 (by decide +kernel) ws H locs ls hR hsz (Nat.zero_le _) (Nat.zero_le _)) rfl (fun r1 w1 hpo => ?_)
  obtain ⟨q2, rfl⟩ := hpo
  refine ex_if_ne (off := 5) (tgt := 16) (np := 14) C (by decide +kernel) (by decide) rfl (fun h3 => ?_) (fun h3 => ?_)
  · skip
    refine ex_iconst (n := 0) (v := 0) (np := 17) C (by decide +kernel) (by decide) rfl ?_
    refine ex_istore_n (q := 2) (np := 18) (lv1 := [(2, .int (0 : Int32)), (0, .ref 0), (1, .int (0 : Int32))]) C (by decide) (by decide +kernel) rfl rfl ?_
    refine ex_drop (lv1 := [(2, .int (0 : Int32)), (1, .int (0 : Int32)), (0, .ref 0)]) [0, 2, 1] rfl ?_
    have l1 : ∀ (n i : Nat) (f : Nat → Int32), i + n = 305 → ((∀ j : Nat, j < i → f (0 + j) = σ.2.2.1 0 j) ∧ (∀ j : Nat, (j < 0 ∨ 305 ≤ j) → f j = σ.2.2.1 1 j)) → ex_okP p l e R s m below meth c 3 X D A [.ref 0, .int (0 : Int32)] (fun r w => r = (1 : Int32) ∧ ∃ (f : Nat → Int32) (g : Nat → Int64), ((∀ j : Nat, j < 305 → f (0 + j) = σ.2.2.1 0 j) ∧ (∀ j : Nat, (j < 0 ∨ 305 ≤ j) → f j = σ.2.2.1 1 j) ∧ (∀ j : Nat, j < 15 → g (0 + j) = σ.2.2.2 0 j) ∧ (∀ j : Nat, (j < 0 ∨ 15 ≤ j) → g j = σ.2.2.2 1 j)) ∧ w = WJ (sR 2 (upd (σ.2.2.1 2) 0 (vp_nar .boolean (1 : Int32))) (sQ 1 g (sR 1 f (sI 0 (0 : Int32) σ))))) (some .boolean) (WJ (sR 1 f (sI 0 (0 : Int32) σ))) 18 [(2, .int (nI i)), (1, .int (0 : Int32)), (0, .ref 0)] [] := by
      intro n
      induction n with
      | zero =>
        intro i f hi hh
        obtain ⟨hf, hf2⟩ := hh
        have hki : (nI i).toInt = (i : Int) := nI_toInt (by omega)
        have e305 : (305 : Int32).toInt = 305 := by decide
        refine ex_iload_n (q := 2) (x := (nI i)) (np := 19) C (by decide +kernel) rfl rfl ?_
        refine ex_sipush (n := 305) (v := 305) (np := 22) C (by decide +kernel) (by decide) rfl ?_
        refine ex_icmp_ge (off := 27) (tgt := 49) (np := 25) C (by decide +kernel) (by decide) rfl (fun h4 => ?_) (fun h4 => ?_)
        · skip
          obtain rfl : i = 305 := by omega
          refine ex_iconst (n := 0) (v := 0) (np := 50) C (by decide +kernel) (by decide) rfl ?_
          refine ex_istore_n (q := 2) (np := 51) (lv1 := [(2, .int (0 : Int32)), (1, .int (0 : Int32)), (0, .ref 0)]) C (by decide) (by decide +kernel) rfl rfl ?_
          refine ex_drop (lv1 := [(2, .int (0 : Int32)), (1, .int (0 : Int32)), (0, .ref 0)]) [0, 1, 2] rfl ?_
          have l2 : ∀ (n i : Nat) (g : Nat → Int64), i + n = 15 → ((∀ j : Nat, j < i → g (0 + j) = σ.2.2.2 0 j) ∧ (∀ j : Nat, (j < 0 ∨ 15 ≤ j) → g j = σ.2.2.2 1 j)) → ex_okP p l e R s m below meth c 3 X D A [.ref 0, .int (0 : Int32)] (fun r w => r = (1 : Int32) ∧ ∃ (f : Nat → Int32) (g : Nat → Int64), ((∀ j : Nat, j < 305 → f (0 + j) = σ.2.2.1 0 j) ∧ (∀ j : Nat, (j < 0 ∨ 305 ≤ j) → f j = σ.2.2.1 1 j) ∧ (∀ j : Nat, j < 15 → g (0 + j) = σ.2.2.2 0 j) ∧ (∀ j : Nat, (j < 0 ∨ 15 ≤ j) → g j = σ.2.2.2 1 j)) ∧ w = WJ (sR 2 (upd (σ.2.2.1 2) 0 (vp_nar .boolean (1 : Int32))) (sQ 1 g (sR 1 f (sI 0 (0 : Int32) σ))))) (some .boolean) (WJ (sQ 1 g (sR 1 f (sI 0 (0 : Int32) σ)))) 51 [(2, .int (nI i)), (1, .int (0 : Int32)), (0, .ref 0)] [] := by
            intro n
            induction n with
            | zero =>
              intro i g hi hh
              obtain ⟨hg, hg2⟩ := hh
              have hki : (nI i).toInt = (i : Int) := nI_toInt (by omega)
              have e15 : (15 : Int32).toInt = 15 := by decide
              refine ex_iload_n (q := 2) (x := (nI i)) (np := 52) C (by decide +kernel) rfl rfl ?_
              refine ex_bipush (n := 15) (v := 15) (np := 54) C (by decide +kernel) (by decide) rfl ?_
              refine ex_icmp_ge (off := 26) (tgt := 80) (np := 57) C (by decide +kernel) (by decide) rfl (fun h5 => ?_) (fun h5 => ?_)
              · skip
                obtain rfl : i = 15 := by omega
                refine ex_drop (lv1 := [(1, .int (0 : Int32)), (0, .ref 0)]) [1, 2] rfl ?_
                refine ex_aload_n (q := 0) (x := 0) (np := 81) C (by decide +kernel) rfl rfl ?_
                refine ex_getf (q := 50) (v := .ref 5) (np := 84) C hc_X11 hin_X11 (by decide) tg_1425 (by decide +kernel) (WJ_0 _) rfl rfl ?_
                refine ex_iload_n (q := 1) (x := (0 : Int32)) (np := 85) C (by decide +kernel) rfl rfl ?_
                refine ex_iconst (n := 1) (v := 1) (np := 86) C (by decide +kernel) (by decide) rfl ?_
                refine ex_zast (f := (σ.2.2.1 2)) (kk := 0) (w1 := (WJ (sR 2 (upd (σ.2.2.1 2) 0 (vp_nar .boolean (1 : Int32))) (sQ 1 g (sR 1 f (sI 0 (0 : Int32) σ)))))) (np := 87) C (by decide +kernel) (WJ_5 _) (by decide) (by decide) (WJ_5_s _ _) rfl ?_
                refine ex_iconst (n := 1) (v := 1) (np := 88) C (by decide +kernel) (by decide) rfl ?_
                exact ex_iret C hr hlk (by decide +kernel) rfl (Nat.le_refl _) (Nat.le_refl _) ⟨rfl, ⟨f, g, ⟨hf, hf2, hg, hg2⟩, rfl⟩⟩
              · skip
                exfalso; rw [hki, e15] at h5; omega
            | succ n ih =>
              intro i g hi hh
              obtain ⟨hg, hg2⟩ := hh
              have hki : (nI i).toInt = (i : Int) := nI_toInt (by omega)
              have e15 : (15 : Int32).toInt = 15 := by decide
              have em : ((15 : Int32) * (0 : Int32)).toInt = 0 := by decide +kernel
              have s15 : (((15 : Int32) * (0 : Int32)) + nI i).toInt = 0 + i := by have g1 := ex_add (x := (15 : Int32) * (0 : Int32)) (y := nI i) (k := i) (by rw [em]; decide) hki (by rw [em]; omega); rw [em] at g1; exact g1
              have c15 : (((15 : Int32) * (0 : Int32)) + nI i).toNatClampNeg = 0 + i := by have c9 := ex_cl (x := ((15 : Int32) * (0 : Int32)) + nI i) (by rw [s15]; omega); rw [s15] at c9; omega
              refine ex_iload_n (q := 2) (x := (nI i)) (np := 52) C (by decide +kernel) rfl rfl ?_
              refine ex_bipush (n := 15) (v := 15) (np := 54) C (by decide +kernel) (by decide) rfl ?_
              refine ex_icmp_ge (off := 26) (tgt := 80) (np := 57) C (by decide +kernel) (by decide) rfl (fun h6 => ?_) (fun h6 => ?_)
              · skip
                exfalso; rw [hki, e15] at h6; omega
              · skip
                refine ex_aload_n (q := 0) (x := 0) (np := 58) C (by decide +kernel) rfl rfl ?_
                refine ex_getf (q := 49) (v := .ref 4) (np := 61) C hc_X11 hin_X11 (by decide) tg_1424 (by decide +kernel) (WJ_0 _) rfl rfl ?_
                refine ex_bipush (n := 15) (v := 15) (np := 63) C (by decide +kernel) (by decide) rfl ?_
                refine ex_iload_n (q := 1) (x := (0 : Int32)) (np := 64) C (by decide +kernel) rfl rfl ?_
                refine ex_imul (v := ((15 : Int32) * (0 : Int32))) (np := 65) C (by decide +kernel) rfl rfl ?_
                refine ex_iload_n (q := 2) (x := (nI i)) (np := 66) C (by decide +kernel) rfl rfl ?_
                refine ex_iadd (v := (((15 : Int32) * (0 : Int32)) + (nI i))) (np := 67) C (by decide +kernel) rfl rfl ?_
                refine ex_aload_n (q := 0) (x := 0) (np := 68) C (by decide +kernel) rfl rfl ?_
                refine ex_getf (q := 9) (v := .ref 2) (np := 71) C hc_X11 hin_X11 (by decide) tg_1384 (by decide +kernel) (WJ_0 _) rfl rfl ?_
                refine ex_iload_n (q := 2) (x := (nI i)) (np := 72) C (by decide +kernel) rfl rfl ?_
                refine ex_lald (f := (σ.2.2.2 0)) (kk := ((nI i)).toNatClampNeg) (np := 73) C (by decide +kernel) (WJ_2 _) (by rw [hki]; omega) rfl rfl ?_
                refine ex_last (f := g) (kk := ((((15 : Int32) * (0 : Int32)) + (nI i))).toNatClampNeg) (w1 := (WJ (sQ 1 (vp_updL g ((((15 : Int32) * (0 : Int32)) + (nI i))).toNatClampNeg ((σ.2.2.2 0) ((nI i)).toNatClampNeg)) (sQ 1 g (sR 1 f (sI 0 (0 : Int32) σ)))))) (np := 74) C (by decide +kernel) (WJ_4 _) (by rw [s15]; omega) rfl (WJ_4_s _ _) rfl ?_
                refine ex_iinc (i := 2) (n := 1) (x := (nI i)) (v := ((nI i) + 1)) (np := 77) (lv1 := [(2, .int ((nI i) + 1)), (1, .int (0 : Int32)), (0, .ref 0)]) C (by decide) (by decide +kernel) rfl (by rfl) rfl rfl ?_
                refine ex_goto (off := (-26)) (tgt := 51) C (by decide +kernel) (by decide) ?_
                refine ex_drop (lv1 := [(2, .int ((nI i) + 1)), (1, .int (0 : Int32)), (0, .ref 0)]) [0, 1, 2] rfl ?_
                rw [← nI_succ]
                rw [ex_qq]
                exact ih (i + 1) _ (by omega) ⟨fun j h1 => by unfold vp_updL; rw [c15, ex_nk (k := i) (by omega)]; by_cases hj : j = i; (rw [if_pos (by rw [hj]), hj]); (rw [if_neg (by omega)]; exact hg j (by omega)), fun j h1 => by unfold vp_updL; rw [c15, if_neg (by omega)]; exact hg2 j h1⟩
          have h9 := l2 15 0 (σ.2.2.2 1) rfl ⟨fun j h1 => absurd h1 (Nat.not_lt_zero j), fun j _ => rfl⟩
          rw [ex_qid (k := 1) (f := σ.2.2.2 1) (σ := (sR 1 f (sI 0 (0 : Int32) σ))) rfl] at h9
          exact h9
        · skip
          exfalso; rw [hki, e305] at h4; omega
      | succ n ih =>
        intro i f hi hh
        obtain ⟨hf, hf2⟩ := hh
        have hki : (nI i).toInt = (i : Int) := nI_toInt (by omega)
        have e305 : (305 : Int32).toInt = 305 := by decide
        have em : ((305 : Int32) * (0 : Int32)).toInt = 0 := by decide +kernel
        have s305 : (((305 : Int32) * (0 : Int32)) + nI i).toInt = 0 + i := by have g1 := ex_add (x := (305 : Int32) * (0 : Int32)) (y := nI i) (k := i) (by rw [em]; decide) hki (by rw [em]; omega); rw [em] at g1; exact g1
        have c305 : (((305 : Int32) * (0 : Int32)) + nI i).toNatClampNeg = 0 + i := by have c9 := ex_cl (x := ((305 : Int32) * (0 : Int32)) + nI i) (by rw [s305]; omega); rw [s305] at c9; omega
        refine ex_iload_n (q := 2) (x := (nI i)) (np := 19) C (by decide +kernel) rfl rfl ?_
        refine ex_sipush (n := 305) (v := 305) (np := 22) C (by decide +kernel) (by decide) rfl ?_
        refine ex_icmp_ge (off := 27) (tgt := 49) (np := 25) C (by decide +kernel) (by decide) rfl (fun h7 => ?_) (fun h7 => ?_)
        · skip
          exfalso; rw [hki, e305] at h7; omega
        · skip
          refine ex_aload_n (q := 0) (x := 0) (np := 26) C (by decide +kernel) rfl rfl ?_
          refine ex_getf (q := 48) (v := .ref 3) (np := 29) C hc_X11 hin_X11 (by decide) tg_1423 (by decide +kernel) (WJ_0 _) rfl rfl ?_
          refine ex_sipush (n := 305) (v := 305) (np := 32) C (by decide +kernel) (by decide) rfl ?_
          refine ex_iload_n (q := 1) (x := (0 : Int32)) (np := 33) C (by decide +kernel) rfl rfl ?_
          refine ex_imul (v := ((305 : Int32) * (0 : Int32))) (np := 34) C (by decide +kernel) rfl rfl ?_
          refine ex_iload_n (q := 2) (x := (nI i)) (np := 35) C (by decide +kernel) rfl rfl ?_
          refine ex_iadd (v := (((305 : Int32) * (0 : Int32)) + (nI i))) (np := 36) C (by decide +kernel) rfl rfl ?_
          refine ex_aload_n (q := 0) (x := 0) (np := 37) C (by decide +kernel) rfl rfl ?_
          refine ex_getf (q := 6) (v := .ref 1) (np := 40) C hc_X11 hin_X11 (by decide) tg_1381 (by decide +kernel) (WJ_0 _) rfl rfl ?_
          refine ex_iload_n (q := 2) (x := (nI i)) (np := 41) C (by decide +kernel) rfl rfl ?_
          refine ex_iald (f := (σ.2.2.1 0)) (kk := ((nI i)).toNatClampNeg) (np := 42) C (by decide +kernel) (WJ_1 _) (by rw [hki]; omega) rfl rfl ?_
          refine ex_iast (f := f) (kk := ((((305 : Int32) * (0 : Int32)) + (nI i))).toNatClampNeg) (w1 := (WJ (sR 1 (upd f ((((305 : Int32) * (0 : Int32)) + (nI i))).toNatClampNeg ((σ.2.2.1 0) ((nI i)).toNatClampNeg)) (sR 1 f (sI 0 (0 : Int32) σ))))) (np := 43) C (by decide +kernel) (WJ_3 _) (by rw [s305]; omega) rfl (WJ_3_s _ _) rfl ?_
          refine ex_iinc (i := 2) (n := 1) (x := (nI i)) (v := ((nI i) + 1)) (np := 46) (lv1 := [(2, .int ((nI i) + 1)), (1, .int (0 : Int32)), (0, .ref 0)]) C (by decide) (by decide +kernel) rfl (by rfl) rfl rfl ?_
          refine ex_goto (off := (-28)) (tgt := 18) C (by decide +kernel) (by decide) ?_
          refine ex_drop (lv1 := [(2, .int ((nI i) + 1)), (1, .int (0 : Int32)), (0, .ref 0)]) [0, 1, 2] rfl ?_
          rw [← nI_succ]
          rw [ex_rr]
          exact ih (i + 1) _ (by omega) ⟨fun j h1 => by unfold upd; rw [c305, ex_nk (k := i) (by omega)]; by_cases hj : j = i; (rw [if_pos (by rw [hj]), hj]); (rw [if_neg (by omega)]; exact hf j (by omega)), fun j h1 => by unfold upd; rw [c305, if_neg (by omega)]; exact hf2 j h1⟩
    have h9 := l1 305 0 (σ.2.2.1 1) rfl ⟨fun j h1 => absurd h1 (Nat.not_lt_zero j), fun j _ => rfl⟩
    rw [ex_rid (k := 1) (f := σ.2.2.1 1) (σ := (sI 0 (0 : Int32) σ)) rfl] at h9
    exact h9
  · skip
    exfalso; rw [q2] at h3; exact absurd h3 (by decide +kernel)
set_option maxRecDepth 100000 in
set_option maxHeartbeats 4000000 in
theorem m_X11_image_1 {l : Launch} {X : ab_X} {D : va_G} {A : ex_A} (d : Nat) (hd : 2 ≤ d) (σ : ex_S) : ex_ctr l X D A d yX11_image cX11_image 3 (some .boolean) (WJ σ) [.ref 0, .int (1 : Int32)] (fun r w => r = (1 : Int32) ∧ ∃ (f : Nat → Int32) (g : Nat → Int64), ((∀ j : Nat, j < 305 → f (305 + j) = σ.2.2.1 0 j) ∧ (∀ j : Nat, (j < 305 ∨ 610 ≤ j) → f j = σ.2.2.1 1 j) ∧ (∀ j : Nat, j < 15 → g (15 + j) = σ.2.2.2 0 j) ∧ (∀ j : Nat, (j < 15 ∨ 30 ≤ j) → g j = σ.2.2.2 1 j)) ∧ w = WJ (sR 2 (upd (σ.2.2.1 2) 1 (vp_nar .boolean (1 : Int32))) (sQ 1 g (sR 1 f (sI 0 (0 : Int32) σ))))) := by
  obtain ⟨d, rfl⟩ : ∃ d9, d = d9 + 1 := ⟨d - 1, by omega⟩
  refine ex_meth (own := RX11) rfl (by decide) (Nat.le_of_ble_eq_true rfl) (fun p e R s m below meth c C hr hlk hd1 hd2 => ?_)
  show ex_ok p l e R s m _ below meth c 0 0 _ 3 X D A (WJ σ) 0 [(0, .ref 0), (1, .int (1 : Int32))] []
  refine ex_aload_n (q := 0) (x := 0) (np := 1) C (by decide +kernel) rfl rfl ?_
  refine ex_iconst (n := 0) (v := 0) (np := 2) C (by decide +kernel) (by decide) rfl ?_
  refine ex_putf (q := 0) (w1 := (WJ (sI 0 (0 : Int32) σ))) (np := 5) C hc_X11 hin_X11 (by decide) tyX11_ok nmX11 tg_1375 rfl (by decide +kernel) (WJ_0 _) (Nat.le_of_ble_eq_true rfl) rfl rfl (WJ_0_0 _ _) rfl ?_
  refine ex_iload_n (q := 1) (x := (1 : Int32)) (np := 6) C (by decide +kernel) rfl rfl ?_
  refine ex_iconst (n := 0) (v := 0) (np := 7) C (by decide +kernel) (by decide) rfl ?_
  refine ex_iconst (n := 1) (v := 1) (np := 8) C (by decide +kernel) (by decide) rfl ?_
  refine ex_call_i (np := 11) (fun ws H locs ls hR hsz => ex_runS C (m_X11_isIn d (by omega) (WJ (sI 0 (0 : Int32) σ)) (1 : Int32) (0 : Int32) (1 : Int32)) hd1 hd2 (by decide) hy_X11_isIn tg_1589 rfl rfl (Nat.le_of_ble_eq_true rfl) tg_1587 tg_1588 tg_158 (by decide +kernel) ws H locs ls hR hsz (Nat.zero_le _) (Nat.zero_le _)) rfl (fun r1 w1 hpo => ?_)
  obtain ⟨q2, rfl⟩ := hpo
  refine ex_if_ne (off := 5) (tgt := 16) (np := 14) C (by decide +kernel) (by decide) rfl (fun h3 => ?_) (fun h3 => ?_)
  · skip
    refine ex_iconst (n := 0) (v := 0) (np := 17) C (by decide +kernel) (by decide) rfl ?_
    refine ex_istore_n (q := 2) (np := 18) (lv1 := [(2, .int (0 : Int32)), (0, .ref 0), (1, .int (1 : Int32))]) C (by decide) (by decide +kernel) rfl rfl ?_
    refine ex_drop (lv1 := [(2, .int (0 : Int32)), (1, .int (1 : Int32)), (0, .ref 0)]) [0, 2, 1] rfl ?_
    have l1 : ∀ (n i : Nat) (f : Nat → Int32), i + n = 305 → ((∀ j : Nat, j < i → f (305 + j) = σ.2.2.1 0 j) ∧ (∀ j : Nat, (j < 305 ∨ 610 ≤ j) → f j = σ.2.2.1 1 j)) → ex_okP p l e R s m below meth c 3 X D A [.ref 0, .int (1 : Int32)] (fun r w => r = (1 : Int32) ∧ ∃ (f : Nat → Int32) (g : Nat → Int64), ((∀ j : Nat, j < 305 → f (305 + j) = σ.2.2.1 0 j) ∧ (∀ j : Nat, (j < 305 ∨ 610 ≤ j) → f j = σ.2.2.1 1 j) ∧ (∀ j : Nat, j < 15 → g (15 + j) = σ.2.2.2 0 j) ∧ (∀ j : Nat, (j < 15 ∨ 30 ≤ j) → g j = σ.2.2.2 1 j)) ∧ w = WJ (sR 2 (upd (σ.2.2.1 2) 1 (vp_nar .boolean (1 : Int32))) (sQ 1 g (sR 1 f (sI 0 (0 : Int32) σ))))) (some .boolean) (WJ (sR 1 f (sI 0 (0 : Int32) σ))) 18 [(2, .int (nI i)), (1, .int (1 : Int32)), (0, .ref 0)] [] := by
      intro n
      induction n with
      | zero =>
        intro i f hi hh
        obtain ⟨hf, hf2⟩ := hh
        have hki : (nI i).toInt = (i : Int) := nI_toInt (by omega)
        have e305 : (305 : Int32).toInt = 305 := by decide
        refine ex_iload_n (q := 2) (x := (nI i)) (np := 19) C (by decide +kernel) rfl rfl ?_
        refine ex_sipush (n := 305) (v := 305) (np := 22) C (by decide +kernel) (by decide) rfl ?_
        refine ex_icmp_ge (off := 27) (tgt := 49) (np := 25) C (by decide +kernel) (by decide) rfl (fun h4 => ?_) (fun h4 => ?_)
        · skip
          obtain rfl : i = 305 := by omega
          refine ex_iconst (n := 0) (v := 0) (np := 50) C (by decide +kernel) (by decide) rfl ?_
          refine ex_istore_n (q := 2) (np := 51) (lv1 := [(2, .int (0 : Int32)), (1, .int (1 : Int32)), (0, .ref 0)]) C (by decide) (by decide +kernel) rfl rfl ?_
          refine ex_drop (lv1 := [(2, .int (0 : Int32)), (1, .int (1 : Int32)), (0, .ref 0)]) [0, 1, 2] rfl ?_
          have l2 : ∀ (n i : Nat) (g : Nat → Int64), i + n = 15 → ((∀ j : Nat, j < i → g (15 + j) = σ.2.2.2 0 j) ∧ (∀ j : Nat, (j < 15 ∨ 30 ≤ j) → g j = σ.2.2.2 1 j)) → ex_okP p l e R s m below meth c 3 X D A [.ref 0, .int (1 : Int32)] (fun r w => r = (1 : Int32) ∧ ∃ (f : Nat → Int32) (g : Nat → Int64), ((∀ j : Nat, j < 305 → f (305 + j) = σ.2.2.1 0 j) ∧ (∀ j : Nat, (j < 305 ∨ 610 ≤ j) → f j = σ.2.2.1 1 j) ∧ (∀ j : Nat, j < 15 → g (15 + j) = σ.2.2.2 0 j) ∧ (∀ j : Nat, (j < 15 ∨ 30 ≤ j) → g j = σ.2.2.2 1 j)) ∧ w = WJ (sR 2 (upd (σ.2.2.1 2) 1 (vp_nar .boolean (1 : Int32))) (sQ 1 g (sR 1 f (sI 0 (0 : Int32) σ))))) (some .boolean) (WJ (sQ 1 g (sR 1 f (sI 0 (0 : Int32) σ)))) 51 [(2, .int (nI i)), (1, .int (1 : Int32)), (0, .ref 0)] [] := by
            intro n
            induction n with
            | zero =>
              intro i g hi hh
              obtain ⟨hg, hg2⟩ := hh
              have hki : (nI i).toInt = (i : Int) := nI_toInt (by omega)
              have e15 : (15 : Int32).toInt = 15 := by decide
              refine ex_iload_n (q := 2) (x := (nI i)) (np := 52) C (by decide +kernel) rfl rfl ?_
              refine ex_bipush (n := 15) (v := 15) (np := 54) C (by decide +kernel) (by decide) rfl ?_
              refine ex_icmp_ge (off := 26) (tgt := 80) (np := 57) C (by decide +kernel) (by decide) rfl (fun h5 => ?_) (fun h5 => ?_)
              · skip
                obtain rfl : i = 15 := by omega
                refine ex_drop (lv1 := [(1, .int (1 : Int32)), (0, .ref 0)]) [1, 2] rfl ?_
                refine ex_aload_n (q := 0) (x := 0) (np := 81) C (by decide +kernel) rfl rfl ?_
                refine ex_getf (q := 50) (v := .ref 5) (np := 84) C hc_X11 hin_X11 (by decide) tg_1425 (by decide +kernel) (WJ_0 _) rfl rfl ?_
                refine ex_iload_n (q := 1) (x := (1 : Int32)) (np := 85) C (by decide +kernel) rfl rfl ?_
                refine ex_iconst (n := 1) (v := 1) (np := 86) C (by decide +kernel) (by decide) rfl ?_
                refine ex_zast (f := (σ.2.2.1 2)) (kk := 1) (w1 := (WJ (sR 2 (upd (σ.2.2.1 2) 1 (vp_nar .boolean (1 : Int32))) (sQ 1 g (sR 1 f (sI 0 (0 : Int32) σ)))))) (np := 87) C (by decide +kernel) (WJ_5 _) (by decide) (by decide) (WJ_5_s _ _) rfl ?_
                refine ex_iconst (n := 1) (v := 1) (np := 88) C (by decide +kernel) (by decide) rfl ?_
                exact ex_iret C hr hlk (by decide +kernel) rfl (Nat.le_refl _) (Nat.le_refl _) ⟨rfl, ⟨f, g, ⟨hf, hf2, hg, hg2⟩, rfl⟩⟩
              · skip
                exfalso; rw [hki, e15] at h5; omega
            | succ n ih =>
              intro i g hi hh
              obtain ⟨hg, hg2⟩ := hh
              have hki : (nI i).toInt = (i : Int) := nI_toInt (by omega)
              have e15 : (15 : Int32).toInt = 15 := by decide
              have em : ((15 : Int32) * (1 : Int32)).toInt = 15 := by decide +kernel
              have s15 : (((15 : Int32) * (1 : Int32)) + nI i).toInt = 15 + i := by have g1 := ex_add (x := (15 : Int32) * (1 : Int32)) (y := nI i) (k := i) (by rw [em]; decide) hki (by rw [em]; omega); rw [em] at g1; exact g1
              have c15 : (((15 : Int32) * (1 : Int32)) + nI i).toNatClampNeg = 15 + i := by have c9 := ex_cl (x := ((15 : Int32) * (1 : Int32)) + nI i) (by rw [s15]; omega); rw [s15] at c9; omega
              refine ex_iload_n (q := 2) (x := (nI i)) (np := 52) C (by decide +kernel) rfl rfl ?_
              refine ex_bipush (n := 15) (v := 15) (np := 54) C (by decide +kernel) (by decide) rfl ?_
              refine ex_icmp_ge (off := 26) (tgt := 80) (np := 57) C (by decide +kernel) (by decide) rfl (fun h6 => ?_) (fun h6 => ?_)
              · skip
                exfalso; rw [hki, e15] at h6; omega
              · skip
                refine ex_aload_n (q := 0) (x := 0) (np := 58) C (by decide +kernel) rfl rfl ?_
                refine ex_getf (q := 49) (v := .ref 4) (np := 61) C hc_X11 hin_X11 (by decide) tg_1424 (by decide +kernel) (WJ_0 _) rfl rfl ?_
                refine ex_bipush (n := 15) (v := 15) (np := 63) C (by decide +kernel) (by decide) rfl ?_
                refine ex_iload_n (q := 1) (x := (1 : Int32)) (np := 64) C (by decide +kernel) rfl rfl ?_
                refine ex_imul (v := ((15 : Int32) * (1 : Int32))) (np := 65) C (by decide +kernel) rfl rfl ?_
                refine ex_iload_n (q := 2) (x := (nI i)) (np := 66) C (by decide +kernel) rfl rfl ?_
                refine ex_iadd (v := (((15 : Int32) * (1 : Int32)) + (nI i))) (np := 67) C (by decide +kernel) rfl rfl ?_
                refine ex_aload_n (q := 0) (x := 0) (np := 68) C (by decide +kernel) rfl rfl ?_
                refine ex_getf (q := 9) (v := .ref 2) (np := 71) C hc_X11 hin_X11 (by decide) tg_1384 (by decide +kernel) (WJ_0 _) rfl rfl ?_
                refine ex_iload_n (q := 2) (x := (nI i)) (np := 72) C (by decide +kernel) rfl rfl ?_
                refine ex_lald (f := (σ.2.2.2 0)) (kk := ((nI i)).toNatClampNeg) (np := 73) C (by decide +kernel) (WJ_2 _) (by rw [hki]; omega) rfl rfl ?_
                refine ex_last (f := g) (kk := ((((15 : Int32) * (1 : Int32)) + (nI i))).toNatClampNeg) (w1 := (WJ (sQ 1 (vp_updL g ((((15 : Int32) * (1 : Int32)) + (nI i))).toNatClampNeg ((σ.2.2.2 0) ((nI i)).toNatClampNeg)) (sQ 1 g (sR 1 f (sI 0 (0 : Int32) σ)))))) (np := 74) C (by decide +kernel) (WJ_4 _) (by rw [s15]; omega) rfl (WJ_4_s _ _) rfl ?_
                refine ex_iinc (i := 2) (n := 1) (x := (nI i)) (v := ((nI i) + 1)) (np := 77) (lv1 := [(2, .int ((nI i) + 1)), (1, .int (1 : Int32)), (0, .ref 0)]) C (by decide) (by decide +kernel) rfl (by rfl) rfl rfl ?_
                refine ex_goto (off := (-26)) (tgt := 51) C (by decide +kernel) (by decide) ?_
                refine ex_drop (lv1 := [(2, .int ((nI i) + 1)), (1, .int (1 : Int32)), (0, .ref 0)]) [0, 1, 2] rfl ?_
                rw [← nI_succ]
                rw [ex_qq]
                exact ih (i + 1) _ (by omega) ⟨fun j h1 => by unfold vp_updL; rw [c15, ex_nk (k := i) (by omega)]; by_cases hj : j = i; (rw [if_pos (by rw [hj]), hj]); (rw [if_neg (by omega)]; exact hg j (by omega)), fun j h1 => by unfold vp_updL; rw [c15, if_neg (by omega)]; exact hg2 j h1⟩
          have h9 := l2 15 0 (σ.2.2.2 1) rfl ⟨fun j h1 => absurd h1 (Nat.not_lt_zero j), fun j _ => rfl⟩
          rw [ex_qid (k := 1) (f := σ.2.2.2 1) (σ := (sR 1 f (sI 0 (0 : Int32) σ))) rfl] at h9
          exact h9
        · skip
          exfalso; rw [hki, e305] at h4; omega
      | succ n ih =>
        intro i f hi hh
        obtain ⟨hf, hf2⟩ := hh
        have hki : (nI i).toInt = (i : Int) := nI_toInt (by omega)
        have e305 : (305 : Int32).toInt = 305 := by decide
        have em : ((305 : Int32) * (1 : Int32)).toInt = 305 := by decide +kernel
        have s305 : (((305 : Int32) * (1 : Int32)) + nI i).toInt = 305 + i := by have g1 := ex_add (x := (305 : Int32) * (1 : Int32)) (y := nI i) (k := i) (by rw [em]; decide) hki (by rw [em]; omega); rw [em] at g1; exact g1
        have c305 : (((305 : Int32) * (1 : Int32)) + nI i).toNatClampNeg = 305 + i := by have c9 := ex_cl (x := ((305 : Int32) * (1 : Int32)) + nI i) (by rw [s305]; omega); rw [s305] at c9; omega
        refine ex_iload_n (q := 2) (x := (nI i)) (np := 19) C (by decide +kernel) rfl rfl ?_
        refine ex_sipush (n := 305) (v := 305) (np := 22) C (by decide +kernel) (by decide) rfl ?_
        refine ex_icmp_ge (off := 27) (tgt := 49) (np := 25) C (by decide +kernel) (by decide) rfl (fun h7 => ?_) (fun h7 => ?_)
        · skip
          exfalso; rw [hki, e305] at h7; omega
        · skip
          refine ex_aload_n (q := 0) (x := 0) (np := 26) C (by decide +kernel) rfl rfl ?_
          refine ex_getf (q := 48) (v := .ref 3) (np := 29) C hc_X11 hin_X11 (by decide) tg_1423 (by decide +kernel) (WJ_0 _) rfl rfl ?_
          refine ex_sipush (n := 305) (v := 305) (np := 32) C (by decide +kernel) (by decide) rfl ?_
          refine ex_iload_n (q := 1) (x := (1 : Int32)) (np := 33) C (by decide +kernel) rfl rfl ?_
          refine ex_imul (v := ((305 : Int32) * (1 : Int32))) (np := 34) C (by decide +kernel) rfl rfl ?_
          refine ex_iload_n (q := 2) (x := (nI i)) (np := 35) C (by decide +kernel) rfl rfl ?_
          refine ex_iadd (v := (((305 : Int32) * (1 : Int32)) + (nI i))) (np := 36) C (by decide +kernel) rfl rfl ?_
          refine ex_aload_n (q := 0) (x := 0) (np := 37) C (by decide +kernel) rfl rfl ?_
          refine ex_getf (q := 6) (v := .ref 1) (np := 40) C hc_X11 hin_X11 (by decide) tg_1381 (by decide +kernel) (WJ_0 _) rfl rfl ?_
          refine ex_iload_n (q := 2) (x := (nI i)) (np := 41) C (by decide +kernel) rfl rfl ?_
          refine ex_iald (f := (σ.2.2.1 0)) (kk := ((nI i)).toNatClampNeg) (np := 42) C (by decide +kernel) (WJ_1 _) (by rw [hki]; omega) rfl rfl ?_
          refine ex_iast (f := f) (kk := ((((305 : Int32) * (1 : Int32)) + (nI i))).toNatClampNeg) (w1 := (WJ (sR 1 (upd f ((((305 : Int32) * (1 : Int32)) + (nI i))).toNatClampNeg ((σ.2.2.1 0) ((nI i)).toNatClampNeg)) (sR 1 f (sI 0 (0 : Int32) σ))))) (np := 43) C (by decide +kernel) (WJ_3 _) (by rw [s305]; omega) rfl (WJ_3_s _ _) rfl ?_
          refine ex_iinc (i := 2) (n := 1) (x := (nI i)) (v := ((nI i) + 1)) (np := 46) (lv1 := [(2, .int ((nI i) + 1)), (1, .int (1 : Int32)), (0, .ref 0)]) C (by decide) (by decide +kernel) rfl (by rfl) rfl rfl ?_
          refine ex_goto (off := (-28)) (tgt := 18) C (by decide +kernel) (by decide) ?_
          refine ex_drop (lv1 := [(2, .int ((nI i) + 1)), (1, .int (1 : Int32)), (0, .ref 0)]) [0, 1, 2] rfl ?_
          rw [← nI_succ]
          rw [ex_rr]
          exact ih (i + 1) _ (by omega) ⟨fun j h1 => by unfold upd; rw [c305, ex_nk (k := i) (by omega)]; by_cases hj : j = i; (rw [if_pos (by rw [hj]), hj]); (rw [if_neg (by omega)]; exact hf j (by omega)), fun j h1 => by unfold upd; rw [c305, if_neg (by omega)]; exact hf2 j h1⟩
    have h9 := l1 305 0 (σ.2.2.1 1) rfl ⟨fun j h1 => absurd h1 (Nat.not_lt_zero j), fun j _ => rfl⟩
    rw [ex_rid (k := 1) (f := σ.2.2.1 1) (σ := (sI 0 (0 : Int32) σ)) rfl] at h9
    exact h9
  · skip
    exfalso; rw [q2] at h3; exact absurd h3 (by decide +kernel)
set_option maxRecDepth 100000 in
set_option maxHeartbeats 4000000 in
theorem m_X11_restore_0 {l : Launch} {X : ab_X} {D : va_G} {A : ex_A} (d : Nat) (hd : 2 ≤ d) (σ : ex_S) : ex_ctr l X D A d yX11_restore cX11_restore 3 (some .boolean) (WJ σ) [.ref 0, .int (0 : Int32)] (fun r w => (r = (0 : Int32) ∧ σ.2.2.1 2 0 = 0 ∧ w = WJ (sI 0 (0 : Int32) σ)) ∨ (r = (1 : Int32) ∧ ¬ σ.2.2.1 2 0 = 0 ∧ ∃ (f : Nat → Int32) (g : Nat → Int64), ((∀ j : Nat, j < 305 → f j = σ.2.2.1 1 (0 + j)) ∧ (∀ j : Nat, j < 15 → g j = σ.2.2.2 1 (0 + j))) ∧ w = WJ (sI 14 (0 : Int32) (sQ 0 g (sR 0 f (sI 0 (0 : Int32) σ)))))) := by
  obtain ⟨d, rfl⟩ : ∃ d9, d = d9 + 1 := ⟨d - 1, by omega⟩
  refine ex_meth (own := RX11) rfl (by decide) (Nat.le_of_ble_eq_true rfl) (fun p e R s m below meth c C hr hlk hd1 hd2 => ?_)
  show ex_ok p l e R s m _ below meth c 0 0 _ 3 X D A (WJ σ) 0 [(0, .ref 0), (1, .int (0 : Int32))] []
  refine ex_aload_n (q := 0) (x := 0) (np := 1) C (by decide +kernel) rfl rfl ?_
  refine ex_iconst (n := 0) (v := 0) (np := 2) C (by decide +kernel) (by decide) rfl ?_
  refine ex_putf (q := 0) (w1 := (WJ (sI 0 (0 : Int32) σ))) (np := 5) C hc_X11 hin_X11 (by decide) tyX11_ok nmX11 tg_1375 rfl (by decide +kernel) (WJ_0 _) (Nat.le_of_ble_eq_true rfl) rfl rfl (WJ_0_0 _ _) rfl ?_
  refine ex_iload_n (q := 1) (x := (0 : Int32)) (np := 6) C (by decide +kernel) rfl rfl ?_
  refine ex_iconst (n := 0) (v := 0) (np := 7) C (by decide +kernel) (by decide) rfl ?_
  refine ex_iconst (n := 1) (v := 1) (np := 8) C (by decide +kernel) (by decide) rfl ?_
  refine ex_call_i (np := 11) (fun ws H locs ls hR hsz => ex_runS C (m_X11_isIn d (by omega) (WJ (sI 0 (0 : Int32) σ)) (0 : Int32) (0 : Int32) (1 : Int32)) hd1 hd2 (by decide) hy_X11_isIn tg_1589 rfl rfl (Nat.le_of_ble_eq_true rfl) tg_1587 tg_1588 tg_158 (by decide +kernel) ws H locs ls hR hsz (Nat.zero_le _) (Nat.zero_le _)) rfl (fun r1 w1 hpo => ?_)
  obtain ⟨q2, rfl⟩ := hpo
  refine ex_if_eq (off := 12) (tgt := 23) (np := 14) C (by decide +kernel) (by decide) rfl (fun h3 => ?_) (fun h3 => ?_)
  · skip
    exfalso; rw [q2] at h3; exact absurd h3 (by decide +kernel)
  · skip
    refine ex_aload_n (q := 0) (x := 0) (np := 15) C (by decide +kernel) rfl rfl ?_
    refine ex_getf (q := 50) (v := .ref 5) (np := 18) C hc_X11 hin_X11 (by decide) tg_1425 (by decide +kernel) (WJ_0 _) rfl rfl ?_
    refine ex_iload_n (q := 1) (x := (0 : Int32)) (np := 19) C (by decide +kernel) rfl rfl ?_
    refine ex_zald (f := (σ.2.2.1 2)) (kk := 0) (np := 20) C (by decide +kernel) (WJ_5 _) (by decide) (by decide) rfl ?_
    refine ex_if_ne (off := 5) (tgt := 25) (np := 23) C (by decide +kernel) (by decide) rfl (fun h4 => ?_) (fun h4 => ?_)
    · skip
      refine ex_iconst (n := 0) (v := 0) (np := 26) C (by decide +kernel) (by decide) rfl ?_
      refine ex_istore_n (q := 2) (np := 27) (lv1 := [(2, .int (0 : Int32)), (0, .ref 0), (1, .int (0 : Int32))]) C (by decide) (by decide +kernel) rfl rfl ?_
      refine ex_drop (lv1 := [(2, .int (0 : Int32)), (1, .int (0 : Int32)), (0, .ref 0)]) [0, 2, 1] rfl ?_
      have hkp := h4
      have l1 : ∀ (n i : Nat) (f : Nat → Int32), i + n = 305 → ((∀ j : Nat, j < i → f j = σ.2.2.1 1 (0 + j))) → ex_okP p l e R s m below meth c 3 X D A [.ref 0, .int (0 : Int32)] (fun r w => (r = (0 : Int32) ∧ σ.2.2.1 2 0 = 0 ∧ w = WJ (sI 0 (0 : Int32) σ)) ∨ (r = (1 : Int32) ∧ ¬ σ.2.2.1 2 0 = 0 ∧ ∃ (f : Nat → Int32) (g : Nat → Int64), ((∀ j : Nat, j < 305 → f j = σ.2.2.1 1 (0 + j)) ∧ (∀ j : Nat, j < 15 → g j = σ.2.2.2 1 (0 + j))) ∧ w = WJ (sI 14 (0 : Int32) (sQ 0 g (sR 0 f (sI 0 (0 : Int32) σ)))))) (some .boolean) (WJ (sR 0 f (sI 0 (0 : Int32) σ))) 27 [(2, .int (nI i)), (1, .int (0 : Int32)), (0, .ref 0)] [] := by
        intro n
        induction n with
        | zero =>
          intro i f hi hh
          have hf := hh
          have hki : (nI i).toInt = (i : Int) := nI_toInt (by omega)
          have e305 : (305 : Int32).toInt = 305 := by decide
          refine ex_iload_n (q := 2) (x := (nI i)) (np := 28) C (by decide +kernel) rfl rfl ?_
          refine ex_sipush (n := 305) (v := 305) (np := 31) C (by decide +kernel) (by decide) rfl ?_
          refine ex_icmp_ge (off := 27) (tgt := 58) (np := 34) C (by decide +kernel) (by decide) rfl (fun h5 => ?_) (fun h5 => ?_)
          · skip
            obtain rfl : i = 305 := by omega
            refine ex_iconst (n := 0) (v := 0) (np := 59) C (by decide +kernel) (by decide) rfl ?_
            refine ex_istore_n (q := 2) (np := 60) (lv1 := [(2, .int (0 : Int32)), (1, .int (0 : Int32)), (0, .ref 0)]) C (by decide) (by decide +kernel) rfl rfl ?_
            refine ex_drop (lv1 := [(2, .int (0 : Int32)), (1, .int (0 : Int32)), (0, .ref 0)]) [0, 1, 2] rfl ?_
            have l2 : ∀ (n i : Nat) (g : Nat → Int64), i + n = 15 → ((∀ j : Nat, j < i → g j = σ.2.2.2 1 (0 + j))) → ex_okP p l e R s m below meth c 3 X D A [.ref 0, .int (0 : Int32)] (fun r w => (r = (0 : Int32) ∧ σ.2.2.1 2 0 = 0 ∧ w = WJ (sI 0 (0 : Int32) σ)) ∨ (r = (1 : Int32) ∧ ¬ σ.2.2.1 2 0 = 0 ∧ ∃ (f : Nat → Int32) (g : Nat → Int64), ((∀ j : Nat, j < 305 → f j = σ.2.2.1 1 (0 + j)) ∧ (∀ j : Nat, j < 15 → g j = σ.2.2.2 1 (0 + j))) ∧ w = WJ (sI 14 (0 : Int32) (sQ 0 g (sR 0 f (sI 0 (0 : Int32) σ)))))) (some .boolean) (WJ (sQ 0 g (sR 0 f (sI 0 (0 : Int32) σ)))) 60 [(2, .int (nI i)), (1, .int (0 : Int32)), (0, .ref 0)] [] := by
              intro n
              induction n with
              | zero =>
                intro i g hi hh
                have hg := hh
                have hki : (nI i).toInt = (i : Int) := nI_toInt (by omega)
                have e15 : (15 : Int32).toInt = 15 := by decide
                refine ex_iload_n (q := 2) (x := (nI i)) (np := 61) C (by decide +kernel) rfl rfl ?_
                refine ex_bipush (n := 15) (v := 15) (np := 63) C (by decide +kernel) (by decide) rfl ?_
                refine ex_icmp_ge (off := 26) (tgt := 89) (np := 66) C (by decide +kernel) (by decide) rfl (fun h6 => ?_) (fun h6 => ?_)
                · skip
                  obtain rfl : i = 15 := by omega
                  refine ex_drop (lv1 := [(1, .int (0 : Int32)), (0, .ref 0)]) [1, 2] rfl ?_
                  refine ex_aload_n (q := 0) (x := 0) (np := 90) C (by decide +kernel) rfl rfl ?_
                  refine ex_iconst (n := 0) (v := 0) (np := 91) C (by decide +kernel) (by decide) rfl ?_
                  refine ex_putf (q := 23) (w1 := (WJ (sI 14 (0 : Int32) (sQ 0 g (sR 0 f (sI 0 (0 : Int32) σ)))))) (np := 94) C hc_X11 hin_X11 (by decide) tyX11_ok nmX11 tg_1398 rfl (by decide +kernel) (WJ_0 _) (Nat.le_of_ble_eq_true rfl) rfl rfl (WJ_0_23 _ _) rfl ?_
                  refine ex_iconst (n := 1) (v := 1) (np := 95) C (by decide +kernel) (by decide) rfl ?_
                  exact ex_iret C hr hlk (by decide +kernel) rfl (Nat.le_refl _) (Nat.le_refl _) (Or.inr ⟨rfl, hkp, ⟨f, g, ⟨hf, hg⟩, rfl⟩⟩)
                · skip
                  exfalso; rw [hki, e15] at h6; omega
              | succ n ih =>
                intro i g hi hh
                have hg := hh
                have hki : (nI i).toInt = (i : Int) := nI_toInt (by omega)
                have e15 : (15 : Int32).toInt = 15 := by decide
                have em : ((15 : Int32) * (0 : Int32)).toInt = 0 := by decide +kernel
                have s15 : (((15 : Int32) * (0 : Int32)) + nI i).toInt = 0 + i := by have g1 := ex_add (x := (15 : Int32) * (0 : Int32)) (y := nI i) (k := i) (by rw [em]; decide) hki (by rw [em]; omega); rw [em] at g1; exact g1
                have c15 : (((15 : Int32) * (0 : Int32)) + nI i).toNatClampNeg = 0 + i := by have c9 := ex_cl (x := ((15 : Int32) * (0 : Int32)) + nI i) (by rw [s15]; omega); rw [s15] at c9; omega
                refine ex_iload_n (q := 2) (x := (nI i)) (np := 61) C (by decide +kernel) rfl rfl ?_
                refine ex_bipush (n := 15) (v := 15) (np := 63) C (by decide +kernel) (by decide) rfl ?_
                refine ex_icmp_ge (off := 26) (tgt := 89) (np := 66) C (by decide +kernel) (by decide) rfl (fun h7 => ?_) (fun h7 => ?_)
                · skip
                  exfalso; rw [hki, e15] at h7; omega
                · skip
                  refine ex_aload_n (q := 0) (x := 0) (np := 67) C (by decide +kernel) rfl rfl ?_
                  refine ex_getf (q := 9) (v := .ref 2) (np := 70) C hc_X11 hin_X11 (by decide) tg_1384 (by decide +kernel) (WJ_0 _) rfl rfl ?_
                  refine ex_iload_n (q := 2) (x := (nI i)) (np := 71) C (by decide +kernel) rfl rfl ?_
                  refine ex_aload_n (q := 0) (x := 0) (np := 72) C (by decide +kernel) rfl rfl ?_
                  refine ex_getf (q := 49) (v := .ref 4) (np := 75) C hc_X11 hin_X11 (by decide) tg_1424 (by decide +kernel) (WJ_0 _) rfl rfl ?_
                  refine ex_bipush (n := 15) (v := 15) (np := 77) C (by decide +kernel) (by decide) rfl ?_
                  refine ex_iload_n (q := 1) (x := (0 : Int32)) (np := 78) C (by decide +kernel) rfl rfl ?_
                  refine ex_imul (v := ((15 : Int32) * (0 : Int32))) (np := 79) C (by decide +kernel) rfl rfl ?_
                  refine ex_iload_n (q := 2) (x := (nI i)) (np := 80) C (by decide +kernel) rfl rfl ?_
                  refine ex_iadd (v := (((15 : Int32) * (0 : Int32)) + (nI i))) (np := 81) C (by decide +kernel) rfl rfl ?_
                  refine ex_lald (f := (σ.2.2.2 1)) (kk := ((((15 : Int32) * (0 : Int32)) + (nI i))).toNatClampNeg) (np := 82) C (by decide +kernel) (WJ_4 _) (by rw [s15]; omega) rfl rfl ?_
                  refine ex_last (f := g) (kk := ((nI i)).toNatClampNeg) (w1 := (WJ (sQ 0 (vp_updL g ((nI i)).toNatClampNeg ((σ.2.2.2 1) ((((15 : Int32) * (0 : Int32)) + (nI i))).toNatClampNeg)) (sQ 0 g (sR 0 f (sI 0 (0 : Int32) σ)))))) (np := 83) C (by decide +kernel) (WJ_2 _) (by rw [hki]; omega) rfl (WJ_2_s _ _) rfl ?_
                  refine ex_iinc (i := 2) (n := 1) (x := (nI i)) (v := ((nI i) + 1)) (np := 86) (lv1 := [(2, .int ((nI i) + 1)), (1, .int (0 : Int32)), (0, .ref 0)]) C (by decide) (by decide +kernel) rfl (by rfl) rfl rfl ?_
                  refine ex_goto (off := (-26)) (tgt := 60) C (by decide +kernel) (by decide) ?_
                  refine ex_drop (lv1 := [(2, .int ((nI i) + 1)), (1, .int (0 : Int32)), (0, .ref 0)]) [0, 1, 2] rfl ?_
                  rw [← nI_succ]
                  rw [ex_qq]
                  exact ih (i + 1) _ (by omega) (fun j h1 => by unfold vp_updL; rw [ex_nk (k := i) (by omega), c15]; by_cases hj : j = i; (rw [if_pos hj, hj]); (rw [if_neg hj]; exact hg j (by omega)))
            have h9 := l2 15 0 (σ.2.2.2 0) rfl (fun j h1 => absurd h1 (Nat.not_lt_zero j))
            rw [ex_qid (k := 0) (f := σ.2.2.2 0) (σ := (sR 0 f (sI 0 (0 : Int32) σ))) rfl] at h9
            exact h9
          · skip
            exfalso; rw [hki, e305] at h5; omega
        | succ n ih =>
          intro i f hi hh
          have hf := hh
          have hki : (nI i).toInt = (i : Int) := nI_toInt (by omega)
          have e305 : (305 : Int32).toInt = 305 := by decide
          have em : ((305 : Int32) * (0 : Int32)).toInt = 0 := by decide +kernel
          have s305 : (((305 : Int32) * (0 : Int32)) + nI i).toInt = 0 + i := by have g1 := ex_add (x := (305 : Int32) * (0 : Int32)) (y := nI i) (k := i) (by rw [em]; decide) hki (by rw [em]; omega); rw [em] at g1; exact g1
          have c305 : (((305 : Int32) * (0 : Int32)) + nI i).toNatClampNeg = 0 + i := by have c9 := ex_cl (x := ((305 : Int32) * (0 : Int32)) + nI i) (by rw [s305]; omega); rw [s305] at c9; omega
          refine ex_iload_n (q := 2) (x := (nI i)) (np := 28) C (by decide +kernel) rfl rfl ?_
          refine ex_sipush (n := 305) (v := 305) (np := 31) C (by decide +kernel) (by decide) rfl ?_
          refine ex_icmp_ge (off := 27) (tgt := 58) (np := 34) C (by decide +kernel) (by decide) rfl (fun h8 => ?_) (fun h8 => ?_)
          · skip
            exfalso; rw [hki, e305] at h8; omega
          · skip
            refine ex_aload_n (q := 0) (x := 0) (np := 35) C (by decide +kernel) rfl rfl ?_
            refine ex_getf (q := 6) (v := .ref 1) (np := 38) C hc_X11 hin_X11 (by decide) tg_1381 (by decide +kernel) (WJ_0 _) rfl rfl ?_
            refine ex_iload_n (q := 2) (x := (nI i)) (np := 39) C (by decide +kernel) rfl rfl ?_
            refine ex_aload_n (q := 0) (x := 0) (np := 40) C (by decide +kernel) rfl rfl ?_
            refine ex_getf (q := 48) (v := .ref 3) (np := 43) C hc_X11 hin_X11 (by decide) tg_1423 (by decide +kernel) (WJ_0 _) rfl rfl ?_
            refine ex_sipush (n := 305) (v := 305) (np := 46) C (by decide +kernel) (by decide) rfl ?_
            refine ex_iload_n (q := 1) (x := (0 : Int32)) (np := 47) C (by decide +kernel) rfl rfl ?_
            refine ex_imul (v := ((305 : Int32) * (0 : Int32))) (np := 48) C (by decide +kernel) rfl rfl ?_
            refine ex_iload_n (q := 2) (x := (nI i)) (np := 49) C (by decide +kernel) rfl rfl ?_
            refine ex_iadd (v := (((305 : Int32) * (0 : Int32)) + (nI i))) (np := 50) C (by decide +kernel) rfl rfl ?_
            refine ex_iald (f := (σ.2.2.1 1)) (kk := ((((305 : Int32) * (0 : Int32)) + (nI i))).toNatClampNeg) (np := 51) C (by decide +kernel) (WJ_3 _) (by rw [s305]; omega) rfl rfl ?_
            refine ex_iast (f := f) (kk := ((nI i)).toNatClampNeg) (w1 := (WJ (sR 0 (upd f ((nI i)).toNatClampNeg ((σ.2.2.1 1) ((((305 : Int32) * (0 : Int32)) + (nI i))).toNatClampNeg)) (sR 0 f (sI 0 (0 : Int32) σ))))) (np := 52) C (by decide +kernel) (WJ_1 _) (by rw [hki]; omega) rfl (WJ_1_s _ _) rfl ?_
            refine ex_iinc (i := 2) (n := 1) (x := (nI i)) (v := ((nI i) + 1)) (np := 55) (lv1 := [(2, .int ((nI i) + 1)), (1, .int (0 : Int32)), (0, .ref 0)]) C (by decide) (by decide +kernel) rfl (by rfl) rfl rfl ?_
            refine ex_goto (off := (-28)) (tgt := 27) C (by decide +kernel) (by decide) ?_
            refine ex_drop (lv1 := [(2, .int ((nI i) + 1)), (1, .int (0 : Int32)), (0, .ref 0)]) [0, 1, 2] rfl ?_
            rw [← nI_succ]
            rw [ex_rr]
            exact ih (i + 1) _ (by omega) (fun j h1 => by unfold upd; rw [ex_nk (k := i) (by omega), c305]; by_cases hj : j = i; (rw [if_pos hj, hj]); (rw [if_neg hj]; exact hf j (by omega)))
      have h9 := l1 305 0 (σ.2.2.1 0) rfl (fun j h1 => absurd h1 (Nat.not_lt_zero j))
      rw [ex_rid (k := 0) (f := σ.2.2.1 0) (σ := (sI 0 (0 : Int32) σ)) rfl] at h9
      exact h9
    · skip
      refine ex_iconst (n := 0) (v := 0) (np := 24) C (by decide +kernel) (by decide) rfl ?_
      exact ex_iret C hr hlk (by decide +kernel) rfl (Nat.le_refl _) (Nat.le_refl _) (Or.inl ⟨rfl, h4, rfl⟩)
set_option maxRecDepth 100000 in
set_option maxHeartbeats 4000000 in
theorem m_X11_restore_1 {l : Launch} {X : ab_X} {D : va_G} {A : ex_A} (d : Nat) (hd : 2 ≤ d) (σ : ex_S) : ex_ctr l X D A d yX11_restore cX11_restore 3 (some .boolean) (WJ σ) [.ref 0, .int (1 : Int32)] (fun r w => (r = (0 : Int32) ∧ σ.2.2.1 2 1 = 0 ∧ w = WJ (sI 0 (0 : Int32) σ)) ∨ (r = (1 : Int32) ∧ ¬ σ.2.2.1 2 1 = 0 ∧ ∃ (f : Nat → Int32) (g : Nat → Int64), ((∀ j : Nat, j < 305 → f j = σ.2.2.1 1 (305 + j)) ∧ (∀ j : Nat, j < 15 → g j = σ.2.2.2 1 (15 + j))) ∧ w = WJ (sI 14 (0 : Int32) (sQ 0 g (sR 0 f (sI 0 (0 : Int32) σ)))))) := by
  obtain ⟨d, rfl⟩ : ∃ d9, d = d9 + 1 := ⟨d - 1, by omega⟩
  refine ex_meth (own := RX11) rfl (by decide) (Nat.le_of_ble_eq_true rfl) (fun p e R s m below meth c C hr hlk hd1 hd2 => ?_)
  show ex_ok p l e R s m _ below meth c 0 0 _ 3 X D A (WJ σ) 0 [(0, .ref 0), (1, .int (1 : Int32))] []
  refine ex_aload_n (q := 0) (x := 0) (np := 1) C (by decide +kernel) rfl rfl ?_
  refine ex_iconst (n := 0) (v := 0) (np := 2) C (by decide +kernel) (by decide) rfl ?_
  refine ex_putf (q := 0) (w1 := (WJ (sI 0 (0 : Int32) σ))) (np := 5) C hc_X11 hin_X11 (by decide) tyX11_ok nmX11 tg_1375 rfl (by decide +kernel) (WJ_0 _) (Nat.le_of_ble_eq_true rfl) rfl rfl (WJ_0_0 _ _) rfl ?_
  refine ex_iload_n (q := 1) (x := (1 : Int32)) (np := 6) C (by decide +kernel) rfl rfl ?_
  refine ex_iconst (n := 0) (v := 0) (np := 7) C (by decide +kernel) (by decide) rfl ?_
  refine ex_iconst (n := 1) (v := 1) (np := 8) C (by decide +kernel) (by decide) rfl ?_
  refine ex_call_i (np := 11) (fun ws H locs ls hR hsz => ex_runS C (m_X11_isIn d (by omega) (WJ (sI 0 (0 : Int32) σ)) (1 : Int32) (0 : Int32) (1 : Int32)) hd1 hd2 (by decide) hy_X11_isIn tg_1589 rfl rfl (Nat.le_of_ble_eq_true rfl) tg_1587 tg_1588 tg_158 (by decide +kernel) ws H locs ls hR hsz (Nat.zero_le _) (Nat.zero_le _)) rfl (fun r1 w1 hpo => ?_)
  obtain ⟨q2, rfl⟩ := hpo
  refine ex_if_eq (off := 12) (tgt := 23) (np := 14) C (by decide +kernel) (by decide) rfl (fun h3 => ?_) (fun h3 => ?_)
  · skip
    exfalso; rw [q2] at h3; exact absurd h3 (by decide +kernel)
  · skip
    refine ex_aload_n (q := 0) (x := 0) (np := 15) C (by decide +kernel) rfl rfl ?_
    refine ex_getf (q := 50) (v := .ref 5) (np := 18) C hc_X11 hin_X11 (by decide) tg_1425 (by decide +kernel) (WJ_0 _) rfl rfl ?_
    refine ex_iload_n (q := 1) (x := (1 : Int32)) (np := 19) C (by decide +kernel) rfl rfl ?_
    refine ex_zald (f := (σ.2.2.1 2)) (kk := 1) (np := 20) C (by decide +kernel) (WJ_5 _) (by decide) (by decide) rfl ?_
    refine ex_if_ne (off := 5) (tgt := 25) (np := 23) C (by decide +kernel) (by decide) rfl (fun h4 => ?_) (fun h4 => ?_)
    · skip
      refine ex_iconst (n := 0) (v := 0) (np := 26) C (by decide +kernel) (by decide) rfl ?_
      refine ex_istore_n (q := 2) (np := 27) (lv1 := [(2, .int (0 : Int32)), (0, .ref 0), (1, .int (1 : Int32))]) C (by decide) (by decide +kernel) rfl rfl ?_
      refine ex_drop (lv1 := [(2, .int (0 : Int32)), (1, .int (1 : Int32)), (0, .ref 0)]) [0, 2, 1] rfl ?_
      have hkp := h4
      have l1 : ∀ (n i : Nat) (f : Nat → Int32), i + n = 305 → ((∀ j : Nat, j < i → f j = σ.2.2.1 1 (305 + j))) → ex_okP p l e R s m below meth c 3 X D A [.ref 0, .int (1 : Int32)] (fun r w => (r = (0 : Int32) ∧ σ.2.2.1 2 1 = 0 ∧ w = WJ (sI 0 (0 : Int32) σ)) ∨ (r = (1 : Int32) ∧ ¬ σ.2.2.1 2 1 = 0 ∧ ∃ (f : Nat → Int32) (g : Nat → Int64), ((∀ j : Nat, j < 305 → f j = σ.2.2.1 1 (305 + j)) ∧ (∀ j : Nat, j < 15 → g j = σ.2.2.2 1 (15 + j))) ∧ w = WJ (sI 14 (0 : Int32) (sQ 0 g (sR 0 f (sI 0 (0 : Int32) σ)))))) (some .boolean) (WJ (sR 0 f (sI 0 (0 : Int32) σ))) 27 [(2, .int (nI i)), (1, .int (1 : Int32)), (0, .ref 0)] [] := by
        intro n
        induction n with
        | zero =>
          intro i f hi hh
          have hf := hh
          have hki : (nI i).toInt = (i : Int) := nI_toInt (by omega)
          have e305 : (305 : Int32).toInt = 305 := by decide
          refine ex_iload_n (q := 2) (x := (nI i)) (np := 28) C (by decide +kernel) rfl rfl ?_
          refine ex_sipush (n := 305) (v := 305) (np := 31) C (by decide +kernel) (by decide) rfl ?_
          refine ex_icmp_ge (off := 27) (tgt := 58) (np := 34) C (by decide +kernel) (by decide) rfl (fun h5 => ?_) (fun h5 => ?_)
          · skip
            obtain rfl : i = 305 := by omega
            refine ex_iconst (n := 0) (v := 0) (np := 59) C (by decide +kernel) (by decide) rfl ?_
            refine ex_istore_n (q := 2) (np := 60) (lv1 := [(2, .int (0 : Int32)), (1, .int (1 : Int32)), (0, .ref 0)]) C (by decide) (by decide +kernel) rfl rfl ?_
            refine ex_drop (lv1 := [(2, .int (0 : Int32)), (1, .int (1 : Int32)), (0, .ref 0)]) [0, 1, 2] rfl ?_
            have l2 : ∀ (n i : Nat) (g : Nat → Int64), i + n = 15 → ((∀ j : Nat, j < i → g j = σ.2.2.2 1 (15 + j))) → ex_okP p l e R s m below meth c 3 X D A [.ref 0, .int (1 : Int32)] (fun r w => (r = (0 : Int32) ∧ σ.2.2.1 2 1 = 0 ∧ w = WJ (sI 0 (0 : Int32) σ)) ∨ (r = (1 : Int32) ∧ ¬ σ.2.2.1 2 1 = 0 ∧ ∃ (f : Nat → Int32) (g : Nat → Int64), ((∀ j : Nat, j < 305 → f j = σ.2.2.1 1 (305 + j)) ∧ (∀ j : Nat, j < 15 → g j = σ.2.2.2 1 (15 + j))) ∧ w = WJ (sI 14 (0 : Int32) (sQ 0 g (sR 0 f (sI 0 (0 : Int32) σ)))))) (some .boolean) (WJ (sQ 0 g (sR 0 f (sI 0 (0 : Int32) σ)))) 60 [(2, .int (nI i)), (1, .int (1 : Int32)), (0, .ref 0)] [] := by
              intro n
              induction n with
              | zero =>
                intro i g hi hh
                have hg := hh
                have hki : (nI i).toInt = (i : Int) := nI_toInt (by omega)
                have e15 : (15 : Int32).toInt = 15 := by decide
                refine ex_iload_n (q := 2) (x := (nI i)) (np := 61) C (by decide +kernel) rfl rfl ?_
                refine ex_bipush (n := 15) (v := 15) (np := 63) C (by decide +kernel) (by decide) rfl ?_
                refine ex_icmp_ge (off := 26) (tgt := 89) (np := 66) C (by decide +kernel) (by decide) rfl (fun h6 => ?_) (fun h6 => ?_)
                · skip
                  obtain rfl : i = 15 := by omega
                  refine ex_drop (lv1 := [(1, .int (1 : Int32)), (0, .ref 0)]) [1, 2] rfl ?_
                  refine ex_aload_n (q := 0) (x := 0) (np := 90) C (by decide +kernel) rfl rfl ?_
                  refine ex_iconst (n := 0) (v := 0) (np := 91) C (by decide +kernel) (by decide) rfl ?_
                  refine ex_putf (q := 23) (w1 := (WJ (sI 14 (0 : Int32) (sQ 0 g (sR 0 f (sI 0 (0 : Int32) σ)))))) (np := 94) C hc_X11 hin_X11 (by decide) tyX11_ok nmX11 tg_1398 rfl (by decide +kernel) (WJ_0 _) (Nat.le_of_ble_eq_true rfl) rfl rfl (WJ_0_23 _ _) rfl ?_
                  refine ex_iconst (n := 1) (v := 1) (np := 95) C (by decide +kernel) (by decide) rfl ?_
                  exact ex_iret C hr hlk (by decide +kernel) rfl (Nat.le_refl _) (Nat.le_refl _) (Or.inr ⟨rfl, hkp, ⟨f, g, ⟨hf, hg⟩, rfl⟩⟩)
                · skip
                  exfalso; rw [hki, e15] at h6; omega
              | succ n ih =>
                intro i g hi hh
                have hg := hh
                have hki : (nI i).toInt = (i : Int) := nI_toInt (by omega)
                have e15 : (15 : Int32).toInt = 15 := by decide
                have em : ((15 : Int32) * (1 : Int32)).toInt = 15 := by decide +kernel
                have s15 : (((15 : Int32) * (1 : Int32)) + nI i).toInt = 15 + i := by have g1 := ex_add (x := (15 : Int32) * (1 : Int32)) (y := nI i) (k := i) (by rw [em]; decide) hki (by rw [em]; omega); rw [em] at g1; exact g1
                have c15 : (((15 : Int32) * (1 : Int32)) + nI i).toNatClampNeg = 15 + i := by have c9 := ex_cl (x := ((15 : Int32) * (1 : Int32)) + nI i) (by rw [s15]; omega); rw [s15] at c9; omega
                refine ex_iload_n (q := 2) (x := (nI i)) (np := 61) C (by decide +kernel) rfl rfl ?_
                refine ex_bipush (n := 15) (v := 15) (np := 63) C (by decide +kernel) (by decide) rfl ?_
                refine ex_icmp_ge (off := 26) (tgt := 89) (np := 66) C (by decide +kernel) (by decide) rfl (fun h7 => ?_) (fun h7 => ?_)
                · skip
                  exfalso; rw [hki, e15] at h7; omega
                · skip
                  refine ex_aload_n (q := 0) (x := 0) (np := 67) C (by decide +kernel) rfl rfl ?_
                  refine ex_getf (q := 9) (v := .ref 2) (np := 70) C hc_X11 hin_X11 (by decide) tg_1384 (by decide +kernel) (WJ_0 _) rfl rfl ?_
                  refine ex_iload_n (q := 2) (x := (nI i)) (np := 71) C (by decide +kernel) rfl rfl ?_
                  refine ex_aload_n (q := 0) (x := 0) (np := 72) C (by decide +kernel) rfl rfl ?_
                  refine ex_getf (q := 49) (v := .ref 4) (np := 75) C hc_X11 hin_X11 (by decide) tg_1424 (by decide +kernel) (WJ_0 _) rfl rfl ?_
                  refine ex_bipush (n := 15) (v := 15) (np := 77) C (by decide +kernel) (by decide) rfl ?_
                  refine ex_iload_n (q := 1) (x := (1 : Int32)) (np := 78) C (by decide +kernel) rfl rfl ?_
                  refine ex_imul (v := ((15 : Int32) * (1 : Int32))) (np := 79) C (by decide +kernel) rfl rfl ?_
                  refine ex_iload_n (q := 2) (x := (nI i)) (np := 80) C (by decide +kernel) rfl rfl ?_
                  refine ex_iadd (v := (((15 : Int32) * (1 : Int32)) + (nI i))) (np := 81) C (by decide +kernel) rfl rfl ?_
                  refine ex_lald (f := (σ.2.2.2 1)) (kk := ((((15 : Int32) * (1 : Int32)) + (nI i))).toNatClampNeg) (np := 82) C (by decide +kernel) (WJ_4 _) (by rw [s15]; omega) rfl rfl ?_
                  refine ex_last (f := g) (kk := ((nI i)).toNatClampNeg) (w1 := (WJ (sQ 0 (vp_updL g ((nI i)).toNatClampNeg ((σ.2.2.2 1) ((((15 : Int32) * (1 : Int32)) + (nI i))).toNatClampNeg)) (sQ 0 g (sR 0 f (sI 0 (0 : Int32) σ)))))) (np := 83) C (by decide +kernel) (WJ_2 _) (by rw [hki]; omega) rfl (WJ_2_s _ _) rfl ?_
                  refine ex_iinc (i := 2) (n := 1) (x := (nI i)) (v := ((nI i) + 1)) (np := 86) (lv1 := [(2, .int ((nI i) + 1)), (1, .int (1 : Int32)), (0, .ref 0)]) C (by decide) (by decide +kernel) rfl (by rfl) rfl rfl ?_
                  refine ex_goto (off := (-26)) (tgt := 60) C (by decide +kernel) (by decide) ?_
                  refine ex_drop (lv1 := [(2, .int ((nI i) + 1)), (1, .int (1 : Int32)), (0, .ref 0)]) [0, 1, 2] rfl ?_
                  rw [← nI_succ]
                  rw [ex_qq]
                  exact ih (i + 1) _ (by omega) (fun j h1 => by unfold vp_updL; rw [ex_nk (k := i) (by omega), c15]; by_cases hj : j = i; (rw [if_pos hj, hj]); (rw [if_neg hj]; exact hg j (by omega)))
            have h9 := l2 15 0 (σ.2.2.2 0) rfl (fun j h1 => absurd h1 (Nat.not_lt_zero j))
            rw [ex_qid (k := 0) (f := σ.2.2.2 0) (σ := (sR 0 f (sI 0 (0 : Int32) σ))) rfl] at h9
            exact h9
          · skip
            exfalso; rw [hki, e305] at h5; omega
        | succ n ih =>
          intro i f hi hh
          have hf := hh
          have hki : (nI i).toInt = (i : Int) := nI_toInt (by omega)
          have e305 : (305 : Int32).toInt = 305 := by decide
          have em : ((305 : Int32) * (1 : Int32)).toInt = 305 := by decide +kernel
          have s305 : (((305 : Int32) * (1 : Int32)) + nI i).toInt = 305 + i := by have g1 := ex_add (x := (305 : Int32) * (1 : Int32)) (y := nI i) (k := i) (by rw [em]; decide) hki (by rw [em]; omega); rw [em] at g1; exact g1
          have c305 : (((305 : Int32) * (1 : Int32)) + nI i).toNatClampNeg = 305 + i := by have c9 := ex_cl (x := ((305 : Int32) * (1 : Int32)) + nI i) (by rw [s305]; omega); rw [s305] at c9; omega
          refine ex_iload_n (q := 2) (x := (nI i)) (np := 28) C (by decide +kernel) rfl rfl ?_
          refine ex_sipush (n := 305) (v := 305) (np := 31) C (by decide +kernel) (by decide) rfl ?_
          refine ex_icmp_ge (off := 27) (tgt := 58) (np := 34) C (by decide +kernel) (by decide) rfl (fun h8 => ?_) (fun h8 => ?_)
          · skip
            exfalso; rw [hki, e305] at h8; omega
          · skip
            refine ex_aload_n (q := 0) (x := 0) (np := 35) C (by decide +kernel) rfl rfl ?_
            refine ex_getf (q := 6) (v := .ref 1) (np := 38) C hc_X11 hin_X11 (by decide) tg_1381 (by decide +kernel) (WJ_0 _) rfl rfl ?_
            refine ex_iload_n (q := 2) (x := (nI i)) (np := 39) C (by decide +kernel) rfl rfl ?_
            refine ex_aload_n (q := 0) (x := 0) (np := 40) C (by decide +kernel) rfl rfl ?_
            refine ex_getf (q := 48) (v := .ref 3) (np := 43) C hc_X11 hin_X11 (by decide) tg_1423 (by decide +kernel) (WJ_0 _) rfl rfl ?_
            refine ex_sipush (n := 305) (v := 305) (np := 46) C (by decide +kernel) (by decide) rfl ?_
            refine ex_iload_n (q := 1) (x := (1 : Int32)) (np := 47) C (by decide +kernel) rfl rfl ?_
            refine ex_imul (v := ((305 : Int32) * (1 : Int32))) (np := 48) C (by decide +kernel) rfl rfl ?_
            refine ex_iload_n (q := 2) (x := (nI i)) (np := 49) C (by decide +kernel) rfl rfl ?_
            refine ex_iadd (v := (((305 : Int32) * (1 : Int32)) + (nI i))) (np := 50) C (by decide +kernel) rfl rfl ?_
            refine ex_iald (f := (σ.2.2.1 1)) (kk := ((((305 : Int32) * (1 : Int32)) + (nI i))).toNatClampNeg) (np := 51) C (by decide +kernel) (WJ_3 _) (by rw [s305]; omega) rfl rfl ?_
            refine ex_iast (f := f) (kk := ((nI i)).toNatClampNeg) (w1 := (WJ (sR 0 (upd f ((nI i)).toNatClampNeg ((σ.2.2.1 1) ((((305 : Int32) * (1 : Int32)) + (nI i))).toNatClampNeg)) (sR 0 f (sI 0 (0 : Int32) σ))))) (np := 52) C (by decide +kernel) (WJ_1 _) (by rw [hki]; omega) rfl (WJ_1_s _ _) rfl ?_
            refine ex_iinc (i := 2) (n := 1) (x := (nI i)) (v := ((nI i) + 1)) (np := 55) (lv1 := [(2, .int ((nI i) + 1)), (1, .int (1 : Int32)), (0, .ref 0)]) C (by decide) (by decide +kernel) rfl (by rfl) rfl rfl ?_
            refine ex_goto (off := (-28)) (tgt := 27) C (by decide +kernel) (by decide) ?_
            refine ex_drop (lv1 := [(2, .int ((nI i) + 1)), (1, .int (1 : Int32)), (0, .ref 0)]) [0, 1, 2] rfl ?_
            rw [← nI_succ]
            rw [ex_rr]
            exact ih (i + 1) _ (by omega) (fun j h1 => by unfold upd; rw [ex_nk (k := i) (by omega), c305]; by_cases hj : j = i; (rw [if_pos hj, hj]); (rw [if_neg hj]; exact hf j (by omega)))
      have h9 := l1 305 0 (σ.2.2.1 0) rfl (fun j h1 => absurd h1 (Nat.not_lt_zero j))
      rw [ex_rid (k := 0) (f := σ.2.2.1 0) (σ := (sI 0 (0 : Int32) σ)) rfl] at h9
      exact h9
    · skip
      refine ex_iconst (n := 0) (v := 0) (np := 24) C (by decide +kernel) (by decide) rfl ?_
      exact ex_iret C hr hlk (by decide +kernel) rfl (Nat.le_refl _) (Nat.le_refl _) (Or.inl ⟨rfl, h4, rfl⟩)
