/-! The book: the reference. -/
/-- what the reader of a book leaves alone -/
noncomputable def B_G (σ τ : ex_S) : Prop := (∀ k, 12 ≤ k → τ.1 k = σ.1 k) ∧ τ.2.2 = σ.2.2
theorem B_G_0 (σ : ex_S) : B_G σ σ := ⟨fun _ _ => rfl, rfl⟩
theorem B_G_t {σ τ υ : ex_S} (h2 : B_G τ υ) (h1 : B_G σ τ) : B_G σ υ := ⟨fun k hk => (h2.1 k hk).trans (h1.1 k hk), h2.2.trans h1.2⟩
theorem B_G_I {σ τ : ex_S} {k : Nat} {v : Int32} (hk : k < 12) (h : B_G σ τ) : B_G σ (sI k v τ) := ⟨fun j hj => (sI_1.trans (if_neg (by omega))).trans (h.1 j hj), h.2⟩
theorem B_G_n {σ τ : ex_S} (h : B_G σ τ) : B_G σ (B_next τ) := B_G_t ⟨fun k hk => (kB_next τ).1 k (by omega), (kB_next τ).2⟩ h
theorem B_G_b {σ τ : ex_S} {w : Int32} (h : B_G σ τ) : B_G σ (B_bad w τ).2 := B_G_I (k := 10) (by decide) (B_G_I (k := 9) (by decide) h)
theorem fb_X11_next (σ : ex_S) : B_G σ (B_next σ) := B_G_n (B_G_0 σ)
theorem fb_X11_bad (w : Int32) (σ : ex_S) : B_G σ (B_bad w σ).2 := B_G_b (B_G_0 σ)
theorem fb_X11_takes (lo hi : Int32) (σ : ex_S) : B_G σ (B_takes lo hi σ).2 := by
  unfold B_takes
  simp only [ex_bd, ex_lt]
  repeat' (with_reducible split)
  all_goals (repeat (first
    | with_reducible exact B_G_0 _
    | with_reducible refine B_G_n ?_
    | with_reducible refine B_G_b ?_
    | with_reducible refine B_G_I (by decide) ?_
    ))
theorem fb_X11_takesWay (lo hi : Int32) (σ : ex_S) : B_G σ (B_takesWay lo hi σ).2 := by
  unfold B_takesWay
  simp only [ex_bd, ex_lt]
  repeat' (with_reducible split)
  all_goals (repeat (first
    | with_reducible exact B_G_0 _
    | with_reducible refine B_G_n ?_
    | with_reducible refine B_G_b ?_
    | with_reducible refine B_G_I (by decide) ?_
    | with_reducible refine B_G_t (fb_X11_takes _ _ _) ?_
    ))
theorem fb_X11_looksAt (fr ma : Int32) (σ : ex_S) : B_G σ (B_looksAt fr ma σ).2 := by
  unfold B_looksAt
  simp only [ex_bd, ex_lt]
  repeat' (with_reducible split)
  all_goals (repeat (first
    | with_reducible exact B_G_0 _
    | with_reducible refine B_G_n ?_
    | with_reducible refine B_G_b ?_
    | with_reducible refine B_G_I (by decide) ?_
    ))
theorem fb_X11_takesName (fr ma : Int32) (σ : ex_S) : B_G σ (B_takesName fr ma σ).2 := by
  unfold B_takesName
  simp only [ex_bd, ex_lt]
  repeat' (with_reducible split)
  all_goals (repeat (first
    | with_reducible exact B_G_0 _
    | with_reducible refine B_G_n ?_
    | with_reducible refine B_G_b ?_
    | with_reducible refine B_G_I (by decide) ?_
    | with_reducible refine B_G_t (fb_X11_looksAt _ _ _) ?_
    ))
theorem fb_X11_sign (c : Int32) (σ : ex_S) : B_G σ (B_sign c σ).2 := by
  unfold B_sign
  simp only [ex_bd, ex_lt]
  repeat' (with_reducible split)
  all_goals (repeat (first
    | with_reducible exact B_G_0 _
    | with_reducible refine B_G_n ?_
    | with_reducible refine B_G_b ?_
    ))
noncomputable def B_bkLine (σ : ex_S) : Int32 × ex_S :=
  ex_lt (B_isWord (1650814564 : Int64) σ) (fun r1 =>
  if r1 = 0 then
    ex_lt (B_isWord (495672452197 : Int64) σ) (fun r4 =>
    if r4 = 0 then
      ex_lt (B_isWord (427020345714 : Int64) σ) (fun r7 =>
      if r7 = 0 then
        ex_lt (B_isWord (112641513454181 : Int64) σ) (fun r11 =>
        if r11 = 0 then
          ex_lt (B_isWord (6578553 : Int64) σ) (fun r14 =>
          if r14 = 0 then
            ex_bd (B_bad (1 : Int32) σ) (fun r18 σ19 =>
            (r18, σ19))
          else
            if (σ.1 20) = (40 : Int32) then
              ex_bd (B_bad (4 : Int32) σ) (fun r38 σ39 =>
              (r38, σ39))
            else
              ex_lt (B_next σ) (fun σ25 =>
              ex_bd (B_takes (1 : Int32) (60 : Int32) (sR 3 (upd (σ25.2.2.1 3) (((3 : Int32) * (σ.1 20))).toNatClampNeg (4 : Int32)) σ25)) (fun r31 σ32 =>
              if r31 = 0 then
                ((0 : Int32), σ32)
              else
                ((1 : Int32), (sR 3 (upd (σ32.2.2.1 3) ((((3 : Int32) * (σ.1 20)) + (1 : Int32))).toNatClampNeg (σ32.1 11)) σ32)))))
        else
          if (σ.1 20) = (40 : Int32) then
            ex_bd (B_bad (4 : Int32) σ) (fun r50 σ51 =>
            (r50, σ51))
          else
            ex_lt (B_next σ) (fun σ45 =>
            ((1 : Int32), (sR 3 (upd (σ45.2.2.1 3) (((3 : Int32) * (σ.1 20))).toNatClampNeg (3 : Int32)) σ45))))
      else
        if (σ.1 20) = (40 : Int32) then
          ex_bd (B_bad (4 : Int32) σ) (fun r70 σ71 =>
          (r70, σ71))
        else
          ex_lt (B_next σ) (fun σ57 =>
          ex_bd (B_takesName (0 : Int32) ((σ57.2.2.1 1) 0) (sR 3 (upd (σ57.2.2.1 3) (((3 : Int32) * (σ.1 20))).toNatClampNeg (2 : Int32)) σ57)) (fun r63 σ64 =>
          if r63 = 0 then
            ((0 : Int32), σ64)
          else
            ((1 : Int32), (sR 3 (upd (σ64.2.2.1 3) ((((3 : Int32) * (σ.1 20)) + (1 : Int32))).toNatClampNeg (σ64.1 11)) σ64)))))
    else
      if (σ.1 20) = (40 : Int32) then
        ex_bd (B_bad (4 : Int32) σ) (fun r90 σ91 =>
        (r90, σ91))
      else
        ex_lt (B_next σ) (fun σ77 =>
        ex_bd (B_takesName (0 : Int32) ((σ77.2.2.1 1) 0) (sR 3 (upd (σ77.2.2.1 3) (((3 : Int32) * (σ.1 20))).toNatClampNeg (1 : Int32)) σ77)) (fun r83 σ84 =>
        if r83 = 0 then
          ((0 : Int32), σ84)
        else
          ((1 : Int32), (sR 3 (upd (σ84.2.2.1 3) ((((3 : Int32) * (σ.1 20)) + (1 : Int32))).toNatClampNeg (σ84.1 11)) σ84)))))
  else
    if (σ.1 20) = (40 : Int32) then
      ex_bd (B_bad (4 : Int32) σ) (fun r117 σ118 =>
      (r117, σ118))
    else
      ex_lt (B_next σ) (fun σ97 =>
      ex_bd (B_takesName (0 : Int32) ((σ97.2.2.1 1) 0) (sR 3 (upd (σ97.2.2.1 3) (((3 : Int32) * (σ.1 20))).toNatClampNeg (0 : Int32)) σ97)) (fun r103 σ104 =>
      if r103 = 0 then
        ((0 : Int32), σ104)
      else
        ex_bd (B_takesWay (1 : Int32) (10 : Int32) (sR 3 (upd (σ104.2.2.1 3) ((((3 : Int32) * (σ.1 20)) + (1 : Int32))).toNatClampNeg (σ104.1 11)) σ104)) (fun r111 σ112 =>
        if r111 = 0 then
          ((0 : Int32), σ112)
        else
          ((1 : Int32), (sR 3 (upd (σ112.2.2.1 3) ((((3 : Int32) * (σ.1 20)) + (2 : Int32))).toNatClampNeg (σ112.1 11)) σ112))))))
noncomputable def B_fault (σ : ex_S) : Int32 × ex_S :=
  ((σ.1 9), (sI 0 (0 : Int32) σ))
set_option maxRecDepth 100000 in
set_option maxHeartbeats 4000000 in
theorem m_X11_bookLine {l : Launch} {X : ab_X} {D : va_G} {A : ex_A} (d : Nat) (hd : 6 ≤ d) (σ : ex_S) (hI : (B_INV σ ∧ (0 ≤ (σ.1 20).toInt ∧ (σ.1 20).toInt ≤ 40) ∧ (0 ≤ (σ.2.2.1 1 0).toInt ∧ (σ.2.2.1 1 0).toInt ≤ 7))) : ex_ctr l X D A d yX11_bookLine cX11_bookLine 3 (some .boolean) (WT σ) [.ref 0] (fun r w => r = (B_bkLine σ).1 ∧ w = WT (B_bkLine σ).2) := by
  obtain ⟨d, rfl⟩ : ∃ d9, d = d9 + 1 := ⟨d - 1, by omega⟩
  refine ex_meth (own := RX11) rfl (by decide) (Nat.le_of_ble_eq_true rfl) (fun p e R s m below meth c C hr hlk hd1 hd2 => ?_)
  show ex_ok p l e R s m _ below meth c 0 0 _ 3 X D A (WT σ) 0 [(0, .ref 0)] []
  refine ex_iconst (n := 3) (v := 3) (np := 1) C (by decide +kernel) (by decide) rfl ?_
  refine ex_aload_n (q := 0) (x := 0) (np := 2) C (by decide +kernel) rfl rfl ?_
  refine ex_getf (q := 38) (v := .int (σ.1 20)) (np := 5) C hc_X11 hin_X11 (by decide) tg_1413 (by decide +kernel) (WT_0 _) rfl rfl ?_
  refine ex_imul (v := ((3 : Int32) * (σ.1 20))) (np := 6) C (by decide +kernel) rfl rfl ?_
  refine ex_istore_n (q := 1) (np := 7) (lv1 := [(1, .int ((3 : Int32) * (σ.1 20))), (0, .ref 0)]) C (by decide) (by decide +kernel) rfl rfl ?_
  refine ex_aload_n (q := 0) (x := 0) (np := 8) C (by decide +kernel) rfl rfl ?_
  refine ex_ldc2 (np := 11) C tg_1357 (by decide +kernel) rfl ?_
  refine ex_call_i (np := 14) (fun ws H locs ls hR hsz => ex_runV (C1 := "") C (m_X11_isWord_T d (by omega) (1650814564 : Int64) σ) hd1 hd2 (by decide) hy_X11_isWord tg_1558 hc_X11 rfl (WT_0 _) rfl rfl (Nat.le_of_ble_eq_true rfl) rfl tg_1555 tg_1557 tg_86 tg_158 (by decide +kernel) ws H locs ls hR hsz (Nat.zero_le _) (Nat.zero_le _)) rfl (fun r1 w1 hpo => ?_)
  obtain ⟨q2, rfl⟩ := hpo
  refine ex_if_eq (off := 7) (tgt := 21) (np := 17) C (by decide +kernel) (by decide) rfl (fun h3 => ?_) (fun h3 => ?_)
  · skip
    refine ex_aload_n (q := 0) (x := 0) (np := 22) C (by decide +kernel) rfl rfl ?_
    refine ex_ldc2 (np := 25) C tg_1358 (by decide +kernel) rfl ?_
    refine ex_call_i (np := 28) (fun ws H locs ls hR hsz => ex_runV (C1 := "") C (m_X11_isWord_T d (by omega) (495672452197 : Int64) σ) hd1 hd2 (by decide) hy_X11_isWord tg_1558 hc_X11 rfl (WT_0 _) rfl rfl (Nat.le_of_ble_eq_true rfl) rfl tg_1555 tg_1557 tg_86 tg_158 (by decide +kernel) ws H locs ls hR hsz (Nat.zero_le _) (Nat.zero_le _)) rfl (fun r4 w1 hpo => ?_)
    obtain ⟨q5, rfl⟩ := hpo
    refine ex_if_eq (off := 7) (tgt := 35) (np := 31) C (by decide +kernel) (by decide) rfl (fun h6 => ?_) (fun h6 => ?_)
    · skip
      refine ex_aload_n (q := 0) (x := 0) (np := 36) C (by decide +kernel) rfl rfl ?_
      refine ex_ldc2 (np := 39) C tg_1359 (by decide +kernel) rfl ?_
      refine ex_call_i (np := 42) (fun ws H locs ls hR hsz => ex_runV (C1 := "") C (m_X11_isWord_T d (by omega) (427020345714 : Int64) σ) hd1 hd2 (by decide) hy_X11_isWord tg_1558 hc_X11 rfl (WT_0 _) rfl rfl (Nat.le_of_ble_eq_true rfl) rfl tg_1555 tg_1557 tg_86 tg_158 (by decide +kernel) ws H locs ls hR hsz (Nat.zero_le _) (Nat.zero_le _)) rfl (fun r7 w1 hpo => ?_)
      obtain ⟨q8, rfl⟩ := hpo
      refine ex_if_eq (off := 7) (tgt := 49) (np := 45) C (by decide +kernel) (by decide) rfl (fun h10 => ?_) (fun h10 => ?_)
      · skip
        refine ex_aload_n (q := 0) (x := 0) (np := 50) C (by decide +kernel) rfl rfl ?_
        refine ex_ldc2 (np := 53) C tg_1360 (by decide +kernel) rfl ?_
        refine ex_call_i (np := 56) (fun ws H locs ls hR hsz => ex_runV (C1 := "") C (m_X11_isWord_T d (by omega) (112641513454181 : Int64) σ) hd1 hd2 (by decide) hy_X11_isWord tg_1558 hc_X11 rfl (WT_0 _) rfl rfl (Nat.le_of_ble_eq_true rfl) rfl tg_1555 tg_1557 tg_86 tg_158 (by decide +kernel) ws H locs ls hR hsz (Nat.zero_le _) (Nat.zero_le _)) rfl (fun r11 w1 hpo => ?_)
        obtain ⟨q12, rfl⟩ := hpo
        refine ex_if_eq (off := 7) (tgt := 63) (np := 59) C (by decide +kernel) (by decide) rfl (fun h13 => ?_) (fun h13 => ?_)
        · skip
          refine ex_aload_n (q := 0) (x := 0) (np := 64) C (by decide +kernel) rfl rfl ?_
          refine ex_ldc2 (np := 67) C tg_1361 (by decide +kernel) rfl ?_
          refine ex_call_i (np := 70) (fun ws H locs ls hR hsz => ex_runV (C1 := "") C (m_X11_isWord_T d (by omega) (6578553 : Int64) σ) hd1 hd2 (by decide) hy_X11_isWord tg_1558 hc_X11 rfl (WT_0 _) rfl rfl (Nat.le_of_ble_eq_true rfl) rfl tg_1555 tg_1557 tg_86 tg_158 (by decide +kernel) ws H locs ls hR hsz (Nat.zero_le _) (Nat.zero_le _)) rfl (fun r14 w1 hpo => ?_)
          obtain ⟨q15, rfl⟩ := hpo
          refine ex_if_eq (off := 7) (tgt := 77) (np := 73) C (by decide +kernel) (by decide) rfl (fun h16 => ?_) (fun h16 => ?_)
          · skip
            refine ex_iconst (n := (-1)) (v := (-1)) (np := 78) C (by decide +kernel) (by decide) rfl ?_
            refine ex_istore_n (q := 2) (np := 79) (lv1 := [(2, .int (-1 : Int32)), (1, .int ((3 : Int32) * (σ.1 20))), (0, .ref 0)]) C (by decide) (by decide +kernel) rfl rfl ?_
            refine ex_iload_n (q := 2) (x := (-1 : Int32)) (np := 80) C (by decide +kernel) rfl rfl ?_
            refine ex_if_ge (off := 9) (tgt := 89) (np := 83) C (by decide +kernel) (by decide) rfl (fun h17 => ?_) (fun h17 => ?_)
            · skip
              exact absurd (by decide) h17
            · skip
              refine ex_aload_n (q := 0) (x := 0) (np := 84) C (by decide +kernel) rfl rfl ?_
              refine ex_iconst (n := 1) (v := 1) (np := 85) C (by decide +kernel) (by decide) rfl ?_
              obtain ⟨r18, σ19, q20⟩ : ∃ r x, B_bad (1 : Int32) σ = (r, x) := ex_pair _
              refine ex_call_i (np := 88) (fun ws H locs ls hR hsz => ex_runV (C1 := "") C (m_X11_bad_T d (by omega) (1 : Int32) σ) hd1 hd2 (by decide) hy_X11_bad tg_1566 hc_X11 rfl (WT_0 _) rfl rfl (Nat.le_of_ble_eq_true rfl) rfl tg_1563 tg_1565 tg_88 tg_158 (by decide +kernel) ws H locs ls hR hsz (Nat.zero_le _) (Nat.zero_le _)) rfl (fun r9 w1 hpo => ?_)
              rw [q20] at hpo
              have hp1 : r18 = r9 := hpo.1.symm
              have hp2 := hpo.2
              clear hpo; subst hp1; subst hp2
              have hI21 := inv_X11_bad (1 : Int32) σ hI; rw [q20] at hI21
              have hF22 := fb_X11_bad (1 : Int32) σ; rw [q20] at hF22
              have E9 : B_bkLine σ = (r18, σ19) := by unfold B_bkLine; exact (ex_lt_eq q2).trans ((if_pos h3).trans ((ex_lt_eq q5).trans ((if_pos h6).trans ((ex_lt_eq q8).trans ((if_pos h10).trans ((ex_lt_eq q12).trans ((if_pos h13).trans ((ex_lt_eq q15).trans ((if_pos h16).trans ((ex_bd_eq q20).trans (rfl)))))))))))
              exact ex_iret C hr hlk (by decide +kernel) (ex_nar (by have b9 := bl_X11_bad (1 : Int32) σ; rw [q20] at b9; exact b9)) (Nat.le_refl _) (Nat.le_refl _) (by rw [E9]; exact ⟨rfl, rfl⟩)
          · skip
            refine ex_iconst (n := 4) (v := 4) (np := 74) C (by decide +kernel) (by decide) rfl ?_
            refine ex_goto (off := 4) (tgt := 78) C (by decide +kernel) (by decide) ?_
            refine ex_istore_n (q := 2) (np := 79) (lv1 := [(2, .int (4 : Int32)), (1, .int ((3 : Int32) * (σ.1 20))), (0, .ref 0)]) C (by decide) (by decide +kernel) rfl rfl ?_
            refine ex_iload_n (q := 2) (x := (4 : Int32)) (np := 80) C (by decide +kernel) rfl rfl ?_
            refine ex_if_ge (off := 9) (tgt := 89) (np := 83) C (by decide +kernel) (by decide) rfl (fun h23 => ?_) (fun h23 => ?_)
            · skip
              refine ex_aload_n (q := 0) (x := 0) (np := 90) C (by decide +kernel) rfl rfl ?_
              refine ex_getf (q := 38) (v := .int (σ.1 20)) (np := 93) C hc_X11 hin_X11 (by decide) tg_1413 (by decide +kernel) (WT_0 _) rfl rfl ?_
              refine ex_bipush (n := 40) (v := 40) (np := 95) C (by decide +kernel) (by decide) rfl ?_
              refine ex_icmp_ne (off := 9) (tgt := 104) (np := 98) C (by decide +kernel) (by decide) rfl (fun h24 => ?_) (fun h24 => ?_)
              · skip
                refine ex_aload_n (q := 0) (x := 0) (np := 105) C (by decide +kernel) rfl rfl ?_
                obtain ⟨σ25, q26⟩ : ∃ x, x = B_next σ := ⟨_, rfl⟩
                refine ex_call_v (np := 108) (fun ws H locs ls hR hsz => ex_runV (C1 := "") C (m_X11_next_T d (by omega) σ hI.1) hd1 hd2 (by decide) hy_X11_next tg_1540 hc_X11 rfl (WT_0 _) rfl rfl (Nat.le_of_ble_eq_true rfl) rfl tg_1537 tg_1539 tg_83 tg_158 (by decide +kernel) ws H locs ls hR hsz (Nat.zero_le _) (Nat.zero_le _)) rfl (fun w1 hpo => ?_)
                rw [← q26] at hpo
                subst hpo
                have hI27 := inv_X11_next σ hI.1; rw [← q26] at hI27
                have hF28 := fb_X11_next σ; rw [← q26] at hF28
                refine ex_aload_n (q := 0) (x := 0) (np := 109) C (by decide +kernel) rfl rfl ?_
                refine ex_getf (q := 8) (v := .ref 4) (np := 112) C hc_X11 hin_X11 (by decide) tg_1383 (by decide +kernel) (WT_0 _) rfl rfl ?_
                refine ex_iload_n (q := 1) (x := ((3 : Int32) * (σ.1 20))) (np := 113) C (by decide +kernel) rfl rfl ?_
                refine ex_iload_n (q := 2) (x := (4 : Int32)) (np := 114) C (by decide +kernel) rfl rfl ?_
                refine ex_iast (f := (σ25.2.2.1 3)) (kk := (((3 : Int32) * (σ.1 20))).toNatClampNeg) (w1 := (WT (sR 3 (upd (σ25.2.2.1 3) (((3 : Int32) * (σ.1 20))).toNatClampNeg (4 : Int32)) σ25))) (np := 115) C (by decide +kernel) (WT_4 _) (by have n9 := ex_neI h24; have e40 : (40 : Int32).toInt = 40 := (by decide); have g9 := hI.2.1; have l9 : 0 ≤ (σ.1 20).toInt ∧ (σ.1 20).toInt < 40 := ⟨g9.1, by omega⟩; have e9 := ex_m3 (x := σ.1 20) ⟨by omega, by omega⟩; omega) rfl (WT_4_s _ _) rfl ?_
                refine ex_iload_n (q := 2) (x := (4 : Int32)) (np := 116) C (by decide +kernel) rfl rfl ?_
                refine ex_iconst (n := 3) (v := 3) (np := 117) C (by decide +kernel) (by decide) rfl ?_
                refine ex_icmp_ne (off := 5) (tgt := 122) (np := 120) C (by decide +kernel) (by decide) rfl (fun h29 => ?_) (fun h29 => ?_)
                · skip
                  refine ex_iload_n (q := 2) (x := (4 : Int32)) (np := 123) C (by decide +kernel) rfl rfl ?_
                  refine ex_iconst (n := 4) (v := 4) (np := 124) C (by decide +kernel) (by decide) rfl ?_
                  refine ex_icmp_ne (off := 16) (tgt := 140) (np := 127) C (by decide +kernel) (by decide) rfl (fun h30 => ?_) (fun h30 => ?_)
                  · skip
                    exact absurd (by decide) h30
                  · skip
                    refine ex_aload_n (q := 0) (x := 0) (np := 128) C (by decide +kernel) rfl rfl ?_
                    refine ex_iconst (n := 1) (v := 1) (np := 129) C (by decide +kernel) (by decide) rfl ?_
                    refine ex_bipush (n := 60) (v := 60) (np := 131) C (by decide +kernel) (by decide) rfl ?_
                    obtain ⟨r31, σ32, q33⟩ : ∃ r x, B_takes (1 : Int32) (60 : Int32) (sR 3 (upd (σ25.2.2.1 3) (((3 : Int32) * (σ.1 20))).toNatClampNeg (4 : Int32)) σ25) = (r, x) := ex_pair _
                    refine ex_call_i (np := 134) (fun ws H locs ls hR hsz => ex_runV (C1 := "") C (m_X11_takes_T d (by omega) (1 : Int32) (60 : Int32) (sR 3 (upd (σ25.2.2.1 3) (((3 : Int32) * (σ.1 20))).toNatClampNeg (4 : Int32)) σ25) hI27) hd1 hd2 (by decide) hy_X11_takes tg_1586 hc_X11 rfl (WT_0 _) rfl rfl (Nat.le_of_ble_eq_true rfl) rfl tg_1583 tg_1585 tg_93 tg_158 (by decide +kernel) ws H locs ls hR hsz (Nat.zero_le _) (Nat.zero_le _)) rfl (fun r9 w1 hpo => ?_)
                    rw [q33] at hpo
                    have hp1 : r31 = r9 := hpo.1.symm
                    have hp2 := hpo.2
                    clear hpo; subst hp1; subst hp2
                    have hI34 := inv_X11_takes (1 : Int32) (60 : Int32) (sR 3 (upd (σ25.2.2.1 3) (((3 : Int32) * (σ.1 20))).toNatClampNeg (4 : Int32)) σ25) hI27; rw [q33] at hI34
                    have hF35 := fb_X11_takes (1 : Int32) (60 : Int32) (sR 3 (upd (σ25.2.2.1 3) (((3 : Int32) * (σ.1 20))).toNatClampNeg (4 : Int32)) σ25); rw [q33] at hF35
                    refine ex_if_ne (off := 22) (tgt := 156) (np := 137) C (by decide +kernel) (by decide) rfl (fun h36 => ?_) (fun h36 => ?_)
                    · skip
                      refine ex_aload_n (q := 0) (x := 0) (np := 157) C (by decide +kernel) rfl rfl ?_
                      refine ex_getf (q := 8) (v := .ref 4) (np := 160) C hc_X11 hin_X11 (by decide) tg_1383 (by decide +kernel) (WT_0 _) rfl rfl ?_
                      refine ex_iload_n (q := 1) (x := ((3 : Int32) * (σ.1 20))) (np := 161) C (by decide +kernel) rfl rfl ?_
                      refine ex_iconst (n := 1) (v := 1) (np := 162) C (by decide +kernel) (by decide) rfl ?_
                      refine ex_iadd (v := (((3 : Int32) * (σ.1 20)) + (1 : Int32))) (np := 163) C (by decide +kernel) rfl rfl ?_
                      refine ex_aload_n (q := 0) (x := 0) (np := 164) C (by decide +kernel) rfl rfl ?_
                      refine ex_getf (q := 18) (v := .int (σ32.1 11)) (np := 167) C hc_X11 hin_X11 (by decide) tg_1393 (by decide +kernel) (WT_0 _) rfl rfl ?_
                      refine ex_iast (f := (σ32.2.2.1 3)) (kk := ((((3 : Int32) * (σ.1 20)) + (1 : Int32))).toNatClampNeg) (w1 := (WT (sR 3 (upd (σ32.2.2.1 3) ((((3 : Int32) * (σ.1 20)) + (1 : Int32))).toNatClampNeg (σ32.1 11)) σ32))) (np := 168) C (by decide +kernel) (WT_4 _) (by have n9 := ex_neI h24; have e40 : (40 : Int32).toInt = 40 := (by decide); have g9 := hI.2.1; have l9 : 0 ≤ (σ.1 20).toInt ∧ (σ.1 20).toInt < 40 := ⟨g9.1, by omega⟩; have e9 := ex_m3a (x := σ.1 20) (y := (1 : Int32)) (k := 1) ⟨by omega, by omega⟩ (by decide) (by decide); omega) rfl (WT_4_s _ _) rfl ?_
                      refine ex_iload_n (q := 2) (x := (4 : Int32)) (np := 169) C (by decide +kernel) rfl rfl ?_
                      refine ex_if_le (off := 5) (tgt := 174) (np := 172) C (by decide +kernel) (by decide) rfl (fun h37 => ?_) (fun h37 => ?_)
                      · skip
                        exact absurd (by decide) h37
                      · skip
                        refine ex_iconst (n := 1) (v := 1) (np := 173) C (by decide +kernel) (by decide) rfl ?_
                        have E9 : B_bkLine σ = ((1 : Int32), (sR 3 (upd (σ32.2.2.1 3) ((((3 : Int32) * (σ.1 20)) + (1 : Int32))).toNatClampNeg (σ32.1 11)) σ32)) := by unfold B_bkLine; exact (ex_lt_eq q2).trans ((if_pos h3).trans ((ex_lt_eq q5).trans ((if_pos h6).trans ((ex_lt_eq q8).trans ((if_pos h10).trans ((ex_lt_eq q12).trans ((if_pos h13).trans ((ex_lt_eq q15).trans ((if_neg h16).trans ((if_neg h24).trans ((ex_lt_eq q26).trans ((ex_bd_eq q33).trans ((if_neg h36).trans (rfl))))))))))))))
                        exact ex_iret C hr hlk (by decide +kernel) rfl (Nat.le_refl _) (Nat.le_refl _) (by rw [E9]; exact ⟨rfl, rfl⟩)
                    · skip
                      refine ex_goto (off := 17) (tgt := 154) C (by decide +kernel) (by decide) ?_
                      refine ex_iconst (n := 0) (v := 0) (np := 155) C (by decide +kernel) (by decide) rfl ?_
                      have E9 : B_bkLine σ = ((0 : Int32), σ32) := by unfold B_bkLine; exact (ex_lt_eq q2).trans ((if_pos h3).trans ((ex_lt_eq q5).trans ((if_pos h6).trans ((ex_lt_eq q8).trans ((if_pos h10).trans ((ex_lt_eq q12).trans ((if_pos h13).trans ((ex_lt_eq q15).trans ((if_neg h16).trans ((if_neg h24).trans ((ex_lt_eq q26).trans ((ex_bd_eq q33).trans ((if_pos h36).trans (rfl))))))))))))))
                      exact ex_iret C hr hlk (by decide +kernel) rfl (Nat.le_refl _) (Nat.le_refl _) (by rw [E9]; exact ⟨rfl, rfl⟩)
                · skip
                  exact absurd h29 (by decide)
              · skip
                refine ex_aload_n (q := 0) (x := 0) (np := 99) C (by decide +kernel) rfl rfl ?_
                refine ex_iconst (n := 4) (v := 4) (np := 100) C (by decide +kernel) (by decide) rfl ?_
                obtain ⟨r38, σ39, q40⟩ : ∃ r x, B_bad (4 : Int32) σ = (r, x) := ex_pair _
                refine ex_call_i (np := 103) (fun ws H locs ls hR hsz => ex_runV (C1 := "") C (m_X11_bad_T d (by omega) (4 : Int32) σ) hd1 hd2 (by decide) hy_X11_bad tg_1566 hc_X11 rfl (WT_0 _) rfl rfl (Nat.le_of_ble_eq_true rfl) rfl tg_1563 tg_1565 tg_88 tg_158 (by decide +kernel) ws H locs ls hR hsz (Nat.zero_le _) (Nat.zero_le _)) rfl (fun r9 w1 hpo => ?_)
                rw [q40] at hpo
                have hp1 : r38 = r9 := hpo.1.symm
                have hp2 := hpo.2
                clear hpo; subst hp1; subst hp2
                have hI41 := inv_X11_bad (4 : Int32) σ hI; rw [q40] at hI41
                have hF42 := fb_X11_bad (4 : Int32) σ; rw [q40] at hF42
                have E9 : B_bkLine σ = (r38, σ39) := by unfold B_bkLine; exact (ex_lt_eq q2).trans ((if_pos h3).trans ((ex_lt_eq q5).trans ((if_pos h6).trans ((ex_lt_eq q8).trans ((if_pos h10).trans ((ex_lt_eq q12).trans ((if_pos h13).trans ((ex_lt_eq q15).trans ((if_neg h16).trans ((if_pos h24).trans ((ex_bd_eq q40).trans (rfl))))))))))))
                exact ex_iret C hr hlk (by decide +kernel) (ex_nar (by have b9 := bl_X11_bad (4 : Int32) σ; rw [q40] at b9; exact b9)) (Nat.le_refl _) (Nat.le_refl _) (by rw [E9]; exact ⟨rfl, rfl⟩)
            · skip
              exact absurd h23 (by decide)
        · skip
          refine ex_iconst (n := 3) (v := 3) (np := 60) C (by decide +kernel) (by decide) rfl ?_
          refine ex_goto (off := 18) (tgt := 78) C (by decide +kernel) (by decide) ?_
          refine ex_istore_n (q := 2) (np := 79) (lv1 := [(2, .int (3 : Int32)), (1, .int ((3 : Int32) * (σ.1 20))), (0, .ref 0)]) C (by decide) (by decide +kernel) rfl rfl ?_
          refine ex_iload_n (q := 2) (x := (3 : Int32)) (np := 80) C (by decide +kernel) rfl rfl ?_
          refine ex_if_ge (off := 9) (tgt := 89) (np := 83) C (by decide +kernel) (by decide) rfl (fun h43 => ?_) (fun h43 => ?_)
          · skip
            refine ex_aload_n (q := 0) (x := 0) (np := 90) C (by decide +kernel) rfl rfl ?_
            refine ex_getf (q := 38) (v := .int (σ.1 20)) (np := 93) C hc_X11 hin_X11 (by decide) tg_1413 (by decide +kernel) (WT_0 _) rfl rfl ?_
            refine ex_bipush (n := 40) (v := 40) (np := 95) C (by decide +kernel) (by decide) rfl ?_
            refine ex_icmp_ne (off := 9) (tgt := 104) (np := 98) C (by decide +kernel) (by decide) rfl (fun h44 => ?_) (fun h44 => ?_)
            · skip
              refine ex_aload_n (q := 0) (x := 0) (np := 105) C (by decide +kernel) rfl rfl ?_
              obtain ⟨σ45, q46⟩ : ∃ x, x = B_next σ := ⟨_, rfl⟩
              refine ex_call_v (np := 108) (fun ws H locs ls hR hsz => ex_runV (C1 := "") C (m_X11_next_T d (by omega) σ hI.1) hd1 hd2 (by decide) hy_X11_next tg_1540 hc_X11 rfl (WT_0 _) rfl rfl (Nat.le_of_ble_eq_true rfl) rfl tg_1537 tg_1539 tg_83 tg_158 (by decide +kernel) ws H locs ls hR hsz (Nat.zero_le _) (Nat.zero_le _)) rfl (fun w1 hpo => ?_)
              rw [← q46] at hpo
              subst hpo
              have hI47 := inv_X11_next σ hI.1; rw [← q46] at hI47
              have hF48 := fb_X11_next σ; rw [← q46] at hF48
              refine ex_aload_n (q := 0) (x := 0) (np := 109) C (by decide +kernel) rfl rfl ?_
              refine ex_getf (q := 8) (v := .ref 4) (np := 112) C hc_X11 hin_X11 (by decide) tg_1383 (by decide +kernel) (WT_0 _) rfl rfl ?_
              refine ex_iload_n (q := 1) (x := ((3 : Int32) * (σ.1 20))) (np := 113) C (by decide +kernel) rfl rfl ?_
              refine ex_iload_n (q := 2) (x := (3 : Int32)) (np := 114) C (by decide +kernel) rfl rfl ?_
              refine ex_iast (f := (σ45.2.2.1 3)) (kk := (((3 : Int32) * (σ.1 20))).toNatClampNeg) (w1 := (WT (sR 3 (upd (σ45.2.2.1 3) (((3 : Int32) * (σ.1 20))).toNatClampNeg (3 : Int32)) σ45))) (np := 115) C (by decide +kernel) (WT_4 _) (by have n9 := ex_neI h44; have e40 : (40 : Int32).toInt = 40 := (by decide); have g9 := hI.2.1; have l9 : 0 ≤ (σ.1 20).toInt ∧ (σ.1 20).toInt < 40 := ⟨g9.1, by omega⟩; have e9 := ex_m3 (x := σ.1 20) ⟨by omega, by omega⟩; omega) rfl (WT_4_s _ _) rfl ?_
              refine ex_iload_n (q := 2) (x := (3 : Int32)) (np := 116) C (by decide +kernel) rfl rfl ?_
              refine ex_iconst (n := 3) (v := 3) (np := 117) C (by decide +kernel) (by decide) rfl ?_
              refine ex_icmp_ne (off := 5) (tgt := 122) (np := 120) C (by decide +kernel) (by decide) rfl (fun h49 => ?_) (fun h49 => ?_)
              · skip
                exact absurd (by decide) h49
              · skip
                refine ex_iconst (n := 1) (v := 1) (np := 121) C (by decide +kernel) (by decide) rfl ?_
                have E9 : B_bkLine σ = ((1 : Int32), (sR 3 (upd (σ45.2.2.1 3) (((3 : Int32) * (σ.1 20))).toNatClampNeg (3 : Int32)) σ45)) := by unfold B_bkLine; exact (ex_lt_eq q2).trans ((if_pos h3).trans ((ex_lt_eq q5).trans ((if_pos h6).trans ((ex_lt_eq q8).trans ((if_pos h10).trans ((ex_lt_eq q12).trans ((if_neg h13).trans ((if_neg h44).trans ((ex_lt_eq q46).trans (rfl))))))))))
                exact ex_iret C hr hlk (by decide +kernel) rfl (Nat.le_refl _) (Nat.le_refl _) (by rw [E9]; exact ⟨rfl, rfl⟩)
            · skip
              refine ex_aload_n (q := 0) (x := 0) (np := 99) C (by decide +kernel) rfl rfl ?_
              refine ex_iconst (n := 4) (v := 4) (np := 100) C (by decide +kernel) (by decide) rfl ?_
              obtain ⟨r50, σ51, q52⟩ : ∃ r x, B_bad (4 : Int32) σ = (r, x) := ex_pair _
              refine ex_call_i (np := 103) (fun ws H locs ls hR hsz => ex_runV (C1 := "") C (m_X11_bad_T d (by omega) (4 : Int32) σ) hd1 hd2 (by decide) hy_X11_bad tg_1566 hc_X11 rfl (WT_0 _) rfl rfl (Nat.le_of_ble_eq_true rfl) rfl tg_1563 tg_1565 tg_88 tg_158 (by decide +kernel) ws H locs ls hR hsz (Nat.zero_le _) (Nat.zero_le _)) rfl (fun r9 w1 hpo => ?_)
              rw [q52] at hpo
              have hp1 : r50 = r9 := hpo.1.symm
              have hp2 := hpo.2
              clear hpo; subst hp1; subst hp2
              have hI53 := inv_X11_bad (4 : Int32) σ hI; rw [q52] at hI53
              have hF54 := fb_X11_bad (4 : Int32) σ; rw [q52] at hF54
              have E9 : B_bkLine σ = (r50, σ51) := by unfold B_bkLine; exact (ex_lt_eq q2).trans ((if_pos h3).trans ((ex_lt_eq q5).trans ((if_pos h6).trans ((ex_lt_eq q8).trans ((if_pos h10).trans ((ex_lt_eq q12).trans ((if_neg h13).trans ((if_pos h44).trans ((ex_bd_eq q52).trans (rfl))))))))))
              exact ex_iret C hr hlk (by decide +kernel) (ex_nar (by have b9 := bl_X11_bad (4 : Int32) σ; rw [q52] at b9; exact b9)) (Nat.le_refl _) (Nat.le_refl _) (by rw [E9]; exact ⟨rfl, rfl⟩)
          · skip
            exact absurd h43 (by decide)
      · skip
        refine ex_iconst (n := 2) (v := 2) (np := 46) C (by decide +kernel) (by decide) rfl ?_
        refine ex_goto (off := 32) (tgt := 78) C (by decide +kernel) (by decide) ?_
        refine ex_istore_n (q := 2) (np := 79) (lv1 := [(2, .int (2 : Int32)), (1, .int ((3 : Int32) * (σ.1 20))), (0, .ref 0)]) C (by decide) (by decide +kernel) rfl rfl ?_
        refine ex_iload_n (q := 2) (x := (2 : Int32)) (np := 80) C (by decide +kernel) rfl rfl ?_
        refine ex_if_ge (off := 9) (tgt := 89) (np := 83) C (by decide +kernel) (by decide) rfl (fun h55 => ?_) (fun h55 => ?_)
        · skip
          refine ex_aload_n (q := 0) (x := 0) (np := 90) C (by decide +kernel) rfl rfl ?_
          refine ex_getf (q := 38) (v := .int (σ.1 20)) (np := 93) C hc_X11 hin_X11 (by decide) tg_1413 (by decide +kernel) (WT_0 _) rfl rfl ?_
          refine ex_bipush (n := 40) (v := 40) (np := 95) C (by decide +kernel) (by decide) rfl ?_
          refine ex_icmp_ne (off := 9) (tgt := 104) (np := 98) C (by decide +kernel) (by decide) rfl (fun h56 => ?_) (fun h56 => ?_)
          · skip
            refine ex_aload_n (q := 0) (x := 0) (np := 105) C (by decide +kernel) rfl rfl ?_
            obtain ⟨σ57, q58⟩ : ∃ x, x = B_next σ := ⟨_, rfl⟩
            refine ex_call_v (np := 108) (fun ws H locs ls hR hsz => ex_runV (C1 := "") C (m_X11_next_T d (by omega) σ hI.1) hd1 hd2 (by decide) hy_X11_next tg_1540 hc_X11 rfl (WT_0 _) rfl rfl (Nat.le_of_ble_eq_true rfl) rfl tg_1537 tg_1539 tg_83 tg_158 (by decide +kernel) ws H locs ls hR hsz (Nat.zero_le _) (Nat.zero_le _)) rfl (fun w1 hpo => ?_)
            rw [← q58] at hpo
            subst hpo
            have hI59 := inv_X11_next σ hI.1; rw [← q58] at hI59
            have hF60 := fb_X11_next σ; rw [← q58] at hF60
            refine ex_aload_n (q := 0) (x := 0) (np := 109) C (by decide +kernel) rfl rfl ?_
            refine ex_getf (q := 8) (v := .ref 4) (np := 112) C hc_X11 hin_X11 (by decide) tg_1383 (by decide +kernel) (WT_0 _) rfl rfl ?_
            refine ex_iload_n (q := 1) (x := ((3 : Int32) * (σ.1 20))) (np := 113) C (by decide +kernel) rfl rfl ?_
            refine ex_iload_n (q := 2) (x := (2 : Int32)) (np := 114) C (by decide +kernel) rfl rfl ?_
            refine ex_iast (f := (σ57.2.2.1 3)) (kk := (((3 : Int32) * (σ.1 20))).toNatClampNeg) (w1 := (WT (sR 3 (upd (σ57.2.2.1 3) (((3 : Int32) * (σ.1 20))).toNatClampNeg (2 : Int32)) σ57))) (np := 115) C (by decide +kernel) (WT_4 _) (by have n9 := ex_neI h56; have e40 : (40 : Int32).toInt = 40 := (by decide); have g9 := hI.2.1; have l9 : 0 ≤ (σ.1 20).toInt ∧ (σ.1 20).toInt < 40 := ⟨g9.1, by omega⟩; have e9 := ex_m3 (x := σ.1 20) ⟨by omega, by omega⟩; omega) rfl (WT_4_s _ _) rfl ?_
            refine ex_iload_n (q := 2) (x := (2 : Int32)) (np := 116) C (by decide +kernel) rfl rfl ?_
            refine ex_iconst (n := 3) (v := 3) (np := 117) C (by decide +kernel) (by decide) rfl ?_
            refine ex_icmp_ne (off := 5) (tgt := 122) (np := 120) C (by decide +kernel) (by decide) rfl (fun h61 => ?_) (fun h61 => ?_)
            · skip
              refine ex_iload_n (q := 2) (x := (2 : Int32)) (np := 123) C (by decide +kernel) rfl rfl ?_
              refine ex_iconst (n := 4) (v := 4) (np := 124) C (by decide +kernel) (by decide) rfl ?_
              refine ex_icmp_ne (off := 16) (tgt := 140) (np := 127) C (by decide +kernel) (by decide) rfl (fun h62 => ?_) (fun h62 => ?_)
              · skip
                refine ex_aload_n (q := 0) (x := 0) (np := 141) C (by decide +kernel) rfl rfl ?_
                refine ex_iconst (n := 0) (v := 0) (np := 142) C (by decide +kernel) (by decide) rfl ?_
                refine ex_aload_n (q := 0) (x := 0) (np := 143) C (by decide +kernel) rfl rfl ?_
                refine ex_getf (q := 6) (v := .ref 2) (np := 146) C hc_X11 hin_X11 (by decide) tg_1381 (by decide +kernel) (WT_0 _) rfl rfl ?_
                refine ex_iconst (n := 0) (v := 0) (np := 147) C (by decide +kernel) (by decide) rfl ?_
                refine ex_iald (f := (σ57.2.2.1 1)) (kk := 0) (np := 148) C (by decide +kernel) (WT_2 _) (by decide) (by decide) rfl ?_
                obtain ⟨r63, σ64, q65⟩ : ∃ r x, B_takesName (0 : Int32) ((σ57.2.2.1 1) 0) (sR 3 (upd (σ57.2.2.1 3) (((3 : Int32) * (σ.1 20))).toNatClampNeg (2 : Int32)) σ57) = (r, x) := ex_pair _
                refine ex_call_i (np := 151) (fun ws H locs ls hR hsz => ex_runV (C1 := "") C (m_X11_takesName_T d (by omega) (0 : Int32) ((σ57.2.2.1 1) 0) (sR 3 (upd (σ57.2.2.1 3) (((3 : Int32) * (σ.1 20))).toNatClampNeg (2 : Int32)) σ57) hI59 (by have e9 : (σ57.2.2.1 1) 0 = σ.2.2.1 1 0 := congrArg (fun q => q.1 1 0) hF60.2; have s9 : 0 ≤ (σ.2.2.1 1 0).toInt ∧ (σ.2.2.1 1 0).toInt ≤ 7 := hI.2.2; have z9 : (0 : Int32).toInt = 0 := (by decide); show (0 ≤ (0 : Int32).toInt ∧ 0 ≤ ((σ57.2.2.1 1) 0).toInt) ∧ (0 : Int32).toInt + ((σ57.2.2.1 1) 0).toInt ≤ 30; rw [e9]; exact ⟨⟨by omega, by omega⟩, by omega⟩)) hd1 hd2 (by decide) hy_X11_takesName tg_1601 hc_X11 rfl (WT_0 _) rfl rfl (Nat.le_of_ble_eq_true rfl) rfl tg_1598 tg_1600 tg_96 tg_158 (by decide +kernel) ws H locs ls hR hsz (Nat.zero_le _) (Nat.zero_le _)) rfl (fun r9 w1 hpo => ?_)
                rw [q65] at hpo
                have hp1 : r63 = r9 := hpo.1.symm
                have hp2 := hpo.2
                clear hpo; subst hp1; subst hp2
                have hI66 := inv_X11_takesName (0 : Int32) ((σ57.2.2.1 1) 0) (sR 3 (upd (σ57.2.2.1 3) (((3 : Int32) * (σ.1 20))).toNatClampNeg (2 : Int32)) σ57) hI59 (by have e9 : (σ57.2.2.1 1) 0 = σ.2.2.1 1 0 := congrArg (fun q => q.1 1 0) hF60.2; have s9 : 0 ≤ (σ.2.2.1 1 0).toInt ∧ (σ.2.2.1 1 0).toInt ≤ 7 := hI.2.2; have z9 : (0 : Int32).toInt = 0 := (by decide); show (0 ≤ (0 : Int32).toInt ∧ 0 ≤ ((σ57.2.2.1 1) 0).toInt) ∧ (0 : Int32).toInt + ((σ57.2.2.1 1) 0).toInt ≤ 30; rw [e9]; exact ⟨⟨by omega, by omega⟩, by omega⟩); rw [q65] at hI66
                have hF67 := fb_X11_takesName (0 : Int32) ((σ57.2.2.1 1) 0) (sR 3 (upd (σ57.2.2.1 3) (((3 : Int32) * (σ.1 20))).toNatClampNeg (2 : Int32)) σ57); rw [q65] at hF67
                refine ex_if_ne (off := 5) (tgt := 156) (np := 154) C (by decide +kernel) (by decide) rfl (fun h68 => ?_) (fun h68 => ?_)
                · skip
                  refine ex_aload_n (q := 0) (x := 0) (np := 157) C (by decide +kernel) rfl rfl ?_
                  refine ex_getf (q := 8) (v := .ref 4) (np := 160) C hc_X11 hin_X11 (by decide) tg_1383 (by decide +kernel) (WT_0 _) rfl rfl ?_
                  refine ex_iload_n (q := 1) (x := ((3 : Int32) * (σ.1 20))) (np := 161) C (by decide +kernel) rfl rfl ?_
                  refine ex_iconst (n := 1) (v := 1) (np := 162) C (by decide +kernel) (by decide) rfl ?_
                  refine ex_iadd (v := (((3 : Int32) * (σ.1 20)) + (1 : Int32))) (np := 163) C (by decide +kernel) rfl rfl ?_
                  refine ex_aload_n (q := 0) (x := 0) (np := 164) C (by decide +kernel) rfl rfl ?_
                  refine ex_getf (q := 18) (v := .int (σ64.1 11)) (np := 167) C hc_X11 hin_X11 (by decide) tg_1393 (by decide +kernel) (WT_0 _) rfl rfl ?_
                  refine ex_iast (f := (σ64.2.2.1 3)) (kk := ((((3 : Int32) * (σ.1 20)) + (1 : Int32))).toNatClampNeg) (w1 := (WT (sR 3 (upd (σ64.2.2.1 3) ((((3 : Int32) * (σ.1 20)) + (1 : Int32))).toNatClampNeg (σ64.1 11)) σ64))) (np := 168) C (by decide +kernel) (WT_4 _) (by have n9 := ex_neI h56; have e40 : (40 : Int32).toInt = 40 := (by decide); have g9 := hI.2.1; have l9 : 0 ≤ (σ.1 20).toInt ∧ (σ.1 20).toInt < 40 := ⟨g9.1, by omega⟩; have e9 := ex_m3a (x := σ.1 20) (y := (1 : Int32)) (k := 1) ⟨by omega, by omega⟩ (by decide) (by decide); omega) rfl (WT_4_s _ _) rfl ?_
                  refine ex_iload_n (q := 2) (x := (2 : Int32)) (np := 169) C (by decide +kernel) rfl rfl ?_
                  refine ex_if_le (off := 5) (tgt := 174) (np := 172) C (by decide +kernel) (by decide) rfl (fun h69 => ?_) (fun h69 => ?_)
                  · skip
                    exact absurd (by decide) h69
                  · skip
                    refine ex_iconst (n := 1) (v := 1) (np := 173) C (by decide +kernel) (by decide) rfl ?_
                    have E9 : B_bkLine σ = ((1 : Int32), (sR 3 (upd (σ64.2.2.1 3) ((((3 : Int32) * (σ.1 20)) + (1 : Int32))).toNatClampNeg (σ64.1 11)) σ64)) := by unfold B_bkLine; exact (ex_lt_eq q2).trans ((if_pos h3).trans ((ex_lt_eq q5).trans ((if_pos h6).trans ((ex_lt_eq q8).trans ((if_neg h10).trans ((if_neg h56).trans ((ex_lt_eq q58).trans ((ex_bd_eq q65).trans ((if_neg h68).trans (rfl))))))))))
                    exact ex_iret C hr hlk (by decide +kernel) rfl (Nat.le_refl _) (Nat.le_refl _) (by rw [E9]; exact ⟨rfl, rfl⟩)
                · skip
                  refine ex_iconst (n := 0) (v := 0) (np := 155) C (by decide +kernel) (by decide) rfl ?_
                  have E9 : B_bkLine σ = ((0 : Int32), σ64) := by unfold B_bkLine; exact (ex_lt_eq q2).trans ((if_pos h3).trans ((ex_lt_eq q5).trans ((if_pos h6).trans ((ex_lt_eq q8).trans ((if_neg h10).trans ((if_neg h56).trans ((ex_lt_eq q58).trans ((ex_bd_eq q65).trans ((if_pos h68).trans (rfl))))))))))
                  exact ex_iret C hr hlk (by decide +kernel) rfl (Nat.le_refl _) (Nat.le_refl _) (by rw [E9]; exact ⟨rfl, rfl⟩)
              · skip
                exact absurd h62 (by decide)
            · skip
              exact absurd h61 (by decide)
          · skip
            refine ex_aload_n (q := 0) (x := 0) (np := 99) C (by decide +kernel) rfl rfl ?_
            refine ex_iconst (n := 4) (v := 4) (np := 100) C (by decide +kernel) (by decide) rfl ?_
            obtain ⟨r70, σ71, q72⟩ : ∃ r x, B_bad (4 : Int32) σ = (r, x) := ex_pair _
            refine ex_call_i (np := 103) (fun ws H locs ls hR hsz => ex_runV (C1 := "") C (m_X11_bad_T d (by omega) (4 : Int32) σ) hd1 hd2 (by decide) hy_X11_bad tg_1566 hc_X11 rfl (WT_0 _) rfl rfl (Nat.le_of_ble_eq_true rfl) rfl tg_1563 tg_1565 tg_88 tg_158 (by decide +kernel) ws H locs ls hR hsz (Nat.zero_le _) (Nat.zero_le _)) rfl (fun r9 w1 hpo => ?_)
            rw [q72] at hpo
            have hp1 : r70 = r9 := hpo.1.symm
            have hp2 := hpo.2
            clear hpo; subst hp1; subst hp2
            have hI73 := inv_X11_bad (4 : Int32) σ hI; rw [q72] at hI73
            have hF74 := fb_X11_bad (4 : Int32) σ; rw [q72] at hF74
            have E9 : B_bkLine σ = (r70, σ71) := by unfold B_bkLine; exact (ex_lt_eq q2).trans ((if_pos h3).trans ((ex_lt_eq q5).trans ((if_pos h6).trans ((ex_lt_eq q8).trans ((if_neg h10).trans ((if_pos h56).trans ((ex_bd_eq q72).trans (rfl))))))))
            exact ex_iret C hr hlk (by decide +kernel) (ex_nar (by have b9 := bl_X11_bad (4 : Int32) σ; rw [q72] at b9; exact b9)) (Nat.le_refl _) (Nat.le_refl _) (by rw [E9]; exact ⟨rfl, rfl⟩)
        · skip
          exact absurd h55 (by decide)
    · skip
      refine ex_iconst (n := 1) (v := 1) (np := 32) C (by decide +kernel) (by decide) rfl ?_
      refine ex_goto (off := 46) (tgt := 78) C (by decide +kernel) (by decide) ?_
      refine ex_istore_n (q := 2) (np := 79) (lv1 := [(2, .int (1 : Int32)), (1, .int ((3 : Int32) * (σ.1 20))), (0, .ref 0)]) C (by decide) (by decide +kernel) rfl rfl ?_
      refine ex_iload_n (q := 2) (x := (1 : Int32)) (np := 80) C (by decide +kernel) rfl rfl ?_
      refine ex_if_ge (off := 9) (tgt := 89) (np := 83) C (by decide +kernel) (by decide) rfl (fun h75 => ?_) (fun h75 => ?_)
      · skip
        refine ex_aload_n (q := 0) (x := 0) (np := 90) C (by decide +kernel) rfl rfl ?_
        refine ex_getf (q := 38) (v := .int (σ.1 20)) (np := 93) C hc_X11 hin_X11 (by decide) tg_1413 (by decide +kernel) (WT_0 _) rfl rfl ?_
        refine ex_bipush (n := 40) (v := 40) (np := 95) C (by decide +kernel) (by decide) rfl ?_
        refine ex_icmp_ne (off := 9) (tgt := 104) (np := 98) C (by decide +kernel) (by decide) rfl (fun h76 => ?_) (fun h76 => ?_)
        · skip
          refine ex_aload_n (q := 0) (x := 0) (np := 105) C (by decide +kernel) rfl rfl ?_
          obtain ⟨σ77, q78⟩ : ∃ x, x = B_next σ := ⟨_, rfl⟩
          refine ex_call_v (np := 108) (fun ws H locs ls hR hsz => ex_runV (C1 := "") C (m_X11_next_T d (by omega) σ hI.1) hd1 hd2 (by decide) hy_X11_next tg_1540 hc_X11 rfl (WT_0 _) rfl rfl (Nat.le_of_ble_eq_true rfl) rfl tg_1537 tg_1539 tg_83 tg_158 (by decide +kernel) ws H locs ls hR hsz (Nat.zero_le _) (Nat.zero_le _)) rfl (fun w1 hpo => ?_)
          rw [← q78] at hpo
          subst hpo
          have hI79 := inv_X11_next σ hI.1; rw [← q78] at hI79
          have hF80 := fb_X11_next σ; rw [← q78] at hF80
          refine ex_aload_n (q := 0) (x := 0) (np := 109) C (by decide +kernel) rfl rfl ?_
          refine ex_getf (q := 8) (v := .ref 4) (np := 112) C hc_X11 hin_X11 (by decide) tg_1383 (by decide +kernel) (WT_0 _) rfl rfl ?_
          refine ex_iload_n (q := 1) (x := ((3 : Int32) * (σ.1 20))) (np := 113) C (by decide +kernel) rfl rfl ?_
          refine ex_iload_n (q := 2) (x := (1 : Int32)) (np := 114) C (by decide +kernel) rfl rfl ?_
          refine ex_iast (f := (σ77.2.2.1 3)) (kk := (((3 : Int32) * (σ.1 20))).toNatClampNeg) (w1 := (WT (sR 3 (upd (σ77.2.2.1 3) (((3 : Int32) * (σ.1 20))).toNatClampNeg (1 : Int32)) σ77))) (np := 115) C (by decide +kernel) (WT_4 _) (by have n9 := ex_neI h76; have e40 : (40 : Int32).toInt = 40 := (by decide); have g9 := hI.2.1; have l9 : 0 ≤ (σ.1 20).toInt ∧ (σ.1 20).toInt < 40 := ⟨g9.1, by omega⟩; have e9 := ex_m3 (x := σ.1 20) ⟨by omega, by omega⟩; omega) rfl (WT_4_s _ _) rfl ?_
          refine ex_iload_n (q := 2) (x := (1 : Int32)) (np := 116) C (by decide +kernel) rfl rfl ?_
          refine ex_iconst (n := 3) (v := 3) (np := 117) C (by decide +kernel) (by decide) rfl ?_
          refine ex_icmp_ne (off := 5) (tgt := 122) (np := 120) C (by decide +kernel) (by decide) rfl (fun h81 => ?_) (fun h81 => ?_)
          · skip
            refine ex_iload_n (q := 2) (x := (1 : Int32)) (np := 123) C (by decide +kernel) rfl rfl ?_
            refine ex_iconst (n := 4) (v := 4) (np := 124) C (by decide +kernel) (by decide) rfl ?_
            refine ex_icmp_ne (off := 16) (tgt := 140) (np := 127) C (by decide +kernel) (by decide) rfl (fun h82 => ?_) (fun h82 => ?_)
            · skip
              refine ex_aload_n (q := 0) (x := 0) (np := 141) C (by decide +kernel) rfl rfl ?_
              refine ex_iconst (n := 0) (v := 0) (np := 142) C (by decide +kernel) (by decide) rfl ?_
              refine ex_aload_n (q := 0) (x := 0) (np := 143) C (by decide +kernel) rfl rfl ?_
              refine ex_getf (q := 6) (v := .ref 2) (np := 146) C hc_X11 hin_X11 (by decide) tg_1381 (by decide +kernel) (WT_0 _) rfl rfl ?_
              refine ex_iconst (n := 0) (v := 0) (np := 147) C (by decide +kernel) (by decide) rfl ?_
              refine ex_iald (f := (σ77.2.2.1 1)) (kk := 0) (np := 148) C (by decide +kernel) (WT_2 _) (by decide) (by decide) rfl ?_
              obtain ⟨r83, σ84, q85⟩ : ∃ r x, B_takesName (0 : Int32) ((σ77.2.2.1 1) 0) (sR 3 (upd (σ77.2.2.1 3) (((3 : Int32) * (σ.1 20))).toNatClampNeg (1 : Int32)) σ77) = (r, x) := ex_pair _
              refine ex_call_i (np := 151) (fun ws H locs ls hR hsz => ex_runV (C1 := "") C (m_X11_takesName_T d (by omega) (0 : Int32) ((σ77.2.2.1 1) 0) (sR 3 (upd (σ77.2.2.1 3) (((3 : Int32) * (σ.1 20))).toNatClampNeg (1 : Int32)) σ77) hI79 (by have e9 : (σ77.2.2.1 1) 0 = σ.2.2.1 1 0 := congrArg (fun q => q.1 1 0) hF80.2; have s9 : 0 ≤ (σ.2.2.1 1 0).toInt ∧ (σ.2.2.1 1 0).toInt ≤ 7 := hI.2.2; have z9 : (0 : Int32).toInt = 0 := (by decide); show (0 ≤ (0 : Int32).toInt ∧ 0 ≤ ((σ77.2.2.1 1) 0).toInt) ∧ (0 : Int32).toInt + ((σ77.2.2.1 1) 0).toInt ≤ 30; rw [e9]; exact ⟨⟨by omega, by omega⟩, by omega⟩)) hd1 hd2 (by decide) hy_X11_takesName tg_1601 hc_X11 rfl (WT_0 _) rfl rfl (Nat.le_of_ble_eq_true rfl) rfl tg_1598 tg_1600 tg_96 tg_158 (by decide +kernel) ws H locs ls hR hsz (Nat.zero_le _) (Nat.zero_le _)) rfl (fun r9 w1 hpo => ?_)
              rw [q85] at hpo
              have hp1 : r83 = r9 := hpo.1.symm
              have hp2 := hpo.2
              clear hpo; subst hp1; subst hp2
              have hI86 := inv_X11_takesName (0 : Int32) ((σ77.2.2.1 1) 0) (sR 3 (upd (σ77.2.2.1 3) (((3 : Int32) * (σ.1 20))).toNatClampNeg (1 : Int32)) σ77) hI79 (by have e9 : (σ77.2.2.1 1) 0 = σ.2.2.1 1 0 := congrArg (fun q => q.1 1 0) hF80.2; have s9 : 0 ≤ (σ.2.2.1 1 0).toInt ∧ (σ.2.2.1 1 0).toInt ≤ 7 := hI.2.2; have z9 : (0 : Int32).toInt = 0 := (by decide); show (0 ≤ (0 : Int32).toInt ∧ 0 ≤ ((σ77.2.2.1 1) 0).toInt) ∧ (0 : Int32).toInt + ((σ77.2.2.1 1) 0).toInt ≤ 30; rw [e9]; exact ⟨⟨by omega, by omega⟩, by omega⟩); rw [q85] at hI86
              have hF87 := fb_X11_takesName (0 : Int32) ((σ77.2.2.1 1) 0) (sR 3 (upd (σ77.2.2.1 3) (((3 : Int32) * (σ.1 20))).toNatClampNeg (1 : Int32)) σ77); rw [q85] at hF87
              refine ex_if_ne (off := 5) (tgt := 156) (np := 154) C (by decide +kernel) (by decide) rfl (fun h88 => ?_) (fun h88 => ?_)
              · skip
                refine ex_aload_n (q := 0) (x := 0) (np := 157) C (by decide +kernel) rfl rfl ?_
                refine ex_getf (q := 8) (v := .ref 4) (np := 160) C hc_X11 hin_X11 (by decide) tg_1383 (by decide +kernel) (WT_0 _) rfl rfl ?_
                refine ex_iload_n (q := 1) (x := ((3 : Int32) * (σ.1 20))) (np := 161) C (by decide +kernel) rfl rfl ?_
                refine ex_iconst (n := 1) (v := 1) (np := 162) C (by decide +kernel) (by decide) rfl ?_
                refine ex_iadd (v := (((3 : Int32) * (σ.1 20)) + (1 : Int32))) (np := 163) C (by decide +kernel) rfl rfl ?_
                refine ex_aload_n (q := 0) (x := 0) (np := 164) C (by decide +kernel) rfl rfl ?_
                refine ex_getf (q := 18) (v := .int (σ84.1 11)) (np := 167) C hc_X11 hin_X11 (by decide) tg_1393 (by decide +kernel) (WT_0 _) rfl rfl ?_
                refine ex_iast (f := (σ84.2.2.1 3)) (kk := ((((3 : Int32) * (σ.1 20)) + (1 : Int32))).toNatClampNeg) (w1 := (WT (sR 3 (upd (σ84.2.2.1 3) ((((3 : Int32) * (σ.1 20)) + (1 : Int32))).toNatClampNeg (σ84.1 11)) σ84))) (np := 168) C (by decide +kernel) (WT_4 _) (by have n9 := ex_neI h76; have e40 : (40 : Int32).toInt = 40 := (by decide); have g9 := hI.2.1; have l9 : 0 ≤ (σ.1 20).toInt ∧ (σ.1 20).toInt < 40 := ⟨g9.1, by omega⟩; have e9 := ex_m3a (x := σ.1 20) (y := (1 : Int32)) (k := 1) ⟨by omega, by omega⟩ (by decide) (by decide); omega) rfl (WT_4_s _ _) rfl ?_
                refine ex_iload_n (q := 2) (x := (1 : Int32)) (np := 169) C (by decide +kernel) rfl rfl ?_
                refine ex_if_le (off := 5) (tgt := 174) (np := 172) C (by decide +kernel) (by decide) rfl (fun h89 => ?_) (fun h89 => ?_)
                · skip
                  exact absurd (by decide) h89
                · skip
                  refine ex_iconst (n := 1) (v := 1) (np := 173) C (by decide +kernel) (by decide) rfl ?_
                  have E9 : B_bkLine σ = ((1 : Int32), (sR 3 (upd (σ84.2.2.1 3) ((((3 : Int32) * (σ.1 20)) + (1 : Int32))).toNatClampNeg (σ84.1 11)) σ84)) := by unfold B_bkLine; exact (ex_lt_eq q2).trans ((if_pos h3).trans ((ex_lt_eq q5).trans ((if_neg h6).trans ((if_neg h76).trans ((ex_lt_eq q78).trans ((ex_bd_eq q85).trans ((if_neg h88).trans (rfl))))))))
                  exact ex_iret C hr hlk (by decide +kernel) rfl (Nat.le_refl _) (Nat.le_refl _) (by rw [E9]; exact ⟨rfl, rfl⟩)
              · skip
                refine ex_iconst (n := 0) (v := 0) (np := 155) C (by decide +kernel) (by decide) rfl ?_
                have E9 : B_bkLine σ = ((0 : Int32), σ84) := by unfold B_bkLine; exact (ex_lt_eq q2).trans ((if_pos h3).trans ((ex_lt_eq q5).trans ((if_neg h6).trans ((if_neg h76).trans ((ex_lt_eq q78).trans ((ex_bd_eq q85).trans ((if_pos h88).trans (rfl))))))))
                exact ex_iret C hr hlk (by decide +kernel) rfl (Nat.le_refl _) (Nat.le_refl _) (by rw [E9]; exact ⟨rfl, rfl⟩)
            · skip
              exact absurd h82 (by decide)
          · skip
            exact absurd h81 (by decide)
        · skip
          refine ex_aload_n (q := 0) (x := 0) (np := 99) C (by decide +kernel) rfl rfl ?_
          refine ex_iconst (n := 4) (v := 4) (np := 100) C (by decide +kernel) (by decide) rfl ?_
          obtain ⟨r90, σ91, q92⟩ : ∃ r x, B_bad (4 : Int32) σ = (r, x) := ex_pair _
          refine ex_call_i (np := 103) (fun ws H locs ls hR hsz => ex_runV (C1 := "") C (m_X11_bad_T d (by omega) (4 : Int32) σ) hd1 hd2 (by decide) hy_X11_bad tg_1566 hc_X11 rfl (WT_0 _) rfl rfl (Nat.le_of_ble_eq_true rfl) rfl tg_1563 tg_1565 tg_88 tg_158 (by decide +kernel) ws H locs ls hR hsz (Nat.zero_le _) (Nat.zero_le _)) rfl (fun r9 w1 hpo => ?_)
          rw [q92] at hpo
          have hp1 : r90 = r9 := hpo.1.symm
          have hp2 := hpo.2
          clear hpo; subst hp1; subst hp2
          have hI93 := inv_X11_bad (4 : Int32) σ hI; rw [q92] at hI93
          have hF94 := fb_X11_bad (4 : Int32) σ; rw [q92] at hF94
          have E9 : B_bkLine σ = (r90, σ91) := by unfold B_bkLine; exact (ex_lt_eq q2).trans ((if_pos h3).trans ((ex_lt_eq q5).trans ((if_neg h6).trans ((if_pos h76).trans ((ex_bd_eq q92).trans (rfl))))))
          exact ex_iret C hr hlk (by decide +kernel) (ex_nar (by have b9 := bl_X11_bad (4 : Int32) σ; rw [q92] at b9; exact b9)) (Nat.le_refl _) (Nat.le_refl _) (by rw [E9]; exact ⟨rfl, rfl⟩)
      · skip
        exact absurd h75 (by decide)
  · skip
    refine ex_iconst (n := 0) (v := 0) (np := 18) C (by decide +kernel) (by decide) rfl ?_
    refine ex_goto (off := 60) (tgt := 78) C (by decide +kernel) (by decide) ?_
    refine ex_istore_n (q := 2) (np := 79) (lv1 := [(2, .int (0 : Int32)), (1, .int ((3 : Int32) * (σ.1 20))), (0, .ref 0)]) C (by decide) (by decide +kernel) rfl rfl ?_
    refine ex_iload_n (q := 2) (x := (0 : Int32)) (np := 80) C (by decide +kernel) rfl rfl ?_
    refine ex_if_ge (off := 9) (tgt := 89) (np := 83) C (by decide +kernel) (by decide) rfl (fun h95 => ?_) (fun h95 => ?_)
    · skip
      refine ex_aload_n (q := 0) (x := 0) (np := 90) C (by decide +kernel) rfl rfl ?_
      refine ex_getf (q := 38) (v := .int (σ.1 20)) (np := 93) C hc_X11 hin_X11 (by decide) tg_1413 (by decide +kernel) (WT_0 _) rfl rfl ?_
      refine ex_bipush (n := 40) (v := 40) (np := 95) C (by decide +kernel) (by decide) rfl ?_
      refine ex_icmp_ne (off := 9) (tgt := 104) (np := 98) C (by decide +kernel) (by decide) rfl (fun h96 => ?_) (fun h96 => ?_)
      · skip
        refine ex_aload_n (q := 0) (x := 0) (np := 105) C (by decide +kernel) rfl rfl ?_
        obtain ⟨σ97, q98⟩ : ∃ x, x = B_next σ := ⟨_, rfl⟩
        refine ex_call_v (np := 108) (fun ws H locs ls hR hsz => ex_runV (C1 := "") C (m_X11_next_T d (by omega) σ hI.1) hd1 hd2 (by decide) hy_X11_next tg_1540 hc_X11 rfl (WT_0 _) rfl rfl (Nat.le_of_ble_eq_true rfl) rfl tg_1537 tg_1539 tg_83 tg_158 (by decide +kernel) ws H locs ls hR hsz (Nat.zero_le _) (Nat.zero_le _)) rfl (fun w1 hpo => ?_)
        rw [← q98] at hpo
        subst hpo
        have hI99 := inv_X11_next σ hI.1; rw [← q98] at hI99
        have hF100 := fb_X11_next σ; rw [← q98] at hF100
        refine ex_aload_n (q := 0) (x := 0) (np := 109) C (by decide +kernel) rfl rfl ?_
        refine ex_getf (q := 8) (v := .ref 4) (np := 112) C hc_X11 hin_X11 (by decide) tg_1383 (by decide +kernel) (WT_0 _) rfl rfl ?_
        refine ex_iload_n (q := 1) (x := ((3 : Int32) * (σ.1 20))) (np := 113) C (by decide +kernel) rfl rfl ?_
        refine ex_iload_n (q := 2) (x := (0 : Int32)) (np := 114) C (by decide +kernel) rfl rfl ?_
        refine ex_iast (f := (σ97.2.2.1 3)) (kk := (((3 : Int32) * (σ.1 20))).toNatClampNeg) (w1 := (WT (sR 3 (upd (σ97.2.2.1 3) (((3 : Int32) * (σ.1 20))).toNatClampNeg (0 : Int32)) σ97))) (np := 115) C (by decide +kernel) (WT_4 _) (by have n9 := ex_neI h96; have e40 : (40 : Int32).toInt = 40 := (by decide); have g9 := hI.2.1; have l9 : 0 ≤ (σ.1 20).toInt ∧ (σ.1 20).toInt < 40 := ⟨g9.1, by omega⟩; have e9 := ex_m3 (x := σ.1 20) ⟨by omega, by omega⟩; omega) rfl (WT_4_s _ _) rfl ?_
        refine ex_iload_n (q := 2) (x := (0 : Int32)) (np := 116) C (by decide +kernel) rfl rfl ?_
        refine ex_iconst (n := 3) (v := 3) (np := 117) C (by decide +kernel) (by decide) rfl ?_
        refine ex_icmp_ne (off := 5) (tgt := 122) (np := 120) C (by decide +kernel) (by decide) rfl (fun h101 => ?_) (fun h101 => ?_)
        · skip
          refine ex_iload_n (q := 2) (x := (0 : Int32)) (np := 123) C (by decide +kernel) rfl rfl ?_
          refine ex_iconst (n := 4) (v := 4) (np := 124) C (by decide +kernel) (by decide) rfl ?_
          refine ex_icmp_ne (off := 16) (tgt := 140) (np := 127) C (by decide +kernel) (by decide) rfl (fun h102 => ?_) (fun h102 => ?_)
          · skip
            refine ex_aload_n (q := 0) (x := 0) (np := 141) C (by decide +kernel) rfl rfl ?_
            refine ex_iconst (n := 0) (v := 0) (np := 142) C (by decide +kernel) (by decide) rfl ?_
            refine ex_aload_n (q := 0) (x := 0) (np := 143) C (by decide +kernel) rfl rfl ?_
            refine ex_getf (q := 6) (v := .ref 2) (np := 146) C hc_X11 hin_X11 (by decide) tg_1381 (by decide +kernel) (WT_0 _) rfl rfl ?_
            refine ex_iconst (n := 0) (v := 0) (np := 147) C (by decide +kernel) (by decide) rfl ?_
            refine ex_iald (f := (σ97.2.2.1 1)) (kk := 0) (np := 148) C (by decide +kernel) (WT_2 _) (by decide) (by decide) rfl ?_
            obtain ⟨r103, σ104, q105⟩ : ∃ r x, B_takesName (0 : Int32) ((σ97.2.2.1 1) 0) (sR 3 (upd (σ97.2.2.1 3) (((3 : Int32) * (σ.1 20))).toNatClampNeg (0 : Int32)) σ97) = (r, x) := ex_pair _
            refine ex_call_i (np := 151) (fun ws H locs ls hR hsz => ex_runV (C1 := "") C (m_X11_takesName_T d (by omega) (0 : Int32) ((σ97.2.2.1 1) 0) (sR 3 (upd (σ97.2.2.1 3) (((3 : Int32) * (σ.1 20))).toNatClampNeg (0 : Int32)) σ97) hI99 (by have e9 : (σ97.2.2.1 1) 0 = σ.2.2.1 1 0 := congrArg (fun q => q.1 1 0) hF100.2; have s9 : 0 ≤ (σ.2.2.1 1 0).toInt ∧ (σ.2.2.1 1 0).toInt ≤ 7 := hI.2.2; have z9 : (0 : Int32).toInt = 0 := (by decide); show (0 ≤ (0 : Int32).toInt ∧ 0 ≤ ((σ97.2.2.1 1) 0).toInt) ∧ (0 : Int32).toInt + ((σ97.2.2.1 1) 0).toInt ≤ 30; rw [e9]; exact ⟨⟨by omega, by omega⟩, by omega⟩)) hd1 hd2 (by decide) hy_X11_takesName tg_1601 hc_X11 rfl (WT_0 _) rfl rfl (Nat.le_of_ble_eq_true rfl) rfl tg_1598 tg_1600 tg_96 tg_158 (by decide +kernel) ws H locs ls hR hsz (Nat.zero_le _) (Nat.zero_le _)) rfl (fun r9 w1 hpo => ?_)
            rw [q105] at hpo
            have hp1 : r103 = r9 := hpo.1.symm
            have hp2 := hpo.2
            clear hpo; subst hp1; subst hp2
            have hI106 := inv_X11_takesName (0 : Int32) ((σ97.2.2.1 1) 0) (sR 3 (upd (σ97.2.2.1 3) (((3 : Int32) * (σ.1 20))).toNatClampNeg (0 : Int32)) σ97) hI99 (by have e9 : (σ97.2.2.1 1) 0 = σ.2.2.1 1 0 := congrArg (fun q => q.1 1 0) hF100.2; have s9 : 0 ≤ (σ.2.2.1 1 0).toInt ∧ (σ.2.2.1 1 0).toInt ≤ 7 := hI.2.2; have z9 : (0 : Int32).toInt = 0 := (by decide); show (0 ≤ (0 : Int32).toInt ∧ 0 ≤ ((σ97.2.2.1 1) 0).toInt) ∧ (0 : Int32).toInt + ((σ97.2.2.1 1) 0).toInt ≤ 30; rw [e9]; exact ⟨⟨by omega, by omega⟩, by omega⟩); rw [q105] at hI106
            have hF107 := fb_X11_takesName (0 : Int32) ((σ97.2.2.1 1) 0) (sR 3 (upd (σ97.2.2.1 3) (((3 : Int32) * (σ.1 20))).toNatClampNeg (0 : Int32)) σ97); rw [q105] at hF107
            refine ex_if_ne (off := 5) (tgt := 156) (np := 154) C (by decide +kernel) (by decide) rfl (fun h108 => ?_) (fun h108 => ?_)
            · skip
              refine ex_aload_n (q := 0) (x := 0) (np := 157) C (by decide +kernel) rfl rfl ?_
              refine ex_getf (q := 8) (v := .ref 4) (np := 160) C hc_X11 hin_X11 (by decide) tg_1383 (by decide +kernel) (WT_0 _) rfl rfl ?_
              refine ex_iload_n (q := 1) (x := ((3 : Int32) * (σ.1 20))) (np := 161) C (by decide +kernel) rfl rfl ?_
              refine ex_iconst (n := 1) (v := 1) (np := 162) C (by decide +kernel) (by decide) rfl ?_
              refine ex_iadd (v := (((3 : Int32) * (σ.1 20)) + (1 : Int32))) (np := 163) C (by decide +kernel) rfl rfl ?_
              refine ex_aload_n (q := 0) (x := 0) (np := 164) C (by decide +kernel) rfl rfl ?_
              refine ex_getf (q := 18) (v := .int (σ104.1 11)) (np := 167) C hc_X11 hin_X11 (by decide) tg_1393 (by decide +kernel) (WT_0 _) rfl rfl ?_
              refine ex_iast (f := (σ104.2.2.1 3)) (kk := ((((3 : Int32) * (σ.1 20)) + (1 : Int32))).toNatClampNeg) (w1 := (WT (sR 3 (upd (σ104.2.2.1 3) ((((3 : Int32) * (σ.1 20)) + (1 : Int32))).toNatClampNeg (σ104.1 11)) σ104))) (np := 168) C (by decide +kernel) (WT_4 _) (by have n9 := ex_neI h96; have e40 : (40 : Int32).toInt = 40 := (by decide); have g9 := hI.2.1; have l9 : 0 ≤ (σ.1 20).toInt ∧ (σ.1 20).toInt < 40 := ⟨g9.1, by omega⟩; have e9 := ex_m3a (x := σ.1 20) (y := (1 : Int32)) (k := 1) ⟨by omega, by omega⟩ (by decide) (by decide); omega) rfl (WT_4_s _ _) rfl ?_
              refine ex_iload_n (q := 2) (x := (0 : Int32)) (np := 169) C (by decide +kernel) rfl rfl ?_
              refine ex_if_le (off := 5) (tgt := 174) (np := 172) C (by decide +kernel) (by decide) rfl (fun h110 => ?_) (fun h110 => ?_)
              · skip
                refine ex_aload_n (q := 0) (x := 0) (np := 175) C (by decide +kernel) rfl rfl ?_
                refine ex_iconst (n := 1) (v := 1) (np := 176) C (by decide +kernel) (by decide) rfl ?_
                refine ex_bipush (n := 10) (v := 10) (np := 178) C (by decide +kernel) (by decide) rfl ?_
                obtain ⟨r111, σ112, q113⟩ : ∃ r x, B_takesWay (1 : Int32) (10 : Int32) (sR 3 (upd (σ104.2.2.1 3) ((((3 : Int32) * (σ.1 20)) + (1 : Int32))).toNatClampNeg (σ104.1 11)) σ104) = (r, x) := ex_pair _
                refine ex_call_i (np := 181) (fun ws H locs ls hR hsz => ex_runV (C1 := "") C (m_X11_takesWay_T d (by omega) (1 : Int32) (10 : Int32) (sR 3 (upd (σ104.2.2.1 3) ((((3 : Int32) * (σ.1 20)) + (1 : Int32))).toNatClampNeg (σ104.1 11)) σ104) hI106) hd1 hd2 (by decide) hy_X11_takesWay tg_1593 hc_X11 rfl (WT_0 _) rfl rfl (Nat.le_of_ble_eq_true rfl) rfl tg_1590 tg_1592 tg_94 tg_158 (by decide +kernel) ws H locs ls hR hsz (Nat.zero_le _) (Nat.zero_le _)) rfl (fun r9 w1 hpo => ?_)
                rw [q113] at hpo
                have hp1 : r111 = r9 := hpo.1.symm
                have hp2 := hpo.2
                clear hpo; subst hp1; subst hp2
                have hI114 := inv_X11_takesWay (1 : Int32) (10 : Int32) (sR 3 (upd (σ104.2.2.1 3) ((((3 : Int32) * (σ.1 20)) + (1 : Int32))).toNatClampNeg (σ104.1 11)) σ104) hI106; rw [q113] at hI114
                have hF115 := fb_X11_takesWay (1 : Int32) (10 : Int32) (sR 3 (upd (σ104.2.2.1 3) ((((3 : Int32) * (σ.1 20)) + (1 : Int32))).toNatClampNeg (σ104.1 11)) σ104); rw [q113] at hF115
                refine ex_if_ne (off := 5) (tgt := 186) (np := 184) C (by decide +kernel) (by decide) rfl (fun h116 => ?_) (fun h116 => ?_)
                · skip
                  refine ex_aload_n (q := 0) (x := 0) (np := 187) C (by decide +kernel) rfl rfl ?_
                  refine ex_getf (q := 8) (v := .ref 4) (np := 190) C hc_X11 hin_X11 (by decide) tg_1383 (by decide +kernel) (WT_0 _) rfl rfl ?_
                  refine ex_iload_n (q := 1) (x := ((3 : Int32) * (σ.1 20))) (np := 191) C (by decide +kernel) rfl rfl ?_
                  refine ex_iconst (n := 2) (v := 2) (np := 192) C (by decide +kernel) (by decide) rfl ?_
                  refine ex_iadd (v := (((3 : Int32) * (σ.1 20)) + (2 : Int32))) (np := 193) C (by decide +kernel) rfl rfl ?_
                  refine ex_aload_n (q := 0) (x := 0) (np := 194) C (by decide +kernel) rfl rfl ?_
                  refine ex_getf (q := 18) (v := .int (σ112.1 11)) (np := 197) C hc_X11 hin_X11 (by decide) tg_1393 (by decide +kernel) (WT_0 _) rfl rfl ?_
                  refine ex_iast (f := (σ112.2.2.1 3)) (kk := ((((3 : Int32) * (σ.1 20)) + (2 : Int32))).toNatClampNeg) (w1 := (WT (sR 3 (upd (σ112.2.2.1 3) ((((3 : Int32) * (σ.1 20)) + (2 : Int32))).toNatClampNeg (σ112.1 11)) σ112))) (np := 198) C (by decide +kernel) (WT_4 _) (by have n9 := ex_neI h96; have e40 : (40 : Int32).toInt = 40 := (by decide); have g9 := hI.2.1; have l9 : 0 ≤ (σ.1 20).toInt ∧ (σ.1 20).toInt < 40 := ⟨g9.1, by omega⟩; have e9 := ex_m3a (x := σ.1 20) (y := (2 : Int32)) (k := 2) ⟨by omega, by omega⟩ (by decide) (by decide); omega) rfl (WT_4_s _ _) rfl ?_
                  refine ex_iconst (n := 1) (v := 1) (np := 199) C (by decide +kernel) (by decide) rfl ?_
                  have E9 : B_bkLine σ = ((1 : Int32), (sR 3 (upd (σ112.2.2.1 3) ((((3 : Int32) * (σ.1 20)) + (2 : Int32))).toNatClampNeg (σ112.1 11)) σ112)) := by unfold B_bkLine; exact (ex_lt_eq q2).trans ((if_neg h3).trans ((if_neg h96).trans ((ex_lt_eq q98).trans ((ex_bd_eq q105).trans ((if_neg h108).trans ((ex_bd_eq q113).trans ((if_neg h116).trans (rfl))))))))
                  exact ex_iret C hr hlk (by decide +kernel) rfl (Nat.le_refl _) (Nat.le_refl _) (by rw [E9]; exact ⟨rfl, rfl⟩)
                · skip
                  refine ex_iconst (n := 0) (v := 0) (np := 185) C (by decide +kernel) (by decide) rfl ?_
                  have E9 : B_bkLine σ = ((0 : Int32), σ112) := by unfold B_bkLine; exact (ex_lt_eq q2).trans ((if_neg h3).trans ((if_neg h96).trans ((ex_lt_eq q98).trans ((ex_bd_eq q105).trans ((if_neg h108).trans ((ex_bd_eq q113).trans ((if_pos h116).trans (rfl))))))))
                  exact ex_iret C hr hlk (by decide +kernel) rfl (Nat.le_refl _) (Nat.le_refl _) (by rw [E9]; exact ⟨rfl, rfl⟩)
              · skip
                exact absurd h110 (by decide)
            · skip
              refine ex_iconst (n := 0) (v := 0) (np := 155) C (by decide +kernel) (by decide) rfl ?_
              have E9 : B_bkLine σ = ((0 : Int32), σ104) := by unfold B_bkLine; exact (ex_lt_eq q2).trans ((if_neg h3).trans ((if_neg h96).trans ((ex_lt_eq q98).trans ((ex_bd_eq q105).trans ((if_pos h108).trans (rfl))))))
              exact ex_iret C hr hlk (by decide +kernel) rfl (Nat.le_refl _) (Nat.le_refl _) (by rw [E9]; exact ⟨rfl, rfl⟩)
          · skip
            exact absurd h102 (by decide)
        · skip
          exact absurd h101 (by decide)
      · skip
        refine ex_aload_n (q := 0) (x := 0) (np := 99) C (by decide +kernel) rfl rfl ?_
        refine ex_iconst (n := 4) (v := 4) (np := 100) C (by decide +kernel) (by decide) rfl ?_
        obtain ⟨r117, σ118, q119⟩ : ∃ r x, B_bad (4 : Int32) σ = (r, x) := ex_pair _
        refine ex_call_i (np := 103) (fun ws H locs ls hR hsz => ex_runV (C1 := "") C (m_X11_bad_T d (by omega) (4 : Int32) σ) hd1 hd2 (by decide) hy_X11_bad tg_1566 hc_X11 rfl (WT_0 _) rfl rfl (Nat.le_of_ble_eq_true rfl) rfl tg_1563 tg_1565 tg_88 tg_158 (by decide +kernel) ws H locs ls hR hsz (Nat.zero_le _) (Nat.zero_le _)) rfl (fun r9 w1 hpo => ?_)
        rw [q119] at hpo
        have hp1 : r117 = r9 := hpo.1.symm
        have hp2 := hpo.2
        clear hpo; subst hp1; subst hp2
        have hI120 := inv_X11_bad (4 : Int32) σ hI; rw [q119] at hI120
        have hF121 := fb_X11_bad (4 : Int32) σ; rw [q119] at hF121
        have E9 : B_bkLine σ = (r117, σ118) := by unfold B_bkLine; exact (ex_lt_eq q2).trans ((if_neg h3).trans ((if_pos h96).trans ((ex_bd_eq q119).trans (rfl))))
        exact ex_iret C hr hlk (by decide +kernel) (ex_nar (by have b9 := bl_X11_bad (4 : Int32) σ; rw [q119] at b9; exact b9)) (Nat.le_refl _) (Nat.le_refl _) (by rw [E9]; exact ⟨rfl, rfl⟩)
    · skip
      exact absurd h95 (by decide)
set_option maxRecDepth 100000 in
set_option maxHeartbeats 4000000 in
theorem m_X11_fault {l : Launch} {X : ab_X} {D : va_G} {A : ex_A} (d : Nat) (hd : 1 ≤ d) (σ : ex_S) : ex_ctr l X D A d yX11_fault cX11_fault 1 (some .int) (WT σ) [.ref 0] (fun r w => r = (B_fault σ).1 ∧ w = WT (B_fault σ).2) := by
  obtain ⟨d, rfl⟩ : ∃ d9, d = d9 + 1 := ⟨d - 1, by omega⟩
  refine ex_meth (own := RX11) rfl (by decide) (Nat.le_of_ble_eq_true rfl) (fun p e R s m below meth c C hr hlk hd1 hd2 => ?_)
  show ex_ok p l e R s m _ below meth c 0 0 _ 1 X D A (WT σ) 0 [(0, .ref 0)] []
  refine ex_aload_n (q := 0) (x := 0) (np := 1) C (by decide +kernel) rfl rfl ?_
  refine ex_iconst (n := 0) (v := 0) (np := 2) C (by decide +kernel) (by decide) rfl ?_
  refine ex_putf (q := 0) (w1 := (WT (sI 0 (0 : Int32) σ))) (np := 5) C hc_X11 hin_X11 (by decide) tyX11_ok nmX11 tg_1375 rfl (by decide +kernel) (WT_0 _) (Nat.le_of_ble_eq_true rfl) rfl rfl (WT_0_0 _ _) rfl ?_
  refine ex_aload_n (q := 0) (x := 0) (np := 6) C (by decide +kernel) rfl rfl ?_
  refine ex_getf (q := 15) (v := .int (σ.1 9)) (np := 9) C hc_X11 hin_X11 (by decide) tg_1390 (by decide +kernel) (WT_0 _) rfl rfl ?_
  have E9 : B_fault σ = ((σ.1 9), (sI 0 (0 : Int32) σ)) := by unfold B_fault; exact rfl
  exact ex_iret C hr hlk (by decide +kernel) rfl (Nat.le_refl _) (Nat.le_refl _) (by rw [E9]; exact ⟨rfl, rfl⟩)
