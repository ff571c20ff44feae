/-! Contracts of the parsers' methods. -/
set_option maxRecDepth 100000 in
set_option maxHeartbeats 4000000 in
theorem m_X11_valley {l : Launch} {X : ab_X} {D : va_G} {A : ex_A} (d : Nat) (hd : 8 ≤ d) (σ : ex_S) (hI : ((0 ≤ (σ.1 1).toInt ∧ (σ.1 1).toInt ≤ 940))) : ex_ctr l X D A d yX11_valley cX11_valley 2 (some .int) (WB σ) [.ref 0] (fun r w => r = B_valley σ ∧ B_vend σ w) := by
  obtain ⟨d, rfl⟩ : ∃ d9, d = d9 + 1 := ⟨d - 1, by omega⟩
  refine ex_meth (own := RX11) rfl (by decide) (Nat.le_of_ble_eq_true rfl) (fun p e R s m below meth c C hr hlk hd1 hd2 => ?_)
  show ex_ok p l e R s m _ below meth c 0 0 _ 2 X D A (WB σ) 0 [(0, .ref 0)] []
  have fin : ∀ τ : ex_S, B_INV τ → B_valley σ = τ.1 12 → B_vs σ = ((1 : Int32), τ) → ex_okP p l e R s m below meth c 2 X D A [.ref 0] (fun r w => r = B_valley σ ∧ B_vend σ w) (some .int) (WB τ) 78 [(0, .ref 0)] [] := by
    intro τ hI hs hs2
    have hI9 := hI; unfold B_INV at hI9
    have hN := ex_nat (x := τ.2.2.1 2 0) hI9.2.2.1.1
    have l3 : ∀ (n k : Nat) (f : Nat → Int32) (g : Nat → Int64), k + n = (τ.2.2.1 2 0).toInt.toNat → (∀ j : Nat, j < 100 → f j = τ.2.2.1 2 j) → (∀ j : Nat, j < 15 → g j = τ.2.2.2 0 (15 + j)) → ex_okP p l e R s m below meth c 2 X D A [.ref 0] (fun r w => r = B_valley σ ∧ B_vend σ w) (some .int) (WB (sQ 0 g (sR 1 f τ))) 146 [(1, .int (nI k)), (0, .ref 0)] [] := by
      intro n
      induction n with
      | zero =>
        intro k f g hk hf hg
        have hki : (nI k).toInt = (k : Int) := nI_toInt (by omega)
        refine ex_iload_n (q := 1) (x := (nI k)) (np := 147) C (by decide +kernel) rfl rfl ?_
        refine ex_aload_n (q := 0) (x := 0) (np := 148) C (by decide +kernel) rfl rfl ?_
        refine ex_getf (q := 6) (v := .ref 2) (np := 151) C hc_X11 hin_X11 (by decide) tg_1381 (by decide +kernel) (WB_0 _) rfl rfl ?_
        refine ex_iconst (n := 0) (v := 0) (np := 152) C (by decide +kernel) (by decide) rfl ?_
        refine ex_iald (f := f) (kk := 0) (np := 153) C (by decide +kernel) (WB_2 _) (by decide) (by decide) rfl ?_
        refine ex_icmp_ge (off := 27) (tgt := 180) (np := 156) C (by decide +kernel) (by decide) rfl (fun h1 => ?_) (fun h1 => ?_)
        · skip
          refine ex_aload_n (q := 0) (x := 0) (np := 181) C (by decide +kernel) rfl rfl ?_
          refine ex_iconst (n := 0) (v := 0) (np := 182) C (by decide +kernel) (by decide) rfl ?_
          refine ex_putf (q := 23) (w1 := (WB (sI 14 (0 : Int32) (sQ 0 g (sR 1 f τ))))) (np := 185) C hc_X11 hin_X11 (by decide) tyX11_ok nmX11 tg_1398 rfl (by decide +kernel) (WB_0 _) (Nat.le_of_ble_eq_true rfl) rfl rfl (WB_0_23 _ _) rfl ?_
          refine ex_aload_n (q := 0) (x := 0) (np := 186) C (by decide +kernel) rfl rfl ?_
          refine ex_getf (q := 19) (v := .int (τ.1 12)) (np := 189) C hc_X11 hin_X11 (by decide) tg_1394 (by decide +kernel) (WB_0 _) rfl rfl ?_
          exact ex_iret C hr hlk (by decide +kernel) rfl (Nat.le_refl _) (Nat.le_refl _) (And.intro (by show _ = B_valley σ; exact Eq.symm hs) (by unfold B_vend; rw [hs2]; exact Or.inl ⟨rfl, _, rfl, fun j h2 => hf j h2, fun j h2 => hg j h2, rfl⟩))
        · skip
          exfalso; rw [hki, hf 0 (by decide)] at h1; omega
      | succ n ih =>
        intro k f g hk hf hg
        have hki : (nI k).toInt = (k : Int) := nI_toInt (by omega)
        have e103 : (103 : Int32).toInt = 103 := by decide
        have s103 : ((103 : Int32) + nI k).toInt = (103 : Int32).toInt + k := ex_add (by decide) hki (by rw [e103]; omega)
        have e13 : (13 : Int32).toInt = 13 := by decide
        have s13 : ((13 : Int32) + nI k).toInt = (13 : Int32).toInt + k := ex_add (by decide) hki (by rw [e13]; omega)
        refine ex_iload_n (q := 1) (x := (nI k)) (np := 147) C (by decide +kernel) rfl rfl ?_
        refine ex_aload_n (q := 0) (x := 0) (np := 148) C (by decide +kernel) rfl rfl ?_
        refine ex_getf (q := 6) (v := .ref 2) (np := 151) C hc_X11 hin_X11 (by decide) tg_1381 (by decide +kernel) (WB_0 _) rfl rfl ?_
        refine ex_iconst (n := 0) (v := 0) (np := 152) C (by decide +kernel) (by decide) rfl ?_
        refine ex_iald (f := f) (kk := 0) (np := 153) C (by decide +kernel) (WB_2 _) (by decide) (by decide) rfl ?_
        refine ex_icmp_ge (off := 27) (tgt := 180) (np := 156) C (by decide +kernel) (by decide) rfl (fun h2 => ?_) (fun h2 => ?_)
        · skip
          exfalso; rw [hki, hf 0 (by decide)] at h2; omega
        · skip
          refine ex_aload_n (q := 0) (x := 0) (np := 157) C (by decide +kernel) rfl rfl ?_
          refine ex_getf (q := 6) (v := .ref 2) (np := 160) C hc_X11 hin_X11 (by decide) tg_1381 (by decide +kernel) (WB_0 _) rfl rfl ?_
          refine ex_bipush (n := 103) (v := 103) (np := 162) C (by decide +kernel) (by decide) rfl ?_
          refine ex_iload_n (q := 1) (x := (nI k)) (np := 163) C (by decide +kernel) rfl rfl ?_
          refine ex_iadd (v := ((103 : Int32) + (nI k))) (np := 164) C (by decide +kernel) rfl rfl ?_
          refine ex_aload_n (q := 0) (x := 0) (np := 165) C (by decide +kernel) rfl rfl ?_
          refine ex_getf (q := 6) (v := .ref 2) (np := 168) C hc_X11 hin_X11 (by decide) tg_1381 (by decide +kernel) (WB_0 _) rfl rfl ?_
          refine ex_bipush (n := 13) (v := 13) (np := 170) C (by decide +kernel) (by decide) rfl ?_
          refine ex_iload_n (q := 1) (x := (nI k)) (np := 171) C (by decide +kernel) rfl rfl ?_
          refine ex_iadd (v := ((13 : Int32) + (nI k))) (np := 172) C (by decide +kernel) rfl rfl ?_
          refine ex_iald (f := f) (kk := (((13 : Int32) + (nI k))).toNatClampNeg) (np := 173) C (by decide +kernel) (WB_2 _) (by rw [s13, e13]; omega) rfl rfl ?_
          refine ex_iast (f := f) (kk := (((103 : Int32) + (nI k))).toNatClampNeg) (w1 := (WB (sR 1 (upd f (((103 : Int32) + (nI k))).toNatClampNeg (f (((13 : Int32) + (nI k))).toNatClampNeg)) (sQ 0 g (sR 1 f τ))))) (np := 174) C (by decide +kernel) (WB_2 _) (by rw [s103, e103]; omega) rfl (WB_2_s _ _) rfl ?_
          refine ex_iinc (i := 1) (n := 1) (x := (nI k)) (v := ((nI k) + 1)) (np := 177) (lv1 := [(1, .int ((nI k) + 1)), (0, .ref 0)]) C (by decide) (by decide +kernel) rfl (by rfl) rfl rfl ?_
          refine ex_goto (off := (-31)) (tgt := 146) C (by decide +kernel) (by decide) ?_
          refine ex_drop (lv1 := [(1, .int ((nI k) + 1)), (0, .ref 0)]) [0, 1] rfl ?_
          rw [← nI_succ, ex_sw]
          exact ih (k + 1) _ g (by omega) (fun j h2 => by show upd _ _ _ j = _; unfold upd; rw [if_neg (by have c9 := ex_cl (x := (103 : Int32) + nI k) (by rw [s103, e103]; omega); rw [s103, e103] at c9; omega)]; exact hf j h2) hg
    have l2 : ∀ (n k : Nat) (f : Nat → Int32) (g : Nat → Int64), k + n = 15 → (∀ j : Nat, j < 100 → f j = τ.2.2.1 2 j) → (∀ j : Nat, j < k → g j = τ.2.2.2 0 (15 + j)) → (∀ j : Nat, 15 ≤ j → g j = τ.2.2.2 0 j) → ex_okP p l e R s m below meth c 2 X D A [.ref 0] (fun r w => r = B_valley σ ∧ B_vend σ w) (some .int) (WB (sQ 0 g (sR 1 f τ))) 117 [(1, .int (nI k)), (0, .ref 0)] [] := by
      intro n
      induction n with
      | zero =>
        intro k f g hk hf hg hg2
        have hki : (nI k).toInt = (k : Int) := nI_toInt (by omega)
        have e15 : (15 : Int32).toInt = 15 := by decide
        refine ex_iload_n (q := 1) (x := (nI k)) (np := 118) C (by decide +kernel) rfl rfl ?_
        refine ex_bipush (n := 15) (v := 15) (np := 120) C (by decide +kernel) (by decide) rfl ?_
        refine ex_icmp_ge (off := 24) (tgt := 144) (np := 123) C (by decide +kernel) (by decide) rfl (fun h3 => ?_) (fun h3 => ?_)
        · skip
          refine ex_iconst (n := 0) (v := 0) (np := 145) C (by decide +kernel) (by decide) rfl ?_
          refine ex_istore_n (q := 1) (np := 146) (lv1 := [(1, .int (0 : Int32)), (0, .ref 0)]) C (by decide) (by decide +kernel) rfl rfl ?_
          refine ex_drop (lv1 := [(1, .int (0 : Int32)), (0, .ref 0)]) [0, 1] rfl ?_
          exact l3 ((τ.2.2.1 2 0).toInt.toNat) 0 f g (by omega) hf (fun j h1 => hg j (by omega))
        · skip
          exfalso; rw [hki, e15] at h3; omega
      | succ n ih =>
        intro k f g hk hf hg hg2
        have hki : (nI k).toInt = (k : Int) := nI_toInt (by omega)
        have e15 : (15 : Int32).toInt = 15 := by decide
        have s15 : ((15 : Int32) + nI k).toInt = (15 : Int32).toInt + k := ex_add (by decide) hki (by rw [e15]; omega)
        have c15 : ((15 : Int32) + nI k).toNatClampNeg = 15 + k := by have c9 := ex_cl (x := (15 : Int32) + nI k) (by rw [s15, e15]; omega); rw [s15, e15] at c9; omega
        refine ex_iload_n (q := 1) (x := (nI k)) (np := 118) C (by decide +kernel) rfl rfl ?_
        refine ex_bipush (n := 15) (v := 15) (np := 120) C (by decide +kernel) (by decide) rfl ?_
        refine ex_icmp_ge (off := 24) (tgt := 144) (np := 123) C (by decide +kernel) (by decide) rfl (fun h4 => ?_) (fun h4 => ?_)
        · skip
          exfalso; rw [hki, e15] at h4; omega
        · skip
          refine ex_aload_n (q := 0) (x := 0) (np := 124) C (by decide +kernel) rfl rfl ?_
          refine ex_getf (q := 9) (v := .ref 5) (np := 127) C hc_X11 hin_X11 (by decide) tg_1384 (by decide +kernel) (WB_0 _) rfl rfl ?_
          refine ex_iload_n (q := 1) (x := (nI k)) (np := 128) C (by decide +kernel) rfl rfl ?_
          refine ex_aload_n (q := 0) (x := 0) (np := 129) C (by decide +kernel) rfl rfl ?_
          refine ex_getf (q := 9) (v := .ref 5) (np := 132) C hc_X11 hin_X11 (by decide) tg_1384 (by decide +kernel) (WB_0 _) rfl rfl ?_
          refine ex_bipush (n := 15) (v := 15) (np := 134) C (by decide +kernel) (by decide) rfl ?_
          refine ex_iload_n (q := 1) (x := (nI k)) (np := 135) C (by decide +kernel) rfl rfl ?_
          refine ex_iadd (v := ((15 : Int32) + (nI k))) (np := 136) C (by decide +kernel) rfl rfl ?_
          refine ex_lald (f := g) (kk := (((15 : Int32) + (nI k))).toNatClampNeg) (np := 137) C (by decide +kernel) (WB_5 _) (by rw [s15, e15]; omega) rfl rfl ?_
          refine ex_last (f := g) (kk := ((nI k)).toNatClampNeg) (w1 := (WB (sQ 0 (vp_updL g ((nI k)).toNatClampNeg (g (((15 : Int32) + (nI k))).toNatClampNeg)) (sQ 0 g (sR 1 f τ))))) (np := 138) C (by decide +kernel) (WB_5 _) (by rw [hki]; omega) rfl (WB_5_s _ _) rfl ?_
          refine ex_iinc (i := 1) (n := 1) (x := (nI k)) (v := ((nI k) + 1)) (np := 141) (lv1 := [(1, .int ((nI k) + 1)), (0, .ref 0)]) C (by decide) (by decide +kernel) rfl (by rfl) rfl rfl ?_
          refine ex_goto (off := (-24)) (tgt := 117) C (by decide +kernel) (by decide) ?_
          refine ex_drop (lv1 := [(1, .int ((nI k) + 1)), (0, .ref 0)]) [0, 1] rfl ?_
          rw [← nI_succ, ex_qq]
          exact ih (k + 1) f _ (by omega) hf (fun j h1 => by unfold vp_updL; rw [ex_nk (k := k) (by omega), c15]; by_cases hj : j = k; (rw [if_pos hj, hj]; exact hg2 (15 + k) (by omega)); (rw [if_neg hj]; exact hg j (by omega))) (fun j h1 => by unfold vp_updL; rw [ex_nk (k := k) (by omega), if_neg (by omega)]; exact hg2 j h1)
    have l1 : ∀ (n k : Nat) (f : Nat → Int32), k + n = 305 → (∀ j : Nat, j < k → j < 100 → f j = τ.2.2.1 2 j) → ex_okP p l e R s m below meth c 2 X D A [.ref 0] (fun r w => r = B_valley σ ∧ B_vend σ w) (some .int) (WB (sR 1 f τ)) 80 [(1, .int (nI k)), (0, .ref 0)] [] := by
      intro n
      induction n with
      | zero =>
        intro k f hk hf
        have hki : (nI k).toInt = (k : Int) := nI_toInt (by omega)
        have e305 : (305 : Int32).toInt = 305 := by decide
        have e100 : (100 : Int32).toInt = 100 := by decide
        refine ex_iload_n (q := 1) (x := (nI k)) (np := 81) C (by decide +kernel) rfl rfl ?_
        refine ex_sipush (n := 305) (v := 305) (np := 84) C (by decide +kernel) (by decide) rfl ?_
        refine ex_icmp_ge (off := 31) (tgt := 115) (np := 87) C (by decide +kernel) (by decide) rfl (fun h5 => ?_) (fun h5 => ?_)
        · skip
          refine ex_iconst (n := 0) (v := 0) (np := 116) C (by decide +kernel) (by decide) rfl ?_
          refine ex_istore_n (q := 1) (np := 117) (lv1 := [(1, .int (0 : Int32)), (0, .ref 0)]) C (by decide) (by decide +kernel) rfl rfl ?_
          refine ex_drop (lv1 := [(1, .int (0 : Int32)), (0, .ref 0)]) [0, 1] rfl ?_
          have h9 := l2 15 0 f (τ.2.2.2 0) rfl (fun j h2 => hf j (by omega) h2) (fun j h1 => absurd h1 (Nat.not_lt_zero j)) (fun _ _ => rfl)
          rw [ex_qid (k := 0) (f := τ.2.2.2 0) (σ := sR 1 f τ) rfl] at h9
          exact h9
        · skip
          exfalso; rw [hki, e305] at h5; omega
      | succ n ih =>
        intro k f hk hf
        have hki : (nI k).toInt = (k : Int) := nI_toInt (by omega)
        have e305 : (305 : Int32).toInt = 305 := by decide
        have e100 : (100 : Int32).toInt = 100 := by decide
        refine ex_iload_n (q := 1) (x := (nI k)) (np := 81) C (by decide +kernel) rfl rfl ?_
        refine ex_sipush (n := 305) (v := 305) (np := 84) C (by decide +kernel) (by decide) rfl ?_
        refine ex_icmp_ge (off := 31) (tgt := 115) (np := 87) C (by decide +kernel) (by decide) rfl (fun h6 => ?_) (fun h6 => ?_)
        · skip
          exfalso; rw [hki, e305] at h6; omega
        · skip
          refine ex_aload_n (q := 0) (x := 0) (np := 88) C (by decide +kernel) rfl rfl ?_
          refine ex_getf (q := 6) (v := .ref 2) (np := 91) C hc_X11 hin_X11 (by decide) tg_1381 (by decide +kernel) (WB_0 _) rfl rfl ?_
          refine ex_iload_n (q := 1) (x := (nI k)) (np := 92) C (by decide +kernel) rfl rfl ?_
          refine ex_iload_n (q := 1) (x := (nI k)) (np := 93) C (by decide +kernel) rfl rfl ?_
          refine ex_bipush (n := 100) (v := 100) (np := 95) C (by decide +kernel) (by decide) rfl ?_
          refine ex_icmp_ge (off := 12) (tgt := 107) (np := 98) C (by decide +kernel) (by decide) rfl (fun h7 => ?_) (fun h7 => ?_)
          · skip
            refine ex_iconst (n := 0) (v := 0) (np := 108) C (by decide +kernel) (by decide) rfl ?_
            refine ex_iast (f := f) (kk := ((nI k)).toNatClampNeg) (w1 := (WB (sR 1 (upd f ((nI k)).toNatClampNeg (0 : Int32)) (sR 1 f τ)))) (np := 109) C (by decide +kernel) (WB_2 _) (by rw [hki]; omega) rfl (WB_2_s _ _) rfl ?_
            refine ex_iinc (i := 1) (n := 1) (x := (nI k)) (v := ((nI k) + 1)) (np := 112) (lv1 := [(1, .int ((nI k) + 1)), (0, .ref 0)]) C (by decide) (by decide +kernel) rfl (by rfl) rfl rfl ?_
            refine ex_goto (off := (-32)) (tgt := 80) C (by decide +kernel) (by decide) ?_
            refine ex_drop (lv1 := [(1, .int ((nI k) + 1)), (0, .ref 0)]) [0, 1] rfl ?_
            rw [← nI_succ, ex_rr]
            exact ih (k + 1) _ (by omega) (fun j h1 h2 => by unfold upd; rw [ex_nk (k := k) (by omega), if_neg (by rw [hki, e100] at h7; omega)]; exact hf j (by rw [hki, e100] at h7; omega) h2)
          · skip
            refine ex_aload_n (q := 0) (x := 0) (np := 99) C (by decide +kernel) rfl rfl ?_
            refine ex_getf (q := 7) (v := .ref 3) (np := 102) C hc_X11 hin_X11 (by decide) tg_1382 (by decide +kernel) (WB_0 _) rfl rfl ?_
            refine ex_iload_n (q := 1) (x := (nI k)) (np := 103) C (by decide +kernel) rfl rfl ?_
            refine ex_iald (f := (τ.2.2.1 2)) (kk := ((nI k)).toNatClampNeg) (np := 104) C (by decide +kernel) (WB_3 _) (by have h8 := h7; rw [hki, e100] at h8; rw [hki]; omega) rfl rfl ?_
            refine ex_goto (off := 4) (tgt := 108) C (by decide +kernel) (by decide) ?_
            refine ex_iast (f := f) (kk := ((nI k)).toNatClampNeg) (w1 := (WB (sR 1 (upd f ((nI k)).toNatClampNeg ((τ.2.2.1 2) ((nI k)).toNatClampNeg)) (sR 1 f τ)))) (np := 109) C (by decide +kernel) (WB_2 _) (by rw [hki]; omega) rfl (WB_2_s _ _) rfl ?_
            refine ex_iinc (i := 1) (n := 1) (x := (nI k)) (v := ((nI k) + 1)) (np := 112) (lv1 := [(1, .int ((nI k) + 1)), (0, .ref 0)]) C (by decide) (by decide +kernel) rfl (by rfl) rfl rfl ?_
            refine ex_goto (off := (-32)) (tgt := 80) C (by decide +kernel) (by decide) ?_
            refine ex_drop (lv1 := [(1, .int ((nI k) + 1)), (0, .ref 0)]) [0, 1] rfl ?_
            rw [← nI_succ, ex_rr]
            exact ih (k + 1) _ (by omega) (fun j h1 h2 => by unfold upd; rw [ex_nk (k := k) (by omega)]; by_cases hk0 : j = k; (rw [if_pos hk0, hk0]); (rw [if_neg hk0]; exact hf j (by omega) h2))
    refine ex_iconst (n := 0) (v := 0) (np := 79) C (by decide +kernel) (by decide) rfl ?_
    refine ex_istore_n (q := 1) (np := 80) (lv1 := [(1, .int (0 : Int32)), (0, .ref 0)]) C (by decide) (by decide +kernel) rfl rfl ?_
    refine ex_drop (lv1 := [(1, .int (0 : Int32)), (0, .ref 0)]) [0, 1] rfl ?_
    have h9 := l1 305 0 (τ.2.2.1 1) rfl (fun j h1 h2 => absurd h1 (Nat.not_lt_zero j))
    rw [ex_rid (k := 1) (σ := τ) rfl] at h9
    exact h9
  have loop : ∀ (k : Nat) (τ : ex_S), B_INV τ → B_ON τ → 30 - B_cnt τ < k → B_valley σ = B_ri k τ → B_vs σ = B_rs k τ → ex_okP p l e R s m below meth c 2 X D A [.ref 0] (fun r w => r = B_valley σ ∧ B_vend σ w) (some .int) (WB τ) 35 [(0, .ref 0)] [] := by
    intro k
    induction k with
    | zero => intro τ hI hO hk hs hs2; exfalso; have h9 := B_cnt_le hI; omega
    | succ k ih =>
      intro τ hI hO hk hs hs2
      refine ex_aload_n (q := 0) (x := 0) (np := 36) C (by decide +kernel) rfl rfl ?_
      refine ex_getf (q := 11) (v := .int (τ.1 5)) (np := 39) C hc_X11 hin_X11 (by decide) tg_1386 (by decide +kernel) (WB_0 _) rfl rfl ?_
      refine ex_if_eq (off := 39) (tgt := 78) (np := 42) C (by decide +kernel) (by decide) rfl (fun h8 => ?_) (fun h8 => ?_)
      · skip
        exact fin τ hI (hs.trans (B_ri_s.trans ((if_pos h8).trans (rfl)))) (hs2.trans (B_rs_s.trans ((if_pos h8).trans (rfl))))
      · skip
        refine ex_aload_n (q := 0) (x := 0) (np := 43) C (by decide +kernel) rfl rfl ?_
        obtain ⟨r10, σ11, q12⟩ : ∃ r x, B_line τ = (r, x) := ex_pair _
        refine ex_call_i (np := 46) (fun ws H locs ls hR hsz => ex_runV (C1 := "") C (m_X11_line d (by omega) τ hI) hd1 hd2 (by decide) hy_X11_line tg_1554 hc_X11 rfl (WB_0 _) rfl rfl (Nat.le_of_ble_eq_true rfl) rfl tg_1551 tg_1553 tg_85 tg_158 (by decide +kernel) ws H locs ls hR hsz (Nat.zero_le _) (Nat.zero_le _)) rfl (fun r9 w1 hpo => ?_)
        rw [q12] at hpo
        have hp1 : r10 = r9 := hpo.1.symm
        have hp2 := hpo.2
        clear hpo; subst hp1; subst hp2
        have hI13 := inv_X11_line τ hI; rw [q12] at hI13
        refine ex_if_eq (off := 12) (tgt := 58) (np := 49) C (by decide +kernel) (by decide) rfl (fun h14 => ?_) (fun h14 => ?_)
        · skip
          refine ex_iconst (n := (-1)) (v := (-1)) (np := 59) C (by decide +kernel) (by decide) rfl ?_
          refine ex_aload_n (q := 0) (x := 0) (np := 60) C (by decide +kernel) rfl rfl ?_
          refine ex_getf (q := 16) (v := .int (σ11.1 10)) (np := 63) C hc_X11 hin_X11 (by decide) tg_1391 (by decide +kernel) (WB_0 _) rfl rfl ?_
          refine ex_isub (v := ((-1 : Int32) - (σ11.1 10))) (np := 64) C (by decide +kernel) rfl rfl ?_
          exact ex_iret C hr hlk (by decide +kernel) rfl (Nat.le_refl _) (Nat.le_refl _) (And.intro (by show _ = B_valley σ; exact Eq.symm (hs.trans (B_ri_s.trans ((if_neg h8).trans ((ex_bd_eq q12).trans ((if_pos h14).trans (rfl))))))) (by unfold B_vend; rw [hs2.trans (B_rs_s.trans ((if_neg h8).trans ((ex_bd_eq q12).trans ((if_pos h14).trans (rfl)))))]; exact Or.inr ⟨rfl, rfl⟩))
        · skip
          refine ex_aload_n (q := 0) (x := 0) (np := 50) C (by decide +kernel) rfl rfl ?_
          refine ex_bipush (n := 59) (v := 59) (np := 52) C (by decide +kernel) (by decide) rfl ?_
          obtain ⟨r15, σ16, q17⟩ : ∃ r x, B_sign (59 : Int32) σ11 = (r, x) := ex_pair _
          refine ex_call_i (np := 55) (fun ws H locs ls hR hsz => ex_runV (C1 := "") C (m_X11_sign d (by omega) (59 : Int32) σ11 hI13) hd1 hd2 (by decide) hy_X11_sign tg_1620 hc_X11 rfl (WB_0 _) rfl rfl (Nat.le_of_ble_eq_true rfl) rfl tg_1617 tg_1619 tg_100 tg_158 (by decide +kernel) ws H locs ls hR hsz (Nat.zero_le _) (Nat.zero_le _)) rfl (fun r9 w1 hpo => ?_)
          rw [q17] at hpo
          have hp1 : r15 = r9 := hpo.1.symm
          have hp2 := hpo.2
          clear hpo; subst hp1; subst hp2
          have hI18 := inv_X11_sign (59 : Int32) σ11 hI13; rw [q17] at hI18
          refine ex_if_ne (off := 10) (tgt := 65) (np := 58) C (by decide +kernel) (by decide) rfl (fun h19 => ?_) (fun h19 => ?_)
          · skip
            refine ex_aload_n (q := 0) (x := 0) (np := 66) C (by decide +kernel) rfl rfl ?_
            refine ex_dup (np := 67) C rfl (by decide +kernel) rfl ?_
            refine ex_getf (q := 19) (v := .int (σ16.1 12)) (np := 70) C hc_X11 hin_X11 (by decide) tg_1394 (by decide +kernel) (WB_0 _) rfl rfl ?_
            refine ex_iconst (n := 1) (v := 1) (np := 71) C (by decide +kernel) (by decide) rfl ?_
            refine ex_iadd (v := ((σ16.1 12) + (1 : Int32))) (np := 72) C (by decide +kernel) rfl rfl ?_
            refine ex_putf (q := 19) (w1 := (WB (sI 12 ((σ16.1 12) + (1 : Int32)) σ16))) (np := 75) C hc_X11 hin_X11 (by decide) tyX11_ok nmX11 tg_1394 rfl (by decide +kernel) (WB_0 _) (Nat.le_of_ble_eq_true rfl) rfl rfl (WB_0_19 _ _) rfl ?_
            refine ex_goto (off := (-40)) (tgt := 35) C (by decide +kernel) (by decide) ?_
            obtain ⟨g1, g2⟩ := cnt_line hI hO q12 h14
            obtain ⟨g3, g4⟩ := cnt_sign q17
            exact ih _ hI18 (by unfold B_ON at *; show 0 ≤ (σ16.1 13).toInt ∧ (σ16.1 13).toInt ≤ 7; rw [g4]; exact g2) (by show 30 - B_cnt σ16 < _; rw [g3, g1]; omega) (hs.trans (B_ri_s.trans ((if_neg h8).trans ((ex_bd_eq q12).trans ((if_neg h14).trans ((ex_bd_eq q17).trans ((if_neg h19).trans (rfl)))))))) (hs2.trans (B_rs_s.trans ((if_neg h8).trans ((ex_bd_eq q12).trans ((if_neg h14).trans ((ex_bd_eq q17).trans ((if_neg h19).trans (rfl))))))))
          · skip
            refine ex_iconst (n := (-1)) (v := (-1)) (np := 59) C (by decide +kernel) (by decide) rfl ?_
            refine ex_aload_n (q := 0) (x := 0) (np := 60) C (by decide +kernel) rfl rfl ?_
            refine ex_getf (q := 16) (v := .int (σ16.1 10)) (np := 63) C hc_X11 hin_X11 (by decide) tg_1391 (by decide +kernel) (WB_0 _) rfl rfl ?_
            refine ex_isub (v := ((-1 : Int32) - (σ16.1 10))) (np := 64) C (by decide +kernel) rfl rfl ?_
            exact ex_iret C hr hlk (by decide +kernel) rfl (Nat.le_refl _) (Nat.le_refl _) (And.intro (by show _ = B_valley σ; exact Eq.symm (hs.trans (B_ri_s.trans ((if_neg h8).trans ((ex_bd_eq q12).trans ((if_neg h14).trans ((ex_bd_eq q17).trans ((if_pos h19).trans (rfl))))))))) (by unfold B_vend; rw [hs2.trans (B_rs_s.trans ((if_neg h8).trans ((ex_bd_eq q12).trans ((if_neg h14).trans ((ex_bd_eq q17).trans ((if_pos h19).trans (rfl)))))))]; exact Or.inr ⟨rfl, rfl⟩))
  refine ex_aload_n (q := 0) (x := 0) (np := 1) C (by decide +kernel) rfl rfl ?_
  refine ex_iconst (n := 0) (v := 0) (np := 2) C (by decide +kernel) (by decide) rfl ?_
  refine ex_putf (q := 0) (w1 := (WB (sI 0 (0 : Int32) σ))) (np := 5) C hc_X11 hin_X11 (by decide) tyX11_ok nmX11 tg_1375 rfl (by decide +kernel) (WB_0 _) (Nat.le_of_ble_eq_true rfl) rfl rfl (WB_0_0 _ _) rfl ?_
  refine ex_aload_n (q := 0) (x := 0) (np := 6) C (by decide +kernel) rfl rfl ?_
  refine ex_sipush (n := 900) (v := 900) (np := 9) C (by decide +kernel) (by decide) rfl ?_
  obtain ⟨σ20, q21⟩ : ∃ x, x = B_taken (900 : Int32) (sI 0 (0 : Int32) σ) := ⟨_, rfl⟩
  refine ex_call_v (np := 12) (fun ws H locs ls hR hsz => ex_runV (C1 := "") C (m_X11_taken d (by omega) (900 : Int32) (sI 0 (0 : Int32) σ)) hd1 hd2 (by decide) hy_X11_taken tg_1536 hc_X11 rfl (WB_0 _) rfl rfl (Nat.le_of_ble_eq_true rfl) rfl tg_1533 tg_1535 tg_82 tg_158 (by decide +kernel) ws H locs ls hR hsz (Nat.zero_le _) (Nat.zero_le _)) rfl (fun w1 hpo => ?_)
  rw [← q21] at hpo
  subst hpo
  refine ex_aload_n (q := 0) (x := 0) (np := 13) C (by decide +kernel) rfl rfl ?_
  refine ex_iconst (n := 0) (v := 0) (np := 14) C (by decide +kernel) (by decide) rfl ?_
  refine ex_putf (q := 15) (w1 := (WB (sI 9 (0 : Int32) σ20))) (np := 17) C hc_X11 hin_X11 (by decide) tyX11_ok nmX11 tg_1390 rfl (by decide +kernel) (WB_0 _) (Nat.le_of_ble_eq_true rfl) rfl rfl (WB_0_15 _ _) rfl ?_
  refine ex_aload_n (q := 0) (x := 0) (np := 18) C (by decide +kernel) rfl rfl ?_
  refine ex_iconst (n := 0) (v := 0) (np := 19) C (by decide +kernel) (by decide) rfl ?_
  refine ex_putf (q := 19) (w1 := (WB (sI 12 (0 : Int32) (sI 9 (0 : Int32) σ20)))) (np := 22) C hc_X11 hin_X11 (by decide) tyX11_ok nmX11 tg_1394 rfl (by decide +kernel) (WB_0 _) (Nat.le_of_ble_eq_true rfl) rfl rfl (WB_0_19 _ _) rfl ?_
  refine ex_aload_n (q := 0) (x := 0) (np := 23) C (by decide +kernel) rfl rfl ?_
  refine ex_iconst (n := 0) (v := 0) (np := 24) C (by decide +kernel) (by decide) rfl ?_
  refine ex_putf (q := 20) (w1 := (WB (sI 13 (0 : Int32) (sI 12 (0 : Int32) (sI 9 (0 : Int32) σ20))))) (np := 27) C hc_X11 hin_X11 (by decide) tyX11_ok nmX11 tg_1395 rfl (by decide +kernel) (WB_0 _) (Nat.le_of_ble_eq_true rfl) rfl rfl (WB_0_20 _ _) rfl ?_
  refine ex_aload_n (q := 0) (x := 0) (np := 28) C (by decide +kernel) rfl rfl ?_
  obtain ⟨σ22, q23⟩ : ∃ x, x = B_clears (sI 13 (0 : Int32) (sI 12 (0 : Int32) (sI 9 (0 : Int32) σ20))) := ⟨_, rfl⟩
  refine ex_call_v (np := 31) (fun ws H locs ls hR hsz => ex_runV (C1 := "") C (m_X11_clears d (by omega) (sI 13 (0 : Int32) (sI 12 (0 : Int32) (sI 9 (0 : Int32) σ20)))) hd1 hd2 (by decide) hy_X11_clears tg_1374 hc_X11 rfl (WB_0 _) rfl rfl (Nat.le_of_ble_eq_true rfl) rfl tg_1371 tg_1373 tg_81 tg_158 (by decide +kernel) ws H locs ls hR hsz (Nat.zero_le _) (Nat.zero_le _)) rfl (fun w1 hpo => ?_)
  rw [← q23] at hpo
  subst hpo
  refine ex_aload_n (q := 0) (x := 0) (np := 32) C (by decide +kernel) rfl rfl ?_
  obtain ⟨σ24, q25⟩ : ∃ x, x = B_next σ22 := ⟨_, rfl⟩
  refine ex_call_v (np := 35) (fun ws H locs ls hR hsz => ex_runV (C1 := "") C (m_X11_next d (by omega) σ22 (by rw [q23, q21]; exact B_INV_0 hI)) hd1 hd2 (by decide) hy_X11_next tg_1540 hc_X11 rfl (WB_0 _) rfl rfl (Nat.le_of_ble_eq_true rfl) rfl tg_1537 tg_1539 tg_83 tg_158 (by decide +kernel) ws H locs ls hR hsz (Nat.zero_le _) (Nat.zero_le _)) rfl (fun w1 hpo => ?_)
  rw [← q25] at hpo
  subst hpo
  have hI26 := inv_X11_next σ22 (by rw [q23, q21]; exact B_INV_0 hI); rw [← q25] at hI26
  have hO : B_ON σ24 := by rw [q25, q23]; exact B_on0
  exact loop 31 σ24 hI26 (hO) (by have h9 := B_cnt_lo (σ := σ24) hI26; omega) (by unfold B_valley; exact (ex_lt_eq q21).trans ((ex_lt_eq q23).trans ((ex_lt_eq q25).trans (rfl)))) (by unfold B_vs; exact (ex_lt_eq q21).trans ((ex_lt_eq q23).trans ((ex_lt_eq q25).trans (rfl))))
