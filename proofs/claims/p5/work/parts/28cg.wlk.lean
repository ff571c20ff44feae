/-! Contracts of the parsers' methods. -/
set_option maxRecDepth 100000 in
set_option maxHeartbeats 4000000 in
theorem m_X11_isName {l : Launch} {X : ab_X} {D : va_G} {A : ex_A} (d : Nat) (hd : 1 ≤ d) (σ : ex_S) : ex_ctr l X D A d yX11_isName cX11_isName 3 (some .boolean) (WB σ) [.ref 0] (fun r w => r = B_isName σ ∧ w = WB σ) := by
  obtain ⟨d, rfl⟩ : ∃ d9, d = d9 + 1 := ⟨d - 1, by omega⟩
  refine ex_meth (own := RX11) rfl (by decide) (Nat.le_of_ble_eq_true rfl) (fun p e R s m below meth c C hr hlk hd1 hd2 => ?_)
  show ex_ok p l e R s m _ below meth c 0 0 _ 3 X D A (WB σ) 0 [(0, .ref 0)] []
  have loop : ∀ (n k : Nat) (b : Int32), (b = 0 ∨ b = 1) → k + n = 22 → B_isName σ = B_nm (σ.2.2.2 1) (σ.2.1 0) n k b → ex_okP p l e R s m below meth c 3 X D A [.ref 0] (fun r w => r = B_isName σ ∧ w = WB σ) (some .boolean) (WB σ) 16 [(2, .int (nI k)), (1, .int b), (0, .ref 0)] [] := by
    intro n
    induction n with
    | zero =>
      intro k b hb hk hs
      have hki : (nI k).toInt = (k : Int) := nI_toInt (by omega)
      have h22 : (22 : Int32).toInt = 22 := by decide
      refine ex_iload_n (q := 2) (x := (nI k)) (np := 17) C (by decide +kernel) rfl rfl ?_
      refine ex_bipush (n := 22) (v := 22) (np := 19) C (by decide +kernel) (by decide) rfl ?_
      refine ex_icmp_ge (off := 33) (tgt := 52) (np := 22) C (by decide +kernel) (by decide) rfl (fun h1 => ?_) (fun h1 => ?_)
      · skip
        refine ex_iload_n (q := 1) (x := b) (np := 53) C (by decide +kernel) rfl rfl ?_
        have E9 : B_isName σ = b := hs
        exact ex_iret C hr hlk (by decide +kernel) (ex_nar hb) (Nat.le_refl _) (Nat.le_refl _) ⟨E9.symm, rfl⟩
      · skip
        exfalso; rw [hki, h22] at h1; omega
    | succ n ih =>
      intro k b hb hk hs
      have hki : (nI k).toInt = (k : Int) := nI_toInt (by omega)
      have h22 : (22 : Int32).toInt = 22 := by decide
      refine ex_iload_n (q := 2) (x := (nI k)) (np := 17) C (by decide +kernel) rfl rfl ?_
      refine ex_bipush (n := 22) (v := 22) (np := 19) C (by decide +kernel) (by decide) rfl ?_
      refine ex_icmp_ge (off := 33) (tgt := 52) (np := 22) C (by decide +kernel) (by decide) rfl (fun h2 => ?_) (fun h2 => ?_)
      · skip
        exfalso; rw [hki, h22] at h2; omega
      · skip
        refine ex_iload_n (q := 1) (x := b) (np := 23) C (by decide +kernel) rfl rfl ?_
        refine ex_if_eq (off := 21) (tgt := 44) (np := 26) C (by decide +kernel) (by decide) rfl (fun h3 => ?_) (fun h3 => ?_)
        · skip
          refine ex_iconst (n := 0) (v := 0) (np := 45) C (by decide +kernel) (by decide) rfl ?_
          refine ex_istore_n (q := 1) (np := 46) (lv1 := [(1, .int (0 : Int32)), (2, .int (nI k)), (0, .ref 0)]) C (by decide) (by decide +kernel) rfl rfl ?_
          refine ex_iinc (i := 2) (n := 1) (x := (nI k)) (v := ((nI k) + 1)) (np := 49) (lv1 := [(2, .int ((nI k) + 1)), (1, .int (0 : Int32)), (0, .ref 0)]) C (by decide) (by decide +kernel) rfl (by rfl) rfl rfl ?_
          refine ex_goto (off := (-33)) (tgt := 16) C (by decide +kernel) (by decide) ?_
          refine ex_drop (lv1 := [(2, .int ((nI k) + 1)), (1, .int (0 : Int32)), (0, .ref 0)]) [0, 1, 2] rfl ?_
          rw [← nI_succ]
          try rw [ex_nk (k := k) (by omega)] at h3
          exact ih (k + 1) _ (Or.inl rfl) (by omega) (hs.trans (B_nm_s.trans (congrArg (B_nm (σ.2.2.2 1) (σ.2.1 0) n (k + 1)) ((if_pos h3).trans (rfl)))))
        · skip
          refine ex_aload_n (q := 0) (x := 0) (np := 27) C (by decide +kernel) rfl rfl ?_
          refine ex_getf (q := 17) (v := .long (σ.2.1 0)) (np := 30) C hc_X11 hin_X11 (by decide) tg_1392 (by decide +kernel) (WB_0 _) rfl rfl ?_
          refine ex_aload_n (q := 0) (x := 0) (np := 31) C (by decide +kernel) rfl rfl ?_
          refine ex_getf (q := 10) (v := .ref 6) (np := 34) C hc_X11 hin_X11 (by decide) tg_1385 (by decide +kernel) (WB_0 _) rfl rfl ?_
          refine ex_iload_n (q := 2) (x := (nI k)) (np := 35) C (by decide +kernel) rfl rfl ?_
          refine ex_lald (f := (σ.2.2.2 1)) (kk := ((nI k)).toNatClampNeg) (np := 36) C (by decide +kernel) (WB_6 _) (by rw [hki]; omega) rfl rfl ?_
          refine ex_lcmp (np := 37) C (by decide +kernel) rfl ?_
          refine ex_if_eq (off := 7) (tgt := 44) (np := 40) C (by decide +kernel) (by decide) rfl (fun h4 => ?_) (fun h4 => ?_)
          · skip
            refine ex_iconst (n := 0) (v := 0) (np := 45) C (by decide +kernel) (by decide) rfl ?_
            refine ex_istore_n (q := 1) (np := 46) (lv1 := [(1, .int (0 : Int32)), (2, .int (nI k)), (0, .ref 0)]) C (by decide) (by decide +kernel) rfl rfl ?_
            refine ex_iinc (i := 2) (n := 1) (x := (nI k)) (v := ((nI k) + 1)) (np := 49) (lv1 := [(2, .int ((nI k) + 1)), (1, .int (0 : Int32)), (0, .ref 0)]) C (by decide) (by decide +kernel) rfl (by rfl) rfl rfl ?_
            refine ex_goto (off := (-33)) (tgt := 16) C (by decide +kernel) (by decide) ?_
            refine ex_drop (lv1 := [(2, .int ((nI k) + 1)), (1, .int (0 : Int32)), (0, .ref 0)]) [0, 1, 2] rfl ?_
            rw [← nI_succ]
            try rw [ex_nk (k := k) (by omega)] at h3
            try rw [ex_nk (k := k) (by omega)] at h4
            exact ih (k + 1) _ (Or.inl rfl) (by omega) (hs.trans (B_nm_s.trans (congrArg (B_nm (σ.2.2.2 1) (σ.2.1 0) n (k + 1)) ((if_neg h3).trans ((if_pos h4).trans (rfl))))))
          · skip
            refine ex_iconst (n := 1) (v := 1) (np := 41) C (by decide +kernel) (by decide) rfl ?_
            refine ex_goto (off := 4) (tgt := 45) C (by decide +kernel) (by decide) ?_
            refine ex_istore_n (q := 1) (np := 46) (lv1 := [(1, .int (1 : Int32)), (2, .int (nI k)), (0, .ref 0)]) C (by decide) (by decide +kernel) rfl rfl ?_
            refine ex_iinc (i := 2) (n := 1) (x := (nI k)) (v := ((nI k) + 1)) (np := 49) (lv1 := [(2, .int ((nI k) + 1)), (1, .int (1 : Int32)), (0, .ref 0)]) C (by decide) (by decide +kernel) rfl (by rfl) rfl rfl ?_
            refine ex_goto (off := (-33)) (tgt := 16) C (by decide +kernel) (by decide) ?_
            refine ex_drop (lv1 := [(2, .int ((nI k) + 1)), (1, .int (1 : Int32)), (0, .ref 0)]) [0, 1, 2] rfl ?_
            rw [← nI_succ]
            try rw [ex_nk (k := k) (by omega)] at h3
            try rw [ex_nk (k := k) (by omega)] at h4
            exact ih (k + 1) _ (Or.inr rfl) (by omega) (hs.trans (B_nm_s.trans (congrArg (B_nm (σ.2.2.2 1) (σ.2.1 0) n (k + 1)) ((if_neg h3).trans ((if_neg h4).trans (rfl))))))
  refine ex_aload_n (q := 0) (x := 0) (np := 1) C (by decide +kernel) rfl rfl ?_
  refine ex_getf (q := 11) (v := .int (σ.1 5)) (np := 4) C hc_X11 hin_X11 (by decide) tg_1386 (by decide +kernel) (WB_0 _) rfl rfl ?_
  refine ex_iconst (n := 1) (v := 1) (np := 5) C (by decide +kernel) (by decide) rfl ?_
  refine ex_icmp_ne (off := 7) (tgt := 12) (np := 8) C (by decide +kernel) (by decide) rfl (fun h5 => ?_) (fun h5 => ?_)
  · skip
    refine ex_iconst (n := 0) (v := 0) (np := 13) C (by decide +kernel) (by decide) rfl ?_
    refine ex_istore_n (q := 1) (np := 14) (lv1 := [(1, .int (0 : Int32)), (0, .ref 0)]) C (by decide) (by decide +kernel) rfl rfl ?_
    refine ex_iconst (n := 0) (v := 0) (np := 15) C (by decide +kernel) (by decide) rfl ?_
    refine ex_istore_n (q := 2) (np := 16) (lv1 := [(2, .int (0 : Int32)), (1, .int (0 : Int32)), (0, .ref 0)]) C (by decide) (by decide +kernel) rfl rfl ?_
    refine ex_drop (lv1 := [(2, .int (0 : Int32)), (1, .int (0 : Int32)), (0, .ref 0)]) [0, 1, 2] rfl ?_
    exact loop 22 0 _ (Or.inl rfl) rfl (congrArg (B_nm (σ.2.2.2 1) (σ.2.1 0) 22 0) ((if_neg h5).trans (rfl)))
  · skip
    refine ex_iconst (n := 1) (v := 1) (np := 9) C (by decide +kernel) (by decide) rfl ?_
    refine ex_goto (off := 4) (tgt := 13) C (by decide +kernel) (by decide) ?_
    refine ex_istore_n (q := 1) (np := 14) (lv1 := [(1, .int (1 : Int32)), (0, .ref 0)]) C (by decide) (by decide +kernel) rfl rfl ?_
    refine ex_iconst (n := 0) (v := 0) (np := 15) C (by decide +kernel) (by decide) rfl ?_
    refine ex_istore_n (q := 2) (np := 16) (lv1 := [(2, .int (0 : Int32)), (1, .int (1 : Int32)), (0, .ref 0)]) C (by decide) (by decide +kernel) rfl rfl ?_
    refine ex_drop (lv1 := [(2, .int (0 : Int32)), (1, .int (1 : Int32)), (0, .ref 0)]) [0, 1, 2] rfl ?_
    exact loop 22 0 _ (Or.inr rfl) rfl (congrArg (B_nm (σ.2.2.2 1) (σ.2.1 0) 22 0) ((if_pos h5).trans (rfl)))
