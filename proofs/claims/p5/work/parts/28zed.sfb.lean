/-! The reader within a sentence: the reference. -/
set_option maxRecDepth 100000 in
set_option maxHeartbeats 4000000 in
theorem m_X11_taken_T {l : Launch} {X : ab_X} {D : va_G} {A : ex_A} (d : Nat) (hd : 1 ≤ d) (mo : Int32) (σ : ex_S) : ex_ctr l X D A d yX11_taken cX11_taken 2 none (WT σ) [.ref 0, .int mo] (fun _ w => w = WT (B_taken mo σ)) := by
  obtain ⟨d, rfl⟩ : ∃ d9, d = d9 + 1 := ⟨d - 1, by omega⟩
  refine ex_meth (own := RX11) rfl (by decide) (Nat.le_of_ble_eq_true rfl) (fun p e R s m below meth c C hr hlk hd1 hd2 => ?_)
  show ex_ok p l e R s m _ below meth c 0 0 _ 2 X D A (WT σ) 0 [(0, .ref 0), (1, .int mo)] []
  refine ex_aload_n (q := 0) (x := 0) (np := 1) C (by decide +kernel) rfl rfl ?_
  refine ex_aload_n (q := 0) (x := 0) (np := 2) C (by decide +kernel) rfl rfl ?_
  refine ex_getf (q := 2) (v := .int (σ.1 1)) (np := 5) C hc_X11 hin_X11 (by decide) tg_1377 (by decide +kernel) (WT_0 _) rfl rfl ?_
  refine ex_putf (q := 3) (w1 := (WT (sI 2 (σ.1 1) σ))) (np := 8) C hc_X11 hin_X11 (by decide) tyX11_ok nmX11 tg_1378 rfl (by decide +kernel) (WT_0 _) (Nat.le_of_ble_eq_true rfl) rfl rfl (WT_0_3 _ _) rfl ?_
  refine ex_aload_n (q := 0) (x := 0) (np := 9) C (by decide +kernel) rfl rfl ?_
  refine ex_iconst (n := 0) (v := 0) (np := 10) C (by decide +kernel) (by decide) rfl ?_
  refine ex_putf (q := 2) (w1 := (WT (sI 1 (0 : Int32) (sI 2 (σ.1 1) σ)))) (np := 13) C hc_X11 hin_X11 (by decide) tyX11_ok nmX11 tg_1377 rfl (by decide +kernel) (WT_0 _) (Nat.le_of_ble_eq_true rfl) rfl rfl (WT_0_2 _ _) rfl ?_
  refine ex_aload_n (q := 0) (x := 0) (np := 14) C (by decide +kernel) rfl rfl ?_
  refine ex_iconst (n := 0) (v := 0) (np := 15) C (by decide +kernel) (by decide) rfl ?_
  refine ex_putf (q := 4) (w1 := (WT (sI 3 (0 : Int32) (sI 1 (0 : Int32) (sI 2 (σ.1 1) σ))))) (np := 18) C hc_X11 hin_X11 (by decide) tyX11_ok nmX11 tg_1379 rfl (by decide +kernel) (WT_0 _) (Nat.le_of_ble_eq_true rfl) rfl rfl (WT_0_4 _ _) rfl ?_
  refine ex_aload_n (q := 0) (x := 0) (np := 19) C (by decide +kernel) rfl rfl ?_
  refine ex_iload_n (q := 1) (x := mo) (np := 20) C (by decide +kernel) rfl rfl ?_
  refine ex_putf (q := 5) (w1 := (WT (sI 4 mo (sI 3 (0 : Int32) (sI 1 (0 : Int32) (sI 2 (σ.1 1) σ)))))) (np := 23) C hc_X11 hin_X11 (by decide) tyX11_ok nmX11 tg_1380 rfl (by decide +kernel) (WT_0 _) (Nat.le_of_ble_eq_true rfl) rfl rfl (WT_0_5 _ _) rfl ?_
  refine ex_vret C hr hlk (by decide +kernel) (Nat.le_refl _) (Nat.le_refl _) ?_
  have E9 : B_taken mo σ = (sI 4 mo (sI 3 (0 : Int32) (sI 1 (0 : Int32) (sI 2 (σ.1 1) σ)))) := by unfold B_taken; exact rfl
  rw [E9]
set_option maxRecDepth 100000 in
set_option maxHeartbeats 4000000 in
theorem m_X11_peek_T {l : Launch} {X : ab_X} {D : va_G} {A : ex_A} (d : Nat) (hd : 1 ≤ d) (σ : ex_S) (hI : B_INV σ) : ex_ctr l X D A d yX11_peek cX11_peek 1 (some .int) (WT σ) [.ref 0] (fun r w => r = B_peek σ ∧ w = WT σ) := by
  obtain ⟨d, rfl⟩ : ∃ d9, d = d9 + 1 := ⟨d - 1, by omega⟩
  refine ex_meth (own := RX11) rfl (by decide) (Nat.le_of_ble_eq_true rfl) (fun p e R s m below meth c C hr hlk hd1 hd2 => ?_)
  show ex_ok p l e R s m _ below meth c 0 0 _ 1 X D A (WT σ) 0 [(0, .ref 0)] []
  refine ex_aload_n (q := 0) (x := 0) (np := 1) C (by decide +kernel) rfl rfl ?_
  refine ex_getf (q := 4) (v := .int (σ.1 3)) (np := 4) C hc_X11 hin_X11 (by decide) tg_1379 (by decide +kernel) (WT_0 _) rfl rfl ?_
  refine ex_aload_n (q := 0) (x := 0) (np := 5) C (by decide +kernel) rfl rfl ?_
  refine ex_getf (q := 3) (v := .int (σ.1 2)) (np := 8) C hc_X11 hin_X11 (by decide) tg_1378 (by decide +kernel) (WT_0 _) rfl rfl ?_
  refine ex_icmp_ge (off := 19) (tgt := 27) (np := 11) C (by decide +kernel) (by decide) rfl (fun h1 => ?_) (fun h1 => ?_)
  · skip
    refine ex_iconst (n := (-1)) (v := (-1)) (np := 28) C (by decide +kernel) (by decide) rfl ?_
    have E9 : B_peek σ = (-1 : Int32) := by unfold B_peek; exact (if_neg h1).trans (rfl)
    exact ex_iret C hr hlk (by decide +kernel) rfl (Nat.le_refl _) (Nat.le_refl _) ⟨E9.symm, rfl⟩
  · skip
    refine ex_aload_n (q := 0) (x := 0) (np := 12) C (by decide +kernel) rfl rfl ?_
    refine ex_getf (q := 1) (v := .ref 1) (np := 15) C hc_X11 hin_X11 (by decide) tg_1376 (by decide +kernel) (WT_0 _) rfl rfl ?_
    refine ex_aload_n (q := 0) (x := 0) (np := 16) C (by decide +kernel) rfl rfl ?_
    refine ex_getf (q := 4) (v := .int (σ.1 3)) (np := 19) C hc_X11 hin_X11 (by decide) tg_1379 (by decide +kernel) (WT_0 _) rfl rfl ?_
    refine ex_bald (f := (σ.2.2.1 0)) (kk := ((σ.1 3)).toNatClampNeg) (np := 20) C (by decide +kernel) (WT_1 _) (by have h9 := hI; unfold B_INV at h9; have h8 := h1; omega) rfl rfl ?_
    refine ex_sipush (n := 255) (v := 255) (np := 23) C (by decide +kernel) (by decide) rfl ?_
    refine ex_iand (v := (((σ.2.2.1 0) ((σ.1 3)).toNatClampNeg) &&& (255 : Int32))) (np := 24) C (by decide +kernel) rfl rfl ?_
    refine ex_goto (off := 4) (tgt := 28) C (by decide +kernel) (by decide) ?_
    have E9 : B_peek σ = (((σ.2.2.1 0) ((σ.1 3)).toNatClampNeg) &&& (255 : Int32)) := by unfold B_peek; exact (if_pos h1).trans (rfl)
    exact ex_iret C hr hlk (by decide +kernel) rfl (Nat.le_refl _) (Nat.le_refl _) ⟨E9.symm, rfl⟩
set_option maxRecDepth 100000 in
set_option maxHeartbeats 4000000 in
theorem m_X11_bad_T {l : Launch} {X : ab_X} {D : va_G} {A : ex_A} (d : Nat) (hd : 1 ≤ d) (why : Int32) (σ : ex_S) : ex_ctr l X D A d yX11_bad cX11_bad 2 (some .boolean) (WT σ) [.ref 0, .int why] (fun r w => r = (B_bad why σ).1 ∧ w = WT (B_bad why σ).2) := by
  obtain ⟨d, rfl⟩ : ∃ d9, d = d9 + 1 := ⟨d - 1, by omega⟩
  refine ex_meth (own := RX11) rfl (by decide) (Nat.le_of_ble_eq_true rfl) (fun p e R s m below meth c C hr hlk hd1 hd2 => ?_)
  show ex_ok p l e R s m _ below meth c 0 0 _ 2 X D A (WT σ) 0 [(0, .ref 0), (1, .int why)] []
  refine ex_aload_n (q := 0) (x := 0) (np := 1) C (by decide +kernel) rfl rfl ?_
  refine ex_iload_n (q := 1) (x := why) (np := 2) C (by decide +kernel) rfl rfl ?_
  refine ex_putf (q := 15) (w1 := (WT (sI 9 why σ))) (np := 5) C hc_X11 hin_X11 (by decide) tyX11_ok nmX11 tg_1390 rfl (by decide +kernel) (WT_0 _) (Nat.le_of_ble_eq_true rfl) rfl rfl (WT_0_15 _ _) rfl ?_
  refine ex_aload_n (q := 0) (x := 0) (np := 6) C (by decide +kernel) rfl rfl ?_
  refine ex_aload_n (q := 0) (x := 0) (np := 7) C (by decide +kernel) rfl rfl ?_
  refine ex_getf (q := 12) (v := .int (σ.1 6)) (np := 10) C hc_X11 hin_X11 (by decide) tg_1387 (by decide +kernel) (WT_0 _) rfl rfl ?_
  refine ex_putf (q := 16) (w1 := (WT (sI 10 (σ.1 6) (sI 9 why σ)))) (np := 13) C hc_X11 hin_X11 (by decide) tyX11_ok nmX11 tg_1391 rfl (by decide +kernel) (WT_0 _) (Nat.le_of_ble_eq_true rfl) rfl rfl (WT_0_16 _ _) rfl ?_
  refine ex_iconst (n := 0) (v := 0) (np := 14) C (by decide +kernel) (by decide) rfl ?_
  have E9 : B_bad why σ = ((0 : Int32), (sI 10 (σ.1 6) (sI 9 why σ))) := by unfold B_bad; exact rfl
  exact ex_iret C hr hlk (by decide +kernel) rfl (Nat.le_refl _) (Nat.le_refl _) (by rw [E9]; exact ⟨rfl, rfl⟩)
set_option maxRecDepth 100000 in
set_option maxHeartbeats 4000000 in
theorem m_X11_isWord_T {l : Launch} {X : ab_X} {D : va_G} {A : ex_A} (d : Nat) (hd : 1 ≤ d) (w8 : Int64) (σ : ex_S) : ex_ctr l X D A d yX11_isWord cX11_isWord 3 (some .boolean) (WT σ) [.ref 0, .long w8] (fun r w => r = B_isWord w8 σ ∧ w = WT σ) := by
  obtain ⟨d, rfl⟩ : ∃ d9, d = d9 + 1 := ⟨d - 1, by omega⟩
  refine ex_meth (own := RX11) rfl (by decide) (Nat.le_of_ble_eq_true rfl) (fun p e R s m below meth c C hr hlk hd1 hd2 => ?_)
  show ex_ok p l e R s m _ below meth c 0 0 _ 3 X D A (WT σ) 0 [(0, .ref 0), (1, .long w8)] []
  refine ex_aload_n (q := 0) (x := 0) (np := 1) C (by decide +kernel) rfl rfl ?_
  refine ex_getf (q := 11) (v := .int (σ.1 5)) (np := 4) C hc_X11 hin_X11 (by decide) tg_1386 (by decide +kernel) (WT_0 _) rfl rfl ?_
  refine ex_iconst (n := 1) (v := 1) (np := 5) C (by decide +kernel) (by decide) rfl ?_
  refine ex_icmp_ne (off := 16) (tgt := 21) (np := 8) C (by decide +kernel) (by decide) rfl (fun h1 => ?_) (fun h1 => ?_)
  · skip
    refine ex_iconst (n := 0) (v := 0) (np := 22) C (by decide +kernel) (by decide) rfl ?_
    have E9 : B_isWord w8 σ = (0 : Int32) := by unfold B_isWord; exact (if_neg h1).trans (rfl)
    exact ex_iret C hr hlk (by decide +kernel) rfl (Nat.le_refl _) (Nat.le_refl _) ⟨E9.symm, rfl⟩
  · skip
    refine ex_aload_n (q := 0) (x := 0) (np := 9) C (by decide +kernel) rfl rfl ?_
    refine ex_getf (q := 17) (v := .long (σ.2.1 0)) (np := 12) C hc_X11 hin_X11 (by decide) tg_1392 (by decide +kernel) (WT_0 _) rfl rfl ?_
    refine ex_lload_n (q := 1) (x := w8) (np := 13) C (by decide +kernel) rfl rfl ?_
    refine ex_lcmp (np := 14) C (by decide +kernel) rfl ?_
    refine ex_if_ne (off := 7) (tgt := 21) (np := 17) C (by decide +kernel) (by decide) rfl (fun h2 => ?_) (fun h2 => ?_)
    · skip
      refine ex_iconst (n := 0) (v := 0) (np := 22) C (by decide +kernel) (by decide) rfl ?_
      have E9 : B_isWord w8 σ = (0 : Int32) := by unfold B_isWord; exact (if_pos h1).trans ((if_neg h2).trans (rfl))
      exact ex_iret C hr hlk (by decide +kernel) rfl (Nat.le_refl _) (Nat.le_refl _) ⟨E9.symm, rfl⟩
    · skip
      refine ex_iconst (n := 1) (v := 1) (np := 18) C (by decide +kernel) (by decide) rfl ?_
      refine ex_goto (off := 4) (tgt := 22) C (by decide +kernel) (by decide) ?_
      have E9 : B_isWord w8 σ = (1 : Int32) := by unfold B_isWord; exact (if_pos h1).trans ((if_pos h2).trans (rfl))
      exact ex_iret C hr hlk (by decide +kernel) rfl (Nat.le_refl _) (Nat.le_refl _) ⟨E9.symm, rfl⟩
set_option maxRecDepth 100000 in
set_option maxHeartbeats 4000000 in
theorem m_X11_isSign_T {l : Launch} {X : ab_X} {D : va_G} {A : ex_A} (d : Nat) (hd : 1 ≤ d) (ch : Int32) (σ : ex_S) : ex_ctr l X D A d yX11_isSign cX11_isSign 2 (some .boolean) (WT σ) [.ref 0, .int ch] (fun r w => r = B_isSign ch σ ∧ w = WT σ) := by
  obtain ⟨d, rfl⟩ : ∃ d9, d = d9 + 1 := ⟨d - 1, by omega⟩
  refine ex_meth (own := RX11) rfl (by decide) (Nat.le_of_ble_eq_true rfl) (fun p e R s m below meth c C hr hlk hd1 hd2 => ?_)
  show ex_ok p l e R s m _ below meth c 0 0 _ 2 X D A (WT σ) 0 [(0, .ref 0), (1, .int ch)] []
  refine ex_aload_n (q := 0) (x := 0) (np := 1) C (by decide +kernel) rfl rfl ?_
  refine ex_getf (q := 11) (v := .int (σ.1 5)) (np := 4) C hc_X11 hin_X11 (by decide) tg_1386 (by decide +kernel) (WT_0 _) rfl rfl ?_
  refine ex_iconst (n := 3) (v := 3) (np := 5) C (by decide +kernel) (by decide) rfl ?_
  refine ex_icmp_ne (off := 15) (tgt := 20) (np := 8) C (by decide +kernel) (by decide) rfl (fun h1 => ?_) (fun h1 => ?_)
  · skip
    refine ex_iconst (n := 0) (v := 0) (np := 21) C (by decide +kernel) (by decide) rfl ?_
    have E9 : B_isSign ch σ = (0 : Int32) := by unfold B_isSign; exact (if_neg h1).trans (rfl)
    exact ex_iret C hr hlk (by decide +kernel) rfl (Nat.le_refl _) (Nat.le_refl _) ⟨E9.symm, rfl⟩
  · skip
    refine ex_aload_n (q := 0) (x := 0) (np := 9) C (by decide +kernel) rfl rfl ?_
    refine ex_getf (q := 14) (v := .int (σ.1 8)) (np := 12) C hc_X11 hin_X11 (by decide) tg_1389 (by decide +kernel) (WT_0 _) rfl rfl ?_
    refine ex_iload_n (q := 1) (x := ch) (np := 13) C (by decide +kernel) rfl rfl ?_
    refine ex_icmp_ne (off := 7) (tgt := 20) (np := 16) C (by decide +kernel) (by decide) rfl (fun h2 => ?_) (fun h2 => ?_)
    · skip
      refine ex_iconst (n := 0) (v := 0) (np := 21) C (by decide +kernel) (by decide) rfl ?_
      have E9 : B_isSign ch σ = (0 : Int32) := by unfold B_isSign; exact (if_pos h1).trans ((if_neg h2).trans (rfl))
      exact ex_iret C hr hlk (by decide +kernel) rfl (Nat.le_refl _) (Nat.le_refl _) ⟨E9.symm, rfl⟩
    · skip
      refine ex_iconst (n := 1) (v := 1) (np := 17) C (by decide +kernel) (by decide) rfl ?_
      refine ex_goto (off := 4) (tgt := 21) C (by decide +kernel) (by decide) ?_
      have E9 : B_isSign ch σ = (1 : Int32) := by unfold B_isSign; exact (if_pos h1).trans ((if_pos h2).trans (rfl))
      exact ex_iret C hr hlk (by decide +kernel) rfl (Nat.le_refl _) (Nat.le_refl _) ⟨E9.symm, rfl⟩
set_option maxRecDepth 100000 in
set_option maxHeartbeats 4000000 in
theorem m_X11_find_T {l : Launch} {X : ab_X} {D : va_G} {A : ex_A} (d : Nat) (hd : 1 ≤ d) (fr : Int32) (ma : Int32) (σ : ex_S) (hfm : (0 ≤ (fr).toInt ∧ 0 ≤ (ma).toInt) ∧ (fr).toInt + (ma).toInt ≤ 30) : ex_ctr l X D A d yX11_find cX11_find 4 (some .int) (WT σ) [.ref 0, .int fr, .int ma] (fun r w => r = B_find fr ma σ ∧ w = WT σ) := by
  obtain ⟨d, rfl⟩ : ∃ d9, d = d9 + 1 := ⟨d - 1, by omega⟩
  refine ex_meth (own := RX11) rfl (by decide) (Nat.le_of_ble_eq_true rfl) (fun p e R s m below meth c C hr hlk hd1 hd2 => ?_)
  show ex_ok p l e R s m _ below meth c 0 0 _ 4 X D A (WT σ) 0 [(0, .ref 0), (1, .int fr), (2, .int ma)] []
  refine ex_iconst (n := 0) (v := 0) (np := 1) C (by decide +kernel) (by decide) rfl ?_
  refine ex_istore_n (q := 3) (np := 2) (lv1 := [(3, .int (0 : Int32)), (0, .ref 0), (1, .int fr), (2, .int ma)]) C (by decide) (by decide +kernel) rfl rfl ?_
  have hN := ex_nat (x := ma) hfm.1.2
  have loop : ∀ (n k : Nat), k + n = ma.toInt.toNat → B_find fr ma σ = ex_find (fun k => σ.2.2.2 0 (fr + nI k).toNatClampNeg) (σ.2.1 0) n k → ex_okP p l e R s m below meth c 4 X D A [.ref 0, .int fr, .int ma] (fun r w => r = B_find fr ma σ ∧ w = WT σ) (some .int) (WT σ) 2 [(3, .int (nI k)), (0, .ref 0), (1, .int fr), (2, .int ma)] [] := by
    intro n
    induction n with
    | zero =>
      intro k hk hs
      have hki : (nI k).toInt = (k : Int) := nI_toInt (by omega)
      refine ex_iload_n (q := 3) (x := (nI k)) (np := 3) C (by decide +kernel) rfl rfl ?_
      refine ex_iload_n (q := 2) (x := ma) (np := 4) C (by decide +kernel) rfl rfl ?_
      refine ex_icmp_ge (off := 27) (tgt := 31) (np := 7) C (by decide +kernel) (by decide) rfl (fun h1 => ?_) (fun h1 => ?_)
      · skip
        refine ex_iconst (n := (-1)) (v := (-1)) (np := 32) C (by decide +kernel) (by decide) rfl ?_
        have E9 : B_find fr ma σ = (-1 : Int32) := hs
        exact ex_iret C hr hlk (by decide +kernel) rfl (Nat.le_refl _) (Nat.le_refl _) ⟨E9.symm, rfl⟩
      · skip
        exfalso; rw [hki] at h1; omega
    | succ n ih =>
      intro k hk hs
      have hki : (nI k).toInt = (k : Int) := nI_toInt (by omega)
      have hfk : (fr + nI k).toInt = fr.toInt + k := ex_add hfm.1.1 hki (by omega)
      refine ex_iload_n (q := 3) (x := (nI k)) (np := 3) C (by decide +kernel) rfl rfl ?_
      refine ex_iload_n (q := 2) (x := ma) (np := 4) C (by decide +kernel) rfl rfl ?_
      refine ex_icmp_ge (off := 27) (tgt := 31) (np := 7) C (by decide +kernel) (by decide) rfl (fun h2 => ?_) (fun h2 => ?_)
      · skip
        exfalso; rw [hki] at h2; omega
      · skip
        refine ex_aload_n (q := 0) (x := 0) (np := 8) C (by decide +kernel) rfl rfl ?_
        refine ex_getf (q := 9) (v := .ref 5) (np := 11) C hc_X11 hin_X11 (by decide) tg_1384 (by decide +kernel) (WT_0 _) rfl rfl ?_
        refine ex_iload_n (q := 1) (x := fr) (np := 12) C (by decide +kernel) rfl rfl ?_
        refine ex_iload_n (q := 3) (x := (nI k)) (np := 13) C (by decide +kernel) rfl rfl ?_
        refine ex_iadd (v := (fr + (nI k))) (np := 14) C (by decide +kernel) rfl rfl ?_
        refine ex_lald (f := (σ.2.2.2 0)) (kk := ((fr + (nI k))).toNatClampNeg) (np := 15) C (by decide +kernel) (WT_5 _) (by rw [hfk]; omega) rfl rfl ?_
        refine ex_aload_n (q := 0) (x := 0) (np := 16) C (by decide +kernel) rfl rfl ?_
        refine ex_getf (q := 17) (v := .long (σ.2.1 0)) (np := 19) C hc_X11 hin_X11 (by decide) tg_1392 (by decide +kernel) (WT_0 _) rfl rfl ?_
        refine ex_lcmp (np := 20) C (by decide +kernel) rfl ?_
        refine ex_if_ne (off := 5) (tgt := 25) (np := 23) C (by decide +kernel) (by decide) rfl (fun h3 => ?_) (fun h3 => ?_)
        · skip
          refine ex_iinc (i := 3) (n := 1) (x := (nI k)) (v := ((nI k) + 1)) (np := 28) (lv1 := [(3, .int ((nI k) + 1)), (0, .ref 0), (1, .int fr), (2, .int ma)]) C (by decide) (by decide +kernel) rfl (by rfl) rfl rfl ?_
          refine ex_goto (off := (-26)) (tgt := 2) C (by decide +kernel) (by decide) ?_
          rw [← nI_succ]
          exact ih (k + 1) (by omega) (hs.trans (ex_find_s.trans (if_neg h3)))
        · skip
          refine ex_iload_n (q := 3) (x := (nI k)) (np := 24) C (by decide +kernel) rfl rfl ?_
          have E9 : B_find fr ma σ = (nI k) := (hs.trans (ex_find_s.trans (if_pos h3)))
          exact ex_iret C hr hlk (by decide +kernel) rfl (Nat.le_refl _) (Nat.le_refl _) ⟨E9.symm, rfl⟩
  exact loop (ma.toInt.toNat) 0 (by omega) rfl
set_option maxRecDepth 100000 in
set_option maxHeartbeats 4000000 in
theorem m_X11_isName_T {l : Launch} {X : ab_X} {D : va_G} {A : ex_A} (d : Nat) (hd : 1 ≤ d) (σ : ex_S) : ex_ctr l X D A d yX11_isName cX11_isName 3 (some .boolean) (WT σ) [.ref 0] (fun r w => r = B_isName σ ∧ w = WT σ) := by
  obtain ⟨d, rfl⟩ : ∃ d9, d = d9 + 1 := ⟨d - 1, by omega⟩
  refine ex_meth (own := RX11) rfl (by decide) (Nat.le_of_ble_eq_true rfl) (fun p e R s m below meth c C hr hlk hd1 hd2 => ?_)
  show ex_ok p l e R s m _ below meth c 0 0 _ 3 X D A (WT σ) 0 [(0, .ref 0)] []
  have loop : ∀ (n k : Nat) (b : Int32), (b = 0 ∨ b = 1) → k + n = 22 → B_isName σ = B_nm (σ.2.2.2 1) (σ.2.1 0) n k b → ex_okP p l e R s m below meth c 3 X D A [.ref 0] (fun r w => r = B_isName σ ∧ w = WT σ) (some .boolean) (WT σ) 16 [(2, .int (nI k)), (1, .int b), (0, .ref 0)] [] := by
    intro n
    induction n with
    | zero =>
      intro k b hb hk hs
      have hki : (nI k).toInt = (k : Int) := nI_toInt (by omega)
      have h22 : (22 : Int32).toInt = 22 := by decide
      refine ex_iload_n (q := 2) (x := (nI k)) (np := 17) C (by decide +kernel) rfl rfl ?_
      refine ex_bipush (n := 22) (v := 22) (np := 19) C (by decide +kernel) (by decide) rfl ?_
      refine ex_icmp_ge (off := 33) (tgt := 52) (np := 22) C (by decide +kernel) (by decide) rfl (fun h1 => ?_) (fun h1 => ?_)
      · skip
        refine ex_iload_n (q := 1) (x := b) (np := 53) C (by decide +kernel) rfl rfl ?_
        have E9 : B_isName σ = b := hs
        exact ex_iret C hr hlk (by decide +kernel) (ex_nar hb) (Nat.le_refl _) (Nat.le_refl _) ⟨E9.symm, rfl⟩
      · skip
        exfalso; rw [hki, h22] at h1; omega
    | succ n ih =>
      intro k b hb hk hs
      have hki : (nI k).toInt = (k : Int) := nI_toInt (by omega)
      have h22 : (22 : Int32).toInt = 22 := by decide
      refine ex_iload_n (q := 2) (x := (nI k)) (np := 17) C (by decide +kernel) rfl rfl ?_
      refine ex_bipush (n := 22) (v := 22) (np := 19) C (by decide +kernel) (by decide) rfl ?_
      refine ex_icmp_ge (off := 33) (tgt := 52) (np := 22) C (by decide +kernel) (by decide) rfl (fun h2 => ?_) (fun h2 => ?_)
      · skip
        exfalso; rw [hki, h22] at h2; omega
      · skip
        refine ex_iload_n (q := 1) (x := b) (np := 23) C (by decide +kernel) rfl rfl ?_
        refine ex_if_eq (off := 21) (tgt := 44) (np := 26) C (by decide +kernel) (by decide) rfl (fun h3 => ?_) (fun h3 => ?_)
        · skip
          refine ex_iconst (n := 0) (v := 0) (np := 45) C (by decide +kernel) (by decide) rfl ?_
          refine ex_istore_n (q := 1) (np := 46) (lv1 := [(1, .int (0 : Int32)), (2, .int (nI k)), (0, .ref 0)]) C (by decide) (by decide +kernel) rfl rfl ?_
          refine ex_iinc (i := 2) (n := 1) (x := (nI k)) (v := ((nI k) + 1)) (np := 49) (lv1 := [(2, .int ((nI k) + 1)), (1, .int (0 : Int32)), (0, .ref 0)]) C (by decide) (by decide +kernel) rfl (by rfl) rfl rfl ?_
          refine ex_goto (off := (-33)) (tgt := 16) C (by decide +kernel) (by decide) ?_
          refine ex_drop (lv1 := [(2, .int ((nI k) + 1)), (1, .int (0 : Int32)), (0, .ref 0)]) [0, 1, 2] rfl ?_
          rw [← nI_succ]
          try rw [ex_nk (k := k) (by omega)] at h3
          exact ih (k + 1) _ (Or.inl rfl) (by omega) (hs.trans (B_nm_s.trans (congrArg (B_nm (σ.2.2.2 1) (σ.2.1 0) n (k + 1)) ((if_pos h3).trans (rfl)))))
        · skip
          refine ex_aload_n (q := 0) (x := 0) (np := 27) C (by decide +kernel) rfl rfl ?_
          refine ex_getf (q := 17) (v := .long (σ.2.1 0)) (np := 30) C hc_X11 hin_X11 (by decide) tg_1392 (by decide +kernel) (WT_0 _) rfl rfl ?_
          refine ex_aload_n (q := 0) (x := 0) (np := 31) C (by decide +kernel) rfl rfl ?_
          refine ex_getf (q := 10) (v := .ref 6) (np := 34) C hc_X11 hin_X11 (by decide) tg_1385 (by decide +kernel) (WT_0 _) rfl rfl ?_
          refine ex_iload_n (q := 2) (x := (nI k)) (np := 35) C (by decide +kernel) rfl rfl ?_
          refine ex_lald (f := (σ.2.2.2 1)) (kk := ((nI k)).toNatClampNeg) (np := 36) C (by decide +kernel) (WT_6 _) (by rw [hki]; omega) rfl rfl ?_
          refine ex_lcmp (np := 37) C (by decide +kernel) rfl ?_
          refine ex_if_eq (off := 7) (tgt := 44) (np := 40) C (by decide +kernel) (by decide) rfl (fun h4 => ?_) (fun h4 => ?_)
          · skip
            refine ex_iconst (n := 0) (v := 0) (np := 45) C (by decide +kernel) (by decide) rfl ?_
            refine ex_istore_n (q := 1) (np := 46) (lv1 := [(1, .int (0 : Int32)), (2, .int (nI k)), (0, .ref 0)]) C (by decide) (by decide +kernel) rfl rfl ?_
            refine ex_iinc (i := 2) (n := 1) (x := (nI k)) (v := ((nI k) + 1)) (np := 49) (lv1 := [(2, .int ((nI k) + 1)), (1, .int (0 : Int32)), (0, .ref 0)]) C (by decide) (by decide +kernel) rfl (by rfl) rfl rfl ?_
            refine ex_goto (off := (-33)) (tgt := 16) C (by decide +kernel) (by decide) ?_
            refine ex_drop (lv1 := [(2, .int ((nI k) + 1)), (1, .int (0 : Int32)), (0, .ref 0)]) [0, 1, 2] rfl ?_
            rw [← nI_succ]
            try rw [ex_nk (k := k) (by omega)] at h3
            try rw [ex_nk (k := k) (by omega)] at h4
            exact ih (k + 1) _ (Or.inl rfl) (by omega) (hs.trans (B_nm_s.trans (congrArg (B_nm (σ.2.2.2 1) (σ.2.1 0) n (k + 1)) ((if_neg h3).trans ((if_pos h4).trans (rfl))))))
          · skip
            refine ex_iconst (n := 1) (v := 1) (np := 41) C (by decide +kernel) (by decide) rfl ?_
            refine ex_goto (off := 4) (tgt := 45) C (by decide +kernel) (by decide) ?_
            refine ex_istore_n (q := 1) (np := 46) (lv1 := [(1, .int (1 : Int32)), (2, .int (nI k)), (0, .ref 0)]) C (by decide) (by decide +kernel) rfl rfl ?_
            refine ex_iinc (i := 2) (n := 1) (x := (nI k)) (v := ((nI k) + 1)) (np := 49) (lv1 := [(2, .int ((nI k) + 1)), (1, .int (1 : Int32)), (0, .ref 0)]) C (by decide) (by decide +kernel) rfl (by rfl) rfl rfl ?_
            refine ex_goto (off := (-33)) (tgt := 16) C (by decide +kernel) (by decide) ?_
            refine ex_drop (lv1 := [(2, .int ((nI k) + 1)), (1, .int (1 : Int32)), (0, .ref 0)]) [0, 1, 2] rfl ?_
            rw [← nI_succ]
            try rw [ex_nk (k := k) (by omega)] at h3
            try rw [ex_nk (k := k) (by omega)] at h4
            exact ih (k + 1) _ (Or.inr rfl) (by omega) (hs.trans (B_nm_s.trans (congrArg (B_nm (σ.2.2.2 1) (σ.2.1 0) n (k + 1)) ((if_neg h3).trans ((if_neg h4).trans (rfl))))))
  refine ex_aload_n (q := 0) (x := 0) (np := 1) C (by decide +kernel) rfl rfl ?_
  refine ex_getf (q := 11) (v := .int (σ.1 5)) (np := 4) C hc_X11 hin_X11 (by decide) tg_1386 (by decide +kernel) (WT_0 _) rfl rfl ?_
  refine ex_iconst (n := 1) (v := 1) (np := 5) C (by decide +kernel) (by decide) rfl ?_
  refine ex_icmp_ne (off := 7) (tgt := 12) (np := 8) C (by decide +kernel) (by decide) rfl (fun h5 => ?_) (fun h5 => ?_)
  · skip
    refine ex_iconst (n := 0) (v := 0) (np := 13) C (by decide +kernel) (by decide) rfl ?_
    refine ex_istore_n (q := 1) (np := 14) (lv1 := [(1, .int (0 : Int32)), (0, .ref 0)]) C (by decide) (by decide +kernel) rfl rfl ?_
    refine ex_iconst (n := 0) (v := 0) (np := 15) C (by decide +kernel) (by decide) rfl ?_
    refine ex_istore_n (q := 2) (np := 16) (lv1 := [(2, .int (0 : Int32)), (1, .int (0 : Int32)), (0, .ref 0)]) C (by decide) (by decide +kernel) rfl rfl ?_
    refine ex_drop (lv1 := [(2, .int (0 : Int32)), (1, .int (0 : Int32)), (0, .ref 0)]) [0, 1, 2] rfl ?_
    exact loop 22 0 _ (Or.inl rfl) rfl (congrArg (B_nm (σ.2.2.2 1) (σ.2.1 0) 22 0) ((if_neg h5).trans (rfl)))
  · skip
    refine ex_iconst (n := 1) (v := 1) (np := 9) C (by decide +kernel) (by decide) rfl ?_
    refine ex_goto (off := 4) (tgt := 13) C (by decide +kernel) (by decide) ?_
    refine ex_istore_n (q := 1) (np := 14) (lv1 := [(1, .int (1 : Int32)), (0, .ref 0)]) C (by decide) (by decide +kernel) rfl rfl ?_
    refine ex_iconst (n := 0) (v := 0) (np := 15) C (by decide +kernel) (by decide) rfl ?_
    refine ex_istore_n (q := 2) (np := 16) (lv1 := [(2, .int (0 : Int32)), (1, .int (1 : Int32)), (0, .ref 0)]) C (by decide) (by decide +kernel) rfl rfl ?_
    refine ex_drop (lv1 := [(2, .int (0 : Int32)), (1, .int (1 : Int32)), (0, .ref 0)]) [0, 1, 2] rfl ?_
    exact loop 22 0 _ (Or.inr rfl) rfl (congrArg (B_nm (σ.2.2.2 1) (σ.2.1 0) 22 0) ((if_pos h5).trans (rfl)))
set_option maxRecDepth 100000 in
set_option maxHeartbeats 4000000 in
theorem m_X11_next_T {l : Launch} {X : ab_X} {D : va_G} {A : ex_A} (d : Nat) (hd : 2 ≤ d) (σ : ex_S) (hI : B_INV σ) : ex_ctr l X D A d yX11_next cX11_next 4 none (WT σ) [.ref 0] (fun _ w => w = WT (B_next σ)) := by
  obtain ⟨d, rfl⟩ : ∃ d9, d = d9 + 1 := ⟨d - 1, by omega⟩
  refine ex_meth (own := RX11) rfl (by decide) (Nat.le_of_ble_eq_true rfl) (fun p e R s m below meth c C hr hlk hd1 hd2 => ?_)
  show ex_ok p l e R s m _ below meth c 0 0 _ 4 X D A (WT σ) 0 [(0, .ref 0)] []
  have rest : ∀ τ : ex_S, B_INV τ → B_next σ = B_nxt τ → ex_okP p l e R s m below meth c 4 X D A [.ref 0] (fun _ w => w = WT (B_next σ)) none (WT τ) 31 [(0, .ref 0)] [] := by
    intro τ hI h9
    have hI9 := hI; unfold B_INV at hI9
    have loop : ∀ (τ0 : ex_S), B_INV τ0 → ∀ (k : Nat) (sm q sp nu al : Int32) (wd : Int64), 0 ≤ q.toInt → q.toInt ≤ (τ0.1 2).toInt → (τ0.1 2).toInt - q.toInt < k → B_next σ = B_rr τ0 sm k q sp nu al wd → ex_okP p l e R s m below meth c 4 X D A [.ref 0] (fun _ w => w = WT (B_next σ)) none (WT (sI 3 q (sI 7 sp (sI 8 nu (sL 0 wd τ0))))) 181 [(3, .int al), (2, .int sm), (0, .ref 0)] [] := by
      intro τ0 hI0 k
      induction k with
      | zero => intro sm q sp nu al wd h0 h1 hk hs; exfalso; omega
      | succ k ih =>
        intro sm q sp nu al wd h0 h1 hk hs
        have hI : B_INV (sI 3 q (sI 7 sp (sI 8 nu (sL 0 wd τ0)))) := B_INV_pos hI0 h0 h1
        have body : B_next σ = B_rrC (B_rr τ0 sm k) τ0 sm q sp nu al wd → q.toInt < (τ0.1 2).toInt → ex_okP p l e R s m below meth c 4 X D A [.ref 0] (fun _ w => w = WT (B_next σ)) none (WT (sI 3 q (sI 7 sp (sI 8 nu (sL 0 wd τ0))))) 201 [(3, .int al), (2, .int sm), (0, .ref 0)] [] := by
          intro hb hlt
          have J3 : ∀ v1 : Int32, v1 = B_rr221 al sm (sI 3 q (sI 7 sp (sI 8 nu (sL 0 wd τ0)))) → ex_okP p l e R s m below meth c 4 X D A [.ref 0] (fun _ w => w = WT (B_next σ)) none (WT (sI 3 q (sI 7 sp (sI 8 nu (sL 0 wd τ0))))) 221 [(3, .int al), (2, .int sm), (0, .ref 0)] [.int v1] := by
            intro v1 hv2
            refine ex_istore_n (q := 3) (np := 222) (lv1 := [(3, .int v1), (2, .int sm), (0, .ref 0)]) C (by decide) (by decide +kernel) rfl rfl ?_
            refine ex_aload_n (q := 0) (x := 0) (np := 223) C (by decide +kernel) rfl rfl ?_
            refine ex_getf (q := 13) (v := .int sp) (np := 226) C hc_X11 hin_X11 (by decide) tg_1388 (by decide +kernel) (WT_0 _) rfl rfl ?_
            refine ex_bipush (n := 7) (v := 7) (np := 228) C (by decide +kernel) (by decide) rfl ?_
            refine ex_icmp_ge (off := 20) (tgt := 248) (np := 231) C (by decide +kernel) (by decide) rfl (fun h4 => ?_) (fun h4 => ?_)
            · skip
              refine ex_aload_n (q := 0) (x := 0) (np := 249) C (by decide +kernel) rfl rfl ?_
              refine ex_getf (q := 13) (v := .int sp) (np := 252) C hc_X11 hin_X11 (by decide) tg_1388 (by decide +kernel) (WT_0 _) rfl rfl ?_
              refine ex_iconst (n := 3) (v := 3) (np := 253) C (by decide +kernel) (by decide) rfl ?_
              refine ex_icmp_ge (off := 22) (tgt := 275) (np := 256) C (by decide +kernel) (by decide) rfl (fun h5 => ?_) (fun h5 => ?_)
              · skip
                refine ex_aload_n (q := 0) (x := 0) (np := 276) C (by decide +kernel) rfl rfl ?_
                refine ex_dup (np := 277) C rfl (by decide +kernel) rfl ?_
                refine ex_getf (q := 13) (v := .int sp) (np := 280) C hc_X11 hin_X11 (by decide) tg_1388 (by decide +kernel) (WT_0 _) rfl rfl ?_
                refine ex_iconst (n := 1) (v := 1) (np := 281) C (by decide +kernel) (by decide) rfl ?_
                refine ex_iadd (v := (sp + (1 : Int32))) (np := 282) C (by decide +kernel) rfl rfl ?_
                refine ex_putf (q := 13) (w1 := (WT (sI 7 (sp + (1 : Int32)) (sI 3 q (sI 7 sp (sI 8 nu (sL 0 wd τ0))))))) (np := 285) C hc_X11 hin_X11 (by decide) tyX11_ok nmX11 tg_1388 rfl (by decide +kernel) (WT_0 _) (Nat.le_of_ble_eq_true rfl) rfl rfl (WT_0_13 _ _) rfl ?_
                refine ex_aload_n (q := 0) (x := 0) (np := 286) C (by decide +kernel) rfl rfl ?_
                refine ex_dup (np := 287) C rfl (by decide +kernel) rfl ?_
                refine ex_getf (q := 4) (v := .int q) (np := 290) C hc_X11 hin_X11 (by decide) tg_1379 (by decide +kernel) (WT_0 _) rfl rfl ?_
                refine ex_iconst (n := 1) (v := 1) (np := 291) C (by decide +kernel) (by decide) rfl ?_
                refine ex_iadd (v := (q + (1 : Int32))) (np := 292) C (by decide +kernel) rfl rfl ?_
                refine ex_putf (q := 4) (w1 := (WT (sI 3 (q + (1 : Int32)) (sI 7 (sp + (1 : Int32)) (sI 3 q (sI 7 sp (sI 8 nu (sL 0 wd τ0)))))))) (np := 295) C hc_X11 hin_X11 (by decide) tyX11_ok nmX11 tg_1379 rfl (by decide +kernel) (WT_0 _) (Nat.le_of_ble_eq_true rfl) rfl rfl (WT_0_4 _ _) rfl ?_
                refine ex_goto (off := (-114)) (tgt := 181) C (by decide +kernel) (by decide) ?_
                refine ex_drop (lv1 := [(3, .int v1), (2, .int sm), (0, .ref 0)]) [0, 1, 2] rfl ?_
                rw [ex_c1]
                exact ih _ _ _ _ _ _ (by rw [ex_inc hlt]; omega) (by rw [ex_inc hlt]; omega) (by rw [ex_inc hlt]; omega) (hb.trans (by unfold B_rrC; exact (ex_lt_eq hv2).trans ((if_neg h4).trans ((if_neg h5).trans (rfl)))))
              · skip
                refine ex_aload_n (q := 0) (x := 0) (np := 257) C (by decide +kernel) rfl rfl ?_
                refine ex_bipush (n := 10) (v := 10) (np := 259) C (by decide +kernel) (by decide) rfl ?_
                refine ex_aload_n (q := 0) (x := 0) (np := 260) C (by decide +kernel) rfl rfl ?_
                refine ex_getf (q := 14) (v := .int nu) (np := 263) C hc_X11 hin_X11 (by decide) tg_1389 (by decide +kernel) (WT_0 _) rfl rfl ?_
                refine ex_imul (v := ((10 : Int32) * nu)) (np := 264) C (by decide +kernel) rfl rfl ?_
                refine ex_aload_n (q := 0) (x := 0) (np := 265) C (by decide +kernel) rfl rfl ?_
                refine ex_call_i (np := 268) (fun ws H locs ls hR hsz => ex_runV (C1 := "") C (m_X11_peek_T d (by omega) (sI 3 q (sI 7 sp (sI 8 nu (sL 0 wd τ0)))) hI) hd1 hd2 (by decide) hy_X11_peek tg_1544 hc_X11 rfl (WT_0 _) rfl rfl (Nat.le_of_ble_eq_true rfl) rfl tg_1541 tg_1543 tg_84 tg_158 (by decide +kernel) ws H locs ls hR hsz (Nat.zero_le _) (Nat.zero_le _)) rfl (fun r6 w1 hpo => ?_)
                obtain ⟨q7, rfl⟩ := hpo
                refine ex_iadd (v := (((10 : Int32) * nu) + r6)) (np := 269) C (by decide +kernel) rfl rfl ?_
                refine ex_bipush (n := 48) (v := 48) (np := 271) C (by decide +kernel) (by decide) rfl ?_
                refine ex_isub (v := ((((10 : Int32) * nu) + r6) - (48 : Int32))) (np := 272) C (by decide +kernel) rfl rfl ?_
                refine ex_putf (q := 14) (w1 := (WT (sI 8 ((((10 : Int32) * nu) + r6) - (48 : Int32)) (sI 3 q (sI 7 sp (sI 8 nu (sL 0 wd τ0))))))) (np := 275) C hc_X11 hin_X11 (by decide) tyX11_ok nmX11 tg_1389 rfl (by decide +kernel) (WT_0 _) (Nat.le_of_ble_eq_true rfl) rfl rfl (WT_0_14 _ _) rfl ?_
                refine ex_aload_n (q := 0) (x := 0) (np := 276) C (by decide +kernel) rfl rfl ?_
                refine ex_dup (np := 277) C rfl (by decide +kernel) rfl ?_
                refine ex_getf (q := 13) (v := .int sp) (np := 280) C hc_X11 hin_X11 (by decide) tg_1388 (by decide +kernel) (WT_0 _) rfl rfl ?_
                refine ex_iconst (n := 1) (v := 1) (np := 281) C (by decide +kernel) (by decide) rfl ?_
                refine ex_iadd (v := (sp + (1 : Int32))) (np := 282) C (by decide +kernel) rfl rfl ?_
                refine ex_putf (q := 13) (w1 := (WT (sI 7 (sp + (1 : Int32)) (sI 8 ((((10 : Int32) * nu) + r6) - (48 : Int32)) (sI 3 q (sI 7 sp (sI 8 nu (sL 0 wd τ0)))))))) (np := 285) C hc_X11 hin_X11 (by decide) tyX11_ok nmX11 tg_1388 rfl (by decide +kernel) (WT_0 _) (Nat.le_of_ble_eq_true rfl) rfl rfl (WT_0_13 _ _) rfl ?_
                refine ex_aload_n (q := 0) (x := 0) (np := 286) C (by decide +kernel) rfl rfl ?_
                refine ex_dup (np := 287) C rfl (by decide +kernel) rfl ?_
                refine ex_getf (q := 4) (v := .int q) (np := 290) C hc_X11 hin_X11 (by decide) tg_1379 (by decide +kernel) (WT_0 _) rfl rfl ?_
                refine ex_iconst (n := 1) (v := 1) (np := 291) C (by decide +kernel) (by decide) rfl ?_
                refine ex_iadd (v := (q + (1 : Int32))) (np := 292) C (by decide +kernel) rfl rfl ?_
                refine ex_putf (q := 4) (w1 := (WT (sI 3 (q + (1 : Int32)) (sI 7 (sp + (1 : Int32)) (sI 8 ((((10 : Int32) * nu) + r6) - (48 : Int32)) (sI 3 q (sI 7 sp (sI 8 nu (sL 0 wd τ0))))))))) (np := 295) C hc_X11 hin_X11 (by decide) tyX11_ok nmX11 tg_1379 rfl (by decide +kernel) (WT_0 _) (Nat.le_of_ble_eq_true rfl) rfl rfl (WT_0_4 _ _) rfl ?_
                refine ex_goto (off := (-114)) (tgt := 181) C (by decide +kernel) (by decide) ?_
                refine ex_drop (lv1 := [(3, .int v1), (2, .int sm), (0, .ref 0)]) [0, 1, 2] rfl ?_
                rw [ex_c3]
                exact ih _ _ _ _ _ _ (by rw [ex_inc hlt]; omega) (by rw [ex_inc hlt]; omega) (by rw [ex_inc hlt]; omega) (hb.trans (by unfold B_rrC; exact (ex_lt_eq hv2).trans ((if_neg h4).trans ((if_pos h5).trans ((ex_lt_eq q7).trans (rfl))))))
            · skip
              refine ex_aload_n (q := 0) (x := 0) (np := 232) C (by decide +kernel) rfl rfl ?_
              refine ex_aload_n (q := 0) (x := 0) (np := 233) C (by decide +kernel) rfl rfl ?_
              refine ex_getf (q := 17) (v := .long wd) (np := 236) C hc_X11 hin_X11 (by decide) tg_1392 (by decide +kernel) (WT_0 _) rfl rfl ?_
              refine ex_bipush (n := 8) (v := 8) (np := 238) C (by decide +kernel) (by decide) rfl ?_
              refine ex_lshl (np := 239) C (by decide +kernel) rfl ?_
              refine ex_aload_n (q := 0) (x := 0) (np := 240) C (by decide +kernel) rfl rfl ?_
              refine ex_call_i (np := 243) (fun ws H locs ls hR hsz => ex_runV (C1 := "") C (m_X11_peek_T d (by omega) (sI 3 q (sI 7 sp (sI 8 nu (sL 0 wd τ0)))) hI) hd1 hd2 (by decide) hy_X11_peek tg_1544 hc_X11 rfl (WT_0 _) rfl rfl (Nat.le_of_ble_eq_true rfl) rfl tg_1541 tg_1543 tg_84 tg_158 (by decide +kernel) ws H locs ls hR hsz (Nat.zero_le _) (Nat.zero_le _)) rfl (fun r8 w1 hpo => ?_)
              obtain ⟨q10, rfl⟩ := hpo
              refine ex_i2l (np := 244) C (by decide +kernel) rfl ?_
              refine ex_lor (np := 245) C (by decide +kernel) rfl ?_
              refine ex_putf (q := 17) (w1 := (WT (sL 0 ((wd <<< (((8 : Int32)).toInt64 &&& 63)) ||| r8.toInt64) (sI 3 q (sI 7 sp (sI 8 nu (sL 0 wd τ0))))))) (np := 248) C hc_X11 hin_X11 (by decide) tyX11_ok nmX11 tg_1392 rfl (by decide +kernel) (WT_0 _) (Nat.le_of_ble_eq_true rfl) rfl rfl (WT_0_17 _ _) rfl ?_
              refine ex_aload_n (q := 0) (x := 0) (np := 249) C (by decide +kernel) rfl rfl ?_
              refine ex_getf (q := 13) (v := .int sp) (np := 252) C hc_X11 hin_X11 (by decide) tg_1388 (by decide +kernel) (WT_0 _) rfl rfl ?_
              refine ex_iconst (n := 3) (v := 3) (np := 253) C (by decide +kernel) (by decide) rfl ?_
              refine ex_icmp_ge (off := 22) (tgt := 275) (np := 256) C (by decide +kernel) (by decide) rfl (fun h11 => ?_) (fun h11 => ?_)
              · skip
                refine ex_aload_n (q := 0) (x := 0) (np := 276) C (by decide +kernel) rfl rfl ?_
                refine ex_dup (np := 277) C rfl (by decide +kernel) rfl ?_
                refine ex_getf (q := 13) (v := .int sp) (np := 280) C hc_X11 hin_X11 (by decide) tg_1388 (by decide +kernel) (WT_0 _) rfl rfl ?_
                refine ex_iconst (n := 1) (v := 1) (np := 281) C (by decide +kernel) (by decide) rfl ?_
                refine ex_iadd (v := (sp + (1 : Int32))) (np := 282) C (by decide +kernel) rfl rfl ?_
                refine ex_putf (q := 13) (w1 := (WT (sI 7 (sp + (1 : Int32)) (sL 0 ((wd <<< (((8 : Int32)).toInt64 &&& 63)) ||| r8.toInt64) (sI 3 q (sI 7 sp (sI 8 nu (sL 0 wd τ0)))))))) (np := 285) C hc_X11 hin_X11 (by decide) tyX11_ok nmX11 tg_1388 rfl (by decide +kernel) (WT_0 _) (Nat.le_of_ble_eq_true rfl) rfl rfl (WT_0_13 _ _) rfl ?_
                refine ex_aload_n (q := 0) (x := 0) (np := 286) C (by decide +kernel) rfl rfl ?_
                refine ex_dup (np := 287) C rfl (by decide +kernel) rfl ?_
                refine ex_getf (q := 4) (v := .int q) (np := 290) C hc_X11 hin_X11 (by decide) tg_1379 (by decide +kernel) (WT_0 _) rfl rfl ?_
                refine ex_iconst (n := 1) (v := 1) (np := 291) C (by decide +kernel) (by decide) rfl ?_
                refine ex_iadd (v := (q + (1 : Int32))) (np := 292) C (by decide +kernel) rfl rfl ?_
                refine ex_putf (q := 4) (w1 := (WT (sI 3 (q + (1 : Int32)) (sI 7 (sp + (1 : Int32)) (sL 0 ((wd <<< (((8 : Int32)).toInt64 &&& 63)) ||| r8.toInt64) (sI 3 q (sI 7 sp (sI 8 nu (sL 0 wd τ0))))))))) (np := 295) C hc_X11 hin_X11 (by decide) tyX11_ok nmX11 tg_1379 rfl (by decide +kernel) (WT_0 _) (Nat.le_of_ble_eq_true rfl) rfl rfl (WT_0_4 _ _) rfl ?_
                refine ex_goto (off := (-114)) (tgt := 181) C (by decide +kernel) (by decide) ?_
                refine ex_drop (lv1 := [(3, .int v1), (2, .int sm), (0, .ref 0)]) [0, 1, 2] rfl ?_
                rw [ex_c2]
                exact ih _ _ _ _ _ _ (by rw [ex_inc hlt]; omega) (by rw [ex_inc hlt]; omega) (by rw [ex_inc hlt]; omega) (hb.trans (by unfold B_rrC; exact (ex_lt_eq hv2).trans ((if_pos h4).trans ((ex_lt_eq q10).trans ((if_neg h11).trans (rfl))))))
              · skip
                refine ex_aload_n (q := 0) (x := 0) (np := 257) C (by decide +kernel) rfl rfl ?_
                refine ex_bipush (n := 10) (v := 10) (np := 259) C (by decide +kernel) (by decide) rfl ?_
                refine ex_aload_n (q := 0) (x := 0) (np := 260) C (by decide +kernel) rfl rfl ?_
                refine ex_getf (q := 14) (v := .int nu) (np := 263) C hc_X11 hin_X11 (by decide) tg_1389 (by decide +kernel) (WT_0 _) rfl rfl ?_
                refine ex_imul (v := ((10 : Int32) * nu)) (np := 264) C (by decide +kernel) rfl rfl ?_
                refine ex_aload_n (q := 0) (x := 0) (np := 265) C (by decide +kernel) rfl rfl ?_
                refine ex_call_i (np := 268) (fun ws H locs ls hR hsz => ex_runV (C1 := "") C (m_X11_peek_T d (by omega) (sL 0 ((wd <<< (((8 : Int32)).toInt64 &&& 63)) ||| r8.toInt64) (sI 3 q (sI 7 sp (sI 8 nu (sL 0 wd τ0))))) hI) hd1 hd2 (by decide) hy_X11_peek tg_1544 hc_X11 rfl (WT_0 _) rfl rfl (Nat.le_of_ble_eq_true rfl) rfl tg_1541 tg_1543 tg_84 tg_158 (by decide +kernel) ws H locs ls hR hsz (Nat.zero_le _) (Nat.zero_le _)) rfl (fun r12 w1 hpo => ?_)
                obtain ⟨q13, rfl⟩ := hpo
                refine ex_iadd (v := (((10 : Int32) * nu) + r12)) (np := 269) C (by decide +kernel) rfl rfl ?_
                refine ex_bipush (n := 48) (v := 48) (np := 271) C (by decide +kernel) (by decide) rfl ?_
                refine ex_isub (v := ((((10 : Int32) * nu) + r12) - (48 : Int32))) (np := 272) C (by decide +kernel) rfl rfl ?_
                refine ex_putf (q := 14) (w1 := (WT (sI 8 ((((10 : Int32) * nu) + r12) - (48 : Int32)) (sL 0 ((wd <<< (((8 : Int32)).toInt64 &&& 63)) ||| r8.toInt64) (sI 3 q (sI 7 sp (sI 8 nu (sL 0 wd τ0)))))))) (np := 275) C hc_X11 hin_X11 (by decide) tyX11_ok nmX11 tg_1389 rfl (by decide +kernel) (WT_0 _) (Nat.le_of_ble_eq_true rfl) rfl rfl (WT_0_14 _ _) rfl ?_
                refine ex_aload_n (q := 0) (x := 0) (np := 276) C (by decide +kernel) rfl rfl ?_
                refine ex_dup (np := 277) C rfl (by decide +kernel) rfl ?_
                refine ex_getf (q := 13) (v := .int sp) (np := 280) C hc_X11 hin_X11 (by decide) tg_1388 (by decide +kernel) (WT_0 _) rfl rfl ?_
                refine ex_iconst (n := 1) (v := 1) (np := 281) C (by decide +kernel) (by decide) rfl ?_
                refine ex_iadd (v := (sp + (1 : Int32))) (np := 282) C (by decide +kernel) rfl rfl ?_
                refine ex_putf (q := 13) (w1 := (WT (sI 7 (sp + (1 : Int32)) (sI 8 ((((10 : Int32) * nu) + r12) - (48 : Int32)) (sL 0 ((wd <<< (((8 : Int32)).toInt64 &&& 63)) ||| r8.toInt64) (sI 3 q (sI 7 sp (sI 8 nu (sL 0 wd τ0))))))))) (np := 285) C hc_X11 hin_X11 (by decide) tyX11_ok nmX11 tg_1388 rfl (by decide +kernel) (WT_0 _) (Nat.le_of_ble_eq_true rfl) rfl rfl (WT_0_13 _ _) rfl ?_
                refine ex_aload_n (q := 0) (x := 0) (np := 286) C (by decide +kernel) rfl rfl ?_
                refine ex_dup (np := 287) C rfl (by decide +kernel) rfl ?_
                refine ex_getf (q := 4) (v := .int q) (np := 290) C hc_X11 hin_X11 (by decide) tg_1379 (by decide +kernel) (WT_0 _) rfl rfl ?_
                refine ex_iconst (n := 1) (v := 1) (np := 291) C (by decide +kernel) (by decide) rfl ?_
                refine ex_iadd (v := (q + (1 : Int32))) (np := 292) C (by decide +kernel) rfl rfl ?_
                refine ex_putf (q := 4) (w1 := (WT (sI 3 (q + (1 : Int32)) (sI 7 (sp + (1 : Int32)) (sI 8 ((((10 : Int32) * nu) + r12) - (48 : Int32)) (sL 0 ((wd <<< (((8 : Int32)).toInt64 &&& 63)) ||| r8.toInt64) (sI 3 q (sI 7 sp (sI 8 nu (sL 0 wd τ0)))))))))) (np := 295) C hc_X11 hin_X11 (by decide) tyX11_ok nmX11 tg_1379 rfl (by decide +kernel) (WT_0 _) (Nat.le_of_ble_eq_true rfl) rfl rfl (WT_0_4 _ _) rfl ?_
                refine ex_goto (off := (-114)) (tgt := 181) C (by decide +kernel) (by decide) ?_
                refine ex_drop (lv1 := [(3, .int v1), (2, .int sm), (0, .ref 0)]) [0, 1, 2] rfl ?_
                rw [ex_c4]
                exact ih _ _ _ _ _ _ (by rw [ex_inc hlt]; omega) (by rw [ex_inc hlt]; omega) (by rw [ex_inc hlt]; omega) (hb.trans (by unfold B_rrC; exact (ex_lt_eq hv2).trans ((if_pos h4).trans ((ex_lt_eq q10).trans ((if_pos h11).trans ((ex_lt_eq q13).trans (rfl)))))))
          refine ex_iload_n (q := 3) (x := al) (np := 202) C (by decide +kernel) rfl rfl ?_
          refine ex_if_eq (off := 18) (tgt := 220) (np := 205) C (by decide +kernel) (by decide) rfl (fun h14 => ?_) (fun h14 => ?_)
          · skip
            refine ex_iconst (n := 0) (v := 0) (np := 221) C (by decide +kernel) (by decide) rfl ?_
            exact J3 _ (show B_rr221 al sm (sI 3 q (sI 7 sp (sI 8 nu (sL 0 wd τ0)))) = (0 : Int32) from by unfold B_rr221; exact (if_pos h14).trans (rfl)).symm
          · skip
            refine ex_aload_n (q := 0) (x := 0) (np := 206) C (by decide +kernel) rfl rfl ?_
            refine ex_call_i (np := 209) (fun ws H locs ls hR hsz => ex_runV (C1 := "") C (m_X11_peek_T d (by omega) (sI 3 q (sI 7 sp (sI 8 nu (sL 0 wd τ0)))) hI) hd1 hd2 (by decide) hy_X11_peek tg_1544 hc_X11 rfl (WT_0 _) rfl rfl (Nat.le_of_ble_eq_true rfl) rfl tg_1541 tg_1543 tg_84 tg_158 (by decide +kernel) ws H locs ls hR hsz (Nat.zero_le _) (Nat.zero_le _)) rfl (fun r15 w1 hpo => ?_)
            obtain ⟨q16, rfl⟩ := hpo
            refine ex_call_i (np := 212) (fun ws H locs ls hR hsz => ex_runS C (m_X11_isSmall d (by omega) (WT (sI 3 q (sI 7 sp (sI 8 nu (sL 0 wd τ0))))) r15) hd1 hd2 (by decide) hy_X11_isSmall tg_1547 rfl rfl (Nat.le_of_ble_eq_true rfl) tg_1545 tg_1546 tg_158 (by decide +kernel) ws H locs ls hR hsz (Nat.zero_le _) (Nat.zero_le _)) rfl (fun r17 w1 hpo => ?_)
            obtain ⟨q18, rfl⟩ := hpo
            refine ex_iload_n (q := 2) (x := sm) (np := 213) C (by decide +kernel) rfl rfl ?_
            refine ex_icmp_ne (off := 7) (tgt := 220) (np := 216) C (by decide +kernel) (by decide) rfl (fun h19 => ?_) (fun h19 => ?_)
            · skip
              refine ex_iconst (n := 0) (v := 0) (np := 221) C (by decide +kernel) (by decide) rfl ?_
              exact J3 _ (show B_rr221 al sm (sI 3 q (sI 7 sp (sI 8 nu (sL 0 wd τ0)))) = (0 : Int32) from by unfold B_rr221; exact (if_neg h14).trans ((ex_lt_eq q16).trans ((ex_lt_eq q18).trans ((if_neg h19).trans (rfl))))).symm
            · skip
              refine ex_iconst (n := 1) (v := 1) (np := 217) C (by decide +kernel) (by decide) rfl ?_
              refine ex_goto (off := 4) (tgt := 221) C (by decide +kernel) (by decide) ?_
              exact J3 _ (show B_rr221 al sm (sI 3 q (sI 7 sp (sI 8 nu (sL 0 wd τ0)))) = (1 : Int32) from by unfold B_rr221; exact (if_neg h14).trans ((ex_lt_eq q16).trans ((ex_lt_eq q18).trans ((if_pos h19).trans (rfl))))).symm
        refine ex_aload_n (q := 0) (x := 0) (np := 182) C (by decide +kernel) rfl rfl ?_
        refine ex_call_i (np := 185) (fun ws H locs ls hR hsz => ex_runV (C1 := "") C (m_X11_peek_T d (by omega) (sI 3 q (sI 7 sp (sI 8 nu (sL 0 wd τ0)))) hI) hd1 hd2 (by decide) hy_X11_peek tg_1544 hc_X11 rfl (WT_0 _) rfl rfl (Nat.le_of_ble_eq_true rfl) rfl tg_1541 tg_1543 tg_84 tg_158 (by decide +kernel) ws H locs ls hR hsz (Nat.zero_le _) (Nat.zero_le _)) rfl (fun r20 w1 hpo => ?_)
        obtain ⟨q21, rfl⟩ := hpo
        refine ex_call_i (np := 188) (fun ws H locs ls hR hsz => ex_runS C (m_X11_isSmall d (by omega) (WT (sI 3 q (sI 7 sp (sI 8 nu (sL 0 wd τ0))))) r20) hd1 hd2 (by decide) hy_X11_isSmall tg_1547 rfl rfl (Nat.le_of_ble_eq_true rfl) tg_1545 tg_1546 tg_158 (by decide +kernel) ws H locs ls hR hsz (Nat.zero_le _) (Nat.zero_le _)) rfl (fun r22 w1 hpo => ?_)
        obtain ⟨q23, rfl⟩ := hpo
        refine ex_if_ne (off := 13) (tgt := 201) (np := 191) C (by decide +kernel) (by decide) rfl (fun h24 => ?_) (fun h24 => ?_)
        · skip
          exact body (hs.trans (B_rr_s.trans ((ex_lt_eq q21).trans ((ex_lt_eq q23).trans ((if_neg h24).trans (rfl)))))) (B_lt hI q21 (Or.inl q23) h24)
        · skip
          refine ex_aload_n (q := 0) (x := 0) (np := 192) C (by decide +kernel) rfl rfl ?_
          refine ex_call_i (np := 195) (fun ws H locs ls hR hsz => ex_runV (C1 := "") C (m_X11_peek_T d (by omega) (sI 3 q (sI 7 sp (sI 8 nu (sL 0 wd τ0)))) hI) hd1 hd2 (by decide) hy_X11_peek tg_1544 hc_X11 rfl (WT_0 _) rfl rfl (Nat.le_of_ble_eq_true rfl) rfl tg_1541 tg_1543 tg_84 tg_158 (by decide +kernel) ws H locs ls hR hsz (Nat.zero_le _) (Nat.zero_le _)) rfl (fun r25 w1 hpo => ?_)
          obtain ⟨q26, rfl⟩ := hpo
          refine ex_call_i (np := 198) (fun ws H locs ls hR hsz => ex_runS C (m_X11_isDigit d (by omega) (WT (sI 3 q (sI 7 sp (sI 8 nu (sL 0 wd τ0))))) r25) hd1 hd2 (by decide) hy_X11_isDigit tg_1550 rfl rfl (Nat.le_of_ble_eq_true rfl) tg_1548 tg_1549 tg_158 (by decide +kernel) ws H locs ls hR hsz (Nat.zero_le _) (Nat.zero_le _)) rfl (fun r27 w1 hpo => ?_)
          obtain ⟨q28, rfl⟩ := hpo
          refine ex_if_eq (off := 100) (tgt := 298) (np := 201) C (by decide +kernel) (by decide) rfl (fun h29 => ?_) (fun h29 => ?_)
          · skip
            refine ex_aload_n (q := 0) (x := 0) (np := 299) C (by decide +kernel) rfl rfl ?_
            refine ex_iload_n (q := 3) (x := al) (np := 300) C (by decide +kernel) rfl rfl ?_
            refine ex_if_eq (off := 20) (tgt := 320) (np := 303) C (by decide +kernel) (by decide) rfl (fun h30 => ?_) (fun h30 => ?_)
            · skip
              refine ex_iconst (n := 4) (v := 4) (np := 321) C (by decide +kernel) (by decide) rfl ?_
              refine ex_goto (off := 12) (tgt := 333) C (by decide +kernel) (by decide) ?_
              refine ex_putf (q := 11) (w1 := (WT (sI 5 (4 : Int32) (sI 3 q (sI 7 sp (sI 8 nu (sL 0 wd τ0))))))) (np := 336) C hc_X11 hin_X11 (by decide) tyX11_ok nmX11 tg_1386 rfl (by decide +kernel) (WT_0 _) (Nat.le_of_ble_eq_true rfl) rfl rfl (WT_0_11 _ _) rfl ?_
              refine ex_vret C hr hlk (by decide +kernel) (Nat.le_refl _) (Nat.le_refl _) ?_
              have E9 : B_next σ = (sI 5 (4 : Int32) (sI 3 q (sI 7 sp (sI 8 nu (sL 0 wd τ0))))) := (hs.trans (B_rr_s.trans ((ex_lt_eq q21).trans ((ex_lt_eq q23).trans ((if_pos h24).trans ((ex_lt_eq q26).trans ((ex_lt_eq q28).trans ((if_pos h29).trans ((if_pos h30).trans (rfl))))))))))
              rw [E9]
            · skip
              refine ex_aload_n (q := 0) (x := 0) (np := 304) C (by decide +kernel) rfl rfl ?_
              refine ex_getf (q := 13) (v := .int sp) (np := 307) C hc_X11 hin_X11 (by decide) tg_1388 (by decide +kernel) (WT_0 _) rfl rfl ?_
              refine ex_iload_n (q := 2) (x := sm) (np := 308) C (by decide +kernel) rfl rfl ?_
              refine ex_if_eq (off := 8) (tgt := 316) (np := 311) C (by decide +kernel) (by decide) rfl (fun h31 => ?_) (fun h31 => ?_)
              · skip
                refine ex_iconst (n := 3) (v := 3) (np := 317) C (by decide +kernel) (by decide) rfl ?_
                refine ex_icmp_le (off := 7) (tgt := 324) (np := 320) C (by decide +kernel) (by decide) rfl (fun h32 => ?_) (fun h32 => ?_)
                · skip
                  refine ex_iload_n (q := 2) (x := sm) (np := 325) C (by decide +kernel) rfl rfl ?_
                  refine ex_if_eq (off := 7) (tgt := 332) (np := 328) C (by decide +kernel) (by decide) rfl (fun h33 => ?_) (fun h33 => ?_)
                  · skip
                    refine ex_iconst (n := 2) (v := 2) (np := 333) C (by decide +kernel) (by decide) rfl ?_
                    refine ex_putf (q := 11) (w1 := (WT (sI 5 (2 : Int32) (sI 3 q (sI 7 sp (sI 8 nu (sL 0 wd τ0))))))) (np := 336) C hc_X11 hin_X11 (by decide) tyX11_ok nmX11 tg_1386 rfl (by decide +kernel) (WT_0 _) (Nat.le_of_ble_eq_true rfl) rfl rfl (WT_0_11 _ _) rfl ?_
                    refine ex_vret C hr hlk (by decide +kernel) (Nat.le_refl _) (Nat.le_refl _) ?_
                    have E9 : B_next σ = (sI 5 (2 : Int32) (sI 3 q (sI 7 sp (sI 8 nu (sL 0 wd τ0))))) := (hs.trans (B_rr_s.trans ((ex_lt_eq q21).trans ((ex_lt_eq q23).trans ((if_pos h24).trans ((ex_lt_eq q26).trans ((ex_lt_eq q28).trans ((if_pos h29).trans ((if_neg h30).trans ((if_pos h31).trans ((if_neg h32).trans ((if_pos h33).trans (rfl)))))))))))))
                    rw [E9]
                  · skip
                    refine ex_iconst (n := 1) (v := 1) (np := 329) C (by decide +kernel) (by decide) rfl ?_
                    refine ex_goto (off := 4) (tgt := 333) C (by decide +kernel) (by decide) ?_
                    refine ex_putf (q := 11) (w1 := (WT (sI 5 (1 : Int32) (sI 3 q (sI 7 sp (sI 8 nu (sL 0 wd τ0))))))) (np := 336) C hc_X11 hin_X11 (by decide) tyX11_ok nmX11 tg_1386 rfl (by decide +kernel) (WT_0 _) (Nat.le_of_ble_eq_true rfl) rfl rfl (WT_0_11 _ _) rfl ?_
                    refine ex_vret C hr hlk (by decide +kernel) (Nat.le_refl _) (Nat.le_refl _) ?_
                    have E9 : B_next σ = (sI 5 (1 : Int32) (sI 3 q (sI 7 sp (sI 8 nu (sL 0 wd τ0))))) := (hs.trans (B_rr_s.trans ((ex_lt_eq q21).trans ((ex_lt_eq q23).trans ((if_pos h24).trans ((ex_lt_eq q26).trans ((ex_lt_eq q28).trans ((if_pos h29).trans ((if_neg h30).trans ((if_pos h31).trans ((if_neg h32).trans ((if_neg h33).trans (rfl)))))))))))))
                    rw [E9]
                · skip
                  refine ex_iconst (n := 4) (v := 4) (np := 321) C (by decide +kernel) (by decide) rfl ?_
                  refine ex_goto (off := 12) (tgt := 333) C (by decide +kernel) (by decide) ?_
                  refine ex_putf (q := 11) (w1 := (WT (sI 5 (4 : Int32) (sI 3 q (sI 7 sp (sI 8 nu (sL 0 wd τ0))))))) (np := 336) C hc_X11 hin_X11 (by decide) tyX11_ok nmX11 tg_1386 rfl (by decide +kernel) (WT_0 _) (Nat.le_of_ble_eq_true rfl) rfl rfl (WT_0_11 _ _) rfl ?_
                  refine ex_vret C hr hlk (by decide +kernel) (Nat.le_refl _) (Nat.le_refl _) ?_
                  have E9 : B_next σ = (sI 5 (4 : Int32) (sI 3 q (sI 7 sp (sI 8 nu (sL 0 wd τ0))))) := (hs.trans (B_rr_s.trans ((ex_lt_eq q21).trans ((ex_lt_eq q23).trans ((if_pos h24).trans ((ex_lt_eq q26).trans ((ex_lt_eq q28).trans ((if_pos h29).trans ((if_neg h30).trans ((if_pos h31).trans ((if_pos h32).trans (rfl))))))))))))
                  rw [E9]
              · skip
                refine ex_bipush (n := 7) (v := 7) (np := 313) C (by decide +kernel) (by decide) rfl ?_
                refine ex_goto (off := 4) (tgt := 317) C (by decide +kernel) (by decide) ?_
                refine ex_icmp_le (off := 7) (tgt := 324) (np := 320) C (by decide +kernel) (by decide) rfl (fun h34 => ?_) (fun h34 => ?_)
                · skip
                  refine ex_iload_n (q := 2) (x := sm) (np := 325) C (by decide +kernel) rfl rfl ?_
                  refine ex_if_eq (off := 7) (tgt := 332) (np := 328) C (by decide +kernel) (by decide) rfl (fun h35 => ?_) (fun h35 => ?_)
                  · skip
                    refine ex_iconst (n := 2) (v := 2) (np := 333) C (by decide +kernel) (by decide) rfl ?_
                    refine ex_putf (q := 11) (w1 := (WT (sI 5 (2 : Int32) (sI 3 q (sI 7 sp (sI 8 nu (sL 0 wd τ0))))))) (np := 336) C hc_X11 hin_X11 (by decide) tyX11_ok nmX11 tg_1386 rfl (by decide +kernel) (WT_0 _) (Nat.le_of_ble_eq_true rfl) rfl rfl (WT_0_11 _ _) rfl ?_
                    refine ex_vret C hr hlk (by decide +kernel) (Nat.le_refl _) (Nat.le_refl _) ?_
                    have E9 : B_next σ = (sI 5 (2 : Int32) (sI 3 q (sI 7 sp (sI 8 nu (sL 0 wd τ0))))) := (hs.trans (B_rr_s.trans ((ex_lt_eq q21).trans ((ex_lt_eq q23).trans ((if_pos h24).trans ((ex_lt_eq q26).trans ((ex_lt_eq q28).trans ((if_pos h29).trans ((if_neg h30).trans ((if_neg h31).trans ((if_neg h34).trans ((if_pos h35).trans (rfl)))))))))))))
                    rw [E9]
                  · skip
                    refine ex_iconst (n := 1) (v := 1) (np := 329) C (by decide +kernel) (by decide) rfl ?_
                    refine ex_goto (off := 4) (tgt := 333) C (by decide +kernel) (by decide) ?_
                    refine ex_putf (q := 11) (w1 := (WT (sI 5 (1 : Int32) (sI 3 q (sI 7 sp (sI 8 nu (sL 0 wd τ0))))))) (np := 336) C hc_X11 hin_X11 (by decide) tyX11_ok nmX11 tg_1386 rfl (by decide +kernel) (WT_0 _) (Nat.le_of_ble_eq_true rfl) rfl rfl (WT_0_11 _ _) rfl ?_
                    refine ex_vret C hr hlk (by decide +kernel) (Nat.le_refl _) (Nat.le_refl _) ?_
                    have E9 : B_next σ = (sI 5 (1 : Int32) (sI 3 q (sI 7 sp (sI 8 nu (sL 0 wd τ0))))) := (hs.trans (B_rr_s.trans ((ex_lt_eq q21).trans ((ex_lt_eq q23).trans ((if_pos h24).trans ((ex_lt_eq q26).trans ((ex_lt_eq q28).trans ((if_pos h29).trans ((if_neg h30).trans ((if_neg h31).trans ((if_neg h34).trans ((if_neg h35).trans (rfl)))))))))))))
                    rw [E9]
                · skip
                  refine ex_iconst (n := 4) (v := 4) (np := 321) C (by decide +kernel) (by decide) rfl ?_
                  refine ex_goto (off := 12) (tgt := 333) C (by decide +kernel) (by decide) ?_
                  refine ex_putf (q := 11) (w1 := (WT (sI 5 (4 : Int32) (sI 3 q (sI 7 sp (sI 8 nu (sL 0 wd τ0))))))) (np := 336) C hc_X11 hin_X11 (by decide) tyX11_ok nmX11 tg_1386 rfl (by decide +kernel) (WT_0 _) (Nat.le_of_ble_eq_true rfl) rfl rfl (WT_0_11 _ _) rfl ?_
                  refine ex_vret C hr hlk (by decide +kernel) (Nat.le_refl _) (Nat.le_refl _) ?_
                  have E9 : B_next σ = (sI 5 (4 : Int32) (sI 3 q (sI 7 sp (sI 8 nu (sL 0 wd τ0))))) := (hs.trans (B_rr_s.trans ((ex_lt_eq q21).trans ((ex_lt_eq q23).trans ((if_pos h24).trans ((ex_lt_eq q26).trans ((ex_lt_eq q28).trans ((if_pos h29).trans ((if_neg h30).trans ((if_neg h31).trans ((if_pos h34).trans (rfl))))))))))))
                  rw [E9]
          · skip
            exact body (hs.trans (B_rr_s.trans ((ex_lt_eq q21).trans ((ex_lt_eq q23).trans ((if_pos h24).trans ((ex_lt_eq q26).trans ((ex_lt_eq q28).trans ((if_neg h29).trans (rfl))))))))) (B_lt hI q26 (Or.inr q28) h29)
    refine ex_aload_n (q := 0) (x := 0) (np := 32) C (by decide +kernel) rfl rfl ?_
    refine ex_aload_n (q := 0) (x := 0) (np := 33) C (by decide +kernel) rfl rfl ?_
    refine ex_getf (q := 4) (v := .int (τ.1 3)) (np := 36) C hc_X11 hin_X11 (by decide) tg_1379 (by decide +kernel) (WT_0 _) rfl rfl ?_
    refine ex_putf (q := 12) (w1 := (WT (sI 6 (τ.1 3) τ))) (np := 39) C hc_X11 hin_X11 (by decide) tyX11_ok nmX11 tg_1387 rfl (by decide +kernel) (WT_0 _) (Nat.le_of_ble_eq_true rfl) rfl rfl (WT_0_12 _ _) rfl ?_
    refine ex_aload_n (q := 0) (x := 0) (np := 40) C (by decide +kernel) rfl rfl ?_
    refine ex_iconst (n := 0) (v := 0) (np := 41) C (by decide +kernel) (by decide) rfl ?_
    refine ex_putf (q := 13) (w1 := (WT (sI 7 (0 : Int32) (sI 6 (τ.1 3) τ)))) (np := 44) C hc_X11 hin_X11 (by decide) tyX11_ok nmX11 tg_1388 rfl (by decide +kernel) (WT_0 _) (Nat.le_of_ble_eq_true rfl) rfl rfl (WT_0_13 _ _) rfl ?_
    refine ex_aload_n (q := 0) (x := 0) (np := 45) C (by decide +kernel) rfl rfl ?_
    refine ex_getf (q := 3) (v := .int (τ.1 2)) (np := 48) C hc_X11 hin_X11 (by decide) tg_1378 (by decide +kernel) (WT_0 _) rfl rfl ?_
    refine ex_aload_n (q := 0) (x := 0) (np := 49) C (by decide +kernel) rfl rfl ?_
    refine ex_getf (q := 5) (v := .int (τ.1 4)) (np := 52) C hc_X11 hin_X11 (by decide) tg_1380 (by decide +kernel) (WT_0 _) rfl rfl ?_
    refine ex_icmp_le (off := 28) (tgt := 80) (np := 55) C (by decide +kernel) (by decide) rfl (fun h36 => ?_) (fun h36 => ?_)
    · skip
      refine ex_aload_n (q := 0) (x := 0) (np := 81) C (by decide +kernel) rfl rfl ?_
      refine ex_call_i (np := 84) (fun ws H locs ls hR hsz => ex_runV (C1 := "") C (m_X11_peek_T d (by omega) (sI 7 (0 : Int32) (sI 6 (τ.1 3) τ)) hI) hd1 hd2 (by decide) hy_X11_peek tg_1544 hc_X11 rfl (WT_0 _) rfl rfl (Nat.le_of_ble_eq_true rfl) rfl tg_1541 tg_1543 tg_84 tg_158 (by decide +kernel) ws H locs ls hR hsz (Nat.zero_le _) (Nat.zero_le _)) rfl (fun r37 w1 hpo => ?_)
      obtain ⟨q38, rfl⟩ := hpo
      refine ex_istore_n (q := 1) (np := 85) (lv1 := [(1, .int r37), (0, .ref 0)]) C (by decide) (by decide +kernel) rfl rfl ?_
      refine ex_iload_n (q := 1) (x := r37) (np := 86) C (by decide +kernel) rfl rfl ?_
      refine ex_if_ge (off := 9) (tgt := 95) (np := 89) C (by decide +kernel) (by decide) rfl (fun h39 => ?_) (fun h39 => ?_)
      · skip
        refine ex_iload_n (q := 1) (x := r37) (np := 96) C (by decide +kernel) rfl rfl ?_
        refine ex_call_i (np := 99) (fun ws H locs ls hR hsz => ex_runS C (m_X11_isSmall d (by omega) (WT (sI 7 (0 : Int32) (sI 6 (τ.1 3) τ))) r37) hd1 hd2 (by decide) hy_X11_isSmall tg_1547 rfl rfl (Nat.le_of_ble_eq_true rfl) tg_1545 tg_1546 tg_158 (by decide +kernel) ws H locs ls hR hsz (Nat.zero_le _) (Nat.zero_le _)) rfl (fun r40 w1 hpo => ?_)
        obtain ⟨q41, rfl⟩ := hpo
        refine ex_if_ne (off := 65) (tgt := 164) (np := 102) C (by decide +kernel) (by decide) rfl (fun h42 => ?_) (fun h42 => ?_)
        · skip
          refine ex_iload_n (q := 1) (x := r37) (np := 165) C (by decide +kernel) rfl rfl ?_
          refine ex_call_i (np := 168) (fun ws H locs ls hR hsz => ex_runS C (m_X11_isSmall d (by omega) (WT (sI 7 (0 : Int32) (sI 6 (τ.1 3) τ))) r37) hd1 hd2 (by decide) hy_X11_isSmall tg_1547 rfl rfl (Nat.le_of_ble_eq_true rfl) tg_1545 tg_1546 tg_158 (by decide +kernel) ws H locs ls hR hsz (Nat.zero_le _) (Nat.zero_le _)) rfl (fun r43 w1 hpo => ?_)
          obtain ⟨q44, rfl⟩ := hpo
          refine ex_istore_n (q := 2) (np := 169) (lv1 := [(2, .int r43), (1, .int r37), (0, .ref 0)]) C (by decide) (by decide +kernel) rfl rfl ?_
          refine ex_iconst (n := 1) (v := 1) (np := 170) C (by decide +kernel) (by decide) rfl ?_
          refine ex_istore_n (q := 3) (np := 171) (lv1 := [(3, .int (1 : Int32)), (2, .int r43), (1, .int r37), (0, .ref 0)]) C (by decide) (by decide +kernel) rfl rfl ?_
          refine ex_aload_n (q := 0) (x := 0) (np := 172) C (by decide +kernel) rfl rfl ?_
          refine ex_lconst0 (np := 173) C (by decide +kernel) rfl ?_
          refine ex_putf (q := 17) (w1 := (WT (sL 0 (0 : Int64) (sI 7 (0 : Int32) (sI 6 (τ.1 3) τ))))) (np := 176) C hc_X11 hin_X11 (by decide) tyX11_ok nmX11 tg_1392 rfl (by decide +kernel) (WT_0 _) (Nat.le_of_ble_eq_true rfl) rfl rfl (WT_0_17 _ _) rfl ?_
          refine ex_aload_n (q := 0) (x := 0) (np := 177) C (by decide +kernel) rfl rfl ?_
          refine ex_iconst (n := 0) (v := 0) (np := 178) C (by decide +kernel) (by decide) rfl ?_
          refine ex_putf (q := 14) (w1 := (WT (sI 8 (0 : Int32) (sL 0 (0 : Int64) (sI 7 (0 : Int32) (sI 6 (τ.1 3) τ)))))) (np := 181) C hc_X11 hin_X11 (by decide) tyX11_ok nmX11 tg_1389 rfl (by decide +kernel) (WT_0 _) (Nat.le_of_ble_eq_true rfl) rfl rfl (WT_0_14 _ _) rfl ?_
          refine ex_drop (lv1 := [(3, .int (1 : Int32)), (2, .int r43), (0, .ref 0)]) [0, 1, 3] rfl ?_
          rw [ex_c0]
          exact loop (sI 6 (τ.1 3) τ) hI 941 r43 (τ.1 3) 0 0 1 0 hI9.2.1.1 hI9.2.1.2 (by show (τ.1 2).toInt - (τ.1 3).toInt < _; omega) ((h9.trans (show B_nxt τ = B_run τ r43 by unfold B_nxt; exact (if_neg h36).trans ((ex_lt_eq q38).trans ((if_neg h39).trans ((ex_lt_eq q41).trans ((if_neg h42).trans ((ex_lt_eq q44).trans (rfl)))))))).trans B_run_eq)
        · skip
          refine ex_iload_n (q := 1) (x := r37) (np := 103) C (by decide +kernel) rfl rfl ?_
          refine ex_call_i (np := 106) (fun ws H locs ls hR hsz => ex_runS C (m_X11_isDigit d (by omega) (WT (sI 7 (0 : Int32) (sI 6 (τ.1 3) τ))) r37) hd1 hd2 (by decide) hy_X11_isDigit tg_1550 rfl rfl (Nat.le_of_ble_eq_true rfl) tg_1548 tg_1549 tg_158 (by decide +kernel) ws H locs ls hR hsz (Nat.zero_le _) (Nat.zero_le _)) rfl (fun r45 w1 hpo => ?_)
          obtain ⟨q46, rfl⟩ := hpo
          refine ex_if_ne (off := 58) (tgt := 164) (np := 109) C (by decide +kernel) (by decide) rfl (fun h47 => ?_) (fun h47 => ?_)
          · skip
            refine ex_iload_n (q := 1) (x := r37) (np := 165) C (by decide +kernel) rfl rfl ?_
            refine ex_call_i (np := 168) (fun ws H locs ls hR hsz => ex_runS C (m_X11_isSmall d (by omega) (WT (sI 7 (0 : Int32) (sI 6 (τ.1 3) τ))) r37) hd1 hd2 (by decide) hy_X11_isSmall tg_1547 rfl rfl (Nat.le_of_ble_eq_true rfl) tg_1545 tg_1546 tg_158 (by decide +kernel) ws H locs ls hR hsz (Nat.zero_le _) (Nat.zero_le _)) rfl (fun r48 w1 hpo => ?_)
            obtain ⟨q49, rfl⟩ := hpo
            refine ex_istore_n (q := 2) (np := 169) (lv1 := [(2, .int r48), (1, .int r37), (0, .ref 0)]) C (by decide) (by decide +kernel) rfl rfl ?_
            refine ex_iconst (n := 1) (v := 1) (np := 170) C (by decide +kernel) (by decide) rfl ?_
            refine ex_istore_n (q := 3) (np := 171) (lv1 := [(3, .int (1 : Int32)), (2, .int r48), (1, .int r37), (0, .ref 0)]) C (by decide) (by decide +kernel) rfl rfl ?_
            refine ex_aload_n (q := 0) (x := 0) (np := 172) C (by decide +kernel) rfl rfl ?_
            refine ex_lconst0 (np := 173) C (by decide +kernel) rfl ?_
            refine ex_putf (q := 17) (w1 := (WT (sL 0 (0 : Int64) (sI 7 (0 : Int32) (sI 6 (τ.1 3) τ))))) (np := 176) C hc_X11 hin_X11 (by decide) tyX11_ok nmX11 tg_1392 rfl (by decide +kernel) (WT_0 _) (Nat.le_of_ble_eq_true rfl) rfl rfl (WT_0_17 _ _) rfl ?_
            refine ex_aload_n (q := 0) (x := 0) (np := 177) C (by decide +kernel) rfl rfl ?_
            refine ex_iconst (n := 0) (v := 0) (np := 178) C (by decide +kernel) (by decide) rfl ?_
            refine ex_putf (q := 14) (w1 := (WT (sI 8 (0 : Int32) (sL 0 (0 : Int64) (sI 7 (0 : Int32) (sI 6 (τ.1 3) τ)))))) (np := 181) C hc_X11 hin_X11 (by decide) tyX11_ok nmX11 tg_1389 rfl (by decide +kernel) (WT_0 _) (Nat.le_of_ble_eq_true rfl) rfl rfl (WT_0_14 _ _) rfl ?_
            refine ex_drop (lv1 := [(3, .int (1 : Int32)), (2, .int r48), (0, .ref 0)]) [0, 1, 3] rfl ?_
            rw [ex_c0]
            exact loop (sI 6 (τ.1 3) τ) hI 941 r48 (τ.1 3) 0 0 1 0 hI9.2.1.1 hI9.2.1.2 (by show (τ.1 2).toInt - (τ.1 3).toInt < _; omega) ((h9.trans (show B_nxt τ = B_run τ r48 by unfold B_nxt; exact (if_neg h36).trans ((ex_lt_eq q38).trans ((if_neg h39).trans ((ex_lt_eq q41).trans ((if_pos h42).trans ((ex_lt_eq q46).trans ((if_neg h47).trans ((ex_lt_eq q49).trans (rfl)))))))))).trans B_run_eq)
          · skip
            refine ex_aload_n (q := 0) (x := 0) (np := 110) C (by decide +kernel) rfl rfl ?_
            refine ex_iload_n (q := 1) (x := r37) (np := 111) C (by decide +kernel) rfl rfl ?_
            refine ex_bipush (n := 59) (v := 59) (np := 113) C (by decide +kernel) (by decide) rfl ?_
            refine ex_icmp_eq (off := 27) (tgt := 140) (np := 116) C (by decide +kernel) (by decide) rfl (fun h50 => ?_) (fun h50 => ?_)
            · skip
              refine ex_iconst (n := 3) (v := 3) (np := 141) C (by decide +kernel) (by decide) rfl ?_
              refine ex_goto (off := 4) (tgt := 145) C (by decide +kernel) (by decide) ?_
              refine ex_putf (q := 11) (w1 := (WT (sI 5 (3 : Int32) (sI 7 (0 : Int32) (sI 6 (τ.1 3) τ))))) (np := 148) C hc_X11 hin_X11 (by decide) tyX11_ok nmX11 tg_1386 rfl (by decide +kernel) (WT_0 _) (Nat.le_of_ble_eq_true rfl) rfl rfl (WT_0_11 _ _) rfl ?_
              refine ex_aload_n (q := 0) (x := 0) (np := 149) C (by decide +kernel) rfl rfl ?_
              refine ex_iload_n (q := 1) (x := r37) (np := 150) C (by decide +kernel) rfl rfl ?_
              refine ex_putf (q := 14) (w1 := (WT (sI 8 r37 (sI 5 (3 : Int32) (sI 7 (0 : Int32) (sI 6 (τ.1 3) τ)))))) (np := 153) C hc_X11 hin_X11 (by decide) tyX11_ok nmX11 tg_1389 rfl (by decide +kernel) (WT_0 _) (Nat.le_of_ble_eq_true rfl) rfl rfl (WT_0_14 _ _) rfl ?_
              refine ex_aload_n (q := 0) (x := 0) (np := 154) C (by decide +kernel) rfl rfl ?_
              refine ex_dup (np := 155) C rfl (by decide +kernel) rfl ?_
              refine ex_getf (q := 4) (v := .int (τ.1 3)) (np := 158) C hc_X11 hin_X11 (by decide) tg_1379 (by decide +kernel) (WT_0 _) rfl rfl ?_
              refine ex_iconst (n := 1) (v := 1) (np := 159) C (by decide +kernel) (by decide) rfl ?_
              refine ex_iadd (v := ((τ.1 3) + (1 : Int32))) (np := 160) C (by decide +kernel) rfl rfl ?_
              refine ex_putf (q := 4) (w1 := (WT (sI 3 ((τ.1 3) + (1 : Int32)) (sI 8 r37 (sI 5 (3 : Int32) (sI 7 (0 : Int32) (sI 6 (τ.1 3) τ))))))) (np := 163) C hc_X11 hin_X11 (by decide) tyX11_ok nmX11 tg_1379 rfl (by decide +kernel) (WT_0 _) (Nat.le_of_ble_eq_true rfl) rfl rfl (WT_0_4 _ _) rfl ?_
              refine ex_vret C hr hlk (by decide +kernel) (Nat.le_refl _) (Nat.le_refl _) ?_
              have E9 : B_next σ = (sI 3 ((τ.1 3) + (1 : Int32)) (sI 8 r37 (sI 5 (3 : Int32) (sI 7 (0 : Int32) (sI 6 (τ.1 3) τ))))) := (h9.trans (by unfold B_nxt; exact (if_neg h36).trans ((ex_lt_eq q38).trans ((if_neg h39).trans ((ex_lt_eq q41).trans ((if_pos h42).trans ((ex_lt_eq q46).trans ((if_pos h47).trans ((if_pos h50).trans (rfl))))))))))
              rw [E9]
            · skip
              refine ex_iload_n (q := 1) (x := r37) (np := 117) C (by decide +kernel) rfl rfl ?_
              refine ex_bipush (n := 40) (v := 40) (np := 119) C (by decide +kernel) (by decide) rfl ?_
              refine ex_icmp_eq (off := 21) (tgt := 140) (np := 122) C (by decide +kernel) (by decide) rfl (fun h51 => ?_) (fun h51 => ?_)
              · skip
                refine ex_iconst (n := 3) (v := 3) (np := 141) C (by decide +kernel) (by decide) rfl ?_
                refine ex_goto (off := 4) (tgt := 145) C (by decide +kernel) (by decide) ?_
                refine ex_putf (q := 11) (w1 := (WT (sI 5 (3 : Int32) (sI 7 (0 : Int32) (sI 6 (τ.1 3) τ))))) (np := 148) C hc_X11 hin_X11 (by decide) tyX11_ok nmX11 tg_1386 rfl (by decide +kernel) (WT_0 _) (Nat.le_of_ble_eq_true rfl) rfl rfl (WT_0_11 _ _) rfl ?_
                refine ex_aload_n (q := 0) (x := 0) (np := 149) C (by decide +kernel) rfl rfl ?_
                refine ex_iload_n (q := 1) (x := r37) (np := 150) C (by decide +kernel) rfl rfl ?_
                refine ex_putf (q := 14) (w1 := (WT (sI 8 r37 (sI 5 (3 : Int32) (sI 7 (0 : Int32) (sI 6 (τ.1 3) τ)))))) (np := 153) C hc_X11 hin_X11 (by decide) tyX11_ok nmX11 tg_1389 rfl (by decide +kernel) (WT_0 _) (Nat.le_of_ble_eq_true rfl) rfl rfl (WT_0_14 _ _) rfl ?_
                refine ex_aload_n (q := 0) (x := 0) (np := 154) C (by decide +kernel) rfl rfl ?_
                refine ex_dup (np := 155) C rfl (by decide +kernel) rfl ?_
                refine ex_getf (q := 4) (v := .int (τ.1 3)) (np := 158) C hc_X11 hin_X11 (by decide) tg_1379 (by decide +kernel) (WT_0 _) rfl rfl ?_
                refine ex_iconst (n := 1) (v := 1) (np := 159) C (by decide +kernel) (by decide) rfl ?_
                refine ex_iadd (v := ((τ.1 3) + (1 : Int32))) (np := 160) C (by decide +kernel) rfl rfl ?_
                refine ex_putf (q := 4) (w1 := (WT (sI 3 ((τ.1 3) + (1 : Int32)) (sI 8 r37 (sI 5 (3 : Int32) (sI 7 (0 : Int32) (sI 6 (τ.1 3) τ))))))) (np := 163) C hc_X11 hin_X11 (by decide) tyX11_ok nmX11 tg_1379 rfl (by decide +kernel) (WT_0 _) (Nat.le_of_ble_eq_true rfl) rfl rfl (WT_0_4 _ _) rfl ?_
                refine ex_vret C hr hlk (by decide +kernel) (Nat.le_refl _) (Nat.le_refl _) ?_
                have E9 : B_next σ = (sI 3 ((τ.1 3) + (1 : Int32)) (sI 8 r37 (sI 5 (3 : Int32) (sI 7 (0 : Int32) (sI 6 (τ.1 3) τ))))) := (h9.trans (by unfold B_nxt; exact (if_neg h36).trans ((ex_lt_eq q38).trans ((if_neg h39).trans ((ex_lt_eq q41).trans ((if_pos h42).trans ((ex_lt_eq q46).trans ((if_pos h47).trans ((if_neg h50).trans ((if_pos h51).trans (rfl)))))))))))
                rw [E9]
              · skip
                refine ex_iload_n (q := 1) (x := r37) (np := 123) C (by decide +kernel) rfl rfl ?_
                refine ex_bipush (n := 41) (v := 41) (np := 125) C (by decide +kernel) (by decide) rfl ?_
                refine ex_icmp_eq (off := 15) (tgt := 140) (np := 128) C (by decide +kernel) (by decide) rfl (fun h52 => ?_) (fun h52 => ?_)
                · skip
                  refine ex_iconst (n := 3) (v := 3) (np := 141) C (by decide +kernel) (by decide) rfl ?_
                  refine ex_goto (off := 4) (tgt := 145) C (by decide +kernel) (by decide) ?_
                  refine ex_putf (q := 11) (w1 := (WT (sI 5 (3 : Int32) (sI 7 (0 : Int32) (sI 6 (τ.1 3) τ))))) (np := 148) C hc_X11 hin_X11 (by decide) tyX11_ok nmX11 tg_1386 rfl (by decide +kernel) (WT_0 _) (Nat.le_of_ble_eq_true rfl) rfl rfl (WT_0_11 _ _) rfl ?_
                  refine ex_aload_n (q := 0) (x := 0) (np := 149) C (by decide +kernel) rfl rfl ?_
                  refine ex_iload_n (q := 1) (x := r37) (np := 150) C (by decide +kernel) rfl rfl ?_
                  refine ex_putf (q := 14) (w1 := (WT (sI 8 r37 (sI 5 (3 : Int32) (sI 7 (0 : Int32) (sI 6 (τ.1 3) τ)))))) (np := 153) C hc_X11 hin_X11 (by decide) tyX11_ok nmX11 tg_1389 rfl (by decide +kernel) (WT_0 _) (Nat.le_of_ble_eq_true rfl) rfl rfl (WT_0_14 _ _) rfl ?_
                  refine ex_aload_n (q := 0) (x := 0) (np := 154) C (by decide +kernel) rfl rfl ?_
                  refine ex_dup (np := 155) C rfl (by decide +kernel) rfl ?_
                  refine ex_getf (q := 4) (v := .int (τ.1 3)) (np := 158) C hc_X11 hin_X11 (by decide) tg_1379 (by decide +kernel) (WT_0 _) rfl rfl ?_
                  refine ex_iconst (n := 1) (v := 1) (np := 159) C (by decide +kernel) (by decide) rfl ?_
                  refine ex_iadd (v := ((τ.1 3) + (1 : Int32))) (np := 160) C (by decide +kernel) rfl rfl ?_
                  refine ex_putf (q := 4) (w1 := (WT (sI 3 ((τ.1 3) + (1 : Int32)) (sI 8 r37 (sI 5 (3 : Int32) (sI 7 (0 : Int32) (sI 6 (τ.1 3) τ))))))) (np := 163) C hc_X11 hin_X11 (by decide) tyX11_ok nmX11 tg_1379 rfl (by decide +kernel) (WT_0 _) (Nat.le_of_ble_eq_true rfl) rfl rfl (WT_0_4 _ _) rfl ?_
                  refine ex_vret C hr hlk (by decide +kernel) (Nat.le_refl _) (Nat.le_refl _) ?_
                  have E9 : B_next σ = (sI 3 ((τ.1 3) + (1 : Int32)) (sI 8 r37 (sI 5 (3 : Int32) (sI 7 (0 : Int32) (sI 6 (τ.1 3) τ))))) := (h9.trans (by unfold B_nxt; exact (if_neg h36).trans ((ex_lt_eq q38).trans ((if_neg h39).trans ((ex_lt_eq q41).trans ((if_pos h42).trans ((ex_lt_eq q46).trans ((if_pos h47).trans ((if_neg h50).trans ((if_neg h51).trans ((if_pos h52).trans (rfl))))))))))))
                  rw [E9]
                · skip
                  refine ex_iload_n (q := 1) (x := r37) (np := 129) C (by decide +kernel) rfl rfl ?_
                  refine ex_bipush (n := 60) (v := 60) (np := 131) C (by decide +kernel) (by decide) rfl ?_
                  refine ex_icmp_lt (off := 13) (tgt := 144) (np := 134) C (by decide +kernel) (by decide) rfl (fun h53 => ?_) (fun h53 => ?_)
                  · skip
                    refine ex_iconst (n := 4) (v := 4) (np := 145) C (by decide +kernel) (by decide) rfl ?_
                    refine ex_putf (q := 11) (w1 := (WT (sI 5 (4 : Int32) (sI 7 (0 : Int32) (sI 6 (τ.1 3) τ))))) (np := 148) C hc_X11 hin_X11 (by decide) tyX11_ok nmX11 tg_1386 rfl (by decide +kernel) (WT_0 _) (Nat.le_of_ble_eq_true rfl) rfl rfl (WT_0_11 _ _) rfl ?_
                    refine ex_aload_n (q := 0) (x := 0) (np := 149) C (by decide +kernel) rfl rfl ?_
                    refine ex_iload_n (q := 1) (x := r37) (np := 150) C (by decide +kernel) rfl rfl ?_
                    refine ex_putf (q := 14) (w1 := (WT (sI 8 r37 (sI 5 (4 : Int32) (sI 7 (0 : Int32) (sI 6 (τ.1 3) τ)))))) (np := 153) C hc_X11 hin_X11 (by decide) tyX11_ok nmX11 tg_1389 rfl (by decide +kernel) (WT_0 _) (Nat.le_of_ble_eq_true rfl) rfl rfl (WT_0_14 _ _) rfl ?_
                    refine ex_aload_n (q := 0) (x := 0) (np := 154) C (by decide +kernel) rfl rfl ?_
                    refine ex_dup (np := 155) C rfl (by decide +kernel) rfl ?_
                    refine ex_getf (q := 4) (v := .int (τ.1 3)) (np := 158) C hc_X11 hin_X11 (by decide) tg_1379 (by decide +kernel) (WT_0 _) rfl rfl ?_
                    refine ex_iconst (n := 1) (v := 1) (np := 159) C (by decide +kernel) (by decide) rfl ?_
                    refine ex_iadd (v := ((τ.1 3) + (1 : Int32))) (np := 160) C (by decide +kernel) rfl rfl ?_
                    refine ex_putf (q := 4) (w1 := (WT (sI 3 ((τ.1 3) + (1 : Int32)) (sI 8 r37 (sI 5 (4 : Int32) (sI 7 (0 : Int32) (sI 6 (τ.1 3) τ))))))) (np := 163) C hc_X11 hin_X11 (by decide) tyX11_ok nmX11 tg_1379 rfl (by decide +kernel) (WT_0 _) (Nat.le_of_ble_eq_true rfl) rfl rfl (WT_0_4 _ _) rfl ?_
                    refine ex_vret C hr hlk (by decide +kernel) (Nat.le_refl _) (Nat.le_refl _) ?_
                    have E9 : B_next σ = (sI 3 ((τ.1 3) + (1 : Int32)) (sI 8 r37 (sI 5 (4 : Int32) (sI 7 (0 : Int32) (sI 6 (τ.1 3) τ))))) := (h9.trans (by unfold B_nxt; exact (if_neg h36).trans ((ex_lt_eq q38).trans ((if_neg h39).trans ((ex_lt_eq q41).trans ((if_pos h42).trans ((ex_lt_eq q46).trans ((if_pos h47).trans ((if_neg h50).trans ((if_neg h51).trans ((if_neg h52).trans ((if_pos h53).trans (rfl)))))))))))))
                    rw [E9]
                  · skip
                    refine ex_iload_n (q := 1) (x := r37) (np := 135) C (by decide +kernel) rfl rfl ?_
                    refine ex_bipush (n := 62) (v := 62) (np := 137) C (by decide +kernel) (by decide) rfl ?_
                    refine ex_icmp_gt (off := 7) (tgt := 144) (np := 140) C (by decide +kernel) (by decide) rfl (fun h54 => ?_) (fun h54 => ?_)
                    · skip
                      refine ex_iconst (n := 4) (v := 4) (np := 145) C (by decide +kernel) (by decide) rfl ?_
                      refine ex_putf (q := 11) (w1 := (WT (sI 5 (4 : Int32) (sI 7 (0 : Int32) (sI 6 (τ.1 3) τ))))) (np := 148) C hc_X11 hin_X11 (by decide) tyX11_ok nmX11 tg_1386 rfl (by decide +kernel) (WT_0 _) (Nat.le_of_ble_eq_true rfl) rfl rfl (WT_0_11 _ _) rfl ?_
                      refine ex_aload_n (q := 0) (x := 0) (np := 149) C (by decide +kernel) rfl rfl ?_
                      refine ex_iload_n (q := 1) (x := r37) (np := 150) C (by decide +kernel) rfl rfl ?_
                      refine ex_putf (q := 14) (w1 := (WT (sI 8 r37 (sI 5 (4 : Int32) (sI 7 (0 : Int32) (sI 6 (τ.1 3) τ)))))) (np := 153) C hc_X11 hin_X11 (by decide) tyX11_ok nmX11 tg_1389 rfl (by decide +kernel) (WT_0 _) (Nat.le_of_ble_eq_true rfl) rfl rfl (WT_0_14 _ _) rfl ?_
                      refine ex_aload_n (q := 0) (x := 0) (np := 154) C (by decide +kernel) rfl rfl ?_
                      refine ex_dup (np := 155) C rfl (by decide +kernel) rfl ?_
                      refine ex_getf (q := 4) (v := .int (τ.1 3)) (np := 158) C hc_X11 hin_X11 (by decide) tg_1379 (by decide +kernel) (WT_0 _) rfl rfl ?_
                      refine ex_iconst (n := 1) (v := 1) (np := 159) C (by decide +kernel) (by decide) rfl ?_
                      refine ex_iadd (v := ((τ.1 3) + (1 : Int32))) (np := 160) C (by decide +kernel) rfl rfl ?_
                      refine ex_putf (q := 4) (w1 := (WT (sI 3 ((τ.1 3) + (1 : Int32)) (sI 8 r37 (sI 5 (4 : Int32) (sI 7 (0 : Int32) (sI 6 (τ.1 3) τ))))))) (np := 163) C hc_X11 hin_X11 (by decide) tyX11_ok nmX11 tg_1379 rfl (by decide +kernel) (WT_0 _) (Nat.le_of_ble_eq_true rfl) rfl rfl (WT_0_4 _ _) rfl ?_
                      refine ex_vret C hr hlk (by decide +kernel) (Nat.le_refl _) (Nat.le_refl _) ?_
                      have E9 : B_next σ = (sI 3 ((τ.1 3) + (1 : Int32)) (sI 8 r37 (sI 5 (4 : Int32) (sI 7 (0 : Int32) (sI 6 (τ.1 3) τ))))) := (h9.trans (by unfold B_nxt; exact (if_neg h36).trans ((ex_lt_eq q38).trans ((if_neg h39).trans ((ex_lt_eq q41).trans ((if_pos h42).trans ((ex_lt_eq q46).trans ((if_pos h47).trans ((if_neg h50).trans ((if_neg h51).trans ((if_neg h52).trans ((if_neg h53).trans ((if_pos h54).trans (rfl))))))))))))))
                      rw [E9]
                    · skip
                      refine ex_iconst (n := 3) (v := 3) (np := 141) C (by decide +kernel) (by decide) rfl ?_
                      refine ex_goto (off := 4) (tgt := 145) C (by decide +kernel) (by decide) ?_
                      refine ex_putf (q := 11) (w1 := (WT (sI 5 (3 : Int32) (sI 7 (0 : Int32) (sI 6 (τ.1 3) τ))))) (np := 148) C hc_X11 hin_X11 (by decide) tyX11_ok nmX11 tg_1386 rfl (by decide +kernel) (WT_0 _) (Nat.le_of_ble_eq_true rfl) rfl rfl (WT_0_11 _ _) rfl ?_
                      refine ex_aload_n (q := 0) (x := 0) (np := 149) C (by decide +kernel) rfl rfl ?_
                      refine ex_iload_n (q := 1) (x := r37) (np := 150) C (by decide +kernel) rfl rfl ?_
                      refine ex_putf (q := 14) (w1 := (WT (sI 8 r37 (sI 5 (3 : Int32) (sI 7 (0 : Int32) (sI 6 (τ.1 3) τ)))))) (np := 153) C hc_X11 hin_X11 (by decide) tyX11_ok nmX11 tg_1389 rfl (by decide +kernel) (WT_0 _) (Nat.le_of_ble_eq_true rfl) rfl rfl (WT_0_14 _ _) rfl ?_
                      refine ex_aload_n (q := 0) (x := 0) (np := 154) C (by decide +kernel) rfl rfl ?_
                      refine ex_dup (np := 155) C rfl (by decide +kernel) rfl ?_
                      refine ex_getf (q := 4) (v := .int (τ.1 3)) (np := 158) C hc_X11 hin_X11 (by decide) tg_1379 (by decide +kernel) (WT_0 _) rfl rfl ?_
                      refine ex_iconst (n := 1) (v := 1) (np := 159) C (by decide +kernel) (by decide) rfl ?_
                      refine ex_iadd (v := ((τ.1 3) + (1 : Int32))) (np := 160) C (by decide +kernel) rfl rfl ?_
                      refine ex_putf (q := 4) (w1 := (WT (sI 3 ((τ.1 3) + (1 : Int32)) (sI 8 r37 (sI 5 (3 : Int32) (sI 7 (0 : Int32) (sI 6 (τ.1 3) τ))))))) (np := 163) C hc_X11 hin_X11 (by decide) tyX11_ok nmX11 tg_1379 rfl (by decide +kernel) (WT_0 _) (Nat.le_of_ble_eq_true rfl) rfl rfl (WT_0_4 _ _) rfl ?_
                      refine ex_vret C hr hlk (by decide +kernel) (Nat.le_refl _) (Nat.le_refl _) ?_
                      have E9 : B_next σ = (sI 3 ((τ.1 3) + (1 : Int32)) (sI 8 r37 (sI 5 (3 : Int32) (sI 7 (0 : Int32) (sI 6 (τ.1 3) τ))))) := (h9.trans (by unfold B_nxt; exact (if_neg h36).trans ((ex_lt_eq q38).trans ((if_neg h39).trans ((ex_lt_eq q41).trans ((if_pos h42).trans ((ex_lt_eq q46).trans ((if_pos h47).trans ((if_neg h50).trans ((if_neg h51).trans ((if_neg h52).trans ((if_neg h53).trans ((if_neg h54).trans (rfl))))))))))))))
                      rw [E9]
      · skip
        refine ex_aload_n (q := 0) (x := 0) (np := 90) C (by decide +kernel) rfl rfl ?_
        refine ex_iconst (n := 0) (v := 0) (np := 91) C (by decide +kernel) (by decide) rfl ?_
        refine ex_putf (q := 11) (w1 := (WT (sI 5 (0 : Int32) (sI 7 (0 : Int32) (sI 6 (τ.1 3) τ))))) (np := 94) C hc_X11 hin_X11 (by decide) tyX11_ok nmX11 tg_1386 rfl (by decide +kernel) (WT_0 _) (Nat.le_of_ble_eq_true rfl) rfl rfl (WT_0_11 _ _) rfl ?_
        refine ex_vret C hr hlk (by decide +kernel) (Nat.le_refl _) (Nat.le_refl _) ?_
        have E9 : B_next σ = (sI 5 (0 : Int32) (sI 7 (0 : Int32) (sI 6 (τ.1 3) τ))) := (h9.trans (by unfold B_nxt; exact (if_neg h36).trans ((ex_lt_eq q38).trans ((if_pos h39).trans (rfl)))))
        rw [E9]
    · skip
      refine ex_aload_n (q := 0) (x := 0) (np := 56) C (by decide +kernel) rfl rfl ?_
      refine ex_getf (q := 4) (v := .int (τ.1 3)) (np := 59) C hc_X11 hin_X11 (by decide) tg_1379 (by decide +kernel) (WT_0 _) rfl rfl ?_
      refine ex_aload_n (q := 0) (x := 0) (np := 60) C (by decide +kernel) rfl rfl ?_
      refine ex_getf (q := 5) (v := .int (τ.1 4)) (np := 63) C hc_X11 hin_X11 (by decide) tg_1380 (by decide +kernel) (WT_0 _) rfl rfl ?_
      refine ex_icmp_lt (off := 17) (tgt := 80) (np := 66) C (by decide +kernel) (by decide) rfl (fun h55 => ?_) (fun h55 => ?_)
      · skip
        refine ex_aload_n (q := 0) (x := 0) (np := 81) C (by decide +kernel) rfl rfl ?_
        refine ex_call_i (np := 84) (fun ws H locs ls hR hsz => ex_runV (C1 := "") C (m_X11_peek_T d (by omega) (sI 7 (0 : Int32) (sI 6 (τ.1 3) τ)) hI) hd1 hd2 (by decide) hy_X11_peek tg_1544 hc_X11 rfl (WT_0 _) rfl rfl (Nat.le_of_ble_eq_true rfl) rfl tg_1541 tg_1543 tg_84 tg_158 (by decide +kernel) ws H locs ls hR hsz (Nat.zero_le _) (Nat.zero_le _)) rfl (fun r56 w1 hpo => ?_)
        obtain ⟨q57, rfl⟩ := hpo
        refine ex_istore_n (q := 1) (np := 85) (lv1 := [(1, .int r56), (0, .ref 0)]) C (by decide) (by decide +kernel) rfl rfl ?_
        refine ex_iload_n (q := 1) (x := r56) (np := 86) C (by decide +kernel) rfl rfl ?_
        refine ex_if_ge (off := 9) (tgt := 95) (np := 89) C (by decide +kernel) (by decide) rfl (fun h58 => ?_) (fun h58 => ?_)
        · skip
          refine ex_iload_n (q := 1) (x := r56) (np := 96) C (by decide +kernel) rfl rfl ?_
          refine ex_call_i (np := 99) (fun ws H locs ls hR hsz => ex_runS C (m_X11_isSmall d (by omega) (WT (sI 7 (0 : Int32) (sI 6 (τ.1 3) τ))) r56) hd1 hd2 (by decide) hy_X11_isSmall tg_1547 rfl rfl (Nat.le_of_ble_eq_true rfl) tg_1545 tg_1546 tg_158 (by decide +kernel) ws H locs ls hR hsz (Nat.zero_le _) (Nat.zero_le _)) rfl (fun r59 w1 hpo => ?_)
          obtain ⟨q60, rfl⟩ := hpo
          refine ex_if_ne (off := 65) (tgt := 164) (np := 102) C (by decide +kernel) (by decide) rfl (fun h61 => ?_) (fun h61 => ?_)
          · skip
            refine ex_iload_n (q := 1) (x := r56) (np := 165) C (by decide +kernel) rfl rfl ?_
            refine ex_call_i (np := 168) (fun ws H locs ls hR hsz => ex_runS C (m_X11_isSmall d (by omega) (WT (sI 7 (0 : Int32) (sI 6 (τ.1 3) τ))) r56) hd1 hd2 (by decide) hy_X11_isSmall tg_1547 rfl rfl (Nat.le_of_ble_eq_true rfl) tg_1545 tg_1546 tg_158 (by decide +kernel) ws H locs ls hR hsz (Nat.zero_le _) (Nat.zero_le _)) rfl (fun r62 w1 hpo => ?_)
            obtain ⟨q63, rfl⟩ := hpo
            refine ex_istore_n (q := 2) (np := 169) (lv1 := [(2, .int r62), (1, .int r56), (0, .ref 0)]) C (by decide) (by decide +kernel) rfl rfl ?_
            refine ex_iconst (n := 1) (v := 1) (np := 170) C (by decide +kernel) (by decide) rfl ?_
            refine ex_istore_n (q := 3) (np := 171) (lv1 := [(3, .int (1 : Int32)), (2, .int r62), (1, .int r56), (0, .ref 0)]) C (by decide) (by decide +kernel) rfl rfl ?_
            refine ex_aload_n (q := 0) (x := 0) (np := 172) C (by decide +kernel) rfl rfl ?_
            refine ex_lconst0 (np := 173) C (by decide +kernel) rfl ?_
            refine ex_putf (q := 17) (w1 := (WT (sL 0 (0 : Int64) (sI 7 (0 : Int32) (sI 6 (τ.1 3) τ))))) (np := 176) C hc_X11 hin_X11 (by decide) tyX11_ok nmX11 tg_1392 rfl (by decide +kernel) (WT_0 _) (Nat.le_of_ble_eq_true rfl) rfl rfl (WT_0_17 _ _) rfl ?_
            refine ex_aload_n (q := 0) (x := 0) (np := 177) C (by decide +kernel) rfl rfl ?_
            refine ex_iconst (n := 0) (v := 0) (np := 178) C (by decide +kernel) (by decide) rfl ?_
            refine ex_putf (q := 14) (w1 := (WT (sI 8 (0 : Int32) (sL 0 (0 : Int64) (sI 7 (0 : Int32) (sI 6 (τ.1 3) τ)))))) (np := 181) C hc_X11 hin_X11 (by decide) tyX11_ok nmX11 tg_1389 rfl (by decide +kernel) (WT_0 _) (Nat.le_of_ble_eq_true rfl) rfl rfl (WT_0_14 _ _) rfl ?_
            refine ex_drop (lv1 := [(3, .int (1 : Int32)), (2, .int r62), (0, .ref 0)]) [0, 1, 3] rfl ?_
            rw [ex_c0]
            exact loop (sI 6 (τ.1 3) τ) hI 941 r62 (τ.1 3) 0 0 1 0 hI9.2.1.1 hI9.2.1.2 (by show (τ.1 2).toInt - (τ.1 3).toInt < _; omega) ((h9.trans (show B_nxt τ = B_run τ r62 by unfold B_nxt; exact (if_pos h36).trans ((if_pos h55).trans ((ex_lt_eq q57).trans ((if_neg h58).trans ((ex_lt_eq q60).trans ((if_neg h61).trans ((ex_lt_eq q63).trans (rfl))))))))).trans B_run_eq)
          · skip
            refine ex_iload_n (q := 1) (x := r56) (np := 103) C (by decide +kernel) rfl rfl ?_
            refine ex_call_i (np := 106) (fun ws H locs ls hR hsz => ex_runS C (m_X11_isDigit d (by omega) (WT (sI 7 (0 : Int32) (sI 6 (τ.1 3) τ))) r56) hd1 hd2 (by decide) hy_X11_isDigit tg_1550 rfl rfl (Nat.le_of_ble_eq_true rfl) tg_1548 tg_1549 tg_158 (by decide +kernel) ws H locs ls hR hsz (Nat.zero_le _) (Nat.zero_le _)) rfl (fun r64 w1 hpo => ?_)
            obtain ⟨q65, rfl⟩ := hpo
            refine ex_if_ne (off := 58) (tgt := 164) (np := 109) C (by decide +kernel) (by decide) rfl (fun h66 => ?_) (fun h66 => ?_)
            · skip
              refine ex_iload_n (q := 1) (x := r56) (np := 165) C (by decide +kernel) rfl rfl ?_
              refine ex_call_i (np := 168) (fun ws H locs ls hR hsz => ex_runS C (m_X11_isSmall d (by omega) (WT (sI 7 (0 : Int32) (sI 6 (τ.1 3) τ))) r56) hd1 hd2 (by decide) hy_X11_isSmall tg_1547 rfl rfl (Nat.le_of_ble_eq_true rfl) tg_1545 tg_1546 tg_158 (by decide +kernel) ws H locs ls hR hsz (Nat.zero_le _) (Nat.zero_le _)) rfl (fun r67 w1 hpo => ?_)
              obtain ⟨q68, rfl⟩ := hpo
              refine ex_istore_n (q := 2) (np := 169) (lv1 := [(2, .int r67), (1, .int r56), (0, .ref 0)]) C (by decide) (by decide +kernel) rfl rfl ?_
              refine ex_iconst (n := 1) (v := 1) (np := 170) C (by decide +kernel) (by decide) rfl ?_
              refine ex_istore_n (q := 3) (np := 171) (lv1 := [(3, .int (1 : Int32)), (2, .int r67), (1, .int r56), (0, .ref 0)]) C (by decide) (by decide +kernel) rfl rfl ?_
              refine ex_aload_n (q := 0) (x := 0) (np := 172) C (by decide +kernel) rfl rfl ?_
              refine ex_lconst0 (np := 173) C (by decide +kernel) rfl ?_
              refine ex_putf (q := 17) (w1 := (WT (sL 0 (0 : Int64) (sI 7 (0 : Int32) (sI 6 (τ.1 3) τ))))) (np := 176) C hc_X11 hin_X11 (by decide) tyX11_ok nmX11 tg_1392 rfl (by decide +kernel) (WT_0 _) (Nat.le_of_ble_eq_true rfl) rfl rfl (WT_0_17 _ _) rfl ?_
              refine ex_aload_n (q := 0) (x := 0) (np := 177) C (by decide +kernel) rfl rfl ?_
              refine ex_iconst (n := 0) (v := 0) (np := 178) C (by decide +kernel) (by decide) rfl ?_
              refine ex_putf (q := 14) (w1 := (WT (sI 8 (0 : Int32) (sL 0 (0 : Int64) (sI 7 (0 : Int32) (sI 6 (τ.1 3) τ)))))) (np := 181) C hc_X11 hin_X11 (by decide) tyX11_ok nmX11 tg_1389 rfl (by decide +kernel) (WT_0 _) (Nat.le_of_ble_eq_true rfl) rfl rfl (WT_0_14 _ _) rfl ?_
              refine ex_drop (lv1 := [(3, .int (1 : Int32)), (2, .int r67), (0, .ref 0)]) [0, 1, 3] rfl ?_
              rw [ex_c0]
              exact loop (sI 6 (τ.1 3) τ) hI 941 r67 (τ.1 3) 0 0 1 0 hI9.2.1.1 hI9.2.1.2 (by show (τ.1 2).toInt - (τ.1 3).toInt < _; omega) ((h9.trans (show B_nxt τ = B_run τ r67 by unfold B_nxt; exact (if_pos h36).trans ((if_pos h55).trans ((ex_lt_eq q57).trans ((if_neg h58).trans ((ex_lt_eq q60).trans ((if_pos h61).trans ((ex_lt_eq q65).trans ((if_neg h66).trans ((ex_lt_eq q68).trans (rfl))))))))))).trans B_run_eq)
            · skip
              refine ex_aload_n (q := 0) (x := 0) (np := 110) C (by decide +kernel) rfl rfl ?_
              refine ex_iload_n (q := 1) (x := r56) (np := 111) C (by decide +kernel) rfl rfl ?_
              refine ex_bipush (n := 59) (v := 59) (np := 113) C (by decide +kernel) (by decide) rfl ?_
              refine ex_icmp_eq (off := 27) (tgt := 140) (np := 116) C (by decide +kernel) (by decide) rfl (fun h69 => ?_) (fun h69 => ?_)
              · skip
                refine ex_iconst (n := 3) (v := 3) (np := 141) C (by decide +kernel) (by decide) rfl ?_
                refine ex_goto (off := 4) (tgt := 145) C (by decide +kernel) (by decide) ?_
                refine ex_putf (q := 11) (w1 := (WT (sI 5 (3 : Int32) (sI 7 (0 : Int32) (sI 6 (τ.1 3) τ))))) (np := 148) C hc_X11 hin_X11 (by decide) tyX11_ok nmX11 tg_1386 rfl (by decide +kernel) (WT_0 _) (Nat.le_of_ble_eq_true rfl) rfl rfl (WT_0_11 _ _) rfl ?_
                refine ex_aload_n (q := 0) (x := 0) (np := 149) C (by decide +kernel) rfl rfl ?_
                refine ex_iload_n (q := 1) (x := r56) (np := 150) C (by decide +kernel) rfl rfl ?_
                refine ex_putf (q := 14) (w1 := (WT (sI 8 r56 (sI 5 (3 : Int32) (sI 7 (0 : Int32) (sI 6 (τ.1 3) τ)))))) (np := 153) C hc_X11 hin_X11 (by decide) tyX11_ok nmX11 tg_1389 rfl (by decide +kernel) (WT_0 _) (Nat.le_of_ble_eq_true rfl) rfl rfl (WT_0_14 _ _) rfl ?_
                refine ex_aload_n (q := 0) (x := 0) (np := 154) C (by decide +kernel) rfl rfl ?_
                refine ex_dup (np := 155) C rfl (by decide +kernel) rfl ?_
                refine ex_getf (q := 4) (v := .int (τ.1 3)) (np := 158) C hc_X11 hin_X11 (by decide) tg_1379 (by decide +kernel) (WT_0 _) rfl rfl ?_
                refine ex_iconst (n := 1) (v := 1) (np := 159) C (by decide +kernel) (by decide) rfl ?_
                refine ex_iadd (v := ((τ.1 3) + (1 : Int32))) (np := 160) C (by decide +kernel) rfl rfl ?_
                refine ex_putf (q := 4) (w1 := (WT (sI 3 ((τ.1 3) + (1 : Int32)) (sI 8 r56 (sI 5 (3 : Int32) (sI 7 (0 : Int32) (sI 6 (τ.1 3) τ))))))) (np := 163) C hc_X11 hin_X11 (by decide) tyX11_ok nmX11 tg_1379 rfl (by decide +kernel) (WT_0 _) (Nat.le_of_ble_eq_true rfl) rfl rfl (WT_0_4 _ _) rfl ?_
                refine ex_vret C hr hlk (by decide +kernel) (Nat.le_refl _) (Nat.le_refl _) ?_
                have E9 : B_next σ = (sI 3 ((τ.1 3) + (1 : Int32)) (sI 8 r56 (sI 5 (3 : Int32) (sI 7 (0 : Int32) (sI 6 (τ.1 3) τ))))) := (h9.trans (by unfold B_nxt; exact (if_pos h36).trans ((if_pos h55).trans ((ex_lt_eq q57).trans ((if_neg h58).trans ((ex_lt_eq q60).trans ((if_pos h61).trans ((ex_lt_eq q65).trans ((if_pos h66).trans ((if_pos h69).trans (rfl)))))))))))
                rw [E9]
              · skip
                refine ex_iload_n (q := 1) (x := r56) (np := 117) C (by decide +kernel) rfl rfl ?_
                refine ex_bipush (n := 40) (v := 40) (np := 119) C (by decide +kernel) (by decide) rfl ?_
                refine ex_icmp_eq (off := 21) (tgt := 140) (np := 122) C (by decide +kernel) (by decide) rfl (fun h70 => ?_) (fun h70 => ?_)
                · skip
                  refine ex_iconst (n := 3) (v := 3) (np := 141) C (by decide +kernel) (by decide) rfl ?_
                  refine ex_goto (off := 4) (tgt := 145) C (by decide +kernel) (by decide) ?_
                  refine ex_putf (q := 11) (w1 := (WT (sI 5 (3 : Int32) (sI 7 (0 : Int32) (sI 6 (τ.1 3) τ))))) (np := 148) C hc_X11 hin_X11 (by decide) tyX11_ok nmX11 tg_1386 rfl (by decide +kernel) (WT_0 _) (Nat.le_of_ble_eq_true rfl) rfl rfl (WT_0_11 _ _) rfl ?_
                  refine ex_aload_n (q := 0) (x := 0) (np := 149) C (by decide +kernel) rfl rfl ?_
                  refine ex_iload_n (q := 1) (x := r56) (np := 150) C (by decide +kernel) rfl rfl ?_
                  refine ex_putf (q := 14) (w1 := (WT (sI 8 r56 (sI 5 (3 : Int32) (sI 7 (0 : Int32) (sI 6 (τ.1 3) τ)))))) (np := 153) C hc_X11 hin_X11 (by decide) tyX11_ok nmX11 tg_1389 rfl (by decide +kernel) (WT_0 _) (Nat.le_of_ble_eq_true rfl) rfl rfl (WT_0_14 _ _) rfl ?_
                  refine ex_aload_n (q := 0) (x := 0) (np := 154) C (by decide +kernel) rfl rfl ?_
                  refine ex_dup (np := 155) C rfl (by decide +kernel) rfl ?_
                  refine ex_getf (q := 4) (v := .int (τ.1 3)) (np := 158) C hc_X11 hin_X11 (by decide) tg_1379 (by decide +kernel) (WT_0 _) rfl rfl ?_
                  refine ex_iconst (n := 1) (v := 1) (np := 159) C (by decide +kernel) (by decide) rfl ?_
                  refine ex_iadd (v := ((τ.1 3) + (1 : Int32))) (np := 160) C (by decide +kernel) rfl rfl ?_
                  refine ex_putf (q := 4) (w1 := (WT (sI 3 ((τ.1 3) + (1 : Int32)) (sI 8 r56 (sI 5 (3 : Int32) (sI 7 (0 : Int32) (sI 6 (τ.1 3) τ))))))) (np := 163) C hc_X11 hin_X11 (by decide) tyX11_ok nmX11 tg_1379 rfl (by decide +kernel) (WT_0 _) (Nat.le_of_ble_eq_true rfl) rfl rfl (WT_0_4 _ _) rfl ?_
                  refine ex_vret C hr hlk (by decide +kernel) (Nat.le_refl _) (Nat.le_refl _) ?_
                  have E9 : B_next σ = (sI 3 ((τ.1 3) + (1 : Int32)) (sI 8 r56 (sI 5 (3 : Int32) (sI 7 (0 : Int32) (sI 6 (τ.1 3) τ))))) := (h9.trans (by unfold B_nxt; exact (if_pos h36).trans ((if_pos h55).trans ((ex_lt_eq q57).trans ((if_neg h58).trans ((ex_lt_eq q60).trans ((if_pos h61).trans ((ex_lt_eq q65).trans ((if_pos h66).trans ((if_neg h69).trans ((if_pos h70).trans (rfl))))))))))))
                  rw [E9]
                · skip
                  refine ex_iload_n (q := 1) (x := r56) (np := 123) C (by decide +kernel) rfl rfl ?_
                  refine ex_bipush (n := 41) (v := 41) (np := 125) C (by decide +kernel) (by decide) rfl ?_
                  refine ex_icmp_eq (off := 15) (tgt := 140) (np := 128) C (by decide +kernel) (by decide) rfl (fun h71 => ?_) (fun h71 => ?_)
                  · skip
                    refine ex_iconst (n := 3) (v := 3) (np := 141) C (by decide +kernel) (by decide) rfl ?_
                    refine ex_goto (off := 4) (tgt := 145) C (by decide +kernel) (by decide) ?_
                    refine ex_putf (q := 11) (w1 := (WT (sI 5 (3 : Int32) (sI 7 (0 : Int32) (sI 6 (τ.1 3) τ))))) (np := 148) C hc_X11 hin_X11 (by decide) tyX11_ok nmX11 tg_1386 rfl (by decide +kernel) (WT_0 _) (Nat.le_of_ble_eq_true rfl) rfl rfl (WT_0_11 _ _) rfl ?_
                    refine ex_aload_n (q := 0) (x := 0) (np := 149) C (by decide +kernel) rfl rfl ?_
                    refine ex_iload_n (q := 1) (x := r56) (np := 150) C (by decide +kernel) rfl rfl ?_
                    refine ex_putf (q := 14) (w1 := (WT (sI 8 r56 (sI 5 (3 : Int32) (sI 7 (0 : Int32) (sI 6 (τ.1 3) τ)))))) (np := 153) C hc_X11 hin_X11 (by decide) tyX11_ok nmX11 tg_1389 rfl (by decide +kernel) (WT_0 _) (Nat.le_of_ble_eq_true rfl) rfl rfl (WT_0_14 _ _) rfl ?_
                    refine ex_aload_n (q := 0) (x := 0) (np := 154) C (by decide +kernel) rfl rfl ?_
                    refine ex_dup (np := 155) C rfl (by decide +kernel) rfl ?_
                    refine ex_getf (q := 4) (v := .int (τ.1 3)) (np := 158) C hc_X11 hin_X11 (by decide) tg_1379 (by decide +kernel) (WT_0 _) rfl rfl ?_
                    refine ex_iconst (n := 1) (v := 1) (np := 159) C (by decide +kernel) (by decide) rfl ?_
                    refine ex_iadd (v := ((τ.1 3) + (1 : Int32))) (np := 160) C (by decide +kernel) rfl rfl ?_
                    refine ex_putf (q := 4) (w1 := (WT (sI 3 ((τ.1 3) + (1 : Int32)) (sI 8 r56 (sI 5 (3 : Int32) (sI 7 (0 : Int32) (sI 6 (τ.1 3) τ))))))) (np := 163) C hc_X11 hin_X11 (by decide) tyX11_ok nmX11 tg_1379 rfl (by decide +kernel) (WT_0 _) (Nat.le_of_ble_eq_true rfl) rfl rfl (WT_0_4 _ _) rfl ?_
                    refine ex_vret C hr hlk (by decide +kernel) (Nat.le_refl _) (Nat.le_refl _) ?_
                    have E9 : B_next σ = (sI 3 ((τ.1 3) + (1 : Int32)) (sI 8 r56 (sI 5 (3 : Int32) (sI 7 (0 : Int32) (sI 6 (τ.1 3) τ))))) := (h9.trans (by unfold B_nxt; exact (if_pos h36).trans ((if_pos h55).trans ((ex_lt_eq q57).trans ((if_neg h58).trans ((ex_lt_eq q60).trans ((if_pos h61).trans ((ex_lt_eq q65).trans ((if_pos h66).trans ((if_neg h69).trans ((if_neg h70).trans ((if_pos h71).trans (rfl)))))))))))))
                    rw [E9]
                  · skip
                    refine ex_iload_n (q := 1) (x := r56) (np := 129) C (by decide +kernel) rfl rfl ?_
                    refine ex_bipush (n := 60) (v := 60) (np := 131) C (by decide +kernel) (by decide) rfl ?_
                    refine ex_icmp_lt (off := 13) (tgt := 144) (np := 134) C (by decide +kernel) (by decide) rfl (fun h72 => ?_) (fun h72 => ?_)
                    · skip
                      refine ex_iconst (n := 4) (v := 4) (np := 145) C (by decide +kernel) (by decide) rfl ?_
                      refine ex_putf (q := 11) (w1 := (WT (sI 5 (4 : Int32) (sI 7 (0 : Int32) (sI 6 (τ.1 3) τ))))) (np := 148) C hc_X11 hin_X11 (by decide) tyX11_ok nmX11 tg_1386 rfl (by decide +kernel) (WT_0 _) (Nat.le_of_ble_eq_true rfl) rfl rfl (WT_0_11 _ _) rfl ?_
                      refine ex_aload_n (q := 0) (x := 0) (np := 149) C (by decide +kernel) rfl rfl ?_
                      refine ex_iload_n (q := 1) (x := r56) (np := 150) C (by decide +kernel) rfl rfl ?_
                      refine ex_putf (q := 14) (w1 := (WT (sI 8 r56 (sI 5 (4 : Int32) (sI 7 (0 : Int32) (sI 6 (τ.1 3) τ)))))) (np := 153) C hc_X11 hin_X11 (by decide) tyX11_ok nmX11 tg_1389 rfl (by decide +kernel) (WT_0 _) (Nat.le_of_ble_eq_true rfl) rfl rfl (WT_0_14 _ _) rfl ?_
                      refine ex_aload_n (q := 0) (x := 0) (np := 154) C (by decide +kernel) rfl rfl ?_
                      refine ex_dup (np := 155) C rfl (by decide +kernel) rfl ?_
                      refine ex_getf (q := 4) (v := .int (τ.1 3)) (np := 158) C hc_X11 hin_X11 (by decide) tg_1379 (by decide +kernel) (WT_0 _) rfl rfl ?_
                      refine ex_iconst (n := 1) (v := 1) (np := 159) C (by decide +kernel) (by decide) rfl ?_
                      refine ex_iadd (v := ((τ.1 3) + (1 : Int32))) (np := 160) C (by decide +kernel) rfl rfl ?_
                      refine ex_putf (q := 4) (w1 := (WT (sI 3 ((τ.1 3) + (1 : Int32)) (sI 8 r56 (sI 5 (4 : Int32) (sI 7 (0 : Int32) (sI 6 (τ.1 3) τ))))))) (np := 163) C hc_X11 hin_X11 (by decide) tyX11_ok nmX11 tg_1379 rfl (by decide +kernel) (WT_0 _) (Nat.le_of_ble_eq_true rfl) rfl rfl (WT_0_4 _ _) rfl ?_
                      refine ex_vret C hr hlk (by decide +kernel) (Nat.le_refl _) (Nat.le_refl _) ?_
                      have E9 : B_next σ = (sI 3 ((τ.1 3) + (1 : Int32)) (sI 8 r56 (sI 5 (4 : Int32) (sI 7 (0 : Int32) (sI 6 (τ.1 3) τ))))) := (h9.trans (by unfold B_nxt; exact (if_pos h36).trans ((if_pos h55).trans ((ex_lt_eq q57).trans ((if_neg h58).trans ((ex_lt_eq q60).trans ((if_pos h61).trans ((ex_lt_eq q65).trans ((if_pos h66).trans ((if_neg h69).trans ((if_neg h70).trans ((if_neg h71).trans ((if_pos h72).trans (rfl))))))))))))))
                      rw [E9]
                    · skip
                      refine ex_iload_n (q := 1) (x := r56) (np := 135) C (by decide +kernel) rfl rfl ?_
                      refine ex_bipush (n := 62) (v := 62) (np := 137) C (by decide +kernel) (by decide) rfl ?_
                      refine ex_icmp_gt (off := 7) (tgt := 144) (np := 140) C (by decide +kernel) (by decide) rfl (fun h73 => ?_) (fun h73 => ?_)
                      · skip
                        refine ex_iconst (n := 4) (v := 4) (np := 145) C (by decide +kernel) (by decide) rfl ?_
                        refine ex_putf (q := 11) (w1 := (WT (sI 5 (4 : Int32) (sI 7 (0 : Int32) (sI 6 (τ.1 3) τ))))) (np := 148) C hc_X11 hin_X11 (by decide) tyX11_ok nmX11 tg_1386 rfl (by decide +kernel) (WT_0 _) (Nat.le_of_ble_eq_true rfl) rfl rfl (WT_0_11 _ _) rfl ?_
                        refine ex_aload_n (q := 0) (x := 0) (np := 149) C (by decide +kernel) rfl rfl ?_
                        refine ex_iload_n (q := 1) (x := r56) (np := 150) C (by decide +kernel) rfl rfl ?_
                        refine ex_putf (q := 14) (w1 := (WT (sI 8 r56 (sI 5 (4 : Int32) (sI 7 (0 : Int32) (sI 6 (τ.1 3) τ)))))) (np := 153) C hc_X11 hin_X11 (by decide) tyX11_ok nmX11 tg_1389 rfl (by decide +kernel) (WT_0 _) (Nat.le_of_ble_eq_true rfl) rfl rfl (WT_0_14 _ _) rfl ?_
                        refine ex_aload_n (q := 0) (x := 0) (np := 154) C (by decide +kernel) rfl rfl ?_
                        refine ex_dup (np := 155) C rfl (by decide +kernel) rfl ?_
                        refine ex_getf (q := 4) (v := .int (τ.1 3)) (np := 158) C hc_X11 hin_X11 (by decide) tg_1379 (by decide +kernel) (WT_0 _) rfl rfl ?_
                        refine ex_iconst (n := 1) (v := 1) (np := 159) C (by decide +kernel) (by decide) rfl ?_
                        refine ex_iadd (v := ((τ.1 3) + (1 : Int32))) (np := 160) C (by decide +kernel) rfl rfl ?_
                        refine ex_putf (q := 4) (w1 := (WT (sI 3 ((τ.1 3) + (1 : Int32)) (sI 8 r56 (sI 5 (4 : Int32) (sI 7 (0 : Int32) (sI 6 (τ.1 3) τ))))))) (np := 163) C hc_X11 hin_X11 (by decide) tyX11_ok nmX11 tg_1379 rfl (by decide +kernel) (WT_0 _) (Nat.le_of_ble_eq_true rfl) rfl rfl (WT_0_4 _ _) rfl ?_
                        refine ex_vret C hr hlk (by decide +kernel) (Nat.le_refl _) (Nat.le_refl _) ?_
                        have E9 : B_next σ = (sI 3 ((τ.1 3) + (1 : Int32)) (sI 8 r56 (sI 5 (4 : Int32) (sI 7 (0 : Int32) (sI 6 (τ.1 3) τ))))) := (h9.trans (by unfold B_nxt; exact (if_pos h36).trans ((if_pos h55).trans ((ex_lt_eq q57).trans ((if_neg h58).trans ((ex_lt_eq q60).trans ((if_pos h61).trans ((ex_lt_eq q65).trans ((if_pos h66).trans ((if_neg h69).trans ((if_neg h70).trans ((if_neg h71).trans ((if_neg h72).trans ((if_pos h73).trans (rfl)))))))))))))))
                        rw [E9]
                      · skip
                        refine ex_iconst (n := 3) (v := 3) (np := 141) C (by decide +kernel) (by decide) rfl ?_
                        refine ex_goto (off := 4) (tgt := 145) C (by decide +kernel) (by decide) ?_
                        refine ex_putf (q := 11) (w1 := (WT (sI 5 (3 : Int32) (sI 7 (0 : Int32) (sI 6 (τ.1 3) τ))))) (np := 148) C hc_X11 hin_X11 (by decide) tyX11_ok nmX11 tg_1386 rfl (by decide +kernel) (WT_0 _) (Nat.le_of_ble_eq_true rfl) rfl rfl (WT_0_11 _ _) rfl ?_
                        refine ex_aload_n (q := 0) (x := 0) (np := 149) C (by decide +kernel) rfl rfl ?_
                        refine ex_iload_n (q := 1) (x := r56) (np := 150) C (by decide +kernel) rfl rfl ?_
                        refine ex_putf (q := 14) (w1 := (WT (sI 8 r56 (sI 5 (3 : Int32) (sI 7 (0 : Int32) (sI 6 (τ.1 3) τ)))))) (np := 153) C hc_X11 hin_X11 (by decide) tyX11_ok nmX11 tg_1389 rfl (by decide +kernel) (WT_0 _) (Nat.le_of_ble_eq_true rfl) rfl rfl (WT_0_14 _ _) rfl ?_
                        refine ex_aload_n (q := 0) (x := 0) (np := 154) C (by decide +kernel) rfl rfl ?_
                        refine ex_dup (np := 155) C rfl (by decide +kernel) rfl ?_
                        refine ex_getf (q := 4) (v := .int (τ.1 3)) (np := 158) C hc_X11 hin_X11 (by decide) tg_1379 (by decide +kernel) (WT_0 _) rfl rfl ?_
                        refine ex_iconst (n := 1) (v := 1) (np := 159) C (by decide +kernel) (by decide) rfl ?_
                        refine ex_iadd (v := ((τ.1 3) + (1 : Int32))) (np := 160) C (by decide +kernel) rfl rfl ?_
                        refine ex_putf (q := 4) (w1 := (WT (sI 3 ((τ.1 3) + (1 : Int32)) (sI 8 r56 (sI 5 (3 : Int32) (sI 7 (0 : Int32) (sI 6 (τ.1 3) τ))))))) (np := 163) C hc_X11 hin_X11 (by decide) tyX11_ok nmX11 tg_1379 rfl (by decide +kernel) (WT_0 _) (Nat.le_of_ble_eq_true rfl) rfl rfl (WT_0_4 _ _) rfl ?_
                        refine ex_vret C hr hlk (by decide +kernel) (Nat.le_refl _) (Nat.le_refl _) ?_
                        have E9 : B_next σ = (sI 3 ((τ.1 3) + (1 : Int32)) (sI 8 r56 (sI 5 (3 : Int32) (sI 7 (0 : Int32) (sI 6 (τ.1 3) τ))))) := (h9.trans (by unfold B_nxt; exact (if_pos h36).trans ((if_pos h55).trans ((ex_lt_eq q57).trans ((if_neg h58).trans ((ex_lt_eq q60).trans ((if_pos h61).trans ((ex_lt_eq q65).trans ((if_pos h66).trans ((if_neg h69).trans ((if_neg h70).trans ((if_neg h71).trans ((if_neg h72).trans ((if_neg h73).trans (rfl)))))))))))))))
                        rw [E9]
        · skip
          refine ex_aload_n (q := 0) (x := 0) (np := 90) C (by decide +kernel) rfl rfl ?_
          refine ex_iconst (n := 0) (v := 0) (np := 91) C (by decide +kernel) (by decide) rfl ?_
          refine ex_putf (q := 11) (w1 := (WT (sI 5 (0 : Int32) (sI 7 (0 : Int32) (sI 6 (τ.1 3) τ))))) (np := 94) C hc_X11 hin_X11 (by decide) tyX11_ok nmX11 tg_1386 rfl (by decide +kernel) (WT_0 _) (Nat.le_of_ble_eq_true rfl) rfl rfl (WT_0_11 _ _) rfl ?_
          refine ex_vret C hr hlk (by decide +kernel) (Nat.le_refl _) (Nat.le_refl _) ?_
          have E9 : B_next σ = (sI 5 (0 : Int32) (sI 7 (0 : Int32) (sI 6 (τ.1 3) τ))) := (h9.trans (by unfold B_nxt; exact (if_pos h36).trans ((if_pos h55).trans ((ex_lt_eq q57).trans ((if_pos h58).trans (rfl))))))
          rw [E9]
      · skip
        refine ex_aload_n (q := 0) (x := 0) (np := 67) C (by decide +kernel) rfl rfl ?_
        refine ex_aload_n (q := 0) (x := 0) (np := 68) C (by decide +kernel) rfl rfl ?_
        refine ex_getf (q := 5) (v := .int (τ.1 4)) (np := 71) C hc_X11 hin_X11 (by decide) tg_1380 (by decide +kernel) (WT_0 _) rfl rfl ?_
        refine ex_putf (q := 12) (w1 := (WT (sI 6 (τ.1 4) (sI 7 (0 : Int32) (sI 6 (τ.1 3) τ))))) (np := 74) C hc_X11 hin_X11 (by decide) tyX11_ok nmX11 tg_1387 rfl (by decide +kernel) (WT_0 _) (Nat.le_of_ble_eq_true rfl) rfl rfl (WT_0_12 _ _) rfl ?_
        refine ex_aload_n (q := 0) (x := 0) (np := 75) C (by decide +kernel) rfl rfl ?_
        refine ex_iconst (n := 4) (v := 4) (np := 76) C (by decide +kernel) (by decide) rfl ?_
        refine ex_putf (q := 11) (w1 := (WT (sI 5 (4 : Int32) (sI 6 (τ.1 4) (sI 7 (0 : Int32) (sI 6 (τ.1 3) τ)))))) (np := 79) C hc_X11 hin_X11 (by decide) tyX11_ok nmX11 tg_1386 rfl (by decide +kernel) (WT_0 _) (Nat.le_of_ble_eq_true rfl) rfl rfl (WT_0_11 _ _) rfl ?_
        refine ex_vret C hr hlk (by decide +kernel) (Nat.le_refl _) (Nat.le_refl _) ?_
        have E9 : B_next σ = (sI 5 (4 : Int32) (sI 6 (τ.1 4) (sI 7 (0 : Int32) (sI 6 (τ.1 3) τ)))) := (h9.trans (by unfold B_nxt; exact (if_pos h36).trans ((if_neg h55).trans (rfl))))
        rw [E9]
  have hI9 := hI; unfold B_INV at hI9
  have loop : ∀ (k : Nat) (q : Int32), 0 ≤ q.toInt → q.toInt ≤ (σ.1 2).toInt → (σ.1 2).toInt - q.toInt < k → B_next σ = B_nxt (sI 3 (B_sk σ k q) σ) → ex_okP p l e R s m below meth c 4 X D A [.ref 0] (fun _ w => w = WT (B_next σ)) none (WT (sI 3 q σ)) 0 [(0, .ref 0)] [] := by
    intro k
    induction k with
    | zero => intro q h0 h1 hk hs; exfalso; omega
    | succ k ih =>
      intro q h0 h1 hk hs
      have hIq : B_INV (sI 3 q σ) := B_INV_pos hI h0 h1
      refine ex_aload_n (q := 0) (x := 0) (np := 1) C (by decide +kernel) rfl rfl ?_
      refine ex_call_i (np := 4) (fun ws H locs ls hR hsz => ex_runV (C1 := "") C (m_X11_peek_T d (by omega) (sI 3 q σ) hIq) hd1 hd2 (by decide) hy_X11_peek tg_1544 hc_X11 rfl (WT_0 _) rfl rfl (Nat.le_of_ble_eq_true rfl) rfl tg_1541 tg_1543 tg_84 tg_158 (by decide +kernel) ws H locs ls hR hsz (Nat.zero_le _) (Nat.zero_le _)) rfl (fun r74 w1 hpo => ?_)
      obtain ⟨q75, rfl⟩ := hpo
      refine ex_bipush (n := 32) (v := 32) (np := 6) C (by decide +kernel) (by decide) rfl ?_
      refine ex_icmp_eq (off := 12) (tgt := 18) (np := 9) C (by decide +kernel) (by decide) rfl (fun h76 => ?_) (fun h76 => ?_)
      · skip
        refine ex_aload_n (q := 0) (x := 0) (np := 19) C (by decide +kernel) rfl rfl ?_
        refine ex_dup (np := 20) C rfl (by decide +kernel) rfl ?_
        refine ex_getf (q := 4) (v := .int q) (np := 23) C hc_X11 hin_X11 (by decide) tg_1379 (by decide +kernel) (WT_0 _) rfl rfl ?_
        refine ex_iconst (n := 1) (v := 1) (np := 24) C (by decide +kernel) (by decide) rfl ?_
        refine ex_iadd (v := (q + (1 : Int32))) (np := 25) C (by decide +kernel) rfl rfl ?_
        refine ex_putf (q := 4) (w1 := (WT (sI 3 (q + (1 : Int32)) (sI 3 q σ)))) (np := 28) C hc_X11 hin_X11 (by decide) tyX11_ok nmX11 tg_1379 rfl (by decide +kernel) (WT_0 _) (Nat.le_of_ble_eq_true rfl) rfl rfl (WT_0_4 _ _) rfl ?_
        refine ex_goto (off := (-28)) (tgt := 0) C (by decide +kernel) (by decide) ?_
        have hlt : q.toInt < (σ.1 2).toInt := B_peek_lt (σ := sI 3 q σ) q75 (ex_n1 (Or.inl h76))
        rw [ex_ii]
        exact ih _ (by rw [ex_inc hlt]; omega) (by rw [ex_inc hlt]; omega) (by rw [ex_inc hlt]; omega) (hs.trans (congrArg (fun x => B_nxt (sI 3 x σ)) (B_sk_s.trans ((ex_lt_eq q75).trans ((if_pos h76).trans (rfl))))))
      · skip
        refine ex_aload_n (q := 0) (x := 0) (np := 10) C (by decide +kernel) rfl rfl ?_
        refine ex_call_i (np := 13) (fun ws H locs ls hR hsz => ex_runV (C1 := "") C (m_X11_peek_T d (by omega) (sI 3 q σ) hIq) hd1 hd2 (by decide) hy_X11_peek tg_1544 hc_X11 rfl (WT_0 _) rfl rfl (Nat.le_of_ble_eq_true rfl) rfl tg_1541 tg_1543 tg_84 tg_158 (by decide +kernel) ws H locs ls hR hsz (Nat.zero_le _) (Nat.zero_le _)) rfl (fun r77 w1 hpo => ?_)
        obtain ⟨q78, rfl⟩ := hpo
        refine ex_bipush (n := 10) (v := 10) (np := 15) C (by decide +kernel) (by decide) rfl ?_
        refine ex_icmp_ne (off := 16) (tgt := 31) (np := 18) C (by decide +kernel) (by decide) rfl (fun h79 => ?_) (fun h79 => ?_)
        · skip
          exact rest _ hIq (hs.trans (congrArg (fun x => B_nxt (sI 3 x σ)) (B_sk_s.trans ((ex_lt_eq q75).trans ((if_neg h76).trans ((ex_lt_eq q78).trans ((if_neg h79).trans (rfl))))))))
        · skip
          refine ex_aload_n (q := 0) (x := 0) (np := 19) C (by decide +kernel) rfl rfl ?_
          refine ex_dup (np := 20) C rfl (by decide +kernel) rfl ?_
          refine ex_getf (q := 4) (v := .int q) (np := 23) C hc_X11 hin_X11 (by decide) tg_1379 (by decide +kernel) (WT_0 _) rfl rfl ?_
          refine ex_iconst (n := 1) (v := 1) (np := 24) C (by decide +kernel) (by decide) rfl ?_
          refine ex_iadd (v := (q + (1 : Int32))) (np := 25) C (by decide +kernel) rfl rfl ?_
          refine ex_putf (q := 4) (w1 := (WT (sI 3 (q + (1 : Int32)) (sI 3 q σ)))) (np := 28) C hc_X11 hin_X11 (by decide) tyX11_ok nmX11 tg_1379 rfl (by decide +kernel) (WT_0 _) (Nat.le_of_ble_eq_true rfl) rfl rfl (WT_0_4 _ _) rfl ?_
          refine ex_goto (off := (-28)) (tgt := 0) C (by decide +kernel) (by decide) ?_
          have hlt : q.toInt < (σ.1 2).toInt := B_peek_lt (σ := sI 3 q σ) q78 (ex_n1 (Or.inr h79))
          rw [ex_ii]
          exact ih _ (by rw [ex_inc hlt]; omega) (by rw [ex_inc hlt]; omega) (by rw [ex_inc hlt]; omega) (hs.trans (congrArg (fun x => B_nxt (sI 3 x σ)) (B_sk_s.trans ((ex_lt_eq q75).trans ((if_neg h76).trans ((ex_lt_eq q78).trans ((if_pos h79).trans (rfl))))))))
  have h9 := loop 941 (σ.1 3) (by omega) (by omega) (by omega) rfl
  rw [ex_id (k := 3) (σ := σ) (v := σ.1 3) rfl] at h9
  exact h9
set_option maxRecDepth 100000 in
set_option maxHeartbeats 4000000 in
theorem m_X11_looksAt_T {l : Launch} {X : ab_X} {D : va_G} {A : ex_A} (d : Nat) (hd : 3 ≤ d) (fr : Int32) (ma : Int32) (σ : ex_S) (hI : B_INV σ) (hfm : (0 ≤ (fr).toInt ∧ 0 ≤ (ma).toInt) ∧ (fr).toInt + (ma).toInt ≤ 30) : ex_ctr l X D A d yX11_looksAt cX11_looksAt 3 (some .boolean) (WT σ) [.ref 0, .int fr, .int ma] (fun r w => r = (B_looksAt fr ma σ).1 ∧ w = WT (B_looksAt fr ma σ).2) := by
  obtain ⟨d, rfl⟩ : ∃ d9, d = d9 + 1 := ⟨d - 1, by omega⟩
  refine ex_meth (own := RX11) rfl (by decide) (Nat.le_of_ble_eq_true rfl) (fun p e R s m below meth c C hr hlk hd1 hd2 => ?_)
  show ex_ok p l e R s m _ below meth c 0 0 _ 3 X D A (WT σ) 0 [(0, .ref 0), (1, .int fr), (2, .int ma)] []
  refine ex_aload_n (q := 0) (x := 0) (np := 1) C (by decide +kernel) rfl rfl ?_
  refine ex_call_i (np := 4) (fun ws H locs ls hR hsz => ex_runV (C1 := "") C (m_X11_isName_T d (by omega) σ) hd1 hd2 (by decide) hy_X11_isName tg_1574 hc_X11 rfl (WT_0 _) rfl rfl (Nat.le_of_ble_eq_true rfl) rfl tg_1571 tg_1573 tg_90 tg_158 (by decide +kernel) ws H locs ls hR hsz (Nat.zero_le _) (Nat.zero_le _)) rfl (fun r1 w1 hpo => ?_)
  obtain ⟨q2, rfl⟩ := hpo
  refine ex_if_ne (off := 9) (tgt := 13) (np := 7) C (by decide +kernel) (by decide) rfl (fun h3 => ?_) (fun h3 => ?_)
  · skip
    refine ex_aload_n (q := 0) (x := 0) (np := 14) C (by decide +kernel) rfl rfl ?_
    refine ex_aload_n (q := 0) (x := 0) (np := 15) C (by decide +kernel) rfl rfl ?_
    refine ex_iload_n (q := 1) (x := fr) (np := 16) C (by decide +kernel) rfl rfl ?_
    refine ex_iload_n (q := 2) (x := ma) (np := 17) C (by decide +kernel) rfl rfl ?_
    refine ex_call_i (np := 20) (fun ws H locs ls hR hsz => ex_runV (C1 := "") C (m_X11_find_T d (by omega) fr ma σ hfm) hd1 hd2 (by decide) hy_X11_find tg_1578 hc_X11 rfl (WT_0 _) rfl rfl (Nat.le_of_ble_eq_true rfl) rfl tg_1575 tg_1577 tg_91 tg_158 (by decide +kernel) ws H locs ls hR hsz (Nat.zero_le _) (Nat.zero_le _)) rfl (fun r4 w1 hpo => ?_)
    obtain ⟨q5, rfl⟩ := hpo
    refine ex_putf (q := 18) (w1 := (WT (sI 11 r4 σ))) (np := 23) C hc_X11 hin_X11 (by decide) tyX11_ok nmX11 tg_1393 rfl (by decide +kernel) (WT_0 _) (Nat.le_of_ble_eq_true rfl) rfl rfl (WT_0_18 _ _) rfl ?_
    refine ex_aload_n (q := 0) (x := 0) (np := 24) C (by decide +kernel) rfl rfl ?_
    refine ex_getf (q := 18) (v := .int r4) (np := 27) C hc_X11 hin_X11 (by decide) tg_1393 (by decide +kernel) (WT_0 _) rfl rfl ?_
    refine ex_if_ge (off := 11) (tgt := 38) (np := 30) C (by decide +kernel) (by decide) rfl (fun h6 => ?_) (fun h6 => ?_)
    · skip
      refine ex_iconst (n := 1) (v := 1) (np := 39) C (by decide +kernel) (by decide) rfl ?_
      refine ex_goto (off := 4) (tgt := 43) C (by decide +kernel) (by decide) ?_
      have E9 : B_looksAt fr ma σ = ((1 : Int32), (sI 11 r4 σ)) := by unfold B_looksAt; exact (ex_lt_eq q2).trans ((if_neg h3).trans ((ex_lt_eq q5).trans ((if_neg h6).trans (rfl))))
      exact ex_iret C hr hlk (by decide +kernel) rfl (Nat.le_refl _) (Nat.le_refl _) (by rw [E9]; exact ⟨rfl, rfl⟩)
    · skip
      refine ex_aload_n (q := 0) (x := 0) (np := 31) C (by decide +kernel) rfl rfl ?_
      refine ex_iconst (n := 3) (v := 3) (np := 32) C (by decide +kernel) (by decide) rfl ?_
      obtain ⟨r7, σ8, q10⟩ : ∃ r x, B_bad (3 : Int32) (sI 11 r4 σ) = (r, x) := ex_pair _
      refine ex_call_i (np := 35) (fun ws H locs ls hR hsz => ex_runV (C1 := "") C (m_X11_bad_T d (by omega) (3 : Int32) (sI 11 r4 σ)) hd1 hd2 (by decide) hy_X11_bad tg_1566 hc_X11 rfl (WT_0 _) rfl rfl (Nat.le_of_ble_eq_true rfl) rfl tg_1563 tg_1565 tg_88 tg_158 (by decide +kernel) ws H locs ls hR hsz (Nat.zero_le _) (Nat.zero_le _)) rfl (fun r9 w1 hpo => ?_)
      rw [q10] at hpo
      have hp1 : r7 = r9 := hpo.1.symm
      have hp2 := hpo.2
      clear hpo; subst hp1; subst hp2
      have hI11 := inv_X11_bad (3 : Int32) (sI 11 r4 σ) hI; rw [q10] at hI11
      refine ex_if_eq (off := 7) (tgt := 42) (np := 38) C (by decide +kernel) (by decide) rfl (fun h12 => ?_) (fun h12 => ?_)
      · skip
        refine ex_iconst (n := 0) (v := 0) (np := 43) C (by decide +kernel) (by decide) rfl ?_
        have E9 : B_looksAt fr ma σ = ((0 : Int32), σ8) := by unfold B_looksAt; exact (ex_lt_eq q2).trans ((if_neg h3).trans ((ex_lt_eq q5).trans ((if_pos h6).trans ((ex_bd_eq q10).trans ((if_pos h12).trans (rfl))))))
        exact ex_iret C hr hlk (by decide +kernel) rfl (Nat.le_refl _) (Nat.le_refl _) (by rw [E9]; exact ⟨rfl, rfl⟩)
      · skip
        refine ex_iconst (n := 1) (v := 1) (np := 39) C (by decide +kernel) (by decide) rfl ?_
        refine ex_goto (off := 4) (tgt := 43) C (by decide +kernel) (by decide) ?_
        have E9 : B_looksAt fr ma σ = ((1 : Int32), σ8) := by unfold B_looksAt; exact (ex_lt_eq q2).trans ((if_neg h3).trans ((ex_lt_eq q5).trans ((if_pos h6).trans ((ex_bd_eq q10).trans ((if_neg h12).trans (rfl))))))
        exact ex_iret C hr hlk (by decide +kernel) rfl (Nat.le_refl _) (Nat.le_refl _) (by rw [E9]; exact ⟨rfl, rfl⟩)
  · skip
    refine ex_aload_n (q := 0) (x := 0) (np := 8) C (by decide +kernel) rfl rfl ?_
    refine ex_iconst (n := 1) (v := 1) (np := 9) C (by decide +kernel) (by decide) rfl ?_
    obtain ⟨r13, σ14, q15⟩ : ∃ r x, B_bad (1 : Int32) σ = (r, x) := ex_pair _
    refine ex_call_i (np := 12) (fun ws H locs ls hR hsz => ex_runV (C1 := "") C (m_X11_bad_T d (by omega) (1 : Int32) σ) hd1 hd2 (by decide) hy_X11_bad tg_1566 hc_X11 rfl (WT_0 _) rfl rfl (Nat.le_of_ble_eq_true rfl) rfl tg_1563 tg_1565 tg_88 tg_158 (by decide +kernel) ws H locs ls hR hsz (Nat.zero_le _) (Nat.zero_le _)) rfl (fun r9 w1 hpo => ?_)
    rw [q15] at hpo
    have hp1 : r13 = r9 := hpo.1.symm
    have hp2 := hpo.2
    clear hpo; subst hp1; subst hp2
    have hI16 := inv_X11_bad (1 : Int32) σ hI; rw [q15] at hI16
    have E9 : B_looksAt fr ma σ = (r13, σ14) := by unfold B_looksAt; exact (ex_lt_eq q2).trans ((if_pos h3).trans ((ex_bd_eq q15).trans (rfl)))
    exact ex_iret C hr hlk (by decide +kernel) (ex_nar (by have b9 := bl_X11_bad (1 : Int32) σ; rw [q15] at b9; exact b9)) (Nat.le_refl _) (Nat.le_refl _) (by rw [E9]; exact ⟨rfl, rfl⟩)
