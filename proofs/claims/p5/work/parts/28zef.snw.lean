/-! The sentence: the reference, walks. -/
set_option maxRecDepth 100000 in
set_option maxHeartbeats 4000000 in
theorem m_X11_code {l : Launch} {X : ab_X} {D : va_G} {A : ex_A} (d : Nat) (hd : 1 ≤ d) (what : Int32) (sg : Int32) (nn : Int32) (σ : ex_S) (hI : (0 ≤ (σ.1 22).toInt ∧ (σ.1 22).toInt ≤ 44)) : ex_ctr l X D A d yX11_code cX11_code 4 none (WT σ) [.ref 0, .int what, .int sg, .int nn] (fun _ w => w = WT (B_code what sg nn σ)) := by
  obtain ⟨d, rfl⟩ : ∃ d9, d = d9 + 1 := ⟨d - 1, by omega⟩
  refine ex_meth (own := RX11) rfl (by decide) (Nat.le_of_ble_eq_true rfl) (fun p e R s m below meth c C hr hlk hd1 hd2 => ?_)
  show ex_ok p l e R s m _ below meth c 0 0 _ 4 X D A (WT σ) 0 [(0, .ref 0), (1, .int what), (2, .int sg), (3, .int nn)] []
  refine ex_aload_n (q := 0) (x := 0) (np := 1) C (by decide +kernel) rfl rfl ?_
  refine ex_getf (q := 8) (v := .ref 4) (np := 4) C hc_X11 hin_X11 (by decide) tg_1383 (by decide +kernel) (WT_0 _) rfl rfl ?_
  refine ex_iconst (n := 3) (v := 3) (np := 5) C (by decide +kernel) (by decide) rfl ?_
  refine ex_aload_n (q := 0) (x := 0) (np := 6) C (by decide +kernel) rfl rfl ?_
  refine ex_getf (q := 42) (v := .int (σ.1 22)) (np := 9) C hc_X11 hin_X11 (by decide) tg_1417 (by decide +kernel) (WT_0 _) rfl rfl ?_
  refine ex_imul (v := ((3 : Int32) * (σ.1 22))) (np := 10) C (by decide +kernel) rfl rfl ?_
  refine ex_iload_n (q := 1) (x := what) (np := 11) C (by decide +kernel) rfl rfl ?_
  refine ex_iast (f := (σ.2.2.1 3)) (kk := (((3 : Int32) * (σ.1 22))).toNatClampNeg) (w1 := (WT (sR 3 (upd (σ.2.2.1 3) (((3 : Int32) * (σ.1 22))).toNatClampNeg what) σ))) (np := 12) C (by decide +kernel) (WT_4 _) (by have e9 := ex_m3 hI; omega) rfl (WT_4_s _ _) rfl ?_
  refine ex_aload_n (q := 0) (x := 0) (np := 13) C (by decide +kernel) rfl rfl ?_
  refine ex_getf (q := 8) (v := .ref 4) (np := 16) C hc_X11 hin_X11 (by decide) tg_1383 (by decide +kernel) (WT_0 _) rfl rfl ?_
  refine ex_iconst (n := 3) (v := 3) (np := 17) C (by decide +kernel) (by decide) rfl ?_
  refine ex_aload_n (q := 0) (x := 0) (np := 18) C (by decide +kernel) rfl rfl ?_
  refine ex_getf (q := 42) (v := .int (σ.1 22)) (np := 21) C hc_X11 hin_X11 (by decide) tg_1417 (by decide +kernel) (WT_0 _) rfl rfl ?_
  refine ex_imul (v := ((3 : Int32) * (σ.1 22))) (np := 22) C (by decide +kernel) rfl rfl ?_
  refine ex_iconst (n := 1) (v := 1) (np := 23) C (by decide +kernel) (by decide) rfl ?_
  refine ex_iadd (v := (((3 : Int32) * (σ.1 22)) + (1 : Int32))) (np := 24) C (by decide +kernel) rfl rfl ?_
  refine ex_iload_n (q := 2) (x := sg) (np := 25) C (by decide +kernel) rfl rfl ?_
  refine ex_iast (f := (upd (σ.2.2.1 3) (((3 : Int32) * (σ.1 22))).toNatClampNeg what)) (kk := ((((3 : Int32) * (σ.1 22)) + (1 : Int32))).toNatClampNeg) (w1 := (WT (sR 3 (upd (upd (σ.2.2.1 3) (((3 : Int32) * (σ.1 22))).toNatClampNeg what) ((((3 : Int32) * (σ.1 22)) + (1 : Int32))).toNatClampNeg sg) (sR 3 (upd (σ.2.2.1 3) (((3 : Int32) * (σ.1 22))).toNatClampNeg what) σ)))) (np := 26) C (by decide +kernel) (WT_4 _) (by have e9 := ex_m3a (y := (1 : Int32)) (k := 1) hI (by decide) (by decide); omega) rfl (WT_4_s _ _) rfl ?_
  refine ex_aload_n (q := 0) (x := 0) (np := 27) C (by decide +kernel) rfl rfl ?_
  refine ex_getf (q := 8) (v := .ref 4) (np := 30) C hc_X11 hin_X11 (by decide) tg_1383 (by decide +kernel) (WT_0 _) rfl rfl ?_
  refine ex_iconst (n := 3) (v := 3) (np := 31) C (by decide +kernel) (by decide) rfl ?_
  refine ex_aload_n (q := 0) (x := 0) (np := 32) C (by decide +kernel) rfl rfl ?_
  refine ex_getf (q := 42) (v := .int (σ.1 22)) (np := 35) C hc_X11 hin_X11 (by decide) tg_1417 (by decide +kernel) (WT_0 _) rfl rfl ?_
  refine ex_imul (v := ((3 : Int32) * (σ.1 22))) (np := 36) C (by decide +kernel) rfl rfl ?_
  refine ex_iconst (n := 2) (v := 2) (np := 37) C (by decide +kernel) (by decide) rfl ?_
  refine ex_iadd (v := (((3 : Int32) * (σ.1 22)) + (2 : Int32))) (np := 38) C (by decide +kernel) rfl rfl ?_
  refine ex_iload_n (q := 3) (x := nn) (np := 39) C (by decide +kernel) rfl rfl ?_
  refine ex_iast (f := (upd (upd (σ.2.2.1 3) (((3 : Int32) * (σ.1 22))).toNatClampNeg what) ((((3 : Int32) * (σ.1 22)) + (1 : Int32))).toNatClampNeg sg)) (kk := ((((3 : Int32) * (σ.1 22)) + (2 : Int32))).toNatClampNeg) (w1 := (WT (sR 3 (upd (upd (upd (σ.2.2.1 3) (((3 : Int32) * (σ.1 22))).toNatClampNeg what) ((((3 : Int32) * (σ.1 22)) + (1 : Int32))).toNatClampNeg sg) ((((3 : Int32) * (σ.1 22)) + (2 : Int32))).toNatClampNeg nn) (sR 3 (upd (upd (σ.2.2.1 3) (((3 : Int32) * (σ.1 22))).toNatClampNeg what) ((((3 : Int32) * (σ.1 22)) + (1 : Int32))).toNatClampNeg sg) (sR 3 (upd (σ.2.2.1 3) (((3 : Int32) * (σ.1 22))).toNatClampNeg what) σ))))) (np := 40) C (by decide +kernel) (WT_4 _) (by have e9 := ex_m3a (y := (2 : Int32)) (k := 2) hI (by decide) (by decide); omega) rfl (WT_4_s _ _) rfl ?_
  refine ex_aload_n (q := 0) (x := 0) (np := 41) C (by decide +kernel) rfl rfl ?_
  refine ex_dup (np := 42) C rfl (by decide +kernel) rfl ?_
  refine ex_getf (q := 42) (v := .int (σ.1 22)) (np := 45) C hc_X11 hin_X11 (by decide) tg_1417 (by decide +kernel) (WT_0 _) rfl rfl ?_
  refine ex_iconst (n := 1) (v := 1) (np := 46) C (by decide +kernel) (by decide) rfl ?_
  refine ex_iadd (v := ((σ.1 22) + (1 : Int32))) (np := 47) C (by decide +kernel) rfl rfl ?_
  refine ex_putf (q := 42) (w1 := (WT (sI 22 ((σ.1 22) + (1 : Int32)) (sR 3 (upd (upd (upd (σ.2.2.1 3) (((3 : Int32) * (σ.1 22))).toNatClampNeg what) ((((3 : Int32) * (σ.1 22)) + (1 : Int32))).toNatClampNeg sg) ((((3 : Int32) * (σ.1 22)) + (2 : Int32))).toNatClampNeg nn) (sR 3 (upd (upd (σ.2.2.1 3) (((3 : Int32) * (σ.1 22))).toNatClampNeg what) ((((3 : Int32) * (σ.1 22)) + (1 : Int32))).toNatClampNeg sg) (sR 3 (upd (σ.2.2.1 3) (((3 : Int32) * (σ.1 22))).toNatClampNeg what) σ)))))) (np := 50) C hc_X11 hin_X11 (by decide) tyX11_ok nmX11 tg_1417 rfl (by decide +kernel) (WT_0 _) (Nat.le_of_ble_eq_true rfl) rfl rfl (WT_0_42 _ _) rfl ?_
  refine ex_vret C hr hlk (by decide +kernel) (Nat.le_refl _) (Nat.le_refl _) ?_
  have E9 : B_code what sg nn σ = (sI 22 ((σ.1 22) + (1 : Int32)) (sR 3 (upd (upd (upd (σ.2.2.1 3) (((3 : Int32) * (σ.1 22))).toNatClampNeg what) ((((3 : Int32) * (σ.1 22)) + (1 : Int32))).toNatClampNeg sg) ((((3 : Int32) * (σ.1 22)) + (2 : Int32))).toNatClampNeg nn) (sR 3 (upd (upd (σ.2.2.1 3) (((3 : Int32) * (σ.1 22))).toNatClampNeg what) ((((3 : Int32) * (σ.1 22)) + (1 : Int32))).toNatClampNeg sg) (sR 3 (upd (σ.2.2.1 3) (((3 : Int32) * (σ.1 22))).toNatClampNeg what) σ)))) := by unfold B_code; exact rfl
  rw [E9]
set_option maxRecDepth 100000 in
set_option maxHeartbeats 4000000 in
theorem m_X11_nots {l : Launch} {X : ab_X} {D : va_G} {A : ex_A} (d : Nat) (hd : 2 ≤ d) (σ : ex_S) (hI : SB σ) : ex_ctr l X D A d yX11_nots cX11_nots 1 none (WT σ) [.ref 0] (fun _ w => w = WT (B_nots σ)) := by
  obtain ⟨d, rfl⟩ : ∃ d9, d = d9 + 1 := ⟨d - 1, by omega⟩
  refine ex_meth (own := RX11) rfl (by decide) (Nat.le_of_ble_eq_true rfl) (fun p e R s m below meth c C hr hlk hd1 hd2 => ?_)
  show ex_ok p l e R s m _ below meth c 0 0 _ 1 X D A (WT σ) 0 [(0, .ref 0)] []
  have loop : ∀ (n : Nat) (τ : ex_S), SB τ → (τ.1 24).toInt.toNat = n → B_nots σ = B_ns n τ → ex_okP p l e R s m below meth c 1 X D A [.ref 0] (fun _ w => w = WT (B_nots σ)) none (WT τ) 0 [(0, .ref 0)] [] := by
    intro n
    induction n with
    | zero =>
      intro τ hJ hn hs
      have hJ9 := hJ
      obtain ⟨i1, i2, i3⟩ := hJ9
      refine ex_aload_n (q := 0) (x := 0) (np := 1) C (by decide +kernel) rfl rfl ?_
      refine ex_getf (q := 44) (v := .int (τ.1 24)) (np := 4) C hc_X11 hin_X11 (by decide) tg_1419 (by decide +kernel) (WT_0 _) rfl rfl ?_
      refine ex_if_le (off := 50) (tgt := 54) (np := 7) C (by decide +kernel) (by decide) rfl (fun h1 => ?_) (fun h1 => ?_)
      · skip
        refine ex_vret C hr hlk (by decide +kernel) (Nat.le_refl _) (Nat.le_refl _) ?_
        have E9 : B_nots σ = τ := hs
        rw [E9]
      · skip
        exfalso; omega
    | succ n ih =>
      intro τ hJ hn hs
      have hJ9 := hJ
      obtain ⟨i1, i2, i3⟩ := hJ9
      refine ex_aload_n (q := 0) (x := 0) (np := 1) C (by decide +kernel) rfl rfl ?_
      refine ex_getf (q := 44) (v := .int (τ.1 24)) (np := 4) C hc_X11 hin_X11 (by decide) tg_1419 (by decide +kernel) (WT_0 _) rfl rfl ?_
      refine ex_if_le (off := 50) (tgt := 54) (np := 7) C (by decide +kernel) (by decide) rfl (fun h2 => ?_) (fun h2 => ?_)
      · skip
        refine ex_vret C hr hlk (by decide +kernel) (Nat.le_refl _) (Nat.le_refl _) ?_
        have E9 : B_nots σ = τ := (hs.trans (B_ns_s.trans ((if_neg h2).trans (rfl))))
        rw [E9]
      · skip
        refine ex_aload_n (q := 0) (x := 0) (np := 8) C (by decide +kernel) rfl rfl ?_
        refine ex_getf (q := 41) (v := .ref 7) (np := 11) C hc_X11 hin_X11 (by decide) tg_1416 (by decide +kernel) (WT_0 _) rfl rfl ?_
        refine ex_aload_n (q := 0) (x := 0) (np := 12) C (by decide +kernel) rfl rfl ?_
        refine ex_getf (q := 44) (v := .int (τ.1 24)) (np := 15) C hc_X11 hin_X11 (by decide) tg_1419 (by decide +kernel) (WT_0 _) rfl rfl ?_
        refine ex_iconst (n := 1) (v := 1) (np := 16) C (by decide +kernel) (by decide) rfl ?_
        refine ex_isub (v := ((τ.1 24) - (1 : Int32))) (np := 17) C (by decide +kernel) rfl rfl ?_
        refine ex_iald (f := (τ.2.2.1 4)) (kk := (((τ.1 24) - (1 : Int32))).toNatClampNeg) (np := 18) C (by decide +kernel) (WT_7 _) (by have t9 := ex_dec1 (x := τ.1 24) (by omega); omega) rfl rfl ?_
        refine ex_bipush (n := 20) (v := 20) (np := 20) C (by decide +kernel) (by decide) rfl ?_
        refine ex_icmp_ne (off := 34) (tgt := 54) (np := 23) C (by decide +kernel) (by decide) rfl (fun h3 => ?_) (fun h3 => ?_)
        · skip
          refine ex_vret C hr hlk (by decide +kernel) (Nat.le_refl _) (Nat.le_refl _) ?_
          have E9 : B_nots σ = τ := (hs.trans (B_ns_s.trans ((if_pos h2).trans ((if_neg h3).trans (rfl)))))
          rw [E9]
        · skip
          refine ex_aload_n (q := 0) (x := 0) (np := 24) C (by decide +kernel) rfl rfl ?_
          refine ex_dup (np := 25) C rfl (by decide +kernel) rfl ?_
          refine ex_getf (q := 44) (v := .int (τ.1 24)) (np := 28) C hc_X11 hin_X11 (by decide) tg_1419 (by decide +kernel) (WT_0 _) rfl rfl ?_
          refine ex_iconst (n := 1) (v := 1) (np := 29) C (by decide +kernel) (by decide) rfl ?_
          refine ex_isub (v := ((τ.1 24) - (1 : Int32))) (np := 30) C (by decide +kernel) rfl rfl ?_
          refine ex_putf (q := 44) (w1 := (WT (sI 24 ((τ.1 24) - (1 : Int32)) τ))) (np := 33) C hc_X11 hin_X11 (by decide) tyX11_ok nmX11 tg_1419 rfl (by decide +kernel) (WT_0 _) (Nat.le_of_ble_eq_true rfl) rfl rfl (WT_0_44 _ _) rfl ?_
          refine ex_aload_n (q := 0) (x := 0) (np := 34) C (by decide +kernel) rfl rfl ?_
          refine ex_dup (np := 35) C rfl (by decide +kernel) rfl ?_
          refine ex_getf (q := 45) (v := .int (τ.1 25)) (np := 38) C hc_X11 hin_X11 (by decide) tg_1420 (by decide +kernel) (WT_0 _) rfl rfl ?_
          refine ex_iconst (n := 1) (v := 1) (np := 39) C (by decide +kernel) (by decide) rfl ?_
          refine ex_isub (v := ((τ.1 25) - (1 : Int32))) (np := 40) C (by decide +kernel) rfl rfl ?_
          refine ex_putf (q := 45) (w1 := (WT (sI 25 ((τ.1 25) - (1 : Int32)) (sI 24 ((τ.1 24) - (1 : Int32)) τ)))) (np := 43) C hc_X11 hin_X11 (by decide) tyX11_ok nmX11 tg_1420 rfl (by decide +kernel) (WT_0 _) (Nat.le_of_ble_eq_true rfl) rfl rfl (WT_0_45 _ _) rfl ?_
          refine ex_aload_n (q := 0) (x := 0) (np := 44) C (by decide +kernel) rfl rfl ?_
          refine ex_bipush (n := 20) (v := 20) (np := 46) C (by decide +kernel) (by decide) rfl ?_
          refine ex_iconst (n := 0) (v := 0) (np := 47) C (by decide +kernel) (by decide) rfl ?_
          refine ex_iconst (n := 0) (v := 0) (np := 48) C (by decide +kernel) (by decide) rfl ?_
          obtain ⟨σ4, q5⟩ : ∃ x, x = B_code (20 : Int32) (0 : Int32) (0 : Int32) (sI 25 ((τ.1 25) - (1 : Int32)) (sI 24 ((τ.1 24) - (1 : Int32)) τ)) := ⟨_, rfl⟩
          refine ex_call_v (np := 51) (fun ws H locs ls hR hsz => ex_runV (C1 := "") C (m_X11_code d (by omega) (20 : Int32) (0 : Int32) (0 : Int32) (sI 25 ((τ.1 25) - (1 : Int32)) (sI 24 ((τ.1 24) - (1 : Int32)) τ)) (show 0 ≤ (τ.1 22).toInt ∧ (τ.1 22).toInt ≤ 44 from ⟨by omega, by omega⟩)) hd1 hd2 (by decide) hy_X11_code tg_1911 hc_X11 rfl (WT_0 _) rfl rfl (Nat.le_of_ble_eq_true rfl) rfl tg_1908 tg_1910 tg_135 tg_158 (by decide +kernel) ws H locs ls hR hsz (Nat.zero_le _) (Nat.zero_le _)) rfl (fun w1 hpo => ?_)
          rw [← q5] at hpo
          subst hpo
          have hI6 := inv_X11_code (20 : Int32) (0 : Int32) (0 : Int32) (sI 25 ((τ.1 25) - (1 : Int32)) (sI 24 ((τ.1 24) - (1 : Int32)) τ)) (show 0 ≤ (τ.1 22).toInt ∧ (τ.1 22).toInt ≤ 44 from ⟨by omega, by omega⟩); rw [← q5] at hI6
          refine ex_goto (off := (-51)) (tgt := 0) C (by decide +kernel) (by decide) ?_
          have t9 := ex_dec1 (x := τ.1 24) (by omega)
          have k22 : (σ4.1 22).toInt = (τ.1 22).toInt + 1 := by rw [q5, B_code_22]; exact ex_inc (n := 100) (by have e9 : (100 : Int32).toInt = 100 := (by decide); show (τ.1 22).toInt < _; omega)
          have k24 : (σ4.1 24).toInt = (τ.1 24).toInt - 1 := by rw [q5, B_code_k (by decide)]; exact t9
          exact ih σ4 ⟨by omega, by omega, by omega⟩ (by omega) (hs.trans (B_ns_s.trans ((if_pos h2).trans ((if_pos h3).trans ((congrArg (B_ns n) q5.symm))))))
  exact loop _ σ hI rfl rfl
set_option maxRecDepth 100000 in
set_option maxHeartbeats 4000000 in
theorem m_X11_joins {l : Launch} {X : ab_X} {D : va_G} {A : ex_A} (d : Nat) (hd : 2 ≤ d) (till : Int32) (σ : ex_S) (hI : SB σ) : ex_ctr l X D A d yX11_joins cX11_joins 2 none (WT σ) [.ref 0, .int till] (fun _ w => w = WT (B_joins till σ)) := by
  obtain ⟨d, rfl⟩ : ∃ d9, d = d9 + 1 := ⟨d - 1, by omega⟩
  refine ex_meth (own := RX11) rfl (by decide) (Nat.le_of_ble_eq_true rfl) (fun p e R s m below meth c C hr hlk hd1 hd2 => ?_)
  show ex_ok p l e R s m _ below meth c 0 0 _ 2 X D A (WT σ) 0 [(0, .ref 0), (1, .int till)] []
  have loop : ∀ (n : Nat) (τ : ex_S), SB τ → (τ.1 24).toInt.toNat = n → B_joins till σ = B_js till n τ → ex_okP p l e R s m below meth c 2 X D A [.ref 0, .int till] (fun _ w => w = WT (B_joins till σ)) none (WT τ) 0 [(0, .ref 0), (1, .int till)] [] := by
    intro n
    induction n with
    | zero =>
      intro τ hJ hn hs
      have hJ9 := hJ
      obtain ⟨i1, i2, i3⟩ := hJ9
      refine ex_aload_n (q := 0) (x := 0) (np := 1) C (by decide +kernel) rfl rfl ?_
      refine ex_getf (q := 44) (v := .int (τ.1 24)) (np := 4) C hc_X11 hin_X11 (by decide) tg_1419 (by decide +kernel) (WT_0 _) rfl rfl ?_
      refine ex_if_le (off := 69) (tgt := 73) (np := 7) C (by decide +kernel) (by decide) rfl (fun h1 => ?_) (fun h1 => ?_)
      · skip
        refine ex_vret C hr hlk (by decide +kernel) (Nat.le_refl _) (Nat.le_refl _) ?_
        have E9 : B_joins till σ = τ := hs
        rw [E9]
      · skip
        exfalso; omega
    | succ n ih =>
      intro τ hJ hn hs
      have hJ9 := hJ
      obtain ⟨i1, i2, i3⟩ := hJ9
      refine ex_aload_n (q := 0) (x := 0) (np := 1) C (by decide +kernel) rfl rfl ?_
      refine ex_getf (q := 44) (v := .int (τ.1 24)) (np := 4) C hc_X11 hin_X11 (by decide) tg_1419 (by decide +kernel) (WT_0 _) rfl rfl ?_
      refine ex_if_le (off := 69) (tgt := 73) (np := 7) C (by decide +kernel) (by decide) rfl (fun h2 => ?_) (fun h2 => ?_)
      · skip
        refine ex_vret C hr hlk (by decide +kernel) (Nat.le_refl _) (Nat.le_refl _) ?_
        have E9 : B_joins till σ = τ := (hs.trans (B_js_s.trans ((if_neg h2).trans (rfl))))
        rw [E9]
      · skip
        refine ex_aload_n (q := 0) (x := 0) (np := 8) C (by decide +kernel) rfl rfl ?_
        refine ex_getf (q := 41) (v := .ref 7) (np := 11) C hc_X11 hin_X11 (by decide) tg_1416 (by decide +kernel) (WT_0 _) rfl rfl ?_
        refine ex_aload_n (q := 0) (x := 0) (np := 12) C (by decide +kernel) rfl rfl ?_
        refine ex_getf (q := 44) (v := .int (τ.1 24)) (np := 15) C hc_X11 hin_X11 (by decide) tg_1419 (by decide +kernel) (WT_0 _) rfl rfl ?_
        refine ex_iconst (n := 1) (v := 1) (np := 16) C (by decide +kernel) (by decide) rfl ?_
        refine ex_isub (v := ((τ.1 24) - (1 : Int32))) (np := 17) C (by decide +kernel) rfl rfl ?_
        refine ex_iald (f := (τ.2.2.1 4)) (kk := (((τ.1 24) - (1 : Int32))).toNatClampNeg) (np := 18) C (by decide +kernel) (WT_7 _) (by have t9 := ex_dec1 (x := τ.1 24) (by omega); omega) rfl rfl ?_
        refine ex_bipush (n := 21) (v := 21) (np := 20) C (by decide +kernel) (by decide) rfl ?_
        refine ex_icmp_eq (off := 25) (tgt := 45) (np := 23) C (by decide +kernel) (by decide) rfl (fun h3 => ?_) (fun h3 => ?_)
        · skip
          refine ex_aload_n (q := 0) (x := 0) (np := 46) C (by decide +kernel) rfl rfl ?_
          refine ex_dup (np := 47) C rfl (by decide +kernel) rfl ?_
          refine ex_getf (q := 44) (v := .int (τ.1 24)) (np := 50) C hc_X11 hin_X11 (by decide) tg_1419 (by decide +kernel) (WT_0 _) rfl rfl ?_
          refine ex_iconst (n := 1) (v := 1) (np := 51) C (by decide +kernel) (by decide) rfl ?_
          refine ex_isub (v := ((τ.1 24) - (1 : Int32))) (np := 52) C (by decide +kernel) rfl rfl ?_
          refine ex_putf (q := 44) (w1 := (WT (sI 24 ((τ.1 24) - (1 : Int32)) τ))) (np := 55) C hc_X11 hin_X11 (by decide) tyX11_ok nmX11 tg_1419 rfl (by decide +kernel) (WT_0 _) (Nat.le_of_ble_eq_true rfl) rfl rfl (WT_0_44 _ _) rfl ?_
          refine ex_aload_n (q := 0) (x := 0) (np := 56) C (by decide +kernel) rfl rfl ?_
          refine ex_aload_n (q := 0) (x := 0) (np := 57) C (by decide +kernel) rfl rfl ?_
          refine ex_getf (q := 41) (v := .ref 7) (np := 60) C hc_X11 hin_X11 (by decide) tg_1416 (by decide +kernel) (WT_0 _) rfl rfl ?_
          refine ex_aload_n (q := 0) (x := 0) (np := 61) C (by decide +kernel) rfl rfl ?_
          refine ex_getf (q := 44) (v := .int ((τ.1 24) - (1 : Int32))) (np := 64) C hc_X11 hin_X11 (by decide) tg_1419 (by decide +kernel) (WT_0 _) rfl rfl ?_
          refine ex_iald (f := (τ.2.2.1 4)) (kk := (((τ.1 24) - (1 : Int32))).toNatClampNeg) (np := 65) C (by decide +kernel) (WT_7 _) (by have t9 := ex_dec1 (x := τ.1 24) (by omega); omega) rfl rfl ?_
          refine ex_iconst (n := 0) (v := 0) (np := 66) C (by decide +kernel) (by decide) rfl ?_
          refine ex_iconst (n := 0) (v := 0) (np := 67) C (by decide +kernel) (by decide) rfl ?_
          obtain ⟨σ4, q5⟩ : ∃ x, x = B_code ((τ.2.2.1 4) (((τ.1 24) - (1 : Int32))).toNatClampNeg) (0 : Int32) (0 : Int32) (sI 24 ((τ.1 24) - (1 : Int32)) τ) := ⟨_, rfl⟩
          refine ex_call_v (np := 70) (fun ws H locs ls hR hsz => ex_runV (C1 := "") C (m_X11_code d (by omega) ((τ.2.2.1 4) (((τ.1 24) - (1 : Int32))).toNatClampNeg) (0 : Int32) (0 : Int32) (sI 24 ((τ.1 24) - (1 : Int32)) τ) (show 0 ≤ (τ.1 22).toInt ∧ (τ.1 22).toInt ≤ 44 from ⟨by omega, by omega⟩)) hd1 hd2 (by decide) hy_X11_code tg_1911 hc_X11 rfl (WT_0 _) rfl rfl (Nat.le_of_ble_eq_true rfl) rfl tg_1908 tg_1910 tg_135 tg_158 (by decide +kernel) ws H locs ls hR hsz (Nat.zero_le _) (Nat.zero_le _)) rfl (fun w1 hpo => ?_)
          rw [← q5] at hpo
          subst hpo
          have hI6 := inv_X11_code ((τ.2.2.1 4) (((τ.1 24) - (1 : Int32))).toNatClampNeg) (0 : Int32) (0 : Int32) (sI 24 ((τ.1 24) - (1 : Int32)) τ) (show 0 ≤ (τ.1 22).toInt ∧ (τ.1 22).toInt ≤ 44 from ⟨by omega, by omega⟩); rw [← q5] at hI6
          refine ex_goto (off := (-70)) (tgt := 0) C (by decide +kernel) (by decide) ?_
          have t9 := ex_dec1 (x := τ.1 24) (by omega)
          have k22 : (σ4.1 22).toInt = (τ.1 22).toInt + 1 := by rw [q5, B_code_22]; exact ex_inc (n := 100) (by have e9 : (100 : Int32).toInt = 100 := (by decide); show (τ.1 22).toInt < _; omega)
          have k24 : (σ4.1 24).toInt = (τ.1 24).toInt - 1 := by rw [q5, B_code_k (by decide)]; exact t9
          exact ih σ4 ⟨by omega, by omega, by omega⟩ (by omega) (hs.trans (B_js_s.trans ((if_pos h2).trans ((if_pos h3).trans ((congrArg (B_js till n) q5.symm))))))
        · skip
          refine ex_aload_n (q := 0) (x := 0) (np := 24) C (by decide +kernel) rfl rfl ?_
          refine ex_getf (q := 41) (v := .ref 7) (np := 27) C hc_X11 hin_X11 (by decide) tg_1416 (by decide +kernel) (WT_0 _) rfl rfl ?_
          refine ex_aload_n (q := 0) (x := 0) (np := 28) C (by decide +kernel) rfl rfl ?_
          refine ex_getf (q := 44) (v := .int (τ.1 24)) (np := 31) C hc_X11 hin_X11 (by decide) tg_1419 (by decide +kernel) (WT_0 _) rfl rfl ?_
          refine ex_iconst (n := 1) (v := 1) (np := 32) C (by decide +kernel) (by decide) rfl ?_
          refine ex_isub (v := ((τ.1 24) - (1 : Int32))) (np := 33) C (by decide +kernel) rfl rfl ?_
          refine ex_iald (f := (τ.2.2.1 4)) (kk := (((τ.1 24) - (1 : Int32))).toNatClampNeg) (np := 34) C (by decide +kernel) (WT_7 _) (by have t9 := ex_dec1 (x := τ.1 24) (by omega); omega) rfl rfl ?_
          refine ex_bipush (n := 22) (v := 22) (np := 36) C (by decide +kernel) (by decide) rfl ?_
          refine ex_icmp_ne (off := 37) (tgt := 73) (np := 39) C (by decide +kernel) (by decide) rfl (fun h7 => ?_) (fun h7 => ?_)
          · skip
            refine ex_vret C hr hlk (by decide +kernel) (Nat.le_refl _) (Nat.le_refl _) ?_
            have E9 : B_joins till σ = τ := (hs.trans (B_js_s.trans ((if_pos h2).trans ((if_neg h3).trans ((if_neg h7).trans (rfl))))))
            rw [E9]
          · skip
            refine ex_iload_n (q := 1) (x := till) (np := 40) C (by decide +kernel) rfl rfl ?_
            refine ex_bipush (n := 22) (v := 22) (np := 42) C (by decide +kernel) (by decide) rfl ?_
            refine ex_icmp_ne (off := 31) (tgt := 73) (np := 45) C (by decide +kernel) (by decide) rfl (fun h8 => ?_) (fun h8 => ?_)
            · skip
              refine ex_vret C hr hlk (by decide +kernel) (Nat.le_refl _) (Nat.le_refl _) ?_
              have E9 : B_joins till σ = τ := (hs.trans (B_js_s.trans ((if_pos h2).trans ((if_neg h3).trans ((if_pos h7).trans ((if_neg h8).trans (rfl)))))))
              rw [E9]
            · skip
              refine ex_aload_n (q := 0) (x := 0) (np := 46) C (by decide +kernel) rfl rfl ?_
              refine ex_dup (np := 47) C rfl (by decide +kernel) rfl ?_
              refine ex_getf (q := 44) (v := .int (τ.1 24)) (np := 50) C hc_X11 hin_X11 (by decide) tg_1419 (by decide +kernel) (WT_0 _) rfl rfl ?_
              refine ex_iconst (n := 1) (v := 1) (np := 51) C (by decide +kernel) (by decide) rfl ?_
              refine ex_isub (v := ((τ.1 24) - (1 : Int32))) (np := 52) C (by decide +kernel) rfl rfl ?_
              refine ex_putf (q := 44) (w1 := (WT (sI 24 ((τ.1 24) - (1 : Int32)) τ))) (np := 55) C hc_X11 hin_X11 (by decide) tyX11_ok nmX11 tg_1419 rfl (by decide +kernel) (WT_0 _) (Nat.le_of_ble_eq_true rfl) rfl rfl (WT_0_44 _ _) rfl ?_
              refine ex_aload_n (q := 0) (x := 0) (np := 56) C (by decide +kernel) rfl rfl ?_
              refine ex_aload_n (q := 0) (x := 0) (np := 57) C (by decide +kernel) rfl rfl ?_
              refine ex_getf (q := 41) (v := .ref 7) (np := 60) C hc_X11 hin_X11 (by decide) tg_1416 (by decide +kernel) (WT_0 _) rfl rfl ?_
              refine ex_aload_n (q := 0) (x := 0) (np := 61) C (by decide +kernel) rfl rfl ?_
              refine ex_getf (q := 44) (v := .int ((τ.1 24) - (1 : Int32))) (np := 64) C hc_X11 hin_X11 (by decide) tg_1419 (by decide +kernel) (WT_0 _) rfl rfl ?_
              refine ex_iald (f := (τ.2.2.1 4)) (kk := (((τ.1 24) - (1 : Int32))).toNatClampNeg) (np := 65) C (by decide +kernel) (WT_7 _) (by have t9 := ex_dec1 (x := τ.1 24) (by omega); omega) rfl rfl ?_
              refine ex_iconst (n := 0) (v := 0) (np := 66) C (by decide +kernel) (by decide) rfl ?_
              refine ex_iconst (n := 0) (v := 0) (np := 67) C (by decide +kernel) (by decide) rfl ?_
              obtain ⟨σ10, q11⟩ : ∃ x, x = B_code ((τ.2.2.1 4) (((τ.1 24) - (1 : Int32))).toNatClampNeg) (0 : Int32) (0 : Int32) (sI 24 ((τ.1 24) - (1 : Int32)) τ) := ⟨_, rfl⟩
              refine ex_call_v (np := 70) (fun ws H locs ls hR hsz => ex_runV (C1 := "") C (m_X11_code d (by omega) ((τ.2.2.1 4) (((τ.1 24) - (1 : Int32))).toNatClampNeg) (0 : Int32) (0 : Int32) (sI 24 ((τ.1 24) - (1 : Int32)) τ) (show 0 ≤ (τ.1 22).toInt ∧ (τ.1 22).toInt ≤ 44 from ⟨by omega, by omega⟩)) hd1 hd2 (by decide) hy_X11_code tg_1911 hc_X11 rfl (WT_0 _) rfl rfl (Nat.le_of_ble_eq_true rfl) rfl tg_1908 tg_1910 tg_135 tg_158 (by decide +kernel) ws H locs ls hR hsz (Nat.zero_le _) (Nat.zero_le _)) rfl (fun w1 hpo => ?_)
              rw [← q11] at hpo
              subst hpo
              have hI12 := inv_X11_code ((τ.2.2.1 4) (((τ.1 24) - (1 : Int32))).toNatClampNeg) (0 : Int32) (0 : Int32) (sI 24 ((τ.1 24) - (1 : Int32)) τ) (show 0 ≤ (τ.1 22).toInt ∧ (τ.1 22).toInt ≤ 44 from ⟨by omega, by omega⟩); rw [← q11] at hI12
              refine ex_goto (off := (-70)) (tgt := 0) C (by decide +kernel) (by decide) ?_
              have t9 := ex_dec1 (x := τ.1 24) (by omega)
              have k22 : (σ10.1 22).toInt = (τ.1 22).toInt + 1 := by rw [q11, B_code_22]; exact ex_inc (n := 100) (by have e9 : (100 : Int32).toInt = 100 := (by decide); show (τ.1 22).toInt < _; omega)
              have k24 : (σ10.1 24).toInt = (τ.1 24).toInt - 1 := by rw [q11, B_code_k (by decide)]; exact t9
              exact ih σ10 ⟨by omega, by omega, by omega⟩ (by omega) (hs.trans (B_js_s.trans ((if_pos h2).trans ((if_neg h3).trans ((if_pos h7).trans ((if_pos h8).trans ((congrArg (B_js till n) q11.symm))))))))
  exact loop _ σ hI rfl rfl
set_option maxRecDepth 100000 in
set_option maxHeartbeats 4000000 in
theorem m_X11_leafOf {l : Launch} {X : ab_X} {D : va_G} {A : ex_A} (d : Nat) (hd : 2 ≤ d) (σ : ex_S) : ex_ctr l X D A d yX11_leafOf cX11_leafOf 1 (some .int) (WT σ) [.ref 0] (fun r w => r = B_leafOf σ ∧ w = WT σ) := by
  obtain ⟨d, rfl⟩ : ∃ d9, d = d9 + 1 := ⟨d - 1, by omega⟩
  refine ex_meth (own := RX11) rfl (by decide) (Nat.le_of_ble_eq_true rfl) (fun p e R s m below meth c C hr hlk hd1 hd2 => ?_)
  show ex_ok p l e R s m _ below meth c 0 0 _ 1 X D A (WT σ) 0 [(0, .ref 0)] []
  refine ex_aload_n (q := 0) (x := 0) (np := 1) C (by decide +kernel) rfl rfl ?_
  refine ex_ldc2 (np := 4) C tg_1365 (by decide +kernel) rfl ?_
  refine ex_call_i (np := 7) (fun ws H locs ls hR hsz => ex_runV (C1 := "") C (m_X11_isWord_T d (by omega) (491394656372 : Int64) σ) hd1 hd2 (by decide) hy_X11_isWord tg_1558 hc_X11 rfl (WT_0 _) rfl rfl (Nat.le_of_ble_eq_true rfl) rfl tg_1555 tg_1557 tg_86 tg_158 (by decide +kernel) ws H locs ls hR hsz (Nat.zero_le _) (Nat.zero_le _)) rfl (fun r1 w1 hpo => ?_)
  obtain ⟨q2, rfl⟩ := hpo
  refine ex_if_eq (off := 7) (tgt := 14) (np := 10) C (by decide +kernel) (by decide) rfl (fun h3 => ?_) (fun h3 => ?_)
  · skip
    refine ex_aload_n (q := 0) (x := 0) (np := 15) C (by decide +kernel) rfl rfl ?_
    refine ex_ldc2 (np := 18) C tg_1366 (by decide +kernel) rfl ?_
    refine ex_call_i (np := 21) (fun ws H locs ls hR hsz => ex_runV (C1 := "") C (m_X11_isWord_T d (by omega) (126892147762532 : Int64) σ) hd1 hd2 (by decide) hy_X11_isWord tg_1558 hc_X11 rfl (WT_0 _) rfl rfl (Nat.le_of_ble_eq_true rfl) rfl tg_1555 tg_1557 tg_86 tg_158 (by decide +kernel) ws H locs ls hR hsz (Nat.zero_le _) (Nat.zero_le _)) rfl (fun r4 w1 hpo => ?_)
    obtain ⟨q5, rfl⟩ := hpo
    refine ex_if_eq (off := 7) (tgt := 28) (np := 24) C (by decide +kernel) (by decide) rfl (fun h6 => ?_) (fun h6 => ?_)
    · skip
      refine ex_aload_n (q := 0) (x := 0) (np := 29) C (by decide +kernel) rfl rfl ?_
      refine ex_ldc2 (np := 32) C tg_1367 (by decide +kernel) rfl ?_
      refine ex_call_i (np := 35) (fun ws H locs ls hR hsz => ex_runV (C1 := "") C (m_X11_isWord_T d (by omega) (108243466675048 : Int64) σ) hd1 hd2 (by decide) hy_X11_isWord tg_1558 hc_X11 rfl (WT_0 _) rfl rfl (Nat.le_of_ble_eq_true rfl) rfl tg_1555 tg_1557 tg_86 tg_158 (by decide +kernel) ws H locs ls hR hsz (Nat.zero_le _) (Nat.zero_le _)) rfl (fun r7 w1 hpo => ?_)
      obtain ⟨q8, rfl⟩ := hpo
      refine ex_if_eq (off := 7) (tgt := 42) (np := 38) C (by decide +kernel) (by decide) rfl (fun h10 => ?_) (fun h10 => ?_)
      · skip
        refine ex_aload_n (q := 0) (x := 0) (np := 43) C (by decide +kernel) rfl rfl ?_
        refine ex_ldc2 (np := 46) C tg_1368 (by decide +kernel) rfl ?_
        refine ex_call_i (np := 49) (fun ws H locs ls hR hsz => ex_runV (C1 := "") C (m_X11_isWord_T d (by omega) (418363302244 : Int64) σ) hd1 hd2 (by decide) hy_X11_isWord tg_1558 hc_X11 rfl (WT_0 _) rfl rfl (Nat.le_of_ble_eq_true rfl) rfl tg_1555 tg_1557 tg_86 tg_158 (by decide +kernel) ws H locs ls hR hsz (Nat.zero_le _) (Nat.zero_le _)) rfl (fun r11 w1 hpo => ?_)
        obtain ⟨q12, rfl⟩ := hpo
        refine ex_if_eq (off := 7) (tgt := 56) (np := 52) C (by decide +kernel) (by decide) rfl (fun h13 => ?_) (fun h13 => ?_)
        · skip
          refine ex_aload_n (q := 0) (x := 0) (np := 57) C (by decide +kernel) rfl rfl ?_
          refine ex_ldc2 (np := 60) C tg_1350 (by decide +kernel) rfl ?_
          refine ex_call_i (np := 63) (fun ws H locs ls hR hsz => ex_runV (C1 := "") C (m_X11_isWord_T d (by omega) (1717662580 : Int64) σ) hd1 hd2 (by decide) hy_X11_isWord tg_1558 hc_X11 rfl (WT_0 _) rfl rfl (Nat.le_of_ble_eq_true rfl) rfl tg_1555 tg_1557 tg_86 tg_158 (by decide +kernel) ws H locs ls hR hsz (Nat.zero_le _) (Nat.zero_le _)) rfl (fun r14 w1 hpo => ?_)
          obtain ⟨q15, rfl⟩ := hpo
          refine ex_if_eq (off := 7) (tgt := 70) (np := 66) C (by decide +kernel) (by decide) rfl (fun h16 => ?_) (fun h16 => ?_)
          · skip
            refine ex_aload_n (q := 0) (x := 0) (np := 71) C (by decide +kernel) rfl rfl ?_
            refine ex_ldc2 (np := 74) C tg_1351 (by decide +kernel) rfl ?_
            refine ex_call_i (np := 77) (fun ws H locs ls hR hsz => ex_runV (C1 := "") C (m_X11_isWord_T d (by omega) (1936486263 : Int64) σ) hd1 hd2 (by decide) hy_X11_isWord tg_1558 hc_X11 rfl (WT_0 _) rfl rfl (Nat.le_of_ble_eq_true rfl) rfl tg_1555 tg_1557 tg_86 tg_158 (by decide +kernel) ws H locs ls hR hsz (Nat.zero_le _) (Nat.zero_le _)) rfl (fun r17 w1 hpo => ?_)
            obtain ⟨q18, rfl⟩ := hpo
            refine ex_if_eq (off := 7) (tgt := 84) (np := 80) C (by decide +kernel) (by decide) rfl (fun h19 => ?_) (fun h19 => ?_)
            · skip
              refine ex_aload_n (q := 0) (x := 0) (np := 85) C (by decide +kernel) rfl rfl ?_
              refine ex_ldc2 (np := 88) C tg_1369 (by decide +kernel) rfl ?_
              refine ex_call_i (np := 91) (fun ws H locs ls hR hsz => ex_runV (C1 := "") C (m_X11_isWord_T d (by omega) (108243635103086 : Int64) σ) hd1 hd2 (by decide) hy_X11_isWord tg_1558 hc_X11 rfl (WT_0 _) rfl rfl (Nat.le_of_ble_eq_true rfl) rfl tg_1555 tg_1557 tg_86 tg_158 (by decide +kernel) ws H locs ls hR hsz (Nat.zero_le _) (Nat.zero_le _)) rfl (fun r20 w1 hpo => ?_)
              obtain ⟨q21, rfl⟩ := hpo
              refine ex_if_eq (off := 8) (tgt := 99) (np := 94) C (by decide +kernel) (by decide) rfl (fun h22 => ?_) (fun h22 => ?_)
              · skip
                refine ex_aload_n (q := 0) (x := 0) (np := 100) C (by decide +kernel) rfl rfl ?_
                refine ex_ldc2 (np := 103) C tg_1370 (by decide +kernel) rfl ?_
                refine ex_call_i (np := 106) (fun ws H locs ls hR hsz => ex_runV (C1 := "") C (m_X11_isWord_T d (by omega) (121450625394034 : Int64) σ) hd1 hd2 (by decide) hy_X11_isWord tg_1558 hc_X11 rfl (WT_0 _) rfl rfl (Nat.le_of_ble_eq_true rfl) rfl tg_1555 tg_1557 tg_86 tg_158 (by decide +kernel) ws H locs ls hR hsz (Nat.zero_le _) (Nat.zero_le _)) rfl (fun r23 w1 hpo => ?_)
                obtain ⟨q24, rfl⟩ := hpo
                refine ex_if_eq (off := 8) (tgt := 114) (np := 109) C (by decide +kernel) (by decide) rfl (fun h25 => ?_) (fun h25 => ?_)
                · skip
                  refine ex_iconst (n := (-1)) (v := (-1)) (np := 115) C (by decide +kernel) (by decide) rfl ?_
                  have E9 : B_leafOf σ = (-1 : Int32) := by unfold B_leafOf; exact (ex_lt_eq q2).trans ((if_pos h3).trans ((ex_lt_eq q5).trans ((if_pos h6).trans ((ex_lt_eq q8).trans ((if_pos h10).trans ((ex_lt_eq q12).trans ((if_pos h13).trans ((ex_lt_eq q15).trans ((if_pos h16).trans ((ex_lt_eq q18).trans ((if_pos h19).trans ((ex_lt_eq q21).trans ((if_pos h22).trans ((ex_lt_eq q24).trans ((if_pos h25).trans (rfl))))))))))))))))
                  exact ex_iret C hr hlk (by decide +kernel) rfl (Nat.le_refl _) (Nat.le_refl _) ⟨E9.symm, rfl⟩
                · skip
                  refine ex_bipush (n := 7) (v := 7) (np := 111) C (by decide +kernel) (by decide) rfl ?_
                  refine ex_goto (off := 4) (tgt := 115) C (by decide +kernel) (by decide) ?_
                  have E9 : B_leafOf σ = (7 : Int32) := by unfold B_leafOf; exact (ex_lt_eq q2).trans ((if_pos h3).trans ((ex_lt_eq q5).trans ((if_pos h6).trans ((ex_lt_eq q8).trans ((if_pos h10).trans ((ex_lt_eq q12).trans ((if_pos h13).trans ((ex_lt_eq q15).trans ((if_pos h16).trans ((ex_lt_eq q18).trans ((if_pos h19).trans ((ex_lt_eq q21).trans ((if_pos h22).trans ((ex_lt_eq q24).trans ((if_neg h25).trans (rfl))))))))))))))))
                  exact ex_iret C hr hlk (by decide +kernel) rfl (Nat.le_refl _) (Nat.le_refl _) ⟨E9.symm, rfl⟩
              · skip
                refine ex_bipush (n := 6) (v := 6) (np := 96) C (by decide +kernel) (by decide) rfl ?_
                refine ex_goto (off := 19) (tgt := 115) C (by decide +kernel) (by decide) ?_
                have E9 : B_leafOf σ = (6 : Int32) := by unfold B_leafOf; exact (ex_lt_eq q2).trans ((if_pos h3).trans ((ex_lt_eq q5).trans ((if_pos h6).trans ((ex_lt_eq q8).trans ((if_pos h10).trans ((ex_lt_eq q12).trans ((if_pos h13).trans ((ex_lt_eq q15).trans ((if_pos h16).trans ((ex_lt_eq q18).trans ((if_pos h19).trans ((ex_lt_eq q21).trans ((if_neg h22).trans (rfl))))))))))))))
                exact ex_iret C hr hlk (by decide +kernel) rfl (Nat.le_refl _) (Nat.le_refl _) ⟨E9.symm, rfl⟩
            · skip
              refine ex_iconst (n := 5) (v := 5) (np := 81) C (by decide +kernel) (by decide) rfl ?_
              refine ex_goto (off := 34) (tgt := 115) C (by decide +kernel) (by decide) ?_
              have E9 : B_leafOf σ = (5 : Int32) := by unfold B_leafOf; exact (ex_lt_eq q2).trans ((if_pos h3).trans ((ex_lt_eq q5).trans ((if_pos h6).trans ((ex_lt_eq q8).trans ((if_pos h10).trans ((ex_lt_eq q12).trans ((if_pos h13).trans ((ex_lt_eq q15).trans ((if_pos h16).trans ((ex_lt_eq q18).trans ((if_neg h19).trans (rfl))))))))))))
              exact ex_iret C hr hlk (by decide +kernel) rfl (Nat.le_refl _) (Nat.le_refl _) ⟨E9.symm, rfl⟩
          · skip
            refine ex_iconst (n := 4) (v := 4) (np := 67) C (by decide +kernel) (by decide) rfl ?_
            refine ex_goto (off := 48) (tgt := 115) C (by decide +kernel) (by decide) ?_
            have E9 : B_leafOf σ = (4 : Int32) := by unfold B_leafOf; exact (ex_lt_eq q2).trans ((if_pos h3).trans ((ex_lt_eq q5).trans ((if_pos h6).trans ((ex_lt_eq q8).trans ((if_pos h10).trans ((ex_lt_eq q12).trans ((if_pos h13).trans ((ex_lt_eq q15).trans ((if_neg h16).trans (rfl))))))))))
            exact ex_iret C hr hlk (by decide +kernel) rfl (Nat.le_refl _) (Nat.le_refl _) ⟨E9.symm, rfl⟩
        · skip
          refine ex_iconst (n := 3) (v := 3) (np := 53) C (by decide +kernel) (by decide) rfl ?_
          refine ex_goto (off := 62) (tgt := 115) C (by decide +kernel) (by decide) ?_
          have E9 : B_leafOf σ = (3 : Int32) := by unfold B_leafOf; exact (ex_lt_eq q2).trans ((if_pos h3).trans ((ex_lt_eq q5).trans ((if_pos h6).trans ((ex_lt_eq q8).trans ((if_pos h10).trans ((ex_lt_eq q12).trans ((if_neg h13).trans (rfl))))))))
          exact ex_iret C hr hlk (by decide +kernel) rfl (Nat.le_refl _) (Nat.le_refl _) ⟨E9.symm, rfl⟩
      · skip
        refine ex_iconst (n := 2) (v := 2) (np := 39) C (by decide +kernel) (by decide) rfl ?_
        refine ex_goto (off := 76) (tgt := 115) C (by decide +kernel) (by decide) ?_
        have E9 : B_leafOf σ = (2 : Int32) := by unfold B_leafOf; exact (ex_lt_eq q2).trans ((if_pos h3).trans ((ex_lt_eq q5).trans ((if_pos h6).trans ((ex_lt_eq q8).trans ((if_neg h10).trans (rfl))))))
        exact ex_iret C hr hlk (by decide +kernel) rfl (Nat.le_refl _) (Nat.le_refl _) ⟨E9.symm, rfl⟩
    · skip
      refine ex_iconst (n := 1) (v := 1) (np := 25) C (by decide +kernel) (by decide) rfl ?_
      refine ex_goto (off := 90) (tgt := 115) C (by decide +kernel) (by decide) ?_
      have E9 : B_leafOf σ = (1 : Int32) := by unfold B_leafOf; exact (ex_lt_eq q2).trans ((if_pos h3).trans ((ex_lt_eq q5).trans ((if_neg h6).trans (rfl))))
      exact ex_iret C hr hlk (by decide +kernel) rfl (Nat.le_refl _) (Nat.le_refl _) ⟨E9.symm, rfl⟩
  · skip
    refine ex_iconst (n := 0) (v := 0) (np := 11) C (by decide +kernel) (by decide) rfl ?_
    refine ex_goto (off := 104) (tgt := 115) C (by decide +kernel) (by decide) ?_
    have E9 : B_leafOf σ = (0 : Int32) := by unfold B_leafOf; exact (ex_lt_eq q2).trans ((if_neg h3).trans (rfl))
    exact ex_iret C hr hlk (by decide +kernel) rfl (Nat.le_refl _) (Nat.le_refl _) ⟨E9.symm, rfl⟩
set_option maxRecDepth 100000 in
set_option maxHeartbeats 4000000 in
theorem m_X11_operand {l : Launch} {X : ab_X} {D : va_G} {A : ex_A} (d : Nat) (hd : 5 ≤ d) (σ : ex_S) (hI : (SI σ ∧ σ.1 26 = 0 ∧ SN σ)) : ex_ctr l X D A d yX11_operand cX11_operand 5 (some .boolean) (WT σ) [.ref 0] (fun r w => r = (B_operand σ).1 ∧ w = WT (B_operand σ).2) := by
  obtain ⟨d, rfl⟩ : ∃ d9, d = d9 + 1 := ⟨d - 1, by omega⟩
  refine ex_meth (own := RX11) rfl (by decide) (Nat.le_of_ble_eq_true rfl) (fun p e R s m below meth c C hr hlk hd1 hd2 => ?_)
  show ex_ok p l e R s m _ below meth c 0 0 _ 5 X D A (WT σ) 0 [(0, .ref 0)] []
  refine ex_aload_n (q := 0) (x := 0) (np := 1) C (by decide +kernel) rfl rfl ?_
  refine ex_ldc2 (np := 4) C tg_1364 (by decide +kernel) rfl ?_
  refine ex_call_i (np := 7) (fun ws H locs ls hR hsz => ex_runV (C1 := "") C (m_X11_isWord_T d (by omega) (7237492 : Int64) σ) hd1 hd2 (by decide) hy_X11_isWord tg_1558 hc_X11 rfl (WT_0 _) rfl rfl (Nat.le_of_ble_eq_true rfl) rfl tg_1555 tg_1557 tg_86 tg_158 (by decide +kernel) ws H locs ls hR hsz (Nat.zero_le _) (Nat.zero_le _)) rfl (fun r1 w1 hpo => ?_)
  obtain ⟨q2, rfl⟩ := hpo
  refine ex_istore_n (q := 1) (np := 8) (lv1 := [(1, .int r1), (0, .ref 0)]) C (by decide) (by decide +kernel) rfl rfl ?_
  refine ex_aload_n (q := 0) (x := 0) (np := 9) C (by decide +kernel) rfl rfl ?_
  refine ex_bipush (n := 40) (v := 40) (np := 11) C (by decide +kernel) (by decide) rfl ?_
  refine ex_call_i (np := 14) (fun ws H locs ls hR hsz => ex_runV (C1 := "") C (m_X11_isSign_T d (by omega) (40 : Int32) σ) hd1 hd2 (by decide) hy_X11_isSign tg_1624 hc_X11 rfl (WT_0 _) rfl rfl (Nat.le_of_ble_eq_true rfl) rfl tg_1621 tg_1623 tg_101 tg_158 (by decide +kernel) ws H locs ls hR hsz (Nat.zero_le _) (Nat.zero_le _)) rfl (fun r3 w1 hpo => ?_)
  obtain ⟨q4, rfl⟩ := hpo
  refine ex_istore_n (q := 2) (np := 15) (lv1 := [(2, .int r3), (1, .int r1), (0, .ref 0)]) C (by decide) (by decide +kernel) rfl rfl ?_
  refine ex_aload_n (q := 0) (x := 0) (np := 16) C (by decide +kernel) rfl rfl ?_
  refine ex_call_i (np := 19) (fun ws H locs ls hR hsz => ex_runV (C1 := "") C (m_X11_leafOf d (by omega) σ) hd1 hd2 (by decide) hy_X11_leafOf tg_1927 hc_X11 rfl (WT_0 _) rfl rfl (Nat.le_of_ble_eq_true rfl) rfl tg_1924 tg_1926 tg_139 tg_158 (by decide +kernel) ws H locs ls hR hsz (Nat.zero_le _) (Nat.zero_le _)) rfl (fun r5 w1 hpo => ?_)
  obtain ⟨q6, rfl⟩ := hpo
  refine ex_istore_n (q := 3) (np := 20) (lv1 := [(3, .int r5), (2, .int r3), (1, .int r1), (0, .ref 0)]) C (by decide) (by decide +kernel) rfl rfl ?_
  refine ex_iload_n (q := 1) (x := r1) (np := 21) C (by decide +kernel) rfl rfl ?_
  refine ex_if_ne (off := 17) (tgt := 38) (np := 24) C (by decide +kernel) (by decide) rfl (fun h7 => ?_) (fun h7 => ?_)
  · skip
    refine ex_aload_n (q := 0) (x := 0) (np := 39) C (by decide +kernel) rfl rfl ?_
    refine ex_getf (q := 43) (v := .int (σ.1 23)) (np := 42) C hc_X11 hin_X11 (by decide) tg_1418 (by decide +kernel) (WT_0 _) rfl rfl ?_
    refine ex_bipush (n := 20) (v := 20) (np := 44) C (by decide +kernel) (by decide) rfl ?_
    refine ex_icmp_eq (off := 12) (tgt := 56) (np := 47) C (by decide +kernel) (by decide) rfl (fun h8 => ?_) (fun h8 => ?_)
    · skip
      refine ex_aload_n (q := 0) (x := 0) (np := 57) C (by decide +kernel) rfl rfl ?_
      refine ex_iconst (n := 4) (v := 4) (np := 58) C (by decide +kernel) (by decide) rfl ?_
      obtain ⟨r10, σ11, q12⟩ : ∃ r x, B_bad (4 : Int32) σ = (r, x) := ex_pair _
      refine ex_call_i (np := 61) (fun ws H locs ls hR hsz => ex_runV (C1 := "") C (m_X11_bad_T d (by omega) (4 : Int32) σ) hd1 hd2 (by decide) hy_X11_bad tg_1566 hc_X11 rfl (WT_0 _) rfl rfl (Nat.le_of_ble_eq_true rfl) rfl tg_1563 tg_1565 tg_88 tg_158 (by decide +kernel) ws H locs ls hR hsz (Nat.zero_le _) (Nat.zero_le _)) rfl (fun r9 w1 hpo => ?_)
      rw [q12] at hpo
      have hp1 : r10 = r9 := hpo.1.symm
      have hp2 := hpo.2
      clear hpo; subst hp1; subst hp2
      have hI13 := inv_X11_bad (4 : Int32) σ hI.1.1; rw [q12] at hI13
      have hF14 := fr_X11_bad (4 : Int32) σ; rw [q12] at hF14
      have E9 : B_operand σ = (r10, σ11) := by unfold B_operand; exact (ex_lt_eq q2).trans ((ex_lt_eq q4).trans ((ex_lt_eq q6).trans ((if_neg h7).trans ((if_pos h8).trans ((ex_bd_eq q12).trans (rfl))))))
      exact ex_iret C hr hlk (by decide +kernel) (ex_nar (by have b9 := bl_X11_bad (4 : Int32) σ; rw [q12] at b9; exact b9)) (Nat.le_refl _) (Nat.le_refl _) (by rw [E9]; exact ⟨rfl, rfl⟩)
    · skip
      refine ex_aload_n (q := 0) (x := 0) (np := 48) C (by decide +kernel) rfl rfl ?_
      refine ex_getf (q := 45) (v := .int (σ.1 25)) (np := 51) C hc_X11 hin_X11 (by decide) tg_1420 (by decide +kernel) (WT_0 _) rfl rfl ?_
      refine ex_bipush (n := 8) (v := 8) (np := 53) C (by decide +kernel) (by decide) rfl ?_
      refine ex_icmp_le (off := 9) (tgt := 62) (np := 56) C (by decide +kernel) (by decide) rfl (fun h15 => ?_) (fun h15 => ?_)
      · skip
        refine ex_aload_n (q := 0) (x := 0) (np := 63) C (by decide +kernel) rfl rfl ?_
        refine ex_dup (np := 64) C rfl (by decide +kernel) rfl ?_
        refine ex_getf (q := 43) (v := .int (σ.1 23)) (np := 67) C hc_X11 hin_X11 (by decide) tg_1418 (by decide +kernel) (WT_0 _) rfl rfl ?_
        refine ex_iconst (n := 1) (v := 1) (np := 68) C (by decide +kernel) (by decide) rfl ?_
        refine ex_iadd (v := ((σ.1 23) + (1 : Int32))) (np := 69) C (by decide +kernel) rfl rfl ?_
        refine ex_putf (q := 43) (w1 := (WT (sI 23 ((σ.1 23) + (1 : Int32)) σ))) (np := 72) C hc_X11 hin_X11 (by decide) tyX11_ok nmX11 tg_1418 rfl (by decide +kernel) (WT_0 _) (Nat.le_of_ble_eq_true rfl) rfl rfl (WT_0_43 _ _) rfl ?_
        refine ex_aload_n (q := 0) (x := 0) (np := 73) C (by decide +kernel) rfl rfl ?_
        obtain ⟨σ16, q17⟩ : ∃ x, x = B_next (sI 23 ((σ.1 23) + (1 : Int32)) σ) := ⟨_, rfl⟩
        refine ex_call_v (np := 76) (fun ws H locs ls hR hsz => ex_runV (C1 := "") C (m_X11_next_T d (by omega) (sI 23 ((σ.1 23) + (1 : Int32)) σ) hI.1.1) hd1 hd2 (by decide) hy_X11_next tg_1540 hc_X11 rfl (WT_0 _) rfl rfl (Nat.le_of_ble_eq_true rfl) rfl tg_1537 tg_1539 tg_83 tg_158 (by decide +kernel) ws H locs ls hR hsz (Nat.zero_le _) (Nat.zero_le _)) rfl (fun w1 hpo => ?_)
        rw [← q17] at hpo
        subst hpo
        have hI18 := inv_X11_next (sI 23 ((σ.1 23) + (1 : Int32)) σ) hI.1.1; rw [← q17] at hI18
        have hF19 := fr_X11_next (sI 23 ((σ.1 23) + (1 : Int32)) σ); rw [← q17] at hF19
        refine ex_iload_n (q := 1) (x := r1) (np := 77) C (by decide +kernel) rfl rfl ?_
        refine ex_if_ne (off := 7) (tgt := 84) (np := 80) C (by decide +kernel) (by decide) rfl (fun h20 => ?_) (fun h20 => ?_)
        · skip
          refine ex_aload_n (q := 0) (x := 0) (np := 85) C (by decide +kernel) rfl rfl ?_
          refine ex_getf (q := 41) (v := .ref 7) (np := 88) C hc_X11 hin_X11 (by decide) tg_1416 (by decide +kernel) (WT_0 _) rfl rfl ?_
          refine ex_aload_n (q := 0) (x := 0) (np := 89) C (by decide +kernel) rfl rfl ?_
          refine ex_getf (q := 44) (v := .int (σ16.1 24)) (np := 92) C hc_X11 hin_X11 (by decide) tg_1419 (by decide +kernel) (WT_0 _) rfl rfl ?_
          refine ex_iload_n (q := 1) (x := r1) (np := 93) C (by decide +kernel) rfl rfl ?_
          refine ex_if_eq (off := 8) (tgt := 101) (np := 96) C (by decide +kernel) (by decide) rfl (fun h21 => ?_) (fun h21 => ?_)
          · skip
            refine ex_bipush (n := 23) (v := 23) (np := 103) C (by decide +kernel) (by decide) rfl ?_
            refine ex_iast (f := (σ16.2.2.1 4)) (kk := ((σ16.1 24)).toNatClampNeg) (w1 := (WT (sR 4 (upd (σ16.2.2.1 4) ((σ16.1 24)).toNatClampNeg (23 : Int32)) σ16))) (np := 104) C (by decide +kernel) (WT_7 _) (by have e9 : σ16.1 24 = σ.1 24 := (hF19.1 24 (by decide)); have h9 := SI.sb hI.1; obtain ⟨i1, i2, i3⟩ := h9; rw [e9]; exact ⟨by omega, by omega⟩) rfl (WT_7_s _ _) rfl ?_
            refine ex_aload_n (q := 0) (x := 0) (np := 105) C (by decide +kernel) rfl rfl ?_
            refine ex_dup (np := 106) C rfl (by decide +kernel) rfl ?_
            refine ex_getf (q := 44) (v := .int (σ16.1 24)) (np := 109) C hc_X11 hin_X11 (by decide) tg_1419 (by decide +kernel) (WT_0 _) rfl rfl ?_
            refine ex_iconst (n := 1) (v := 1) (np := 110) C (by decide +kernel) (by decide) rfl ?_
            refine ex_iadd (v := ((σ16.1 24) + (1 : Int32))) (np := 111) C (by decide +kernel) rfl rfl ?_
            refine ex_putf (q := 44) (w1 := (WT (sI 24 ((σ16.1 24) + (1 : Int32)) (sR 4 (upd (σ16.2.2.1 4) ((σ16.1 24)).toNatClampNeg (23 : Int32)) σ16)))) (np := 114) C hc_X11 hin_X11 (by decide) tyX11_ok nmX11 tg_1419 rfl (by decide +kernel) (WT_0 _) (Nat.le_of_ble_eq_true rfl) rfl rfl (WT_0_44 _ _) rfl ?_
            refine ex_aload_n (q := 0) (x := 0) (np := 115) C (by decide +kernel) rfl rfl ?_
            refine ex_dup (np := 116) C rfl (by decide +kernel) rfl ?_
            refine ex_getf (q := 45) (v := .int (σ16.1 25)) (np := 119) C hc_X11 hin_X11 (by decide) tg_1420 (by decide +kernel) (WT_0 _) rfl rfl ?_
            refine ex_iconst (n := 1) (v := 1) (np := 120) C (by decide +kernel) (by decide) rfl ?_
            refine ex_iadd (v := ((σ16.1 25) + (1 : Int32))) (np := 121) C (by decide +kernel) rfl rfl ?_
            refine ex_putf (q := 45) (w1 := (WT (sI 25 ((σ16.1 25) + (1 : Int32)) (sI 24 ((σ16.1 24) + (1 : Int32)) (sR 4 (upd (σ16.2.2.1 4) ((σ16.1 24)).toNatClampNeg (23 : Int32)) σ16))))) (np := 124) C hc_X11 hin_X11 (by decide) tyX11_ok nmX11 tg_1420 rfl (by decide +kernel) (WT_0 _) (Nat.le_of_ble_eq_true rfl) rfl rfl (WT_0_45 _ _) rfl ?_
            refine ex_iconst (n := 1) (v := 1) (np := 125) C (by decide +kernel) (by decide) rfl ?_
            have E9 : B_operand σ = ((1 : Int32), (sI 25 ((σ16.1 25) + (1 : Int32)) (sI 24 ((σ16.1 24) + (1 : Int32)) (sR 4 (upd (σ16.2.2.1 4) ((σ16.1 24)).toNatClampNeg (23 : Int32)) σ16)))) := by unfold B_operand; exact (ex_lt_eq q2).trans ((ex_lt_eq q4).trans ((ex_lt_eq q6).trans ((if_neg h7).trans ((if_neg h8).trans ((if_neg h15).trans ((ex_lt_eq q17).trans ((if_neg h20).trans ((if_pos h21).trans (rfl)))))))))
            exact ex_iret C hr hlk (by decide +kernel) rfl (Nat.le_refl _) (Nat.le_refl _) (by rw [E9]; exact ⟨rfl, rfl⟩)
          · skip
            refine ex_bipush (n := 20) (v := 20) (np := 98) C (by decide +kernel) (by decide) rfl ?_
            refine ex_goto (off := 5) (tgt := 103) C (by decide +kernel) (by decide) ?_
            refine ex_iast (f := (σ16.2.2.1 4)) (kk := ((σ16.1 24)).toNatClampNeg) (w1 := (WT (sR 4 (upd (σ16.2.2.1 4) ((σ16.1 24)).toNatClampNeg (20 : Int32)) σ16))) (np := 104) C (by decide +kernel) (WT_7 _) (by have e9 : σ16.1 24 = σ.1 24 := (hF19.1 24 (by decide)); have h9 := SI.sb hI.1; obtain ⟨i1, i2, i3⟩ := h9; rw [e9]; exact ⟨by omega, by omega⟩) rfl (WT_7_s _ _) rfl ?_
            refine ex_aload_n (q := 0) (x := 0) (np := 105) C (by decide +kernel) rfl rfl ?_
            refine ex_dup (np := 106) C rfl (by decide +kernel) rfl ?_
            refine ex_getf (q := 44) (v := .int (σ16.1 24)) (np := 109) C hc_X11 hin_X11 (by decide) tg_1419 (by decide +kernel) (WT_0 _) rfl rfl ?_
            refine ex_iconst (n := 1) (v := 1) (np := 110) C (by decide +kernel) (by decide) rfl ?_
            refine ex_iadd (v := ((σ16.1 24) + (1 : Int32))) (np := 111) C (by decide +kernel) rfl rfl ?_
            refine ex_putf (q := 44) (w1 := (WT (sI 24 ((σ16.1 24) + (1 : Int32)) (sR 4 (upd (σ16.2.2.1 4) ((σ16.1 24)).toNatClampNeg (20 : Int32)) σ16)))) (np := 114) C hc_X11 hin_X11 (by decide) tyX11_ok nmX11 tg_1419 rfl (by decide +kernel) (WT_0 _) (Nat.le_of_ble_eq_true rfl) rfl rfl (WT_0_44 _ _) rfl ?_
            refine ex_aload_n (q := 0) (x := 0) (np := 115) C (by decide +kernel) rfl rfl ?_
            refine ex_dup (np := 116) C rfl (by decide +kernel) rfl ?_
            refine ex_getf (q := 45) (v := .int (σ16.1 25)) (np := 119) C hc_X11 hin_X11 (by decide) tg_1420 (by decide +kernel) (WT_0 _) rfl rfl ?_
            refine ex_iconst (n := 1) (v := 1) (np := 120) C (by decide +kernel) (by decide) rfl ?_
            refine ex_iadd (v := ((σ16.1 25) + (1 : Int32))) (np := 121) C (by decide +kernel) rfl rfl ?_
            refine ex_putf (q := 45) (w1 := (WT (sI 25 ((σ16.1 25) + (1 : Int32)) (sI 24 ((σ16.1 24) + (1 : Int32)) (sR 4 (upd (σ16.2.2.1 4) ((σ16.1 24)).toNatClampNeg (20 : Int32)) σ16))))) (np := 124) C hc_X11 hin_X11 (by decide) tyX11_ok nmX11 tg_1420 rfl (by decide +kernel) (WT_0 _) (Nat.le_of_ble_eq_true rfl) rfl rfl (WT_0_45 _ _) rfl ?_
            refine ex_iconst (n := 1) (v := 1) (np := 125) C (by decide +kernel) (by decide) rfl ?_
            have E9 : B_operand σ = ((1 : Int32), (sI 25 ((σ16.1 25) + (1 : Int32)) (sI 24 ((σ16.1 24) + (1 : Int32)) (sR 4 (upd (σ16.2.2.1 4) ((σ16.1 24)).toNatClampNeg (20 : Int32)) σ16)))) := by unfold B_operand; exact (ex_lt_eq q2).trans ((ex_lt_eq q4).trans ((ex_lt_eq q6).trans ((if_neg h7).trans ((if_neg h8).trans ((if_neg h15).trans ((ex_lt_eq q17).trans ((if_neg h20).trans ((if_neg h21).trans (rfl)))))))))
            exact ex_iret C hr hlk (by decide +kernel) rfl (Nat.le_refl _) (Nat.le_refl _) (by rw [E9]; exact ⟨rfl, rfl⟩)
        · skip
          refine ex_iload_n (q := 2) (x := r3) (np := 81) C (by decide +kernel) rfl rfl ?_
          refine ex_if_eq (off := 45) (tgt := 126) (np := 84) C (by decide +kernel) (by decide) rfl (fun h22 => ?_) (fun h22 => ?_)
          · skip
            refine ex_aload_n (q := 0) (x := 0) (np := 127) C (by decide +kernel) rfl rfl ?_
            refine ex_iconst (n := 1) (v := 1) (np := 128) C (by decide +kernel) (by decide) rfl ?_
            refine ex_putf (q := 46) (w1 := (WT (sI 26 (1 : Int32) σ16))) (np := 131) C hc_X11 hin_X11 (by decide) tyX11_ok nmX11 tg_1421 rfl (by decide +kernel) (WT_0 _) (Nat.le_of_ble_eq_true rfl) rfl rfl (WT_0_46 _ _) rfl ?_
            refine ex_iload_n (q := 3) (x := r5) (np := 132) C (by decide +kernel) rfl rfl ?_
            refine ex_iconst (n := 3) (v := 3) (np := 133) C (by decide +kernel) (by decide) rfl ?_
            refine ex_icmp_ge (off := 12) (tgt := 145) (np := 136) C (by decide +kernel) (by decide) rfl (fun h23 => ?_) (fun h23 => ?_)
            · skip
              refine ex_iload_n (q := 3) (x := r5) (np := 146) C (by decide +kernel) rfl rfl ?_
              refine ex_iconst (n := 3) (v := 3) (np := 147) C (by decide +kernel) (by decide) rfl ?_
              refine ex_icmp_ne (off := 35) (tgt := 182) (np := 150) C (by decide +kernel) (by decide) rfl (fun h24 => ?_) (fun h24 => ?_)
              · skip
                refine ex_aload_n (q := 0) (x := 0) (np := 183) C (by decide +kernel) rfl rfl ?_
                refine ex_getf (q := 11) (v := .int (σ16.1 5)) (np := 186) C hc_X11 hin_X11 (by decide) tg_1386 (by decide +kernel) (WT_0 _) rfl rfl ?_
                refine ex_iconst (n := 3) (v := 3) (np := 187) C (by decide +kernel) (by decide) rfl ?_
                refine ex_icmp_ne (off := 21) (tgt := 208) (np := 190) C (by decide +kernel) (by decide) rfl (fun h25 => ?_) (fun h25 => ?_)
                · skip
                  refine ex_aload_n (q := 0) (x := 0) (np := 209) C (by decide +kernel) rfl rfl ?_
                  refine ex_iconst (n := 1) (v := 1) (np := 210) C (by decide +kernel) (by decide) rfl ?_
                  obtain ⟨r26, σ27, q28⟩ : ∃ r x, B_bad (1 : Int32) (sI 26 (1 : Int32) σ16) = (r, x) := ex_pair _
                  refine ex_call_i (np := 213) (fun ws H locs ls hR hsz => ex_runV (C1 := "") C (m_X11_bad_T d (by omega) (1 : Int32) (sI 26 (1 : Int32) σ16)) hd1 hd2 (by decide) hy_X11_bad tg_1566 hc_X11 rfl (WT_0 _) rfl rfl (Nat.le_of_ble_eq_true rfl) rfl tg_1563 tg_1565 tg_88 tg_158 (by decide +kernel) ws H locs ls hR hsz (Nat.zero_le _) (Nat.zero_le _)) rfl (fun r9 w1 hpo => ?_)
                  rw [q28] at hpo
                  have hp1 : r26 = r9 := hpo.1.symm
                  have hp2 := hpo.2
                  clear hpo; subst hp1; subst hp2
                  have hI29 := inv_X11_bad (1 : Int32) (sI 26 (1 : Int32) σ16) hI18; rw [q28] at hI29
                  have hF30 := fr_X11_bad (1 : Int32) (sI 26 (1 : Int32) σ16); rw [q28] at hF30
                  have E9 : B_operand σ = (r26, σ27) := by unfold B_operand; exact (ex_lt_eq q2).trans ((ex_lt_eq q4).trans ((ex_lt_eq q6).trans ((if_neg h7).trans ((if_neg h8).trans ((if_neg h15).trans ((ex_lt_eq q17).trans ((if_pos h20).trans ((if_pos h22).trans ((if_neg h23).trans ((if_neg h24).trans ((if_neg h25).trans ((ex_bd_eq q28).trans (rfl)))))))))))))
                  exact ex_iret C hr hlk (by decide +kernel) (ex_nar (by have b9 := bl_X11_bad (1 : Int32) (sI 26 (1 : Int32) σ16); rw [q28] at b9; exact b9)) (Nat.le_refl _) (Nat.le_refl _) (by rw [E9]; exact ⟨rfl, rfl⟩)
                · skip
                  refine ex_aload_n (q := 0) (x := 0) (np := 191) C (by decide +kernel) rfl rfl ?_
                  refine ex_getf (q := 14) (v := .int (σ16.1 8)) (np := 194) C hc_X11 hin_X11 (by decide) tg_1389 (by decide +kernel) (WT_0 _) rfl rfl ?_
                  refine ex_bipush (n := 60) (v := 60) (np := 196) C (by decide +kernel) (by decide) rfl ?_
                  refine ex_icmp_lt (off := 12) (tgt := 208) (np := 199) C (by decide +kernel) (by decide) rfl (fun h31 => ?_) (fun h31 => ?_)
                  · skip
                    refine ex_aload_n (q := 0) (x := 0) (np := 209) C (by decide +kernel) rfl rfl ?_
                    refine ex_iconst (n := 1) (v := 1) (np := 210) C (by decide +kernel) (by decide) rfl ?_
                    obtain ⟨r32, σ33, q34⟩ : ∃ r x, B_bad (1 : Int32) (sI 26 (1 : Int32) σ16) = (r, x) := ex_pair _
                    refine ex_call_i (np := 213) (fun ws H locs ls hR hsz => ex_runV (C1 := "") C (m_X11_bad_T d (by omega) (1 : Int32) (sI 26 (1 : Int32) σ16)) hd1 hd2 (by decide) hy_X11_bad tg_1566 hc_X11 rfl (WT_0 _) rfl rfl (Nat.le_of_ble_eq_true rfl) rfl tg_1563 tg_1565 tg_88 tg_158 (by decide +kernel) ws H locs ls hR hsz (Nat.zero_le _) (Nat.zero_le _)) rfl (fun r9 w1 hpo => ?_)
                    rw [q34] at hpo
                    have hp1 : r32 = r9 := hpo.1.symm
                    have hp2 := hpo.2
                    clear hpo; subst hp1; subst hp2
                    have hI35 := inv_X11_bad (1 : Int32) (sI 26 (1 : Int32) σ16) hI18; rw [q34] at hI35
                    have hF36 := fr_X11_bad (1 : Int32) (sI 26 (1 : Int32) σ16); rw [q34] at hF36
                    have E9 : B_operand σ = (r32, σ33) := by unfold B_operand; exact (ex_lt_eq q2).trans ((ex_lt_eq q4).trans ((ex_lt_eq q6).trans ((if_neg h7).trans ((if_neg h8).trans ((if_neg h15).trans ((ex_lt_eq q17).trans ((if_pos h20).trans ((if_pos h22).trans ((if_neg h23).trans ((if_neg h24).trans ((if_pos h25).trans ((if_pos h31).trans ((ex_bd_eq q34).trans (rfl))))))))))))))
                    exact ex_iret C hr hlk (by decide +kernel) (ex_nar (by have b9 := bl_X11_bad (1 : Int32) (sI 26 (1 : Int32) σ16); rw [q34] at b9; exact b9)) (Nat.le_refl _) (Nat.le_refl _) (by rw [E9]; exact ⟨rfl, rfl⟩)
                  · skip
                    refine ex_aload_n (q := 0) (x := 0) (np := 200) C (by decide +kernel) rfl rfl ?_
                    refine ex_getf (q := 14) (v := .int (σ16.1 8)) (np := 203) C hc_X11 hin_X11 (by decide) tg_1389 (by decide +kernel) (WT_0 _) rfl rfl ?_
                    refine ex_bipush (n := 62) (v := 62) (np := 205) C (by decide +kernel) (by decide) rfl ?_
                    refine ex_icmp_le (off := 9) (tgt := 214) (np := 208) C (by decide +kernel) (by decide) rfl (fun h37 => ?_) (fun h37 => ?_)
                    · skip
                      refine ex_aload_n (q := 0) (x := 0) (np := 215) C (by decide +kernel) rfl rfl ?_
                      refine ex_getf (q := 14) (v := .int (σ16.1 8)) (np := 218) C hc_X11 hin_X11 (by decide) tg_1389 (by decide +kernel) (WT_0 _) rfl rfl ?_
                      refine ex_istore (i := 4) (np := 220) (lv1 := [(4, .int (σ16.1 8)), (3, .int r5), (2, .int r3), (1, .int r1), (0, .ref 0)]) C (by decide) (by decide +kernel) rfl rfl ?_
                      refine ex_aload_n (q := 0) (x := 0) (np := 221) C (by decide +kernel) rfl rfl ?_
                      obtain ⟨σ38, q39⟩ : ∃ x, x = B_next (sI 26 (1 : Int32) σ16) := ⟨_, rfl⟩
                      refine ex_call_v (np := 224) (fun ws H locs ls hR hsz => ex_runV (C1 := "") C (m_X11_next_T d (by omega) (sI 26 (1 : Int32) σ16) hI18) hd1 hd2 (by decide) hy_X11_next tg_1540 hc_X11 rfl (WT_0 _) rfl rfl (Nat.le_of_ble_eq_true rfl) rfl tg_1537 tg_1539 tg_83 tg_158 (by decide +kernel) ws H locs ls hR hsz (Nat.zero_le _) (Nat.zero_le _)) rfl (fun w1 hpo => ?_)
                      rw [← q39] at hpo
                      subst hpo
                      have hI40 := inv_X11_next (sI 26 (1 : Int32) σ16) hI18; rw [← q39] at hI40
                      have hF41 := fr_X11_next (sI 26 (1 : Int32) σ16); rw [← q39] at hF41
                      refine ex_aload_n (q := 0) (x := 0) (np := 225) C (by decide +kernel) rfl rfl ?_
                      refine ex_getf (q := 11) (v := .int (σ38.1 5)) (np := 228) C hc_X11 hin_X11 (by decide) tg_1386 (by decide +kernel) (WT_0 _) rfl rfl ?_
                      refine ex_iconst (n := 2) (v := 2) (np := 229) C (by decide +kernel) (by decide) rfl ?_
                      refine ex_icmp_eq (off := 9) (tgt := 238) (np := 232) C (by decide +kernel) (by decide) rfl (fun h42 => ?_) (fun h42 => ?_)
                      · skip
                        refine ex_aload_n (q := 0) (x := 0) (np := 239) C (by decide +kernel) rfl rfl ?_
                        refine ex_iload_n (q := 3) (x := r5) (np := 240) C (by decide +kernel) rfl rfl ?_
                        refine ex_iload (i := 4) (x := (σ16.1 8)) (np := 242) C (by decide +kernel) rfl rfl ?_
                        refine ex_aload_n (q := 0) (x := 0) (np := 243) C (by decide +kernel) rfl rfl ?_
                        refine ex_getf (q := 14) (v := .int (σ38.1 8)) (np := 246) C hc_X11 hin_X11 (by decide) tg_1389 (by decide +kernel) (WT_0 _) rfl rfl ?_
                        obtain ⟨σ43, q44⟩ : ∃ x, x = B_code r5 (σ16.1 8) (σ38.1 8) σ38 := ⟨_, rfl⟩
                        refine ex_call_v (np := 249) (fun ws H locs ls hR hsz => ex_runV (C1 := "") C (m_X11_code d (by omega) r5 (σ16.1 8) (σ38.1 8) σ38 (by have e9 : σ38.1 22 = σ.1 22 := ((hF41.1 22 (by decide)).trans (hF19.1 22 (by decide))); have h9 := SI.sb hI.1; obtain ⟨i1, i2, i3⟩ := h9; show 0 ≤ (σ38.1 22).toInt ∧ (σ38.1 22).toInt ≤ 44; rw [e9]; exact ⟨by omega, by omega⟩)) hd1 hd2 (by decide) hy_X11_code tg_1911 hc_X11 rfl (WT_0 _) rfl rfl (Nat.le_of_ble_eq_true rfl) rfl tg_1908 tg_1910 tg_135 tg_158 (by decide +kernel) ws H locs ls hR hsz (Nat.zero_le _) (Nat.zero_le _)) rfl (fun w1 hpo => ?_)
                        rw [← q44] at hpo
                        subst hpo
                        have hI45 := inv_X11_code r5 (σ16.1 8) (σ38.1 8) σ38 (by have e9 : σ38.1 22 = σ.1 22 := ((hF41.1 22 (by decide)).trans (hF19.1 22 (by decide))); have h9 := SI.sb hI.1; obtain ⟨i1, i2, i3⟩ := h9; show 0 ≤ (σ38.1 22).toInt ∧ (σ38.1 22).toInt ≤ 44; rw [e9]; exact ⟨by omega, by omega⟩); rw [← q44] at hI45
                        have hF46 := fr_X11_code r5 (σ16.1 8) (σ38.1 8) σ38; rw [← q44] at hF46
                        refine ex_aload_n (q := 0) (x := 0) (np := 250) C (by decide +kernel) rfl rfl ?_
                        obtain ⟨σ47, q48⟩ : ∃ x, x = B_next σ43 := ⟨_, rfl⟩
                        refine ex_call_v (np := 253) (fun ws H locs ls hR hsz => ex_runV (C1 := "") C (m_X11_next_T d (by omega) σ43 (by rw [q44]; exact B_INV_code hI40)) hd1 hd2 (by decide) hy_X11_next tg_1540 hc_X11 rfl (WT_0 _) rfl rfl (Nat.le_of_ble_eq_true rfl) rfl tg_1537 tg_1539 tg_83 tg_158 (by decide +kernel) ws H locs ls hR hsz (Nat.zero_le _) (Nat.zero_le _)) rfl (fun w1 hpo => ?_)
                        rw [← q48] at hpo
                        subst hpo
                        have hI49 := inv_X11_next σ43 (by rw [q44]; exact B_INV_code hI40); rw [← q48] at hI49
                        have hF50 := fr_X11_next σ43; rw [← q48] at hF50
                        refine ex_iconst (n := 1) (v := 1) (np := 254) C (by decide +kernel) (by decide) rfl ?_
                        have E9 : B_operand σ = ((1 : Int32), σ47) := by unfold B_operand; exact (ex_lt_eq q2).trans ((ex_lt_eq q4).trans ((ex_lt_eq q6).trans ((if_neg h7).trans ((if_neg h8).trans ((if_neg h15).trans ((ex_lt_eq q17).trans ((if_pos h20).trans ((if_pos h22).trans ((if_neg h23).trans ((if_neg h24).trans ((if_pos h25).trans ((if_neg h31).trans ((if_neg h37).trans ((ex_lt_eq q39).trans ((if_pos h42).trans ((ex_lt_eq q44).trans ((ex_lt_eq q48).trans (rfl))))))))))))))))))
                        exact ex_iret C hr hlk (by decide +kernel) rfl (Nat.le_refl _) (Nat.le_refl _) (by rw [E9]; exact ⟨rfl, rfl⟩)
                      · skip
                        refine ex_aload_n (q := 0) (x := 0) (np := 233) C (by decide +kernel) rfl rfl ?_
                        refine ex_iconst (n := 1) (v := 1) (np := 234) C (by decide +kernel) (by decide) rfl ?_
                        obtain ⟨r51, σ52, q53⟩ : ∃ r x, B_bad (1 : Int32) σ38 = (r, x) := ex_pair _
                        refine ex_call_i (np := 237) (fun ws H locs ls hR hsz => ex_runV (C1 := "") C (m_X11_bad_T d (by omega) (1 : Int32) σ38) hd1 hd2 (by decide) hy_X11_bad tg_1566 hc_X11 rfl (WT_0 _) rfl rfl (Nat.le_of_ble_eq_true rfl) rfl tg_1563 tg_1565 tg_88 tg_158 (by decide +kernel) ws H locs ls hR hsz (Nat.zero_le _) (Nat.zero_le _)) rfl (fun r9 w1 hpo => ?_)
                        rw [q53] at hpo
                        have hp1 : r51 = r9 := hpo.1.symm
                        have hp2 := hpo.2
                        clear hpo; subst hp1; subst hp2
                        have hI54 := inv_X11_bad (1 : Int32) σ38 hI40; rw [q53] at hI54
                        have hF55 := fr_X11_bad (1 : Int32) σ38; rw [q53] at hF55
                        have E9 : B_operand σ = (r51, σ52) := by unfold B_operand; exact (ex_lt_eq q2).trans ((ex_lt_eq q4).trans ((ex_lt_eq q6).trans ((if_neg h7).trans ((if_neg h8).trans ((if_neg h15).trans ((ex_lt_eq q17).trans ((if_pos h20).trans ((if_pos h22).trans ((if_neg h23).trans ((if_neg h24).trans ((if_pos h25).trans ((if_neg h31).trans ((if_neg h37).trans ((ex_lt_eq q39).trans ((if_neg h42).trans ((ex_bd_eq q53).trans (rfl)))))))))))))))))
                        exact ex_iret C hr hlk (by decide +kernel) (ex_nar (by have b9 := bl_X11_bad (1 : Int32) σ38; rw [q53] at b9; exact b9)) (Nat.le_refl _) (Nat.le_refl _) (by rw [E9]; exact ⟨rfl, rfl⟩)
                    · skip
                      refine ex_aload_n (q := 0) (x := 0) (np := 209) C (by decide +kernel) rfl rfl ?_
                      refine ex_iconst (n := 1) (v := 1) (np := 210) C (by decide +kernel) (by decide) rfl ?_
                      obtain ⟨r56, σ57, q58⟩ : ∃ r x, B_bad (1 : Int32) (sI 26 (1 : Int32) σ16) = (r, x) := ex_pair _
                      refine ex_call_i (np := 213) (fun ws H locs ls hR hsz => ex_runV (C1 := "") C (m_X11_bad_T d (by omega) (1 : Int32) (sI 26 (1 : Int32) σ16)) hd1 hd2 (by decide) hy_X11_bad tg_1566 hc_X11 rfl (WT_0 _) rfl rfl (Nat.le_of_ble_eq_true rfl) rfl tg_1563 tg_1565 tg_88 tg_158 (by decide +kernel) ws H locs ls hR hsz (Nat.zero_le _) (Nat.zero_le _)) rfl (fun r9 w1 hpo => ?_)
                      rw [q58] at hpo
                      have hp1 : r56 = r9 := hpo.1.symm
                      have hp2 := hpo.2
                      clear hpo; subst hp1; subst hp2
                      have hI59 := inv_X11_bad (1 : Int32) (sI 26 (1 : Int32) σ16) hI18; rw [q58] at hI59
                      have hF60 := fr_X11_bad (1 : Int32) (sI 26 (1 : Int32) σ16); rw [q58] at hF60
                      have E9 : B_operand σ = (r56, σ57) := by unfold B_operand; exact (ex_lt_eq q2).trans ((ex_lt_eq q4).trans ((ex_lt_eq q6).trans ((if_neg h7).trans ((if_neg h8).trans ((if_neg h15).trans ((ex_lt_eq q17).trans ((if_pos h20).trans ((if_pos h22).trans ((if_neg h23).trans ((if_neg h24).trans ((if_pos h25).trans ((if_neg h31).trans ((if_pos h37).trans ((ex_bd_eq q58).trans (rfl)))))))))))))))
                      exact ex_iret C hr hlk (by decide +kernel) (ex_nar (by have b9 := bl_X11_bad (1 : Int32) (sI 26 (1 : Int32) σ16); rw [q58] at b9; exact b9)) (Nat.le_refl _) (Nat.le_refl _) (by rw [E9]; exact ⟨rfl, rfl⟩)
              · skip
                refine ex_aload_n (q := 0) (x := 0) (np := 151) C (by decide +kernel) rfl rfl ?_
                refine ex_iconst (n := 0) (v := 0) (np := 152) C (by decide +kernel) (by decide) rfl ?_
                refine ex_aload_n (q := 0) (x := 0) (np := 153) C (by decide +kernel) rfl rfl ?_
                refine ex_getf (q := 6) (v := .ref 2) (np := 156) C hc_X11 hin_X11 (by decide) tg_1381 (by decide +kernel) (WT_0 _) rfl rfl ?_
                refine ex_iconst (n := 0) (v := 0) (np := 157) C (by decide +kernel) (by decide) rfl ?_
                refine ex_iald (f := (σ16.2.2.1 1)) (kk := 0) (np := 158) C (by decide +kernel) (WT_2 _) (by decide) (by decide) rfl ?_
                obtain ⟨r61, σ62, q63⟩ : ∃ r x, B_looksAt (0 : Int32) ((σ16.2.2.1 1) 0) (sI 26 (1 : Int32) σ16) = (r, x) := ex_pair _
                refine ex_call_i (np := 161) (fun ws H locs ls hR hsz => ex_runV (C1 := "") C (m_X11_looksAt_T d (by omega) (0 : Int32) ((σ16.2.2.1 1) 0) (sI 26 (1 : Int32) σ16) hI18 (by have e9 : (σ16.2.2.1 1) 0 = σ.2.2.1 1 0 := congrArg (fun q => q.1 1 0) hF19.2; have s9 : 0 ≤ (σ.2.2.1 1 0).toInt ∧ (σ.2.2.1 1 0).toInt ≤ 7 := hI.2.2; have z9 : (0 : Int32).toInt = 0 := (by decide); show (0 ≤ (0 : Int32).toInt ∧ 0 ≤ ((σ16.2.2.1 1) 0).toInt) ∧ (0 : Int32).toInt + ((σ16.2.2.1 1) 0).toInt ≤ 30; rw [e9]; exact ⟨⟨by omega, by omega⟩, by omega⟩)) hd1 hd2 (by decide) hy_X11_looksAt tg_1605 hc_X11 rfl (WT_0 _) rfl rfl (Nat.le_of_ble_eq_true rfl) rfl tg_1602 tg_1604 tg_97 tg_158 (by decide +kernel) ws H locs ls hR hsz (Nat.zero_le _) (Nat.zero_le _)) rfl (fun r9 w1 hpo => ?_)
                rw [q63] at hpo
                have hp1 : r61 = r9 := hpo.1.symm
                have hp2 := hpo.2
                clear hpo; subst hp1; subst hp2
                have hI64 := inv_X11_looksAt (0 : Int32) ((σ16.2.2.1 1) 0) (sI 26 (1 : Int32) σ16) hI18 (by have e9 : (σ16.2.2.1 1) 0 = σ.2.2.1 1 0 := congrArg (fun q => q.1 1 0) hF19.2; have s9 : 0 ≤ (σ.2.2.1 1 0).toInt ∧ (σ.2.2.1 1 0).toInt ≤ 7 := hI.2.2; have z9 : (0 : Int32).toInt = 0 := (by decide); show (0 ≤ (0 : Int32).toInt ∧ 0 ≤ ((σ16.2.2.1 1) 0).toInt) ∧ (0 : Int32).toInt + ((σ16.2.2.1 1) 0).toInt ≤ 30; rw [e9]; exact ⟨⟨by omega, by omega⟩, by omega⟩); rw [q63] at hI64
                have hF65 := fr_X11_looksAt (0 : Int32) ((σ16.2.2.1 1) 0) (sI 26 (1 : Int32) σ16); rw [q63] at hF65
                refine ex_if_ne (off := 5) (tgt := 166) (np := 164) C (by decide +kernel) (by decide) rfl (fun h66 => ?_) (fun h66 => ?_)
                · skip
                  refine ex_aload_n (q := 0) (x := 0) (np := 167) C (by decide +kernel) rfl rfl ?_
                  refine ex_iload_n (q := 3) (x := r5) (np := 168) C (by decide +kernel) rfl rfl ?_
                  refine ex_iconst (n := 0) (v := 0) (np := 169) C (by decide +kernel) (by decide) rfl ?_
                  refine ex_aload_n (q := 0) (x := 0) (np := 170) C (by decide +kernel) rfl rfl ?_
                  refine ex_getf (q := 18) (v := .int (σ62.1 11)) (np := 173) C hc_X11 hin_X11 (by decide) tg_1393 (by decide +kernel) (WT_0 _) rfl rfl ?_
                  obtain ⟨σ67, q68⟩ : ∃ x, x = B_code r5 (0 : Int32) (σ62.1 11) σ62 := ⟨_, rfl⟩
                  refine ex_call_v (np := 176) (fun ws H locs ls hR hsz => ex_runV (C1 := "") C (m_X11_code d (by omega) r5 (0 : Int32) (σ62.1 11) σ62 (by have e9 : σ62.1 22 = σ.1 22 := ((hF65.1 22 (by decide)).trans (hF19.1 22 (by decide))); have h9 := SI.sb hI.1; obtain ⟨i1, i2, i3⟩ := h9; show 0 ≤ (σ62.1 22).toInt ∧ (σ62.1 22).toInt ≤ 44; rw [e9]; exact ⟨by omega, by omega⟩)) hd1 hd2 (by decide) hy_X11_code tg_1911 hc_X11 rfl (WT_0 _) rfl rfl (Nat.le_of_ble_eq_true rfl) rfl tg_1908 tg_1910 tg_135 tg_158 (by decide +kernel) ws H locs ls hR hsz (Nat.zero_le _) (Nat.zero_le _)) rfl (fun w1 hpo => ?_)
                  rw [← q68] at hpo
                  subst hpo
                  have hI69 := inv_X11_code r5 (0 : Int32) (σ62.1 11) σ62 (by have e9 : σ62.1 22 = σ.1 22 := ((hF65.1 22 (by decide)).trans (hF19.1 22 (by decide))); have h9 := SI.sb hI.1; obtain ⟨i1, i2, i3⟩ := h9; show 0 ≤ (σ62.1 22).toInt ∧ (σ62.1 22).toInt ≤ 44; rw [e9]; exact ⟨by omega, by omega⟩); rw [← q68] at hI69
                  have hF70 := fr_X11_code r5 (0 : Int32) (σ62.1 11) σ62; rw [← q68] at hF70
                  refine ex_aload_n (q := 0) (x := 0) (np := 177) C (by decide +kernel) rfl rfl ?_
                  obtain ⟨σ71, q72⟩ : ∃ x, x = B_next σ67 := ⟨_, rfl⟩
                  refine ex_call_v (np := 180) (fun ws H locs ls hR hsz => ex_runV (C1 := "") C (m_X11_next_T d (by omega) σ67 (by rw [q68]; exact B_INV_code hI64)) hd1 hd2 (by decide) hy_X11_next tg_1540 hc_X11 rfl (WT_0 _) rfl rfl (Nat.le_of_ble_eq_true rfl) rfl tg_1537 tg_1539 tg_83 tg_158 (by decide +kernel) ws H locs ls hR hsz (Nat.zero_le _) (Nat.zero_le _)) rfl (fun w1 hpo => ?_)
                  rw [← q72] at hpo
                  subst hpo
                  have hI73 := inv_X11_next σ67 (by rw [q68]; exact B_INV_code hI64); rw [← q72] at hI73
                  have hF74 := fr_X11_next σ67; rw [← q72] at hF74
                  refine ex_iconst (n := 1) (v := 1) (np := 181) C (by decide +kernel) (by decide) rfl ?_
                  have E9 : B_operand σ = ((1 : Int32), σ71) := by unfold B_operand; exact (ex_lt_eq q2).trans ((ex_lt_eq q4).trans ((ex_lt_eq q6).trans ((if_neg h7).trans ((if_neg h8).trans ((if_neg h15).trans ((ex_lt_eq q17).trans ((if_pos h20).trans ((if_pos h22).trans ((if_neg h23).trans ((if_pos h24).trans ((ex_bd_eq q63).trans ((if_neg h66).trans ((ex_lt_eq q68).trans ((ex_lt_eq q72).trans (rfl)))))))))))))))
                  exact ex_iret C hr hlk (by decide +kernel) rfl (Nat.le_refl _) (Nat.le_refl _) (by rw [E9]; exact ⟨rfl, rfl⟩)
                · skip
                  refine ex_iconst (n := 0) (v := 0) (np := 165) C (by decide +kernel) (by decide) rfl ?_
                  have E9 : B_operand σ = ((0 : Int32), σ62) := by unfold B_operand; exact (ex_lt_eq q2).trans ((ex_lt_eq q4).trans ((ex_lt_eq q6).trans ((if_neg h7).trans ((if_neg h8).trans ((if_neg h15).trans ((ex_lt_eq q17).trans ((if_pos h20).trans ((if_pos h22).trans ((if_neg h23).trans ((if_pos h24).trans ((ex_bd_eq q63).trans ((if_pos h66).trans (rfl)))))))))))))
                  exact ex_iret C hr hlk (by decide +kernel) rfl (Nat.le_refl _) (Nat.le_refl _) (by rw [E9]; exact ⟨rfl, rfl⟩)
            · skip
              refine ex_aload_n (q := 0) (x := 0) (np := 137) C (by decide +kernel) rfl rfl ?_
              refine ex_iload_n (q := 3) (x := r5) (np := 138) C (by decide +kernel) rfl rfl ?_
              refine ex_iconst (n := 0) (v := 0) (np := 139) C (by decide +kernel) (by decide) rfl ?_
              refine ex_iconst (n := 0) (v := 0) (np := 140) C (by decide +kernel) (by decide) rfl ?_
              obtain ⟨σ75, q76⟩ : ∃ x, x = B_code r5 (0 : Int32) (0 : Int32) (sI 26 (1 : Int32) σ16) := ⟨_, rfl⟩
              refine ex_call_v (np := 143) (fun ws H locs ls hR hsz => ex_runV (C1 := "") C (m_X11_code d (by omega) r5 (0 : Int32) (0 : Int32) (sI 26 (1 : Int32) σ16) (by have e9 : σ16.1 22 = σ.1 22 := (hF19.1 22 (by decide)); have h9 := SI.sb hI.1; obtain ⟨i1, i2, i3⟩ := h9; show 0 ≤ (σ16.1 22).toInt ∧ (σ16.1 22).toInt ≤ 44; rw [e9]; exact ⟨by omega, by omega⟩)) hd1 hd2 (by decide) hy_X11_code tg_1911 hc_X11 rfl (WT_0 _) rfl rfl (Nat.le_of_ble_eq_true rfl) rfl tg_1908 tg_1910 tg_135 tg_158 (by decide +kernel) ws H locs ls hR hsz (Nat.zero_le _) (Nat.zero_le _)) rfl (fun w1 hpo => ?_)
              rw [← q76] at hpo
              subst hpo
              have hI77 := inv_X11_code r5 (0 : Int32) (0 : Int32) (sI 26 (1 : Int32) σ16) (by have e9 : σ16.1 22 = σ.1 22 := (hF19.1 22 (by decide)); have h9 := SI.sb hI.1; obtain ⟨i1, i2, i3⟩ := h9; show 0 ≤ (σ16.1 22).toInt ∧ (σ16.1 22).toInt ≤ 44; rw [e9]; exact ⟨by omega, by omega⟩); rw [← q76] at hI77
              have hF78 := fr_X11_code r5 (0 : Int32) (0 : Int32) (sI 26 (1 : Int32) σ16); rw [← q76] at hF78
              refine ex_iconst (n := 1) (v := 1) (np := 144) C (by decide +kernel) (by decide) rfl ?_
              have E9 : B_operand σ = ((1 : Int32), σ75) := by unfold B_operand; exact (ex_lt_eq q2).trans ((ex_lt_eq q4).trans ((ex_lt_eq q6).trans ((if_neg h7).trans ((if_neg h8).trans ((if_neg h15).trans ((ex_lt_eq q17).trans ((if_pos h20).trans ((if_pos h22).trans ((if_pos h23).trans ((ex_lt_eq q76).trans (rfl)))))))))))
              exact ex_iret C hr hlk (by decide +kernel) rfl (Nat.le_refl _) (Nat.le_refl _) (by rw [E9]; exact ⟨rfl, rfl⟩)
          · skip
            refine ex_aload_n (q := 0) (x := 0) (np := 85) C (by decide +kernel) rfl rfl ?_
            refine ex_getf (q := 41) (v := .ref 7) (np := 88) C hc_X11 hin_X11 (by decide) tg_1416 (by decide +kernel) (WT_0 _) rfl rfl ?_
            refine ex_aload_n (q := 0) (x := 0) (np := 89) C (by decide +kernel) rfl rfl ?_
            refine ex_getf (q := 44) (v := .int (σ16.1 24)) (np := 92) C hc_X11 hin_X11 (by decide) tg_1419 (by decide +kernel) (WT_0 _) rfl rfl ?_
            refine ex_iload_n (q := 1) (x := r1) (np := 93) C (by decide +kernel) rfl rfl ?_
            refine ex_if_eq (off := 8) (tgt := 101) (np := 96) C (by decide +kernel) (by decide) rfl (fun h79 => ?_) (fun h79 => ?_)
            · skip
              refine ex_bipush (n := 23) (v := 23) (np := 103) C (by decide +kernel) (by decide) rfl ?_
              refine ex_iast (f := (σ16.2.2.1 4)) (kk := ((σ16.1 24)).toNatClampNeg) (w1 := (WT (sR 4 (upd (σ16.2.2.1 4) ((σ16.1 24)).toNatClampNeg (23 : Int32)) σ16))) (np := 104) C (by decide +kernel) (WT_7 _) (by have e9 : σ16.1 24 = σ.1 24 := (hF19.1 24 (by decide)); have h9 := SI.sb hI.1; obtain ⟨i1, i2, i3⟩ := h9; rw [e9]; exact ⟨by omega, by omega⟩) rfl (WT_7_s _ _) rfl ?_
              refine ex_aload_n (q := 0) (x := 0) (np := 105) C (by decide +kernel) rfl rfl ?_
              refine ex_dup (np := 106) C rfl (by decide +kernel) rfl ?_
              refine ex_getf (q := 44) (v := .int (σ16.1 24)) (np := 109) C hc_X11 hin_X11 (by decide) tg_1419 (by decide +kernel) (WT_0 _) rfl rfl ?_
              refine ex_iconst (n := 1) (v := 1) (np := 110) C (by decide +kernel) (by decide) rfl ?_
              refine ex_iadd (v := ((σ16.1 24) + (1 : Int32))) (np := 111) C (by decide +kernel) rfl rfl ?_
              refine ex_putf (q := 44) (w1 := (WT (sI 24 ((σ16.1 24) + (1 : Int32)) (sR 4 (upd (σ16.2.2.1 4) ((σ16.1 24)).toNatClampNeg (23 : Int32)) σ16)))) (np := 114) C hc_X11 hin_X11 (by decide) tyX11_ok nmX11 tg_1419 rfl (by decide +kernel) (WT_0 _) (Nat.le_of_ble_eq_true rfl) rfl rfl (WT_0_44 _ _) rfl ?_
              refine ex_aload_n (q := 0) (x := 0) (np := 115) C (by decide +kernel) rfl rfl ?_
              refine ex_dup (np := 116) C rfl (by decide +kernel) rfl ?_
              refine ex_getf (q := 45) (v := .int (σ16.1 25)) (np := 119) C hc_X11 hin_X11 (by decide) tg_1420 (by decide +kernel) (WT_0 _) rfl rfl ?_
              refine ex_iconst (n := 1) (v := 1) (np := 120) C (by decide +kernel) (by decide) rfl ?_
              refine ex_iadd (v := ((σ16.1 25) + (1 : Int32))) (np := 121) C (by decide +kernel) rfl rfl ?_
              refine ex_putf (q := 45) (w1 := (WT (sI 25 ((σ16.1 25) + (1 : Int32)) (sI 24 ((σ16.1 24) + (1 : Int32)) (sR 4 (upd (σ16.2.2.1 4) ((σ16.1 24)).toNatClampNeg (23 : Int32)) σ16))))) (np := 124) C hc_X11 hin_X11 (by decide) tyX11_ok nmX11 tg_1420 rfl (by decide +kernel) (WT_0 _) (Nat.le_of_ble_eq_true rfl) rfl rfl (WT_0_45 _ _) rfl ?_
              refine ex_iconst (n := 1) (v := 1) (np := 125) C (by decide +kernel) (by decide) rfl ?_
              have E9 : B_operand σ = ((1 : Int32), (sI 25 ((σ16.1 25) + (1 : Int32)) (sI 24 ((σ16.1 24) + (1 : Int32)) (sR 4 (upd (σ16.2.2.1 4) ((σ16.1 24)).toNatClampNeg (23 : Int32)) σ16)))) := by unfold B_operand; exact (ex_lt_eq q2).trans ((ex_lt_eq q4).trans ((ex_lt_eq q6).trans ((if_neg h7).trans ((if_neg h8).trans ((if_neg h15).trans ((ex_lt_eq q17).trans ((if_pos h20).trans ((if_neg h22).trans ((if_pos h79).trans (rfl))))))))))
              exact ex_iret C hr hlk (by decide +kernel) rfl (Nat.le_refl _) (Nat.le_refl _) (by rw [E9]; exact ⟨rfl, rfl⟩)
            · skip
              refine ex_bipush (n := 20) (v := 20) (np := 98) C (by decide +kernel) (by decide) rfl ?_
              refine ex_goto (off := 5) (tgt := 103) C (by decide +kernel) (by decide) ?_
              refine ex_iast (f := (σ16.2.2.1 4)) (kk := ((σ16.1 24)).toNatClampNeg) (w1 := (WT (sR 4 (upd (σ16.2.2.1 4) ((σ16.1 24)).toNatClampNeg (20 : Int32)) σ16))) (np := 104) C (by decide +kernel) (WT_7 _) (by have e9 : σ16.1 24 = σ.1 24 := (hF19.1 24 (by decide)); have h9 := SI.sb hI.1; obtain ⟨i1, i2, i3⟩ := h9; rw [e9]; exact ⟨by omega, by omega⟩) rfl (WT_7_s _ _) rfl ?_
              refine ex_aload_n (q := 0) (x := 0) (np := 105) C (by decide +kernel) rfl rfl ?_
              refine ex_dup (np := 106) C rfl (by decide +kernel) rfl ?_
              refine ex_getf (q := 44) (v := .int (σ16.1 24)) (np := 109) C hc_X11 hin_X11 (by decide) tg_1419 (by decide +kernel) (WT_0 _) rfl rfl ?_
              refine ex_iconst (n := 1) (v := 1) (np := 110) C (by decide +kernel) (by decide) rfl ?_
              refine ex_iadd (v := ((σ16.1 24) + (1 : Int32))) (np := 111) C (by decide +kernel) rfl rfl ?_
              refine ex_putf (q := 44) (w1 := (WT (sI 24 ((σ16.1 24) + (1 : Int32)) (sR 4 (upd (σ16.2.2.1 4) ((σ16.1 24)).toNatClampNeg (20 : Int32)) σ16)))) (np := 114) C hc_X11 hin_X11 (by decide) tyX11_ok nmX11 tg_1419 rfl (by decide +kernel) (WT_0 _) (Nat.le_of_ble_eq_true rfl) rfl rfl (WT_0_44 _ _) rfl ?_
              refine ex_aload_n (q := 0) (x := 0) (np := 115) C (by decide +kernel) rfl rfl ?_
              refine ex_dup (np := 116) C rfl (by decide +kernel) rfl ?_
              refine ex_getf (q := 45) (v := .int (σ16.1 25)) (np := 119) C hc_X11 hin_X11 (by decide) tg_1420 (by decide +kernel) (WT_0 _) rfl rfl ?_
              refine ex_iconst (n := 1) (v := 1) (np := 120) C (by decide +kernel) (by decide) rfl ?_
              refine ex_iadd (v := ((σ16.1 25) + (1 : Int32))) (np := 121) C (by decide +kernel) rfl rfl ?_
              refine ex_putf (q := 45) (w1 := (WT (sI 25 ((σ16.1 25) + (1 : Int32)) (sI 24 ((σ16.1 24) + (1 : Int32)) (sR 4 (upd (σ16.2.2.1 4) ((σ16.1 24)).toNatClampNeg (20 : Int32)) σ16))))) (np := 124) C hc_X11 hin_X11 (by decide) tyX11_ok nmX11 tg_1420 rfl (by decide +kernel) (WT_0 _) (Nat.le_of_ble_eq_true rfl) rfl rfl (WT_0_45 _ _) rfl ?_
              refine ex_iconst (n := 1) (v := 1) (np := 125) C (by decide +kernel) (by decide) rfl ?_
              have E9 : B_operand σ = ((1 : Int32), (sI 25 ((σ16.1 25) + (1 : Int32)) (sI 24 ((σ16.1 24) + (1 : Int32)) (sR 4 (upd (σ16.2.2.1 4) ((σ16.1 24)).toNatClampNeg (20 : Int32)) σ16)))) := by unfold B_operand; exact (ex_lt_eq q2).trans ((ex_lt_eq q4).trans ((ex_lt_eq q6).trans ((if_neg h7).trans ((if_neg h8).trans ((if_neg h15).trans ((ex_lt_eq q17).trans ((if_pos h20).trans ((if_neg h22).trans ((if_neg h79).trans (rfl))))))))))
              exact ex_iret C hr hlk (by decide +kernel) rfl (Nat.le_refl _) (Nat.le_refl _) (by rw [E9]; exact ⟨rfl, rfl⟩)
      · skip
        refine ex_aload_n (q := 0) (x := 0) (np := 57) C (by decide +kernel) rfl rfl ?_
        refine ex_iconst (n := 4) (v := 4) (np := 58) C (by decide +kernel) (by decide) rfl ?_
        obtain ⟨r80, σ81, q82⟩ : ∃ r x, B_bad (4 : Int32) σ = (r, x) := ex_pair _
        refine ex_call_i (np := 61) (fun ws H locs ls hR hsz => ex_runV (C1 := "") C (m_X11_bad_T d (by omega) (4 : Int32) σ) hd1 hd2 (by decide) hy_X11_bad tg_1566 hc_X11 rfl (WT_0 _) rfl rfl (Nat.le_of_ble_eq_true rfl) rfl tg_1563 tg_1565 tg_88 tg_158 (by decide +kernel) ws H locs ls hR hsz (Nat.zero_le _) (Nat.zero_le _)) rfl (fun r9 w1 hpo => ?_)
        rw [q82] at hpo
        have hp1 : r80 = r9 := hpo.1.symm
        have hp2 := hpo.2
        clear hpo; subst hp1; subst hp2
        have hI83 := inv_X11_bad (4 : Int32) σ hI.1.1; rw [q82] at hI83
        have hF84 := fr_X11_bad (4 : Int32) σ; rw [q82] at hF84
        have E9 : B_operand σ = (r80, σ81) := by unfold B_operand; exact (ex_lt_eq q2).trans ((ex_lt_eq q4).trans ((ex_lt_eq q6).trans ((if_neg h7).trans ((if_neg h8).trans ((if_pos h15).trans ((ex_bd_eq q82).trans (rfl)))))))
        exact ex_iret C hr hlk (by decide +kernel) (ex_nar (by have b9 := bl_X11_bad (4 : Int32) σ; rw [q82] at b9; exact b9)) (Nat.le_refl _) (Nat.le_refl _) (by rw [E9]; exact ⟨rfl, rfl⟩)
  · skip
    refine ex_iload_n (q := 2) (x := r3) (np := 25) C (by decide +kernel) rfl rfl ?_
    refine ex_if_ne (off := 13) (tgt := 38) (np := 28) C (by decide +kernel) (by decide) rfl (fun h85 => ?_) (fun h85 => ?_)
    · skip
      refine ex_aload_n (q := 0) (x := 0) (np := 39) C (by decide +kernel) rfl rfl ?_
      refine ex_getf (q := 43) (v := .int (σ.1 23)) (np := 42) C hc_X11 hin_X11 (by decide) tg_1418 (by decide +kernel) (WT_0 _) rfl rfl ?_
      refine ex_bipush (n := 20) (v := 20) (np := 44) C (by decide +kernel) (by decide) rfl ?_
      refine ex_icmp_eq (off := 12) (tgt := 56) (np := 47) C (by decide +kernel) (by decide) rfl (fun h86 => ?_) (fun h86 => ?_)
      · skip
        refine ex_aload_n (q := 0) (x := 0) (np := 57) C (by decide +kernel) rfl rfl ?_
        refine ex_iconst (n := 4) (v := 4) (np := 58) C (by decide +kernel) (by decide) rfl ?_
        obtain ⟨r87, σ88, q89⟩ : ∃ r x, B_bad (4 : Int32) σ = (r, x) := ex_pair _
        refine ex_call_i (np := 61) (fun ws H locs ls hR hsz => ex_runV (C1 := "") C (m_X11_bad_T d (by omega) (4 : Int32) σ) hd1 hd2 (by decide) hy_X11_bad tg_1566 hc_X11 rfl (WT_0 _) rfl rfl (Nat.le_of_ble_eq_true rfl) rfl tg_1563 tg_1565 tg_88 tg_158 (by decide +kernel) ws H locs ls hR hsz (Nat.zero_le _) (Nat.zero_le _)) rfl (fun r9 w1 hpo => ?_)
        rw [q89] at hpo
        have hp1 : r87 = r9 := hpo.1.symm
        have hp2 := hpo.2
        clear hpo; subst hp1; subst hp2
        have hI90 := inv_X11_bad (4 : Int32) σ hI.1.1; rw [q89] at hI90
        have hF91 := fr_X11_bad (4 : Int32) σ; rw [q89] at hF91
        have E9 : B_operand σ = (r87, σ88) := by unfold B_operand; exact (ex_lt_eq q2).trans ((ex_lt_eq q4).trans ((ex_lt_eq q6).trans ((if_pos h7).trans ((if_neg h85).trans ((if_pos h86).trans ((ex_bd_eq q89).trans (rfl)))))))
        exact ex_iret C hr hlk (by decide +kernel) (ex_nar (by have b9 := bl_X11_bad (4 : Int32) σ; rw [q89] at b9; exact b9)) (Nat.le_refl _) (Nat.le_refl _) (by rw [E9]; exact ⟨rfl, rfl⟩)
      · skip
        refine ex_aload_n (q := 0) (x := 0) (np := 48) C (by decide +kernel) rfl rfl ?_
        refine ex_getf (q := 45) (v := .int (σ.1 25)) (np := 51) C hc_X11 hin_X11 (by decide) tg_1420 (by decide +kernel) (WT_0 _) rfl rfl ?_
        refine ex_bipush (n := 8) (v := 8) (np := 53) C (by decide +kernel) (by decide) rfl ?_
        refine ex_icmp_le (off := 9) (tgt := 62) (np := 56) C (by decide +kernel) (by decide) rfl (fun h92 => ?_) (fun h92 => ?_)
        · skip
          refine ex_aload_n (q := 0) (x := 0) (np := 63) C (by decide +kernel) rfl rfl ?_
          refine ex_dup (np := 64) C rfl (by decide +kernel) rfl ?_
          refine ex_getf (q := 43) (v := .int (σ.1 23)) (np := 67) C hc_X11 hin_X11 (by decide) tg_1418 (by decide +kernel) (WT_0 _) rfl rfl ?_
          refine ex_iconst (n := 1) (v := 1) (np := 68) C (by decide +kernel) (by decide) rfl ?_
          refine ex_iadd (v := ((σ.1 23) + (1 : Int32))) (np := 69) C (by decide +kernel) rfl rfl ?_
          refine ex_putf (q := 43) (w1 := (WT (sI 23 ((σ.1 23) + (1 : Int32)) σ))) (np := 72) C hc_X11 hin_X11 (by decide) tyX11_ok nmX11 tg_1418 rfl (by decide +kernel) (WT_0 _) (Nat.le_of_ble_eq_true rfl) rfl rfl (WT_0_43 _ _) rfl ?_
          refine ex_aload_n (q := 0) (x := 0) (np := 73) C (by decide +kernel) rfl rfl ?_
          obtain ⟨σ93, q94⟩ : ∃ x, x = B_next (sI 23 ((σ.1 23) + (1 : Int32)) σ) := ⟨_, rfl⟩
          refine ex_call_v (np := 76) (fun ws H locs ls hR hsz => ex_runV (C1 := "") C (m_X11_next_T d (by omega) (sI 23 ((σ.1 23) + (1 : Int32)) σ) hI.1.1) hd1 hd2 (by decide) hy_X11_next tg_1540 hc_X11 rfl (WT_0 _) rfl rfl (Nat.le_of_ble_eq_true rfl) rfl tg_1537 tg_1539 tg_83 tg_158 (by decide +kernel) ws H locs ls hR hsz (Nat.zero_le _) (Nat.zero_le _)) rfl (fun w1 hpo => ?_)
          rw [← q94] at hpo
          subst hpo
          have hI95 := inv_X11_next (sI 23 ((σ.1 23) + (1 : Int32)) σ) hI.1.1; rw [← q94] at hI95
          have hF96 := fr_X11_next (sI 23 ((σ.1 23) + (1 : Int32)) σ); rw [← q94] at hF96
          refine ex_iload_n (q := 1) (x := r1) (np := 77) C (by decide +kernel) rfl rfl ?_
          refine ex_if_ne (off := 7) (tgt := 84) (np := 80) C (by decide +kernel) (by decide) rfl (fun h97 => ?_) (fun h97 => ?_)
          · skip
            refine ex_aload_n (q := 0) (x := 0) (np := 85) C (by decide +kernel) rfl rfl ?_
            refine ex_getf (q := 41) (v := .ref 7) (np := 88) C hc_X11 hin_X11 (by decide) tg_1416 (by decide +kernel) (WT_0 _) rfl rfl ?_
            refine ex_aload_n (q := 0) (x := 0) (np := 89) C (by decide +kernel) rfl rfl ?_
            refine ex_getf (q := 44) (v := .int (σ93.1 24)) (np := 92) C hc_X11 hin_X11 (by decide) tg_1419 (by decide +kernel) (WT_0 _) rfl rfl ?_
            refine ex_iload_n (q := 1) (x := r1) (np := 93) C (by decide +kernel) rfl rfl ?_
            refine ex_if_eq (off := 8) (tgt := 101) (np := 96) C (by decide +kernel) (by decide) rfl (fun h98 => ?_) (fun h98 => ?_)
            · skip
              refine ex_bipush (n := 23) (v := 23) (np := 103) C (by decide +kernel) (by decide) rfl ?_
              refine ex_iast (f := (σ93.2.2.1 4)) (kk := ((σ93.1 24)).toNatClampNeg) (w1 := (WT (sR 4 (upd (σ93.2.2.1 4) ((σ93.1 24)).toNatClampNeg (23 : Int32)) σ93))) (np := 104) C (by decide +kernel) (WT_7 _) (by have e9 : σ93.1 24 = σ.1 24 := (hF96.1 24 (by decide)); have h9 := SI.sb hI.1; obtain ⟨i1, i2, i3⟩ := h9; rw [e9]; exact ⟨by omega, by omega⟩) rfl (WT_7_s _ _) rfl ?_
              refine ex_aload_n (q := 0) (x := 0) (np := 105) C (by decide +kernel) rfl rfl ?_
              refine ex_dup (np := 106) C rfl (by decide +kernel) rfl ?_
              refine ex_getf (q := 44) (v := .int (σ93.1 24)) (np := 109) C hc_X11 hin_X11 (by decide) tg_1419 (by decide +kernel) (WT_0 _) rfl rfl ?_
              refine ex_iconst (n := 1) (v := 1) (np := 110) C (by decide +kernel) (by decide) rfl ?_
              refine ex_iadd (v := ((σ93.1 24) + (1 : Int32))) (np := 111) C (by decide +kernel) rfl rfl ?_
              refine ex_putf (q := 44) (w1 := (WT (sI 24 ((σ93.1 24) + (1 : Int32)) (sR 4 (upd (σ93.2.2.1 4) ((σ93.1 24)).toNatClampNeg (23 : Int32)) σ93)))) (np := 114) C hc_X11 hin_X11 (by decide) tyX11_ok nmX11 tg_1419 rfl (by decide +kernel) (WT_0 _) (Nat.le_of_ble_eq_true rfl) rfl rfl (WT_0_44 _ _) rfl ?_
              refine ex_aload_n (q := 0) (x := 0) (np := 115) C (by decide +kernel) rfl rfl ?_
              refine ex_dup (np := 116) C rfl (by decide +kernel) rfl ?_
              refine ex_getf (q := 45) (v := .int (σ93.1 25)) (np := 119) C hc_X11 hin_X11 (by decide) tg_1420 (by decide +kernel) (WT_0 _) rfl rfl ?_
              refine ex_iconst (n := 1) (v := 1) (np := 120) C (by decide +kernel) (by decide) rfl ?_
              refine ex_iadd (v := ((σ93.1 25) + (1 : Int32))) (np := 121) C (by decide +kernel) rfl rfl ?_
              refine ex_putf (q := 45) (w1 := (WT (sI 25 ((σ93.1 25) + (1 : Int32)) (sI 24 ((σ93.1 24) + (1 : Int32)) (sR 4 (upd (σ93.2.2.1 4) ((σ93.1 24)).toNatClampNeg (23 : Int32)) σ93))))) (np := 124) C hc_X11 hin_X11 (by decide) tyX11_ok nmX11 tg_1420 rfl (by decide +kernel) (WT_0 _) (Nat.le_of_ble_eq_true rfl) rfl rfl (WT_0_45 _ _) rfl ?_
              refine ex_iconst (n := 1) (v := 1) (np := 125) C (by decide +kernel) (by decide) rfl ?_
              have E9 : B_operand σ = ((1 : Int32), (sI 25 ((σ93.1 25) + (1 : Int32)) (sI 24 ((σ93.1 24) + (1 : Int32)) (sR 4 (upd (σ93.2.2.1 4) ((σ93.1 24)).toNatClampNeg (23 : Int32)) σ93)))) := by unfold B_operand; exact (ex_lt_eq q2).trans ((ex_lt_eq q4).trans ((ex_lt_eq q6).trans ((if_pos h7).trans ((if_neg h85).trans ((if_neg h86).trans ((if_neg h92).trans ((ex_lt_eq q94).trans ((if_neg h97).trans ((if_pos h98).trans (rfl))))))))))
              exact ex_iret C hr hlk (by decide +kernel) rfl (Nat.le_refl _) (Nat.le_refl _) (by rw [E9]; exact ⟨rfl, rfl⟩)
            · skip
              refine ex_bipush (n := 20) (v := 20) (np := 98) C (by decide +kernel) (by decide) rfl ?_
              refine ex_goto (off := 5) (tgt := 103) C (by decide +kernel) (by decide) ?_
              refine ex_iast (f := (σ93.2.2.1 4)) (kk := ((σ93.1 24)).toNatClampNeg) (w1 := (WT (sR 4 (upd (σ93.2.2.1 4) ((σ93.1 24)).toNatClampNeg (20 : Int32)) σ93))) (np := 104) C (by decide +kernel) (WT_7 _) (by have e9 : σ93.1 24 = σ.1 24 := (hF96.1 24 (by decide)); have h9 := SI.sb hI.1; obtain ⟨i1, i2, i3⟩ := h9; rw [e9]; exact ⟨by omega, by omega⟩) rfl (WT_7_s _ _) rfl ?_
              refine ex_aload_n (q := 0) (x := 0) (np := 105) C (by decide +kernel) rfl rfl ?_
              refine ex_dup (np := 106) C rfl (by decide +kernel) rfl ?_
              refine ex_getf (q := 44) (v := .int (σ93.1 24)) (np := 109) C hc_X11 hin_X11 (by decide) tg_1419 (by decide +kernel) (WT_0 _) rfl rfl ?_
              refine ex_iconst (n := 1) (v := 1) (np := 110) C (by decide +kernel) (by decide) rfl ?_
              refine ex_iadd (v := ((σ93.1 24) + (1 : Int32))) (np := 111) C (by decide +kernel) rfl rfl ?_
              refine ex_putf (q := 44) (w1 := (WT (sI 24 ((σ93.1 24) + (1 : Int32)) (sR 4 (upd (σ93.2.2.1 4) ((σ93.1 24)).toNatClampNeg (20 : Int32)) σ93)))) (np := 114) C hc_X11 hin_X11 (by decide) tyX11_ok nmX11 tg_1419 rfl (by decide +kernel) (WT_0 _) (Nat.le_of_ble_eq_true rfl) rfl rfl (WT_0_44 _ _) rfl ?_
              refine ex_aload_n (q := 0) (x := 0) (np := 115) C (by decide +kernel) rfl rfl ?_
              refine ex_dup (np := 116) C rfl (by decide +kernel) rfl ?_
              refine ex_getf (q := 45) (v := .int (σ93.1 25)) (np := 119) C hc_X11 hin_X11 (by decide) tg_1420 (by decide +kernel) (WT_0 _) rfl rfl ?_
              refine ex_iconst (n := 1) (v := 1) (np := 120) C (by decide +kernel) (by decide) rfl ?_
              refine ex_iadd (v := ((σ93.1 25) + (1 : Int32))) (np := 121) C (by decide +kernel) rfl rfl ?_
              refine ex_putf (q := 45) (w1 := (WT (sI 25 ((σ93.1 25) + (1 : Int32)) (sI 24 ((σ93.1 24) + (1 : Int32)) (sR 4 (upd (σ93.2.2.1 4) ((σ93.1 24)).toNatClampNeg (20 : Int32)) σ93))))) (np := 124) C hc_X11 hin_X11 (by decide) tyX11_ok nmX11 tg_1420 rfl (by decide +kernel) (WT_0 _) (Nat.le_of_ble_eq_true rfl) rfl rfl (WT_0_45 _ _) rfl ?_
              refine ex_iconst (n := 1) (v := 1) (np := 125) C (by decide +kernel) (by decide) rfl ?_
              have E9 : B_operand σ = ((1 : Int32), (sI 25 ((σ93.1 25) + (1 : Int32)) (sI 24 ((σ93.1 24) + (1 : Int32)) (sR 4 (upd (σ93.2.2.1 4) ((σ93.1 24)).toNatClampNeg (20 : Int32)) σ93)))) := by unfold B_operand; exact (ex_lt_eq q2).trans ((ex_lt_eq q4).trans ((ex_lt_eq q6).trans ((if_pos h7).trans ((if_neg h85).trans ((if_neg h86).trans ((if_neg h92).trans ((ex_lt_eq q94).trans ((if_neg h97).trans ((if_neg h98).trans (rfl))))))))))
              exact ex_iret C hr hlk (by decide +kernel) rfl (Nat.le_refl _) (Nat.le_refl _) (by rw [E9]; exact ⟨rfl, rfl⟩)
          · skip
            refine ex_iload_n (q := 2) (x := r3) (np := 81) C (by decide +kernel) rfl rfl ?_
            refine ex_if_eq (off := 45) (tgt := 126) (np := 84) C (by decide +kernel) (by decide) rfl (fun h99 => ?_) (fun h99 => ?_)
            · skip
              refine ex_aload_n (q := 0) (x := 0) (np := 127) C (by decide +kernel) rfl rfl ?_
              refine ex_iconst (n := 1) (v := 1) (np := 128) C (by decide +kernel) (by decide) rfl ?_
              refine ex_putf (q := 46) (w1 := (WT (sI 26 (1 : Int32) σ93))) (np := 131) C hc_X11 hin_X11 (by decide) tyX11_ok nmX11 tg_1421 rfl (by decide +kernel) (WT_0 _) (Nat.le_of_ble_eq_true rfl) rfl rfl (WT_0_46 _ _) rfl ?_
              refine ex_iload_n (q := 3) (x := r5) (np := 132) C (by decide +kernel) rfl rfl ?_
              refine ex_iconst (n := 3) (v := 3) (np := 133) C (by decide +kernel) (by decide) rfl ?_
              refine ex_icmp_ge (off := 12) (tgt := 145) (np := 136) C (by decide +kernel) (by decide) rfl (fun h100 => ?_) (fun h100 => ?_)
              · skip
                refine ex_iload_n (q := 3) (x := r5) (np := 146) C (by decide +kernel) rfl rfl ?_
                refine ex_iconst (n := 3) (v := 3) (np := 147) C (by decide +kernel) (by decide) rfl ?_
                refine ex_icmp_ne (off := 35) (tgt := 182) (np := 150) C (by decide +kernel) (by decide) rfl (fun h101 => ?_) (fun h101 => ?_)
                · skip
                  refine ex_aload_n (q := 0) (x := 0) (np := 183) C (by decide +kernel) rfl rfl ?_
                  refine ex_getf (q := 11) (v := .int (σ93.1 5)) (np := 186) C hc_X11 hin_X11 (by decide) tg_1386 (by decide +kernel) (WT_0 _) rfl rfl ?_
                  refine ex_iconst (n := 3) (v := 3) (np := 187) C (by decide +kernel) (by decide) rfl ?_
                  refine ex_icmp_ne (off := 21) (tgt := 208) (np := 190) C (by decide +kernel) (by decide) rfl (fun h102 => ?_) (fun h102 => ?_)
                  · skip
                    refine ex_aload_n (q := 0) (x := 0) (np := 209) C (by decide +kernel) rfl rfl ?_
                    refine ex_iconst (n := 1) (v := 1) (np := 210) C (by decide +kernel) (by decide) rfl ?_
                    obtain ⟨r103, σ104, q105⟩ : ∃ r x, B_bad (1 : Int32) (sI 26 (1 : Int32) σ93) = (r, x) := ex_pair _
                    refine ex_call_i (np := 213) (fun ws H locs ls hR hsz => ex_runV (C1 := "") C (m_X11_bad_T d (by omega) (1 : Int32) (sI 26 (1 : Int32) σ93)) hd1 hd2 (by decide) hy_X11_bad tg_1566 hc_X11 rfl (WT_0 _) rfl rfl (Nat.le_of_ble_eq_true rfl) rfl tg_1563 tg_1565 tg_88 tg_158 (by decide +kernel) ws H locs ls hR hsz (Nat.zero_le _) (Nat.zero_le _)) rfl (fun r9 w1 hpo => ?_)
                    rw [q105] at hpo
                    have hp1 : r103 = r9 := hpo.1.symm
                    have hp2 := hpo.2
                    clear hpo; subst hp1; subst hp2
                    have hI106 := inv_X11_bad (1 : Int32) (sI 26 (1 : Int32) σ93) hI95; rw [q105] at hI106
                    have hF107 := fr_X11_bad (1 : Int32) (sI 26 (1 : Int32) σ93); rw [q105] at hF107
                    have E9 : B_operand σ = (r103, σ104) := by unfold B_operand; exact (ex_lt_eq q2).trans ((ex_lt_eq q4).trans ((ex_lt_eq q6).trans ((if_pos h7).trans ((if_neg h85).trans ((if_neg h86).trans ((if_neg h92).trans ((ex_lt_eq q94).trans ((if_pos h97).trans ((if_pos h99).trans ((if_neg h100).trans ((if_neg h101).trans ((if_neg h102).trans ((ex_bd_eq q105).trans (rfl))))))))))))))
                    exact ex_iret C hr hlk (by decide +kernel) (ex_nar (by have b9 := bl_X11_bad (1 : Int32) (sI 26 (1 : Int32) σ93); rw [q105] at b9; exact b9)) (Nat.le_refl _) (Nat.le_refl _) (by rw [E9]; exact ⟨rfl, rfl⟩)
                  · skip
                    refine ex_aload_n (q := 0) (x := 0) (np := 191) C (by decide +kernel) rfl rfl ?_
                    refine ex_getf (q := 14) (v := .int (σ93.1 8)) (np := 194) C hc_X11 hin_X11 (by decide) tg_1389 (by decide +kernel) (WT_0 _) rfl rfl ?_
                    refine ex_bipush (n := 60) (v := 60) (np := 196) C (by decide +kernel) (by decide) rfl ?_
                    refine ex_icmp_lt (off := 12) (tgt := 208) (np := 199) C (by decide +kernel) (by decide) rfl (fun h108 => ?_) (fun h108 => ?_)
                    · skip
                      refine ex_aload_n (q := 0) (x := 0) (np := 209) C (by decide +kernel) rfl rfl ?_
                      refine ex_iconst (n := 1) (v := 1) (np := 210) C (by decide +kernel) (by decide) rfl ?_
                      obtain ⟨r110, σ111, q112⟩ : ∃ r x, B_bad (1 : Int32) (sI 26 (1 : Int32) σ93) = (r, x) := ex_pair _
                      refine ex_call_i (np := 213) (fun ws H locs ls hR hsz => ex_runV (C1 := "") C (m_X11_bad_T d (by omega) (1 : Int32) (sI 26 (1 : Int32) σ93)) hd1 hd2 (by decide) hy_X11_bad tg_1566 hc_X11 rfl (WT_0 _) rfl rfl (Nat.le_of_ble_eq_true rfl) rfl tg_1563 tg_1565 tg_88 tg_158 (by decide +kernel) ws H locs ls hR hsz (Nat.zero_le _) (Nat.zero_le _)) rfl (fun r9 w1 hpo => ?_)
                      rw [q112] at hpo
                      have hp1 : r110 = r9 := hpo.1.symm
                      have hp2 := hpo.2
                      clear hpo; subst hp1; subst hp2
                      have hI113 := inv_X11_bad (1 : Int32) (sI 26 (1 : Int32) σ93) hI95; rw [q112] at hI113
                      have hF114 := fr_X11_bad (1 : Int32) (sI 26 (1 : Int32) σ93); rw [q112] at hF114
                      have E9 : B_operand σ = (r110, σ111) := by unfold B_operand; exact (ex_lt_eq q2).trans ((ex_lt_eq q4).trans ((ex_lt_eq q6).trans ((if_pos h7).trans ((if_neg h85).trans ((if_neg h86).trans ((if_neg h92).trans ((ex_lt_eq q94).trans ((if_pos h97).trans ((if_pos h99).trans ((if_neg h100).trans ((if_neg h101).trans ((if_pos h102).trans ((if_pos h108).trans ((ex_bd_eq q112).trans (rfl)))))))))))))))
                      exact ex_iret C hr hlk (by decide +kernel) (ex_nar (by have b9 := bl_X11_bad (1 : Int32) (sI 26 (1 : Int32) σ93); rw [q112] at b9; exact b9)) (Nat.le_refl _) (Nat.le_refl _) (by rw [E9]; exact ⟨rfl, rfl⟩)
                    · skip
                      refine ex_aload_n (q := 0) (x := 0) (np := 200) C (by decide +kernel) rfl rfl ?_
                      refine ex_getf (q := 14) (v := .int (σ93.1 8)) (np := 203) C hc_X11 hin_X11 (by decide) tg_1389 (by decide +kernel) (WT_0 _) rfl rfl ?_
                      refine ex_bipush (n := 62) (v := 62) (np := 205) C (by decide +kernel) (by decide) rfl ?_
                      refine ex_icmp_le (off := 9) (tgt := 214) (np := 208) C (by decide +kernel) (by decide) rfl (fun h115 => ?_) (fun h115 => ?_)
                      · skip
                        refine ex_aload_n (q := 0) (x := 0) (np := 215) C (by decide +kernel) rfl rfl ?_
                        refine ex_getf (q := 14) (v := .int (σ93.1 8)) (np := 218) C hc_X11 hin_X11 (by decide) tg_1389 (by decide +kernel) (WT_0 _) rfl rfl ?_
                        refine ex_istore (i := 4) (np := 220) (lv1 := [(4, .int (σ93.1 8)), (3, .int r5), (2, .int r3), (1, .int r1), (0, .ref 0)]) C (by decide) (by decide +kernel) rfl rfl ?_
                        refine ex_aload_n (q := 0) (x := 0) (np := 221) C (by decide +kernel) rfl rfl ?_
                        obtain ⟨σ116, q117⟩ : ∃ x, x = B_next (sI 26 (1 : Int32) σ93) := ⟨_, rfl⟩
                        refine ex_call_v (np := 224) (fun ws H locs ls hR hsz => ex_runV (C1 := "") C (m_X11_next_T d (by omega) (sI 26 (1 : Int32) σ93) hI95) hd1 hd2 (by decide) hy_X11_next tg_1540 hc_X11 rfl (WT_0 _) rfl rfl (Nat.le_of_ble_eq_true rfl) rfl tg_1537 tg_1539 tg_83 tg_158 (by decide +kernel) ws H locs ls hR hsz (Nat.zero_le _) (Nat.zero_le _)) rfl (fun w1 hpo => ?_)
                        rw [← q117] at hpo
                        subst hpo
                        have hI118 := inv_X11_next (sI 26 (1 : Int32) σ93) hI95; rw [← q117] at hI118
                        have hF119 := fr_X11_next (sI 26 (1 : Int32) σ93); rw [← q117] at hF119
                        refine ex_aload_n (q := 0) (x := 0) (np := 225) C (by decide +kernel) rfl rfl ?_
                        refine ex_getf (q := 11) (v := .int (σ116.1 5)) (np := 228) C hc_X11 hin_X11 (by decide) tg_1386 (by decide +kernel) (WT_0 _) rfl rfl ?_
                        refine ex_iconst (n := 2) (v := 2) (np := 229) C (by decide +kernel) (by decide) rfl ?_
                        refine ex_icmp_eq (off := 9) (tgt := 238) (np := 232) C (by decide +kernel) (by decide) rfl (fun h120 => ?_) (fun h120 => ?_)
                        · skip
                          refine ex_aload_n (q := 0) (x := 0) (np := 239) C (by decide +kernel) rfl rfl ?_
                          refine ex_iload_n (q := 3) (x := r5) (np := 240) C (by decide +kernel) rfl rfl ?_
                          refine ex_iload (i := 4) (x := (σ93.1 8)) (np := 242) C (by decide +kernel) rfl rfl ?_
                          refine ex_aload_n (q := 0) (x := 0) (np := 243) C (by decide +kernel) rfl rfl ?_
                          refine ex_getf (q := 14) (v := .int (σ116.1 8)) (np := 246) C hc_X11 hin_X11 (by decide) tg_1389 (by decide +kernel) (WT_0 _) rfl rfl ?_
                          obtain ⟨σ121, q122⟩ : ∃ x, x = B_code r5 (σ93.1 8) (σ116.1 8) σ116 := ⟨_, rfl⟩
                          refine ex_call_v (np := 249) (fun ws H locs ls hR hsz => ex_runV (C1 := "") C (m_X11_code d (by omega) r5 (σ93.1 8) (σ116.1 8) σ116 (by have e9 : σ116.1 22 = σ.1 22 := ((hF119.1 22 (by decide)).trans (hF96.1 22 (by decide))); have h9 := SI.sb hI.1; obtain ⟨i1, i2, i3⟩ := h9; show 0 ≤ (σ116.1 22).toInt ∧ (σ116.1 22).toInt ≤ 44; rw [e9]; exact ⟨by omega, by omega⟩)) hd1 hd2 (by decide) hy_X11_code tg_1911 hc_X11 rfl (WT_0 _) rfl rfl (Nat.le_of_ble_eq_true rfl) rfl tg_1908 tg_1910 tg_135 tg_158 (by decide +kernel) ws H locs ls hR hsz (Nat.zero_le _) (Nat.zero_le _)) rfl (fun w1 hpo => ?_)
                          rw [← q122] at hpo
                          subst hpo
                          have hI123 := inv_X11_code r5 (σ93.1 8) (σ116.1 8) σ116 (by have e9 : σ116.1 22 = σ.1 22 := ((hF119.1 22 (by decide)).trans (hF96.1 22 (by decide))); have h9 := SI.sb hI.1; obtain ⟨i1, i2, i3⟩ := h9; show 0 ≤ (σ116.1 22).toInt ∧ (σ116.1 22).toInt ≤ 44; rw [e9]; exact ⟨by omega, by omega⟩); rw [← q122] at hI123
                          have hF124 := fr_X11_code r5 (σ93.1 8) (σ116.1 8) σ116; rw [← q122] at hF124
                          refine ex_aload_n (q := 0) (x := 0) (np := 250) C (by decide +kernel) rfl rfl ?_
                          obtain ⟨σ125, q126⟩ : ∃ x, x = B_next σ121 := ⟨_, rfl⟩
                          refine ex_call_v (np := 253) (fun ws H locs ls hR hsz => ex_runV (C1 := "") C (m_X11_next_T d (by omega) σ121 (by rw [q122]; exact B_INV_code hI118)) hd1 hd2 (by decide) hy_X11_next tg_1540 hc_X11 rfl (WT_0 _) rfl rfl (Nat.le_of_ble_eq_true rfl) rfl tg_1537 tg_1539 tg_83 tg_158 (by decide +kernel) ws H locs ls hR hsz (Nat.zero_le _) (Nat.zero_le _)) rfl (fun w1 hpo => ?_)
                          rw [← q126] at hpo
                          subst hpo
                          have hI127 := inv_X11_next σ121 (by rw [q122]; exact B_INV_code hI118); rw [← q126] at hI127
                          have hF128 := fr_X11_next σ121; rw [← q126] at hF128
                          refine ex_iconst (n := 1) (v := 1) (np := 254) C (by decide +kernel) (by decide) rfl ?_
                          have E9 : B_operand σ = ((1 : Int32), σ125) := by unfold B_operand; exact (ex_lt_eq q2).trans ((ex_lt_eq q4).trans ((ex_lt_eq q6).trans ((if_pos h7).trans ((if_neg h85).trans ((if_neg h86).trans ((if_neg h92).trans ((ex_lt_eq q94).trans ((if_pos h97).trans ((if_pos h99).trans ((if_neg h100).trans ((if_neg h101).trans ((if_pos h102).trans ((if_neg h108).trans ((if_neg h115).trans ((ex_lt_eq q117).trans ((if_pos h120).trans ((ex_lt_eq q122).trans ((ex_lt_eq q126).trans (rfl)))))))))))))))))))
                          exact ex_iret C hr hlk (by decide +kernel) rfl (Nat.le_refl _) (Nat.le_refl _) (by rw [E9]; exact ⟨rfl, rfl⟩)
                        · skip
                          refine ex_aload_n (q := 0) (x := 0) (np := 233) C (by decide +kernel) rfl rfl ?_
                          refine ex_iconst (n := 1) (v := 1) (np := 234) C (by decide +kernel) (by decide) rfl ?_
                          obtain ⟨r129, σ130, q131⟩ : ∃ r x, B_bad (1 : Int32) σ116 = (r, x) := ex_pair _
                          refine ex_call_i (np := 237) (fun ws H locs ls hR hsz => ex_runV (C1 := "") C (m_X11_bad_T d (by omega) (1 : Int32) σ116) hd1 hd2 (by decide) hy_X11_bad tg_1566 hc_X11 rfl (WT_0 _) rfl rfl (Nat.le_of_ble_eq_true rfl) rfl tg_1563 tg_1565 tg_88 tg_158 (by decide +kernel) ws H locs ls hR hsz (Nat.zero_le _) (Nat.zero_le _)) rfl (fun r9 w1 hpo => ?_)
                          rw [q131] at hpo
                          have hp1 : r129 = r9 := hpo.1.symm
                          have hp2 := hpo.2
                          clear hpo; subst hp1; subst hp2
                          have hI132 := inv_X11_bad (1 : Int32) σ116 hI118; rw [q131] at hI132
                          have hF133 := fr_X11_bad (1 : Int32) σ116; rw [q131] at hF133
                          have E9 : B_operand σ = (r129, σ130) := by unfold B_operand; exact (ex_lt_eq q2).trans ((ex_lt_eq q4).trans ((ex_lt_eq q6).trans ((if_pos h7).trans ((if_neg h85).trans ((if_neg h86).trans ((if_neg h92).trans ((ex_lt_eq q94).trans ((if_pos h97).trans ((if_pos h99).trans ((if_neg h100).trans ((if_neg h101).trans ((if_pos h102).trans ((if_neg h108).trans ((if_neg h115).trans ((ex_lt_eq q117).trans ((if_neg h120).trans ((ex_bd_eq q131).trans (rfl))))))))))))))))))
                          exact ex_iret C hr hlk (by decide +kernel) (ex_nar (by have b9 := bl_X11_bad (1 : Int32) σ116; rw [q131] at b9; exact b9)) (Nat.le_refl _) (Nat.le_refl _) (by rw [E9]; exact ⟨rfl, rfl⟩)
                      · skip
                        refine ex_aload_n (q := 0) (x := 0) (np := 209) C (by decide +kernel) rfl rfl ?_
                        refine ex_iconst (n := 1) (v := 1) (np := 210) C (by decide +kernel) (by decide) rfl ?_
                        obtain ⟨r134, σ135, q136⟩ : ∃ r x, B_bad (1 : Int32) (sI 26 (1 : Int32) σ93) = (r, x) := ex_pair _
                        refine ex_call_i (np := 213) (fun ws H locs ls hR hsz => ex_runV (C1 := "") C (m_X11_bad_T d (by omega) (1 : Int32) (sI 26 (1 : Int32) σ93)) hd1 hd2 (by decide) hy_X11_bad tg_1566 hc_X11 rfl (WT_0 _) rfl rfl (Nat.le_of_ble_eq_true rfl) rfl tg_1563 tg_1565 tg_88 tg_158 (by decide +kernel) ws H locs ls hR hsz (Nat.zero_le _) (Nat.zero_le _)) rfl (fun r9 w1 hpo => ?_)
                        rw [q136] at hpo
                        have hp1 : r134 = r9 := hpo.1.symm
                        have hp2 := hpo.2
                        clear hpo; subst hp1; subst hp2
                        have hI137 := inv_X11_bad (1 : Int32) (sI 26 (1 : Int32) σ93) hI95; rw [q136] at hI137
                        have hF138 := fr_X11_bad (1 : Int32) (sI 26 (1 : Int32) σ93); rw [q136] at hF138
                        have E9 : B_operand σ = (r134, σ135) := by unfold B_operand; exact (ex_lt_eq q2).trans ((ex_lt_eq q4).trans ((ex_lt_eq q6).trans ((if_pos h7).trans ((if_neg h85).trans ((if_neg h86).trans ((if_neg h92).trans ((ex_lt_eq q94).trans ((if_pos h97).trans ((if_pos h99).trans ((if_neg h100).trans ((if_neg h101).trans ((if_pos h102).trans ((if_neg h108).trans ((if_pos h115).trans ((ex_bd_eq q136).trans (rfl))))))))))))))))
                        exact ex_iret C hr hlk (by decide +kernel) (ex_nar (by have b9 := bl_X11_bad (1 : Int32) (sI 26 (1 : Int32) σ93); rw [q136] at b9; exact b9)) (Nat.le_refl _) (Nat.le_refl _) (by rw [E9]; exact ⟨rfl, rfl⟩)
                · skip
                  refine ex_aload_n (q := 0) (x := 0) (np := 151) C (by decide +kernel) rfl rfl ?_
                  refine ex_iconst (n := 0) (v := 0) (np := 152) C (by decide +kernel) (by decide) rfl ?_
                  refine ex_aload_n (q := 0) (x := 0) (np := 153) C (by decide +kernel) rfl rfl ?_
                  refine ex_getf (q := 6) (v := .ref 2) (np := 156) C hc_X11 hin_X11 (by decide) tg_1381 (by decide +kernel) (WT_0 _) rfl rfl ?_
                  refine ex_iconst (n := 0) (v := 0) (np := 157) C (by decide +kernel) (by decide) rfl ?_
                  refine ex_iald (f := (σ93.2.2.1 1)) (kk := 0) (np := 158) C (by decide +kernel) (WT_2 _) (by decide) (by decide) rfl ?_
                  obtain ⟨r139, σ140, q141⟩ : ∃ r x, B_looksAt (0 : Int32) ((σ93.2.2.1 1) 0) (sI 26 (1 : Int32) σ93) = (r, x) := ex_pair _
                  refine ex_call_i (np := 161) (fun ws H locs ls hR hsz => ex_runV (C1 := "") C (m_X11_looksAt_T d (by omega) (0 : Int32) ((σ93.2.2.1 1) 0) (sI 26 (1 : Int32) σ93) hI95 (by have e9 : (σ93.2.2.1 1) 0 = σ.2.2.1 1 0 := congrArg (fun q => q.1 1 0) hF96.2; have s9 : 0 ≤ (σ.2.2.1 1 0).toInt ∧ (σ.2.2.1 1 0).toInt ≤ 7 := hI.2.2; have z9 : (0 : Int32).toInt = 0 := (by decide); show (0 ≤ (0 : Int32).toInt ∧ 0 ≤ ((σ93.2.2.1 1) 0).toInt) ∧ (0 : Int32).toInt + ((σ93.2.2.1 1) 0).toInt ≤ 30; rw [e9]; exact ⟨⟨by omega, by omega⟩, by omega⟩)) hd1 hd2 (by decide) hy_X11_looksAt tg_1605 hc_X11 rfl (WT_0 _) rfl rfl (Nat.le_of_ble_eq_true rfl) rfl tg_1602 tg_1604 tg_97 tg_158 (by decide +kernel) ws H locs ls hR hsz (Nat.zero_le _) (Nat.zero_le _)) rfl (fun r9 w1 hpo => ?_)
                  rw [q141] at hpo
                  have hp1 : r139 = r9 := hpo.1.symm
                  have hp2 := hpo.2
                  clear hpo; subst hp1; subst hp2
                  have hI142 := inv_X11_looksAt (0 : Int32) ((σ93.2.2.1 1) 0) (sI 26 (1 : Int32) σ93) hI95 (by have e9 : (σ93.2.2.1 1) 0 = σ.2.2.1 1 0 := congrArg (fun q => q.1 1 0) hF96.2; have s9 : 0 ≤ (σ.2.2.1 1 0).toInt ∧ (σ.2.2.1 1 0).toInt ≤ 7 := hI.2.2; have z9 : (0 : Int32).toInt = 0 := (by decide); show (0 ≤ (0 : Int32).toInt ∧ 0 ≤ ((σ93.2.2.1 1) 0).toInt) ∧ (0 : Int32).toInt + ((σ93.2.2.1 1) 0).toInt ≤ 30; rw [e9]; exact ⟨⟨by omega, by omega⟩, by omega⟩); rw [q141] at hI142
                  have hF143 := fr_X11_looksAt (0 : Int32) ((σ93.2.2.1 1) 0) (sI 26 (1 : Int32) σ93); rw [q141] at hF143
                  refine ex_if_ne (off := 5) (tgt := 166) (np := 164) C (by decide +kernel) (by decide) rfl (fun h144 => ?_) (fun h144 => ?_)
                  · skip
                    refine ex_aload_n (q := 0) (x := 0) (np := 167) C (by decide +kernel) rfl rfl ?_
                    refine ex_iload_n (q := 3) (x := r5) (np := 168) C (by decide +kernel) rfl rfl ?_
                    refine ex_iconst (n := 0) (v := 0) (np := 169) C (by decide +kernel) (by decide) rfl ?_
                    refine ex_aload_n (q := 0) (x := 0) (np := 170) C (by decide +kernel) rfl rfl ?_
                    refine ex_getf (q := 18) (v := .int (σ140.1 11)) (np := 173) C hc_X11 hin_X11 (by decide) tg_1393 (by decide +kernel) (WT_0 _) rfl rfl ?_
                    obtain ⟨σ145, q146⟩ : ∃ x, x = B_code r5 (0 : Int32) (σ140.1 11) σ140 := ⟨_, rfl⟩
                    refine ex_call_v (np := 176) (fun ws H locs ls hR hsz => ex_runV (C1 := "") C (m_X11_code d (by omega) r5 (0 : Int32) (σ140.1 11) σ140 (by have e9 : σ140.1 22 = σ.1 22 := ((hF143.1 22 (by decide)).trans (hF96.1 22 (by decide))); have h9 := SI.sb hI.1; obtain ⟨i1, i2, i3⟩ := h9; show 0 ≤ (σ140.1 22).toInt ∧ (σ140.1 22).toInt ≤ 44; rw [e9]; exact ⟨by omega, by omega⟩)) hd1 hd2 (by decide) hy_X11_code tg_1911 hc_X11 rfl (WT_0 _) rfl rfl (Nat.le_of_ble_eq_true rfl) rfl tg_1908 tg_1910 tg_135 tg_158 (by decide +kernel) ws H locs ls hR hsz (Nat.zero_le _) (Nat.zero_le _)) rfl (fun w1 hpo => ?_)
                    rw [← q146] at hpo
                    subst hpo
                    have hI147 := inv_X11_code r5 (0 : Int32) (σ140.1 11) σ140 (by have e9 : σ140.1 22 = σ.1 22 := ((hF143.1 22 (by decide)).trans (hF96.1 22 (by decide))); have h9 := SI.sb hI.1; obtain ⟨i1, i2, i3⟩ := h9; show 0 ≤ (σ140.1 22).toInt ∧ (σ140.1 22).toInt ≤ 44; rw [e9]; exact ⟨by omega, by omega⟩); rw [← q146] at hI147
                    have hF148 := fr_X11_code r5 (0 : Int32) (σ140.1 11) σ140; rw [← q146] at hF148
                    refine ex_aload_n (q := 0) (x := 0) (np := 177) C (by decide +kernel) rfl rfl ?_
                    obtain ⟨σ149, q150⟩ : ∃ x, x = B_next σ145 := ⟨_, rfl⟩
                    refine ex_call_v (np := 180) (fun ws H locs ls hR hsz => ex_runV (C1 := "") C (m_X11_next_T d (by omega) σ145 (by rw [q146]; exact B_INV_code hI142)) hd1 hd2 (by decide) hy_X11_next tg_1540 hc_X11 rfl (WT_0 _) rfl rfl (Nat.le_of_ble_eq_true rfl) rfl tg_1537 tg_1539 tg_83 tg_158 (by decide +kernel) ws H locs ls hR hsz (Nat.zero_le _) (Nat.zero_le _)) rfl (fun w1 hpo => ?_)
                    rw [← q150] at hpo
                    subst hpo
                    have hI151 := inv_X11_next σ145 (by rw [q146]; exact B_INV_code hI142); rw [← q150] at hI151
                    have hF152 := fr_X11_next σ145; rw [← q150] at hF152
                    refine ex_iconst (n := 1) (v := 1) (np := 181) C (by decide +kernel) (by decide) rfl ?_
                    have E9 : B_operand σ = ((1 : Int32), σ149) := by unfold B_operand; exact (ex_lt_eq q2).trans ((ex_lt_eq q4).trans ((ex_lt_eq q6).trans ((if_pos h7).trans ((if_neg h85).trans ((if_neg h86).trans ((if_neg h92).trans ((ex_lt_eq q94).trans ((if_pos h97).trans ((if_pos h99).trans ((if_neg h100).trans ((if_pos h101).trans ((ex_bd_eq q141).trans ((if_neg h144).trans ((ex_lt_eq q146).trans ((ex_lt_eq q150).trans (rfl))))))))))))))))
                    exact ex_iret C hr hlk (by decide +kernel) rfl (Nat.le_refl _) (Nat.le_refl _) (by rw [E9]; exact ⟨rfl, rfl⟩)
                  · skip
                    refine ex_iconst (n := 0) (v := 0) (np := 165) C (by decide +kernel) (by decide) rfl ?_
                    have E9 : B_operand σ = ((0 : Int32), σ140) := by unfold B_operand; exact (ex_lt_eq q2).trans ((ex_lt_eq q4).trans ((ex_lt_eq q6).trans ((if_pos h7).trans ((if_neg h85).trans ((if_neg h86).trans ((if_neg h92).trans ((ex_lt_eq q94).trans ((if_pos h97).trans ((if_pos h99).trans ((if_neg h100).trans ((if_pos h101).trans ((ex_bd_eq q141).trans ((if_pos h144).trans (rfl))))))))))))))
                    exact ex_iret C hr hlk (by decide +kernel) rfl (Nat.le_refl _) (Nat.le_refl _) (by rw [E9]; exact ⟨rfl, rfl⟩)
              · skip
                refine ex_aload_n (q := 0) (x := 0) (np := 137) C (by decide +kernel) rfl rfl ?_
                refine ex_iload_n (q := 3) (x := r5) (np := 138) C (by decide +kernel) rfl rfl ?_
                refine ex_iconst (n := 0) (v := 0) (np := 139) C (by decide +kernel) (by decide) rfl ?_
                refine ex_iconst (n := 0) (v := 0) (np := 140) C (by decide +kernel) (by decide) rfl ?_
                obtain ⟨σ153, q154⟩ : ∃ x, x = B_code r5 (0 : Int32) (0 : Int32) (sI 26 (1 : Int32) σ93) := ⟨_, rfl⟩
                refine ex_call_v (np := 143) (fun ws H locs ls hR hsz => ex_runV (C1 := "") C (m_X11_code d (by omega) r5 (0 : Int32) (0 : Int32) (sI 26 (1 : Int32) σ93) (by have e9 : σ93.1 22 = σ.1 22 := (hF96.1 22 (by decide)); have h9 := SI.sb hI.1; obtain ⟨i1, i2, i3⟩ := h9; show 0 ≤ (σ93.1 22).toInt ∧ (σ93.1 22).toInt ≤ 44; rw [e9]; exact ⟨by omega, by omega⟩)) hd1 hd2 (by decide) hy_X11_code tg_1911 hc_X11 rfl (WT_0 _) rfl rfl (Nat.le_of_ble_eq_true rfl) rfl tg_1908 tg_1910 tg_135 tg_158 (by decide +kernel) ws H locs ls hR hsz (Nat.zero_le _) (Nat.zero_le _)) rfl (fun w1 hpo => ?_)
                rw [← q154] at hpo
                subst hpo
                have hI155 := inv_X11_code r5 (0 : Int32) (0 : Int32) (sI 26 (1 : Int32) σ93) (by have e9 : σ93.1 22 = σ.1 22 := (hF96.1 22 (by decide)); have h9 := SI.sb hI.1; obtain ⟨i1, i2, i3⟩ := h9; show 0 ≤ (σ93.1 22).toInt ∧ (σ93.1 22).toInt ≤ 44; rw [e9]; exact ⟨by omega, by omega⟩); rw [← q154] at hI155
                have hF156 := fr_X11_code r5 (0 : Int32) (0 : Int32) (sI 26 (1 : Int32) σ93); rw [← q154] at hF156
                refine ex_iconst (n := 1) (v := 1) (np := 144) C (by decide +kernel) (by decide) rfl ?_
                have E9 : B_operand σ = ((1 : Int32), σ153) := by unfold B_operand; exact (ex_lt_eq q2).trans ((ex_lt_eq q4).trans ((ex_lt_eq q6).trans ((if_pos h7).trans ((if_neg h85).trans ((if_neg h86).trans ((if_neg h92).trans ((ex_lt_eq q94).trans ((if_pos h97).trans ((if_pos h99).trans ((if_pos h100).trans ((ex_lt_eq q154).trans (rfl))))))))))))
                exact ex_iret C hr hlk (by decide +kernel) rfl (Nat.le_refl _) (Nat.le_refl _) (by rw [E9]; exact ⟨rfl, rfl⟩)
            · skip
              refine ex_aload_n (q := 0) (x := 0) (np := 85) C (by decide +kernel) rfl rfl ?_
              refine ex_getf (q := 41) (v := .ref 7) (np := 88) C hc_X11 hin_X11 (by decide) tg_1416 (by decide +kernel) (WT_0 _) rfl rfl ?_
              refine ex_aload_n (q := 0) (x := 0) (np := 89) C (by decide +kernel) rfl rfl ?_
              refine ex_getf (q := 44) (v := .int (σ93.1 24)) (np := 92) C hc_X11 hin_X11 (by decide) tg_1419 (by decide +kernel) (WT_0 _) rfl rfl ?_
              refine ex_iload_n (q := 1) (x := r1) (np := 93) C (by decide +kernel) rfl rfl ?_
              refine ex_if_eq (off := 8) (tgt := 101) (np := 96) C (by decide +kernel) (by decide) rfl (fun h157 => ?_) (fun h157 => ?_)
              · skip
                refine ex_bipush (n := 23) (v := 23) (np := 103) C (by decide +kernel) (by decide) rfl ?_
                refine ex_iast (f := (σ93.2.2.1 4)) (kk := ((σ93.1 24)).toNatClampNeg) (w1 := (WT (sR 4 (upd (σ93.2.2.1 4) ((σ93.1 24)).toNatClampNeg (23 : Int32)) σ93))) (np := 104) C (by decide +kernel) (WT_7 _) (by have e9 : σ93.1 24 = σ.1 24 := (hF96.1 24 (by decide)); have h9 := SI.sb hI.1; obtain ⟨i1, i2, i3⟩ := h9; rw [e9]; exact ⟨by omega, by omega⟩) rfl (WT_7_s _ _) rfl ?_
                refine ex_aload_n (q := 0) (x := 0) (np := 105) C (by decide +kernel) rfl rfl ?_
                refine ex_dup (np := 106) C rfl (by decide +kernel) rfl ?_
                refine ex_getf (q := 44) (v := .int (σ93.1 24)) (np := 109) C hc_X11 hin_X11 (by decide) tg_1419 (by decide +kernel) (WT_0 _) rfl rfl ?_
                refine ex_iconst (n := 1) (v := 1) (np := 110) C (by decide +kernel) (by decide) rfl ?_
                refine ex_iadd (v := ((σ93.1 24) + (1 : Int32))) (np := 111) C (by decide +kernel) rfl rfl ?_
                refine ex_putf (q := 44) (w1 := (WT (sI 24 ((σ93.1 24) + (1 : Int32)) (sR 4 (upd (σ93.2.2.1 4) ((σ93.1 24)).toNatClampNeg (23 : Int32)) σ93)))) (np := 114) C hc_X11 hin_X11 (by decide) tyX11_ok nmX11 tg_1419 rfl (by decide +kernel) (WT_0 _) (Nat.le_of_ble_eq_true rfl) rfl rfl (WT_0_44 _ _) rfl ?_
                refine ex_aload_n (q := 0) (x := 0) (np := 115) C (by decide +kernel) rfl rfl ?_
                refine ex_dup (np := 116) C rfl (by decide +kernel) rfl ?_
                refine ex_getf (q := 45) (v := .int (σ93.1 25)) (np := 119) C hc_X11 hin_X11 (by decide) tg_1420 (by decide +kernel) (WT_0 _) rfl rfl ?_
                refine ex_iconst (n := 1) (v := 1) (np := 120) C (by decide +kernel) (by decide) rfl ?_
                refine ex_iadd (v := ((σ93.1 25) + (1 : Int32))) (np := 121) C (by decide +kernel) rfl rfl ?_
                refine ex_putf (q := 45) (w1 := (WT (sI 25 ((σ93.1 25) + (1 : Int32)) (sI 24 ((σ93.1 24) + (1 : Int32)) (sR 4 (upd (σ93.2.2.1 4) ((σ93.1 24)).toNatClampNeg (23 : Int32)) σ93))))) (np := 124) C hc_X11 hin_X11 (by decide) tyX11_ok nmX11 tg_1420 rfl (by decide +kernel) (WT_0 _) (Nat.le_of_ble_eq_true rfl) rfl rfl (WT_0_45 _ _) rfl ?_
                refine ex_iconst (n := 1) (v := 1) (np := 125) C (by decide +kernel) (by decide) rfl ?_
                have E9 : B_operand σ = ((1 : Int32), (sI 25 ((σ93.1 25) + (1 : Int32)) (sI 24 ((σ93.1 24) + (1 : Int32)) (sR 4 (upd (σ93.2.2.1 4) ((σ93.1 24)).toNatClampNeg (23 : Int32)) σ93)))) := by unfold B_operand; exact (ex_lt_eq q2).trans ((ex_lt_eq q4).trans ((ex_lt_eq q6).trans ((if_pos h7).trans ((if_neg h85).trans ((if_neg h86).trans ((if_neg h92).trans ((ex_lt_eq q94).trans ((if_pos h97).trans ((if_neg h99).trans ((if_pos h157).trans (rfl)))))))))))
                exact ex_iret C hr hlk (by decide +kernel) rfl (Nat.le_refl _) (Nat.le_refl _) (by rw [E9]; exact ⟨rfl, rfl⟩)
              · skip
                refine ex_bipush (n := 20) (v := 20) (np := 98) C (by decide +kernel) (by decide) rfl ?_
                refine ex_goto (off := 5) (tgt := 103) C (by decide +kernel) (by decide) ?_
                refine ex_iast (f := (σ93.2.2.1 4)) (kk := ((σ93.1 24)).toNatClampNeg) (w1 := (WT (sR 4 (upd (σ93.2.2.1 4) ((σ93.1 24)).toNatClampNeg (20 : Int32)) σ93))) (np := 104) C (by decide +kernel) (WT_7 _) (by have e9 : σ93.1 24 = σ.1 24 := (hF96.1 24 (by decide)); have h9 := SI.sb hI.1; obtain ⟨i1, i2, i3⟩ := h9; rw [e9]; exact ⟨by omega, by omega⟩) rfl (WT_7_s _ _) rfl ?_
                refine ex_aload_n (q := 0) (x := 0) (np := 105) C (by decide +kernel) rfl rfl ?_
                refine ex_dup (np := 106) C rfl (by decide +kernel) rfl ?_
                refine ex_getf (q := 44) (v := .int (σ93.1 24)) (np := 109) C hc_X11 hin_X11 (by decide) tg_1419 (by decide +kernel) (WT_0 _) rfl rfl ?_
                refine ex_iconst (n := 1) (v := 1) (np := 110) C (by decide +kernel) (by decide) rfl ?_
                refine ex_iadd (v := ((σ93.1 24) + (1 : Int32))) (np := 111) C (by decide +kernel) rfl rfl ?_
                refine ex_putf (q := 44) (w1 := (WT (sI 24 ((σ93.1 24) + (1 : Int32)) (sR 4 (upd (σ93.2.2.1 4) ((σ93.1 24)).toNatClampNeg (20 : Int32)) σ93)))) (np := 114) C hc_X11 hin_X11 (by decide) tyX11_ok nmX11 tg_1419 rfl (by decide +kernel) (WT_0 _) (Nat.le_of_ble_eq_true rfl) rfl rfl (WT_0_44 _ _) rfl ?_
                refine ex_aload_n (q := 0) (x := 0) (np := 115) C (by decide +kernel) rfl rfl ?_
                refine ex_dup (np := 116) C rfl (by decide +kernel) rfl ?_
                refine ex_getf (q := 45) (v := .int (σ93.1 25)) (np := 119) C hc_X11 hin_X11 (by decide) tg_1420 (by decide +kernel) (WT_0 _) rfl rfl ?_
                refine ex_iconst (n := 1) (v := 1) (np := 120) C (by decide +kernel) (by decide) rfl ?_
                refine ex_iadd (v := ((σ93.1 25) + (1 : Int32))) (np := 121) C (by decide +kernel) rfl rfl ?_
                refine ex_putf (q := 45) (w1 := (WT (sI 25 ((σ93.1 25) + (1 : Int32)) (sI 24 ((σ93.1 24) + (1 : Int32)) (sR 4 (upd (σ93.2.2.1 4) ((σ93.1 24)).toNatClampNeg (20 : Int32)) σ93))))) (np := 124) C hc_X11 hin_X11 (by decide) tyX11_ok nmX11 tg_1420 rfl (by decide +kernel) (WT_0 _) (Nat.le_of_ble_eq_true rfl) rfl rfl (WT_0_45 _ _) rfl ?_
                refine ex_iconst (n := 1) (v := 1) (np := 125) C (by decide +kernel) (by decide) rfl ?_
                have E9 : B_operand σ = ((1 : Int32), (sI 25 ((σ93.1 25) + (1 : Int32)) (sI 24 ((σ93.1 24) + (1 : Int32)) (sR 4 (upd (σ93.2.2.1 4) ((σ93.1 24)).toNatClampNeg (20 : Int32)) σ93)))) := by unfold B_operand; exact (ex_lt_eq q2).trans ((ex_lt_eq q4).trans ((ex_lt_eq q6).trans ((if_pos h7).trans ((if_neg h85).trans ((if_neg h86).trans ((if_neg h92).trans ((ex_lt_eq q94).trans ((if_pos h97).trans ((if_neg h99).trans ((if_neg h157).trans (rfl)))))))))))
                exact ex_iret C hr hlk (by decide +kernel) rfl (Nat.le_refl _) (Nat.le_refl _) (by rw [E9]; exact ⟨rfl, rfl⟩)
        · skip
          refine ex_aload_n (q := 0) (x := 0) (np := 57) C (by decide +kernel) rfl rfl ?_
          refine ex_iconst (n := 4) (v := 4) (np := 58) C (by decide +kernel) (by decide) rfl ?_
          obtain ⟨r158, σ159, q160⟩ : ∃ r x, B_bad (4 : Int32) σ = (r, x) := ex_pair _
          refine ex_call_i (np := 61) (fun ws H locs ls hR hsz => ex_runV (C1 := "") C (m_X11_bad_T d (by omega) (4 : Int32) σ) hd1 hd2 (by decide) hy_X11_bad tg_1566 hc_X11 rfl (WT_0 _) rfl rfl (Nat.le_of_ble_eq_true rfl) rfl tg_1563 tg_1565 tg_88 tg_158 (by decide +kernel) ws H locs ls hR hsz (Nat.zero_le _) (Nat.zero_le _)) rfl (fun r9 w1 hpo => ?_)
          rw [q160] at hpo
          have hp1 : r158 = r9 := hpo.1.symm
          have hp2 := hpo.2
          clear hpo; subst hp1; subst hp2
          have hI161 := inv_X11_bad (4 : Int32) σ hI.1.1; rw [q160] at hI161
          have hF162 := fr_X11_bad (4 : Int32) σ; rw [q160] at hF162
          have E9 : B_operand σ = (r158, σ159) := by unfold B_operand; exact (ex_lt_eq q2).trans ((ex_lt_eq q4).trans ((ex_lt_eq q6).trans ((if_pos h7).trans ((if_neg h85).trans ((if_neg h86).trans ((if_pos h92).trans ((ex_bd_eq q160).trans (rfl))))))))
          exact ex_iret C hr hlk (by decide +kernel) (ex_nar (by have b9 := bl_X11_bad (4 : Int32) σ; rw [q160] at b9; exact b9)) (Nat.le_refl _) (Nat.le_refl _) (by rw [E9]; exact ⟨rfl, rfl⟩)
    · skip
      refine ex_iload_n (q := 3) (x := r5) (np := 29) C (by decide +kernel) rfl rfl ?_
      refine ex_if_ge (off := 9) (tgt := 38) (np := 32) C (by decide +kernel) (by decide) rfl (fun h163 => ?_) (fun h163 => ?_)
      · skip
        refine ex_aload_n (q := 0) (x := 0) (np := 39) C (by decide +kernel) rfl rfl ?_
        refine ex_getf (q := 43) (v := .int (σ.1 23)) (np := 42) C hc_X11 hin_X11 (by decide) tg_1418 (by decide +kernel) (WT_0 _) rfl rfl ?_
        refine ex_bipush (n := 20) (v := 20) (np := 44) C (by decide +kernel) (by decide) rfl ?_
        refine ex_icmp_eq (off := 12) (tgt := 56) (np := 47) C (by decide +kernel) (by decide) rfl (fun h164 => ?_) (fun h164 => ?_)
        · skip
          refine ex_aload_n (q := 0) (x := 0) (np := 57) C (by decide +kernel) rfl rfl ?_
          refine ex_iconst (n := 4) (v := 4) (np := 58) C (by decide +kernel) (by decide) rfl ?_
          obtain ⟨r165, σ166, q167⟩ : ∃ r x, B_bad (4 : Int32) σ = (r, x) := ex_pair _
          refine ex_call_i (np := 61) (fun ws H locs ls hR hsz => ex_runV (C1 := "") C (m_X11_bad_T d (by omega) (4 : Int32) σ) hd1 hd2 (by decide) hy_X11_bad tg_1566 hc_X11 rfl (WT_0 _) rfl rfl (Nat.le_of_ble_eq_true rfl) rfl tg_1563 tg_1565 tg_88 tg_158 (by decide +kernel) ws H locs ls hR hsz (Nat.zero_le _) (Nat.zero_le _)) rfl (fun r9 w1 hpo => ?_)
          rw [q167] at hpo
          have hp1 : r165 = r9 := hpo.1.symm
          have hp2 := hpo.2
          clear hpo; subst hp1; subst hp2
          have hI168 := inv_X11_bad (4 : Int32) σ hI.1.1; rw [q167] at hI168
          have hF169 := fr_X11_bad (4 : Int32) σ; rw [q167] at hF169
          have E9 : B_operand σ = (r165, σ166) := by unfold B_operand; exact (ex_lt_eq q2).trans ((ex_lt_eq q4).trans ((ex_lt_eq q6).trans ((if_pos h7).trans ((if_pos h85).trans ((if_neg h163).trans ((if_pos h164).trans ((ex_bd_eq q167).trans (rfl))))))))
          exact ex_iret C hr hlk (by decide +kernel) (ex_nar (by have b9 := bl_X11_bad (4 : Int32) σ; rw [q167] at b9; exact b9)) (Nat.le_refl _) (Nat.le_refl _) (by rw [E9]; exact ⟨rfl, rfl⟩)
        · skip
          refine ex_aload_n (q := 0) (x := 0) (np := 48) C (by decide +kernel) rfl rfl ?_
          refine ex_getf (q := 45) (v := .int (σ.1 25)) (np := 51) C hc_X11 hin_X11 (by decide) tg_1420 (by decide +kernel) (WT_0 _) rfl rfl ?_
          refine ex_bipush (n := 8) (v := 8) (np := 53) C (by decide +kernel) (by decide) rfl ?_
          refine ex_icmp_le (off := 9) (tgt := 62) (np := 56) C (by decide +kernel) (by decide) rfl (fun h170 => ?_) (fun h170 => ?_)
          · skip
            refine ex_aload_n (q := 0) (x := 0) (np := 63) C (by decide +kernel) rfl rfl ?_
            refine ex_dup (np := 64) C rfl (by decide +kernel) rfl ?_
            refine ex_getf (q := 43) (v := .int (σ.1 23)) (np := 67) C hc_X11 hin_X11 (by decide) tg_1418 (by decide +kernel) (WT_0 _) rfl rfl ?_
            refine ex_iconst (n := 1) (v := 1) (np := 68) C (by decide +kernel) (by decide) rfl ?_
            refine ex_iadd (v := ((σ.1 23) + (1 : Int32))) (np := 69) C (by decide +kernel) rfl rfl ?_
            refine ex_putf (q := 43) (w1 := (WT (sI 23 ((σ.1 23) + (1 : Int32)) σ))) (np := 72) C hc_X11 hin_X11 (by decide) tyX11_ok nmX11 tg_1418 rfl (by decide +kernel) (WT_0 _) (Nat.le_of_ble_eq_true rfl) rfl rfl (WT_0_43 _ _) rfl ?_
            refine ex_aload_n (q := 0) (x := 0) (np := 73) C (by decide +kernel) rfl rfl ?_
            obtain ⟨σ171, q172⟩ : ∃ x, x = B_next (sI 23 ((σ.1 23) + (1 : Int32)) σ) := ⟨_, rfl⟩
            refine ex_call_v (np := 76) (fun ws H locs ls hR hsz => ex_runV (C1 := "") C (m_X11_next_T d (by omega) (sI 23 ((σ.1 23) + (1 : Int32)) σ) hI.1.1) hd1 hd2 (by decide) hy_X11_next tg_1540 hc_X11 rfl (WT_0 _) rfl rfl (Nat.le_of_ble_eq_true rfl) rfl tg_1537 tg_1539 tg_83 tg_158 (by decide +kernel) ws H locs ls hR hsz (Nat.zero_le _) (Nat.zero_le _)) rfl (fun w1 hpo => ?_)
            rw [← q172] at hpo
            subst hpo
            have hI173 := inv_X11_next (sI 23 ((σ.1 23) + (1 : Int32)) σ) hI.1.1; rw [← q172] at hI173
            have hF174 := fr_X11_next (sI 23 ((σ.1 23) + (1 : Int32)) σ); rw [← q172] at hF174
            refine ex_iload_n (q := 1) (x := r1) (np := 77) C (by decide +kernel) rfl rfl ?_
            refine ex_if_ne (off := 7) (tgt := 84) (np := 80) C (by decide +kernel) (by decide) rfl (fun h175 => ?_) (fun h175 => ?_)
            · skip
              refine ex_aload_n (q := 0) (x := 0) (np := 85) C (by decide +kernel) rfl rfl ?_
              refine ex_getf (q := 41) (v := .ref 7) (np := 88) C hc_X11 hin_X11 (by decide) tg_1416 (by decide +kernel) (WT_0 _) rfl rfl ?_
              refine ex_aload_n (q := 0) (x := 0) (np := 89) C (by decide +kernel) rfl rfl ?_
              refine ex_getf (q := 44) (v := .int (σ171.1 24)) (np := 92) C hc_X11 hin_X11 (by decide) tg_1419 (by decide +kernel) (WT_0 _) rfl rfl ?_
              refine ex_iload_n (q := 1) (x := r1) (np := 93) C (by decide +kernel) rfl rfl ?_
              refine ex_if_eq (off := 8) (tgt := 101) (np := 96) C (by decide +kernel) (by decide) rfl (fun h176 => ?_) (fun h176 => ?_)
              · skip
                refine ex_bipush (n := 23) (v := 23) (np := 103) C (by decide +kernel) (by decide) rfl ?_
                refine ex_iast (f := (σ171.2.2.1 4)) (kk := ((σ171.1 24)).toNatClampNeg) (w1 := (WT (sR 4 (upd (σ171.2.2.1 4) ((σ171.1 24)).toNatClampNeg (23 : Int32)) σ171))) (np := 104) C (by decide +kernel) (WT_7 _) (by have e9 : σ171.1 24 = σ.1 24 := (hF174.1 24 (by decide)); have h9 := SI.sb hI.1; obtain ⟨i1, i2, i3⟩ := h9; rw [e9]; exact ⟨by omega, by omega⟩) rfl (WT_7_s _ _) rfl ?_
                refine ex_aload_n (q := 0) (x := 0) (np := 105) C (by decide +kernel) rfl rfl ?_
                refine ex_dup (np := 106) C rfl (by decide +kernel) rfl ?_
                refine ex_getf (q := 44) (v := .int (σ171.1 24)) (np := 109) C hc_X11 hin_X11 (by decide) tg_1419 (by decide +kernel) (WT_0 _) rfl rfl ?_
                refine ex_iconst (n := 1) (v := 1) (np := 110) C (by decide +kernel) (by decide) rfl ?_
                refine ex_iadd (v := ((σ171.1 24) + (1 : Int32))) (np := 111) C (by decide +kernel) rfl rfl ?_
                refine ex_putf (q := 44) (w1 := (WT (sI 24 ((σ171.1 24) + (1 : Int32)) (sR 4 (upd (σ171.2.2.1 4) ((σ171.1 24)).toNatClampNeg (23 : Int32)) σ171)))) (np := 114) C hc_X11 hin_X11 (by decide) tyX11_ok nmX11 tg_1419 rfl (by decide +kernel) (WT_0 _) (Nat.le_of_ble_eq_true rfl) rfl rfl (WT_0_44 _ _) rfl ?_
                refine ex_aload_n (q := 0) (x := 0) (np := 115) C (by decide +kernel) rfl rfl ?_
                refine ex_dup (np := 116) C rfl (by decide +kernel) rfl ?_
                refine ex_getf (q := 45) (v := .int (σ171.1 25)) (np := 119) C hc_X11 hin_X11 (by decide) tg_1420 (by decide +kernel) (WT_0 _) rfl rfl ?_
                refine ex_iconst (n := 1) (v := 1) (np := 120) C (by decide +kernel) (by decide) rfl ?_
                refine ex_iadd (v := ((σ171.1 25) + (1 : Int32))) (np := 121) C (by decide +kernel) rfl rfl ?_
                refine ex_putf (q := 45) (w1 := (WT (sI 25 ((σ171.1 25) + (1 : Int32)) (sI 24 ((σ171.1 24) + (1 : Int32)) (sR 4 (upd (σ171.2.2.1 4) ((σ171.1 24)).toNatClampNeg (23 : Int32)) σ171))))) (np := 124) C hc_X11 hin_X11 (by decide) tyX11_ok nmX11 tg_1420 rfl (by decide +kernel) (WT_0 _) (Nat.le_of_ble_eq_true rfl) rfl rfl (WT_0_45 _ _) rfl ?_
                refine ex_iconst (n := 1) (v := 1) (np := 125) C (by decide +kernel) (by decide) rfl ?_
                have E9 : B_operand σ = ((1 : Int32), (sI 25 ((σ171.1 25) + (1 : Int32)) (sI 24 ((σ171.1 24) + (1 : Int32)) (sR 4 (upd (σ171.2.2.1 4) ((σ171.1 24)).toNatClampNeg (23 : Int32)) σ171)))) := by unfold B_operand; exact (ex_lt_eq q2).trans ((ex_lt_eq q4).trans ((ex_lt_eq q6).trans ((if_pos h7).trans ((if_pos h85).trans ((if_neg h163).trans ((if_neg h164).trans ((if_neg h170).trans ((ex_lt_eq q172).trans ((if_neg h175).trans ((if_pos h176).trans (rfl)))))))))))
                exact ex_iret C hr hlk (by decide +kernel) rfl (Nat.le_refl _) (Nat.le_refl _) (by rw [E9]; exact ⟨rfl, rfl⟩)
              · skip
                refine ex_bipush (n := 20) (v := 20) (np := 98) C (by decide +kernel) (by decide) rfl ?_
                refine ex_goto (off := 5) (tgt := 103) C (by decide +kernel) (by decide) ?_
                refine ex_iast (f := (σ171.2.2.1 4)) (kk := ((σ171.1 24)).toNatClampNeg) (w1 := (WT (sR 4 (upd (σ171.2.2.1 4) ((σ171.1 24)).toNatClampNeg (20 : Int32)) σ171))) (np := 104) C (by decide +kernel) (WT_7 _) (by have e9 : σ171.1 24 = σ.1 24 := (hF174.1 24 (by decide)); have h9 := SI.sb hI.1; obtain ⟨i1, i2, i3⟩ := h9; rw [e9]; exact ⟨by omega, by omega⟩) rfl (WT_7_s _ _) rfl ?_
                refine ex_aload_n (q := 0) (x := 0) (np := 105) C (by decide +kernel) rfl rfl ?_
                refine ex_dup (np := 106) C rfl (by decide +kernel) rfl ?_
                refine ex_getf (q := 44) (v := .int (σ171.1 24)) (np := 109) C hc_X11 hin_X11 (by decide) tg_1419 (by decide +kernel) (WT_0 _) rfl rfl ?_
                refine ex_iconst (n := 1) (v := 1) (np := 110) C (by decide +kernel) (by decide) rfl ?_
                refine ex_iadd (v := ((σ171.1 24) + (1 : Int32))) (np := 111) C (by decide +kernel) rfl rfl ?_
                refine ex_putf (q := 44) (w1 := (WT (sI 24 ((σ171.1 24) + (1 : Int32)) (sR 4 (upd (σ171.2.2.1 4) ((σ171.1 24)).toNatClampNeg (20 : Int32)) σ171)))) (np := 114) C hc_X11 hin_X11 (by decide) tyX11_ok nmX11 tg_1419 rfl (by decide +kernel) (WT_0 _) (Nat.le_of_ble_eq_true rfl) rfl rfl (WT_0_44 _ _) rfl ?_
                refine ex_aload_n (q := 0) (x := 0) (np := 115) C (by decide +kernel) rfl rfl ?_
                refine ex_dup (np := 116) C rfl (by decide +kernel) rfl ?_
                refine ex_getf (q := 45) (v := .int (σ171.1 25)) (np := 119) C hc_X11 hin_X11 (by decide) tg_1420 (by decide +kernel) (WT_0 _) rfl rfl ?_
                refine ex_iconst (n := 1) (v := 1) (np := 120) C (by decide +kernel) (by decide) rfl ?_
                refine ex_iadd (v := ((σ171.1 25) + (1 : Int32))) (np := 121) C (by decide +kernel) rfl rfl ?_
                refine ex_putf (q := 45) (w1 := (WT (sI 25 ((σ171.1 25) + (1 : Int32)) (sI 24 ((σ171.1 24) + (1 : Int32)) (sR 4 (upd (σ171.2.2.1 4) ((σ171.1 24)).toNatClampNeg (20 : Int32)) σ171))))) (np := 124) C hc_X11 hin_X11 (by decide) tyX11_ok nmX11 tg_1420 rfl (by decide +kernel) (WT_0 _) (Nat.le_of_ble_eq_true rfl) rfl rfl (WT_0_45 _ _) rfl ?_
                refine ex_iconst (n := 1) (v := 1) (np := 125) C (by decide +kernel) (by decide) rfl ?_
                have E9 : B_operand σ = ((1 : Int32), (sI 25 ((σ171.1 25) + (1 : Int32)) (sI 24 ((σ171.1 24) + (1 : Int32)) (sR 4 (upd (σ171.2.2.1 4) ((σ171.1 24)).toNatClampNeg (20 : Int32)) σ171)))) := by unfold B_operand; exact (ex_lt_eq q2).trans ((ex_lt_eq q4).trans ((ex_lt_eq q6).trans ((if_pos h7).trans ((if_pos h85).trans ((if_neg h163).trans ((if_neg h164).trans ((if_neg h170).trans ((ex_lt_eq q172).trans ((if_neg h175).trans ((if_neg h176).trans (rfl)))))))))))
                exact ex_iret C hr hlk (by decide +kernel) rfl (Nat.le_refl _) (Nat.le_refl _) (by rw [E9]; exact ⟨rfl, rfl⟩)
            · skip
              refine ex_iload_n (q := 2) (x := r3) (np := 81) C (by decide +kernel) rfl rfl ?_
              refine ex_if_eq (off := 45) (tgt := 126) (np := 84) C (by decide +kernel) (by decide) rfl (fun h177 => ?_) (fun h177 => ?_)
              · skip
                refine ex_aload_n (q := 0) (x := 0) (np := 127) C (by decide +kernel) rfl rfl ?_
                refine ex_iconst (n := 1) (v := 1) (np := 128) C (by decide +kernel) (by decide) rfl ?_
                refine ex_putf (q := 46) (w1 := (WT (sI 26 (1 : Int32) σ171))) (np := 131) C hc_X11 hin_X11 (by decide) tyX11_ok nmX11 tg_1421 rfl (by decide +kernel) (WT_0 _) (Nat.le_of_ble_eq_true rfl) rfl rfl (WT_0_46 _ _) rfl ?_
                refine ex_iload_n (q := 3) (x := r5) (np := 132) C (by decide +kernel) rfl rfl ?_
                refine ex_iconst (n := 3) (v := 3) (np := 133) C (by decide +kernel) (by decide) rfl ?_
                refine ex_icmp_ge (off := 12) (tgt := 145) (np := 136) C (by decide +kernel) (by decide) rfl (fun h178 => ?_) (fun h178 => ?_)
                · skip
                  refine ex_iload_n (q := 3) (x := r5) (np := 146) C (by decide +kernel) rfl rfl ?_
                  refine ex_iconst (n := 3) (v := 3) (np := 147) C (by decide +kernel) (by decide) rfl ?_
                  refine ex_icmp_ne (off := 35) (tgt := 182) (np := 150) C (by decide +kernel) (by decide) rfl (fun h179 => ?_) (fun h179 => ?_)
                  · skip
                    refine ex_aload_n (q := 0) (x := 0) (np := 183) C (by decide +kernel) rfl rfl ?_
                    refine ex_getf (q := 11) (v := .int (σ171.1 5)) (np := 186) C hc_X11 hin_X11 (by decide) tg_1386 (by decide +kernel) (WT_0 _) rfl rfl ?_
                    refine ex_iconst (n := 3) (v := 3) (np := 187) C (by decide +kernel) (by decide) rfl ?_
                    refine ex_icmp_ne (off := 21) (tgt := 208) (np := 190) C (by decide +kernel) (by decide) rfl (fun h180 => ?_) (fun h180 => ?_)
                    · skip
                      refine ex_aload_n (q := 0) (x := 0) (np := 209) C (by decide +kernel) rfl rfl ?_
                      refine ex_iconst (n := 1) (v := 1) (np := 210) C (by decide +kernel) (by decide) rfl ?_
                      obtain ⟨r181, σ182, q183⟩ : ∃ r x, B_bad (1 : Int32) (sI 26 (1 : Int32) σ171) = (r, x) := ex_pair _
                      refine ex_call_i (np := 213) (fun ws H locs ls hR hsz => ex_runV (C1 := "") C (m_X11_bad_T d (by omega) (1 : Int32) (sI 26 (1 : Int32) σ171)) hd1 hd2 (by decide) hy_X11_bad tg_1566 hc_X11 rfl (WT_0 _) rfl rfl (Nat.le_of_ble_eq_true rfl) rfl tg_1563 tg_1565 tg_88 tg_158 (by decide +kernel) ws H locs ls hR hsz (Nat.zero_le _) (Nat.zero_le _)) rfl (fun r9 w1 hpo => ?_)
                      rw [q183] at hpo
                      have hp1 : r181 = r9 := hpo.1.symm
                      have hp2 := hpo.2
                      clear hpo; subst hp1; subst hp2
                      have hI184 := inv_X11_bad (1 : Int32) (sI 26 (1 : Int32) σ171) hI173; rw [q183] at hI184
                      have hF185 := fr_X11_bad (1 : Int32) (sI 26 (1 : Int32) σ171); rw [q183] at hF185
                      have E9 : B_operand σ = (r181, σ182) := by unfold B_operand; exact (ex_lt_eq q2).trans ((ex_lt_eq q4).trans ((ex_lt_eq q6).trans ((if_pos h7).trans ((if_pos h85).trans ((if_neg h163).trans ((if_neg h164).trans ((if_neg h170).trans ((ex_lt_eq q172).trans ((if_pos h175).trans ((if_pos h177).trans ((if_neg h178).trans ((if_neg h179).trans ((if_neg h180).trans ((ex_bd_eq q183).trans (rfl)))))))))))))))
                      exact ex_iret C hr hlk (by decide +kernel) (ex_nar (by have b9 := bl_X11_bad (1 : Int32) (sI 26 (1 : Int32) σ171); rw [q183] at b9; exact b9)) (Nat.le_refl _) (Nat.le_refl _) (by rw [E9]; exact ⟨rfl, rfl⟩)
                    · skip
                      refine ex_aload_n (q := 0) (x := 0) (np := 191) C (by decide +kernel) rfl rfl ?_
                      refine ex_getf (q := 14) (v := .int (σ171.1 8)) (np := 194) C hc_X11 hin_X11 (by decide) tg_1389 (by decide +kernel) (WT_0 _) rfl rfl ?_
                      refine ex_bipush (n := 60) (v := 60) (np := 196) C (by decide +kernel) (by decide) rfl ?_
                      refine ex_icmp_lt (off := 12) (tgt := 208) (np := 199) C (by decide +kernel) (by decide) rfl (fun h186 => ?_) (fun h186 => ?_)
                      · skip
                        refine ex_aload_n (q := 0) (x := 0) (np := 209) C (by decide +kernel) rfl rfl ?_
                        refine ex_iconst (n := 1) (v := 1) (np := 210) C (by decide +kernel) (by decide) rfl ?_
                        obtain ⟨r187, σ188, q189⟩ : ∃ r x, B_bad (1 : Int32) (sI 26 (1 : Int32) σ171) = (r, x) := ex_pair _
                        refine ex_call_i (np := 213) (fun ws H locs ls hR hsz => ex_runV (C1 := "") C (m_X11_bad_T d (by omega) (1 : Int32) (sI 26 (1 : Int32) σ171)) hd1 hd2 (by decide) hy_X11_bad tg_1566 hc_X11 rfl (WT_0 _) rfl rfl (Nat.le_of_ble_eq_true rfl) rfl tg_1563 tg_1565 tg_88 tg_158 (by decide +kernel) ws H locs ls hR hsz (Nat.zero_le _) (Nat.zero_le _)) rfl (fun r9 w1 hpo => ?_)
                        rw [q189] at hpo
                        have hp1 : r187 = r9 := hpo.1.symm
                        have hp2 := hpo.2
                        clear hpo; subst hp1; subst hp2
                        have hI190 := inv_X11_bad (1 : Int32) (sI 26 (1 : Int32) σ171) hI173; rw [q189] at hI190
                        have hF191 := fr_X11_bad (1 : Int32) (sI 26 (1 : Int32) σ171); rw [q189] at hF191
                        have E9 : B_operand σ = (r187, σ188) := by unfold B_operand; exact (ex_lt_eq q2).trans ((ex_lt_eq q4).trans ((ex_lt_eq q6).trans ((if_pos h7).trans ((if_pos h85).trans ((if_neg h163).trans ((if_neg h164).trans ((if_neg h170).trans ((ex_lt_eq q172).trans ((if_pos h175).trans ((if_pos h177).trans ((if_neg h178).trans ((if_neg h179).trans ((if_pos h180).trans ((if_pos h186).trans ((ex_bd_eq q189).trans (rfl))))))))))))))))
                        exact ex_iret C hr hlk (by decide +kernel) (ex_nar (by have b9 := bl_X11_bad (1 : Int32) (sI 26 (1 : Int32) σ171); rw [q189] at b9; exact b9)) (Nat.le_refl _) (Nat.le_refl _) (by rw [E9]; exact ⟨rfl, rfl⟩)
                      · skip
                        refine ex_aload_n (q := 0) (x := 0) (np := 200) C (by decide +kernel) rfl rfl ?_
                        refine ex_getf (q := 14) (v := .int (σ171.1 8)) (np := 203) C hc_X11 hin_X11 (by decide) tg_1389 (by decide +kernel) (WT_0 _) rfl rfl ?_
                        refine ex_bipush (n := 62) (v := 62) (np := 205) C (by decide +kernel) (by decide) rfl ?_
                        refine ex_icmp_le (off := 9) (tgt := 214) (np := 208) C (by decide +kernel) (by decide) rfl (fun h192 => ?_) (fun h192 => ?_)
                        · skip
                          refine ex_aload_n (q := 0) (x := 0) (np := 215) C (by decide +kernel) rfl rfl ?_
                          refine ex_getf (q := 14) (v := .int (σ171.1 8)) (np := 218) C hc_X11 hin_X11 (by decide) tg_1389 (by decide +kernel) (WT_0 _) rfl rfl ?_
                          refine ex_istore (i := 4) (np := 220) (lv1 := [(4, .int (σ171.1 8)), (3, .int r5), (2, .int r3), (1, .int r1), (0, .ref 0)]) C (by decide) (by decide +kernel) rfl rfl ?_
                          refine ex_aload_n (q := 0) (x := 0) (np := 221) C (by decide +kernel) rfl rfl ?_
                          obtain ⟨σ193, q194⟩ : ∃ x, x = B_next (sI 26 (1 : Int32) σ171) := ⟨_, rfl⟩
                          refine ex_call_v (np := 224) (fun ws H locs ls hR hsz => ex_runV (C1 := "") C (m_X11_next_T d (by omega) (sI 26 (1 : Int32) σ171) hI173) hd1 hd2 (by decide) hy_X11_next tg_1540 hc_X11 rfl (WT_0 _) rfl rfl (Nat.le_of_ble_eq_true rfl) rfl tg_1537 tg_1539 tg_83 tg_158 (by decide +kernel) ws H locs ls hR hsz (Nat.zero_le _) (Nat.zero_le _)) rfl (fun w1 hpo => ?_)
                          rw [← q194] at hpo
                          subst hpo
                          have hI195 := inv_X11_next (sI 26 (1 : Int32) σ171) hI173; rw [← q194] at hI195
                          have hF196 := fr_X11_next (sI 26 (1 : Int32) σ171); rw [← q194] at hF196
                          refine ex_aload_n (q := 0) (x := 0) (np := 225) C (by decide +kernel) rfl rfl ?_
                          refine ex_getf (q := 11) (v := .int (σ193.1 5)) (np := 228) C hc_X11 hin_X11 (by decide) tg_1386 (by decide +kernel) (WT_0 _) rfl rfl ?_
                          refine ex_iconst (n := 2) (v := 2) (np := 229) C (by decide +kernel) (by decide) rfl ?_
                          refine ex_icmp_eq (off := 9) (tgt := 238) (np := 232) C (by decide +kernel) (by decide) rfl (fun h197 => ?_) (fun h197 => ?_)
                          · skip
                            refine ex_aload_n (q := 0) (x := 0) (np := 239) C (by decide +kernel) rfl rfl ?_
                            refine ex_iload_n (q := 3) (x := r5) (np := 240) C (by decide +kernel) rfl rfl ?_
                            refine ex_iload (i := 4) (x := (σ171.1 8)) (np := 242) C (by decide +kernel) rfl rfl ?_
                            refine ex_aload_n (q := 0) (x := 0) (np := 243) C (by decide +kernel) rfl rfl ?_
                            refine ex_getf (q := 14) (v := .int (σ193.1 8)) (np := 246) C hc_X11 hin_X11 (by decide) tg_1389 (by decide +kernel) (WT_0 _) rfl rfl ?_
                            obtain ⟨σ198, q199⟩ : ∃ x, x = B_code r5 (σ171.1 8) (σ193.1 8) σ193 := ⟨_, rfl⟩
                            refine ex_call_v (np := 249) (fun ws H locs ls hR hsz => ex_runV (C1 := "") C (m_X11_code d (by omega) r5 (σ171.1 8) (σ193.1 8) σ193 (by have e9 : σ193.1 22 = σ.1 22 := ((hF196.1 22 (by decide)).trans (hF174.1 22 (by decide))); have h9 := SI.sb hI.1; obtain ⟨i1, i2, i3⟩ := h9; show 0 ≤ (σ193.1 22).toInt ∧ (σ193.1 22).toInt ≤ 44; rw [e9]; exact ⟨by omega, by omega⟩)) hd1 hd2 (by decide) hy_X11_code tg_1911 hc_X11 rfl (WT_0 _) rfl rfl (Nat.le_of_ble_eq_true rfl) rfl tg_1908 tg_1910 tg_135 tg_158 (by decide +kernel) ws H locs ls hR hsz (Nat.zero_le _) (Nat.zero_le _)) rfl (fun w1 hpo => ?_)
                            rw [← q199] at hpo
                            subst hpo
                            have hI200 := inv_X11_code r5 (σ171.1 8) (σ193.1 8) σ193 (by have e9 : σ193.1 22 = σ.1 22 := ((hF196.1 22 (by decide)).trans (hF174.1 22 (by decide))); have h9 := SI.sb hI.1; obtain ⟨i1, i2, i3⟩ := h9; show 0 ≤ (σ193.1 22).toInt ∧ (σ193.1 22).toInt ≤ 44; rw [e9]; exact ⟨by omega, by omega⟩); rw [← q199] at hI200
                            have hF201 := fr_X11_code r5 (σ171.1 8) (σ193.1 8) σ193; rw [← q199] at hF201
                            refine ex_aload_n (q := 0) (x := 0) (np := 250) C (by decide +kernel) rfl rfl ?_
                            obtain ⟨σ202, q203⟩ : ∃ x, x = B_next σ198 := ⟨_, rfl⟩
                            refine ex_call_v (np := 253) (fun ws H locs ls hR hsz => ex_runV (C1 := "") C (m_X11_next_T d (by omega) σ198 (by rw [q199]; exact B_INV_code hI195)) hd1 hd2 (by decide) hy_X11_next tg_1540 hc_X11 rfl (WT_0 _) rfl rfl (Nat.le_of_ble_eq_true rfl) rfl tg_1537 tg_1539 tg_83 tg_158 (by decide +kernel) ws H locs ls hR hsz (Nat.zero_le _) (Nat.zero_le _)) rfl (fun w1 hpo => ?_)
                            rw [← q203] at hpo
                            subst hpo
                            have hI204 := inv_X11_next σ198 (by rw [q199]; exact B_INV_code hI195); rw [← q203] at hI204
                            have hF205 := fr_X11_next σ198; rw [← q203] at hF205
                            refine ex_iconst (n := 1) (v := 1) (np := 254) C (by decide +kernel) (by decide) rfl ?_
                            have E9 : B_operand σ = ((1 : Int32), σ202) := by unfold B_operand; exact (ex_lt_eq q2).trans ((ex_lt_eq q4).trans ((ex_lt_eq q6).trans ((if_pos h7).trans ((if_pos h85).trans ((if_neg h163).trans ((if_neg h164).trans ((if_neg h170).trans ((ex_lt_eq q172).trans ((if_pos h175).trans ((if_pos h177).trans ((if_neg h178).trans ((if_neg h179).trans ((if_pos h180).trans ((if_neg h186).trans ((if_neg h192).trans ((ex_lt_eq q194).trans ((if_pos h197).trans ((ex_lt_eq q199).trans ((ex_lt_eq q203).trans (rfl))))))))))))))))))))
                            exact ex_iret C hr hlk (by decide +kernel) rfl (Nat.le_refl _) (Nat.le_refl _) (by rw [E9]; exact ⟨rfl, rfl⟩)
                          · skip
                            refine ex_aload_n (q := 0) (x := 0) (np := 233) C (by decide +kernel) rfl rfl ?_
                            refine ex_iconst (n := 1) (v := 1) (np := 234) C (by decide +kernel) (by decide) rfl ?_
                            obtain ⟨r206, σ207, q208⟩ : ∃ r x, B_bad (1 : Int32) σ193 = (r, x) := ex_pair _
                            refine ex_call_i (np := 237) (fun ws H locs ls hR hsz => ex_runV (C1 := "") C (m_X11_bad_T d (by omega) (1 : Int32) σ193) hd1 hd2 (by decide) hy_X11_bad tg_1566 hc_X11 rfl (WT_0 _) rfl rfl (Nat.le_of_ble_eq_true rfl) rfl tg_1563 tg_1565 tg_88 tg_158 (by decide +kernel) ws H locs ls hR hsz (Nat.zero_le _) (Nat.zero_le _)) rfl (fun r9 w1 hpo => ?_)
                            rw [q208] at hpo
                            have hp1 : r206 = r9 := hpo.1.symm
                            have hp2 := hpo.2
                            clear hpo; subst hp1; subst hp2
                            have hI210 := inv_X11_bad (1 : Int32) σ193 hI195; rw [q208] at hI210
                            have hF211 := fr_X11_bad (1 : Int32) σ193; rw [q208] at hF211
                            have E9 : B_operand σ = (r206, σ207) := by unfold B_operand; exact (ex_lt_eq q2).trans ((ex_lt_eq q4).trans ((ex_lt_eq q6).trans ((if_pos h7).trans ((if_pos h85).trans ((if_neg h163).trans ((if_neg h164).trans ((if_neg h170).trans ((ex_lt_eq q172).trans ((if_pos h175).trans ((if_pos h177).trans ((if_neg h178).trans ((if_neg h179).trans ((if_pos h180).trans ((if_neg h186).trans ((if_neg h192).trans ((ex_lt_eq q194).trans ((if_neg h197).trans ((ex_bd_eq q208).trans (rfl)))))))))))))))))))
                            exact ex_iret C hr hlk (by decide +kernel) (ex_nar (by have b9 := bl_X11_bad (1 : Int32) σ193; rw [q208] at b9; exact b9)) (Nat.le_refl _) (Nat.le_refl _) (by rw [E9]; exact ⟨rfl, rfl⟩)
                        · skip
                          refine ex_aload_n (q := 0) (x := 0) (np := 209) C (by decide +kernel) rfl rfl ?_
                          refine ex_iconst (n := 1) (v := 1) (np := 210) C (by decide +kernel) (by decide) rfl ?_
                          obtain ⟨r212, σ213, q214⟩ : ∃ r x, B_bad (1 : Int32) (sI 26 (1 : Int32) σ171) = (r, x) := ex_pair _
                          refine ex_call_i (np := 213) (fun ws H locs ls hR hsz => ex_runV (C1 := "") C (m_X11_bad_T d (by omega) (1 : Int32) (sI 26 (1 : Int32) σ171)) hd1 hd2 (by decide) hy_X11_bad tg_1566 hc_X11 rfl (WT_0 _) rfl rfl (Nat.le_of_ble_eq_true rfl) rfl tg_1563 tg_1565 tg_88 tg_158 (by decide +kernel) ws H locs ls hR hsz (Nat.zero_le _) (Nat.zero_le _)) rfl (fun r9 w1 hpo => ?_)
                          rw [q214] at hpo
                          have hp1 : r212 = r9 := hpo.1.symm
                          have hp2 := hpo.2
                          clear hpo; subst hp1; subst hp2
                          have hI215 := inv_X11_bad (1 : Int32) (sI 26 (1 : Int32) σ171) hI173; rw [q214] at hI215
                          have hF216 := fr_X11_bad (1 : Int32) (sI 26 (1 : Int32) σ171); rw [q214] at hF216
                          have E9 : B_operand σ = (r212, σ213) := by unfold B_operand; exact (ex_lt_eq q2).trans ((ex_lt_eq q4).trans ((ex_lt_eq q6).trans ((if_pos h7).trans ((if_pos h85).trans ((if_neg h163).trans ((if_neg h164).trans ((if_neg h170).trans ((ex_lt_eq q172).trans ((if_pos h175).trans ((if_pos h177).trans ((if_neg h178).trans ((if_neg h179).trans ((if_pos h180).trans ((if_neg h186).trans ((if_pos h192).trans ((ex_bd_eq q214).trans (rfl)))))))))))))))))
                          exact ex_iret C hr hlk (by decide +kernel) (ex_nar (by have b9 := bl_X11_bad (1 : Int32) (sI 26 (1 : Int32) σ171); rw [q214] at b9; exact b9)) (Nat.le_refl _) (Nat.le_refl _) (by rw [E9]; exact ⟨rfl, rfl⟩)
                  · skip
                    refine ex_aload_n (q := 0) (x := 0) (np := 151) C (by decide +kernel) rfl rfl ?_
                    refine ex_iconst (n := 0) (v := 0) (np := 152) C (by decide +kernel) (by decide) rfl ?_
                    refine ex_aload_n (q := 0) (x := 0) (np := 153) C (by decide +kernel) rfl rfl ?_
                    refine ex_getf (q := 6) (v := .ref 2) (np := 156) C hc_X11 hin_X11 (by decide) tg_1381 (by decide +kernel) (WT_0 _) rfl rfl ?_
                    refine ex_iconst (n := 0) (v := 0) (np := 157) C (by decide +kernel) (by decide) rfl ?_
                    refine ex_iald (f := (σ171.2.2.1 1)) (kk := 0) (np := 158) C (by decide +kernel) (WT_2 _) (by decide) (by decide) rfl ?_
                    obtain ⟨r217, σ218, q219⟩ : ∃ r x, B_looksAt (0 : Int32) ((σ171.2.2.1 1) 0) (sI 26 (1 : Int32) σ171) = (r, x) := ex_pair _
                    refine ex_call_i (np := 161) (fun ws H locs ls hR hsz => ex_runV (C1 := "") C (m_X11_looksAt_T d (by omega) (0 : Int32) ((σ171.2.2.1 1) 0) (sI 26 (1 : Int32) σ171) hI173 (by have e9 : (σ171.2.2.1 1) 0 = σ.2.2.1 1 0 := congrArg (fun q => q.1 1 0) hF174.2; have s9 : 0 ≤ (σ.2.2.1 1 0).toInt ∧ (σ.2.2.1 1 0).toInt ≤ 7 := hI.2.2; have z9 : (0 : Int32).toInt = 0 := (by decide); show (0 ≤ (0 : Int32).toInt ∧ 0 ≤ ((σ171.2.2.1 1) 0).toInt) ∧ (0 : Int32).toInt + ((σ171.2.2.1 1) 0).toInt ≤ 30; rw [e9]; exact ⟨⟨by omega, by omega⟩, by omega⟩)) hd1 hd2 (by decide) hy_X11_looksAt tg_1605 hc_X11 rfl (WT_0 _) rfl rfl (Nat.le_of_ble_eq_true rfl) rfl tg_1602 tg_1604 tg_97 tg_158 (by decide +kernel) ws H locs ls hR hsz (Nat.zero_le _) (Nat.zero_le _)) rfl (fun r9 w1 hpo => ?_)
                    rw [q219] at hpo
                    have hp1 : r217 = r9 := hpo.1.symm
                    have hp2 := hpo.2
                    clear hpo; subst hp1; subst hp2
                    have hI220 := inv_X11_looksAt (0 : Int32) ((σ171.2.2.1 1) 0) (sI 26 (1 : Int32) σ171) hI173 (by have e9 : (σ171.2.2.1 1) 0 = σ.2.2.1 1 0 := congrArg (fun q => q.1 1 0) hF174.2; have s9 : 0 ≤ (σ.2.2.1 1 0).toInt ∧ (σ.2.2.1 1 0).toInt ≤ 7 := hI.2.2; have z9 : (0 : Int32).toInt = 0 := (by decide); show (0 ≤ (0 : Int32).toInt ∧ 0 ≤ ((σ171.2.2.1 1) 0).toInt) ∧ (0 : Int32).toInt + ((σ171.2.2.1 1) 0).toInt ≤ 30; rw [e9]; exact ⟨⟨by omega, by omega⟩, by omega⟩); rw [q219] at hI220
                    have hF221 := fr_X11_looksAt (0 : Int32) ((σ171.2.2.1 1) 0) (sI 26 (1 : Int32) σ171); rw [q219] at hF221
                    refine ex_if_ne (off := 5) (tgt := 166) (np := 164) C (by decide +kernel) (by decide) rfl (fun h222 => ?_) (fun h222 => ?_)
                    · skip
                      refine ex_aload_n (q := 0) (x := 0) (np := 167) C (by decide +kernel) rfl rfl ?_
                      refine ex_iload_n (q := 3) (x := r5) (np := 168) C (by decide +kernel) rfl rfl ?_
                      refine ex_iconst (n := 0) (v := 0) (np := 169) C (by decide +kernel) (by decide) rfl ?_
                      refine ex_aload_n (q := 0) (x := 0) (np := 170) C (by decide +kernel) rfl rfl ?_
                      refine ex_getf (q := 18) (v := .int (σ218.1 11)) (np := 173) C hc_X11 hin_X11 (by decide) tg_1393 (by decide +kernel) (WT_0 _) rfl rfl ?_
                      obtain ⟨σ223, q224⟩ : ∃ x, x = B_code r5 (0 : Int32) (σ218.1 11) σ218 := ⟨_, rfl⟩
                      refine ex_call_v (np := 176) (fun ws H locs ls hR hsz => ex_runV (C1 := "") C (m_X11_code d (by omega) r5 (0 : Int32) (σ218.1 11) σ218 (by have e9 : σ218.1 22 = σ.1 22 := ((hF221.1 22 (by decide)).trans (hF174.1 22 (by decide))); have h9 := SI.sb hI.1; obtain ⟨i1, i2, i3⟩ := h9; show 0 ≤ (σ218.1 22).toInt ∧ (σ218.1 22).toInt ≤ 44; rw [e9]; exact ⟨by omega, by omega⟩)) hd1 hd2 (by decide) hy_X11_code tg_1911 hc_X11 rfl (WT_0 _) rfl rfl (Nat.le_of_ble_eq_true rfl) rfl tg_1908 tg_1910 tg_135 tg_158 (by decide +kernel) ws H locs ls hR hsz (Nat.zero_le _) (Nat.zero_le _)) rfl (fun w1 hpo => ?_)
                      rw [← q224] at hpo
                      subst hpo
                      have hI225 := inv_X11_code r5 (0 : Int32) (σ218.1 11) σ218 (by have e9 : σ218.1 22 = σ.1 22 := ((hF221.1 22 (by decide)).trans (hF174.1 22 (by decide))); have h9 := SI.sb hI.1; obtain ⟨i1, i2, i3⟩ := h9; show 0 ≤ (σ218.1 22).toInt ∧ (σ218.1 22).toInt ≤ 44; rw [e9]; exact ⟨by omega, by omega⟩); rw [← q224] at hI225
                      have hF226 := fr_X11_code r5 (0 : Int32) (σ218.1 11) σ218; rw [← q224] at hF226
                      refine ex_aload_n (q := 0) (x := 0) (np := 177) C (by decide +kernel) rfl rfl ?_
                      obtain ⟨σ227, q228⟩ : ∃ x, x = B_next σ223 := ⟨_, rfl⟩
                      refine ex_call_v (np := 180) (fun ws H locs ls hR hsz => ex_runV (C1 := "") C (m_X11_next_T d (by omega) σ223 (by rw [q224]; exact B_INV_code hI220)) hd1 hd2 (by decide) hy_X11_next tg_1540 hc_X11 rfl (WT_0 _) rfl rfl (Nat.le_of_ble_eq_true rfl) rfl tg_1537 tg_1539 tg_83 tg_158 (by decide +kernel) ws H locs ls hR hsz (Nat.zero_le _) (Nat.zero_le _)) rfl (fun w1 hpo => ?_)
                      rw [← q228] at hpo
                      subst hpo
                      have hI229 := inv_X11_next σ223 (by rw [q224]; exact B_INV_code hI220); rw [← q228] at hI229
                      have hF230 := fr_X11_next σ223; rw [← q228] at hF230
                      refine ex_iconst (n := 1) (v := 1) (np := 181) C (by decide +kernel) (by decide) rfl ?_
                      have E9 : B_operand σ = ((1 : Int32), σ227) := by unfold B_operand; exact (ex_lt_eq q2).trans ((ex_lt_eq q4).trans ((ex_lt_eq q6).trans ((if_pos h7).trans ((if_pos h85).trans ((if_neg h163).trans ((if_neg h164).trans ((if_neg h170).trans ((ex_lt_eq q172).trans ((if_pos h175).trans ((if_pos h177).trans ((if_neg h178).trans ((if_pos h179).trans ((ex_bd_eq q219).trans ((if_neg h222).trans ((ex_lt_eq q224).trans ((ex_lt_eq q228).trans (rfl)))))))))))))))))
                      exact ex_iret C hr hlk (by decide +kernel) rfl (Nat.le_refl _) (Nat.le_refl _) (by rw [E9]; exact ⟨rfl, rfl⟩)
                    · skip
                      refine ex_iconst (n := 0) (v := 0) (np := 165) C (by decide +kernel) (by decide) rfl ?_
                      have E9 : B_operand σ = ((0 : Int32), σ218) := by unfold B_operand; exact (ex_lt_eq q2).trans ((ex_lt_eq q4).trans ((ex_lt_eq q6).trans ((if_pos h7).trans ((if_pos h85).trans ((if_neg h163).trans ((if_neg h164).trans ((if_neg h170).trans ((ex_lt_eq q172).trans ((if_pos h175).trans ((if_pos h177).trans ((if_neg h178).trans ((if_pos h179).trans ((ex_bd_eq q219).trans ((if_pos h222).trans (rfl)))))))))))))))
                      exact ex_iret C hr hlk (by decide +kernel) rfl (Nat.le_refl _) (Nat.le_refl _) (by rw [E9]; exact ⟨rfl, rfl⟩)
                · skip
                  refine ex_aload_n (q := 0) (x := 0) (np := 137) C (by decide +kernel) rfl rfl ?_
                  refine ex_iload_n (q := 3) (x := r5) (np := 138) C (by decide +kernel) rfl rfl ?_
                  refine ex_iconst (n := 0) (v := 0) (np := 139) C (by decide +kernel) (by decide) rfl ?_
                  refine ex_iconst (n := 0) (v := 0) (np := 140) C (by decide +kernel) (by decide) rfl ?_
                  obtain ⟨σ231, q232⟩ : ∃ x, x = B_code r5 (0 : Int32) (0 : Int32) (sI 26 (1 : Int32) σ171) := ⟨_, rfl⟩
                  refine ex_call_v (np := 143) (fun ws H locs ls hR hsz => ex_runV (C1 := "") C (m_X11_code d (by omega) r5 (0 : Int32) (0 : Int32) (sI 26 (1 : Int32) σ171) (by have e9 : σ171.1 22 = σ.1 22 := (hF174.1 22 (by decide)); have h9 := SI.sb hI.1; obtain ⟨i1, i2, i3⟩ := h9; show 0 ≤ (σ171.1 22).toInt ∧ (σ171.1 22).toInt ≤ 44; rw [e9]; exact ⟨by omega, by omega⟩)) hd1 hd2 (by decide) hy_X11_code tg_1911 hc_X11 rfl (WT_0 _) rfl rfl (Nat.le_of_ble_eq_true rfl) rfl tg_1908 tg_1910 tg_135 tg_158 (by decide +kernel) ws H locs ls hR hsz (Nat.zero_le _) (Nat.zero_le _)) rfl (fun w1 hpo => ?_)
                  rw [← q232] at hpo
                  subst hpo
                  have hI233 := inv_X11_code r5 (0 : Int32) (0 : Int32) (sI 26 (1 : Int32) σ171) (by have e9 : σ171.1 22 = σ.1 22 := (hF174.1 22 (by decide)); have h9 := SI.sb hI.1; obtain ⟨i1, i2, i3⟩ := h9; show 0 ≤ (σ171.1 22).toInt ∧ (σ171.1 22).toInt ≤ 44; rw [e9]; exact ⟨by omega, by omega⟩); rw [← q232] at hI233
                  have hF234 := fr_X11_code r5 (0 : Int32) (0 : Int32) (sI 26 (1 : Int32) σ171); rw [← q232] at hF234
                  refine ex_iconst (n := 1) (v := 1) (np := 144) C (by decide +kernel) (by decide) rfl ?_
                  have E9 : B_operand σ = ((1 : Int32), σ231) := by unfold B_operand; exact (ex_lt_eq q2).trans ((ex_lt_eq q4).trans ((ex_lt_eq q6).trans ((if_pos h7).trans ((if_pos h85).trans ((if_neg h163).trans ((if_neg h164).trans ((if_neg h170).trans ((ex_lt_eq q172).trans ((if_pos h175).trans ((if_pos h177).trans ((if_pos h178).trans ((ex_lt_eq q232).trans (rfl)))))))))))))
                  exact ex_iret C hr hlk (by decide +kernel) rfl (Nat.le_refl _) (Nat.le_refl _) (by rw [E9]; exact ⟨rfl, rfl⟩)
              · skip
                refine ex_aload_n (q := 0) (x := 0) (np := 85) C (by decide +kernel) rfl rfl ?_
                refine ex_getf (q := 41) (v := .ref 7) (np := 88) C hc_X11 hin_X11 (by decide) tg_1416 (by decide +kernel) (WT_0 _) rfl rfl ?_
                refine ex_aload_n (q := 0) (x := 0) (np := 89) C (by decide +kernel) rfl rfl ?_
                refine ex_getf (q := 44) (v := .int (σ171.1 24)) (np := 92) C hc_X11 hin_X11 (by decide) tg_1419 (by decide +kernel) (WT_0 _) rfl rfl ?_
                refine ex_iload_n (q := 1) (x := r1) (np := 93) C (by decide +kernel) rfl rfl ?_
                refine ex_if_eq (off := 8) (tgt := 101) (np := 96) C (by decide +kernel) (by decide) rfl (fun h235 => ?_) (fun h235 => ?_)
                · skip
                  refine ex_bipush (n := 23) (v := 23) (np := 103) C (by decide +kernel) (by decide) rfl ?_
                  refine ex_iast (f := (σ171.2.2.1 4)) (kk := ((σ171.1 24)).toNatClampNeg) (w1 := (WT (sR 4 (upd (σ171.2.2.1 4) ((σ171.1 24)).toNatClampNeg (23 : Int32)) σ171))) (np := 104) C (by decide +kernel) (WT_7 _) (by have e9 : σ171.1 24 = σ.1 24 := (hF174.1 24 (by decide)); have h9 := SI.sb hI.1; obtain ⟨i1, i2, i3⟩ := h9; rw [e9]; exact ⟨by omega, by omega⟩) rfl (WT_7_s _ _) rfl ?_
                  refine ex_aload_n (q := 0) (x := 0) (np := 105) C (by decide +kernel) rfl rfl ?_
                  refine ex_dup (np := 106) C rfl (by decide +kernel) rfl ?_
                  refine ex_getf (q := 44) (v := .int (σ171.1 24)) (np := 109) C hc_X11 hin_X11 (by decide) tg_1419 (by decide +kernel) (WT_0 _) rfl rfl ?_
                  refine ex_iconst (n := 1) (v := 1) (np := 110) C (by decide +kernel) (by decide) rfl ?_
                  refine ex_iadd (v := ((σ171.1 24) + (1 : Int32))) (np := 111) C (by decide +kernel) rfl rfl ?_
                  refine ex_putf (q := 44) (w1 := (WT (sI 24 ((σ171.1 24) + (1 : Int32)) (sR 4 (upd (σ171.2.2.1 4) ((σ171.1 24)).toNatClampNeg (23 : Int32)) σ171)))) (np := 114) C hc_X11 hin_X11 (by decide) tyX11_ok nmX11 tg_1419 rfl (by decide +kernel) (WT_0 _) (Nat.le_of_ble_eq_true rfl) rfl rfl (WT_0_44 _ _) rfl ?_
                  refine ex_aload_n (q := 0) (x := 0) (np := 115) C (by decide +kernel) rfl rfl ?_
                  refine ex_dup (np := 116) C rfl (by decide +kernel) rfl ?_
                  refine ex_getf (q := 45) (v := .int (σ171.1 25)) (np := 119) C hc_X11 hin_X11 (by decide) tg_1420 (by decide +kernel) (WT_0 _) rfl rfl ?_
                  refine ex_iconst (n := 1) (v := 1) (np := 120) C (by decide +kernel) (by decide) rfl ?_
                  refine ex_iadd (v := ((σ171.1 25) + (1 : Int32))) (np := 121) C (by decide +kernel) rfl rfl ?_
                  refine ex_putf (q := 45) (w1 := (WT (sI 25 ((σ171.1 25) + (1 : Int32)) (sI 24 ((σ171.1 24) + (1 : Int32)) (sR 4 (upd (σ171.2.2.1 4) ((σ171.1 24)).toNatClampNeg (23 : Int32)) σ171))))) (np := 124) C hc_X11 hin_X11 (by decide) tyX11_ok nmX11 tg_1420 rfl (by decide +kernel) (WT_0 _) (Nat.le_of_ble_eq_true rfl) rfl rfl (WT_0_45 _ _) rfl ?_
                  refine ex_iconst (n := 1) (v := 1) (np := 125) C (by decide +kernel) (by decide) rfl ?_
                  have E9 : B_operand σ = ((1 : Int32), (sI 25 ((σ171.1 25) + (1 : Int32)) (sI 24 ((σ171.1 24) + (1 : Int32)) (sR 4 (upd (σ171.2.2.1 4) ((σ171.1 24)).toNatClampNeg (23 : Int32)) σ171)))) := by unfold B_operand; exact (ex_lt_eq q2).trans ((ex_lt_eq q4).trans ((ex_lt_eq q6).trans ((if_pos h7).trans ((if_pos h85).trans ((if_neg h163).trans ((if_neg h164).trans ((if_neg h170).trans ((ex_lt_eq q172).trans ((if_pos h175).trans ((if_neg h177).trans ((if_pos h235).trans (rfl))))))))))))
                  exact ex_iret C hr hlk (by decide +kernel) rfl (Nat.le_refl _) (Nat.le_refl _) (by rw [E9]; exact ⟨rfl, rfl⟩)
                · skip
                  refine ex_bipush (n := 20) (v := 20) (np := 98) C (by decide +kernel) (by decide) rfl ?_
                  refine ex_goto (off := 5) (tgt := 103) C (by decide +kernel) (by decide) ?_
                  refine ex_iast (f := (σ171.2.2.1 4)) (kk := ((σ171.1 24)).toNatClampNeg) (w1 := (WT (sR 4 (upd (σ171.2.2.1 4) ((σ171.1 24)).toNatClampNeg (20 : Int32)) σ171))) (np := 104) C (by decide +kernel) (WT_7 _) (by have e9 : σ171.1 24 = σ.1 24 := (hF174.1 24 (by decide)); have h9 := SI.sb hI.1; obtain ⟨i1, i2, i3⟩ := h9; rw [e9]; exact ⟨by omega, by omega⟩) rfl (WT_7_s _ _) rfl ?_
                  refine ex_aload_n (q := 0) (x := 0) (np := 105) C (by decide +kernel) rfl rfl ?_
                  refine ex_dup (np := 106) C rfl (by decide +kernel) rfl ?_
                  refine ex_getf (q := 44) (v := .int (σ171.1 24)) (np := 109) C hc_X11 hin_X11 (by decide) tg_1419 (by decide +kernel) (WT_0 _) rfl rfl ?_
                  refine ex_iconst (n := 1) (v := 1) (np := 110) C (by decide +kernel) (by decide) rfl ?_
                  refine ex_iadd (v := ((σ171.1 24) + (1 : Int32))) (np := 111) C (by decide +kernel) rfl rfl ?_
                  refine ex_putf (q := 44) (w1 := (WT (sI 24 ((σ171.1 24) + (1 : Int32)) (sR 4 (upd (σ171.2.2.1 4) ((σ171.1 24)).toNatClampNeg (20 : Int32)) σ171)))) (np := 114) C hc_X11 hin_X11 (by decide) tyX11_ok nmX11 tg_1419 rfl (by decide +kernel) (WT_0 _) (Nat.le_of_ble_eq_true rfl) rfl rfl (WT_0_44 _ _) rfl ?_
                  refine ex_aload_n (q := 0) (x := 0) (np := 115) C (by decide +kernel) rfl rfl ?_
                  refine ex_dup (np := 116) C rfl (by decide +kernel) rfl ?_
                  refine ex_getf (q := 45) (v := .int (σ171.1 25)) (np := 119) C hc_X11 hin_X11 (by decide) tg_1420 (by decide +kernel) (WT_0 _) rfl rfl ?_
                  refine ex_iconst (n := 1) (v := 1) (np := 120) C (by decide +kernel) (by decide) rfl ?_
                  refine ex_iadd (v := ((σ171.1 25) + (1 : Int32))) (np := 121) C (by decide +kernel) rfl rfl ?_
                  refine ex_putf (q := 45) (w1 := (WT (sI 25 ((σ171.1 25) + (1 : Int32)) (sI 24 ((σ171.1 24) + (1 : Int32)) (sR 4 (upd (σ171.2.2.1 4) ((σ171.1 24)).toNatClampNeg (20 : Int32)) σ171))))) (np := 124) C hc_X11 hin_X11 (by decide) tyX11_ok nmX11 tg_1420 rfl (by decide +kernel) (WT_0 _) (Nat.le_of_ble_eq_true rfl) rfl rfl (WT_0_45 _ _) rfl ?_
                  refine ex_iconst (n := 1) (v := 1) (np := 125) C (by decide +kernel) (by decide) rfl ?_
                  have E9 : B_operand σ = ((1 : Int32), (sI 25 ((σ171.1 25) + (1 : Int32)) (sI 24 ((σ171.1 24) + (1 : Int32)) (sR 4 (upd (σ171.2.2.1 4) ((σ171.1 24)).toNatClampNeg (20 : Int32)) σ171)))) := by unfold B_operand; exact (ex_lt_eq q2).trans ((ex_lt_eq q4).trans ((ex_lt_eq q6).trans ((if_pos h7).trans ((if_pos h85).trans ((if_neg h163).trans ((if_neg h164).trans ((if_neg h170).trans ((ex_lt_eq q172).trans ((if_pos h175).trans ((if_neg h177).trans ((if_neg h235).trans (rfl))))))))))))
                  exact ex_iret C hr hlk (by decide +kernel) rfl (Nat.le_refl _) (Nat.le_refl _) (by rw [E9]; exact ⟨rfl, rfl⟩)
          · skip
            refine ex_aload_n (q := 0) (x := 0) (np := 57) C (by decide +kernel) rfl rfl ?_
            refine ex_iconst (n := 4) (v := 4) (np := 58) C (by decide +kernel) (by decide) rfl ?_
            obtain ⟨r236, σ237, q238⟩ : ∃ r x, B_bad (4 : Int32) σ = (r, x) := ex_pair _
            refine ex_call_i (np := 61) (fun ws H locs ls hR hsz => ex_runV (C1 := "") C (m_X11_bad_T d (by omega) (4 : Int32) σ) hd1 hd2 (by decide) hy_X11_bad tg_1566 hc_X11 rfl (WT_0 _) rfl rfl (Nat.le_of_ble_eq_true rfl) rfl tg_1563 tg_1565 tg_88 tg_158 (by decide +kernel) ws H locs ls hR hsz (Nat.zero_le _) (Nat.zero_le _)) rfl (fun r9 w1 hpo => ?_)
            rw [q238] at hpo
            have hp1 : r236 = r9 := hpo.1.symm
            have hp2 := hpo.2
            clear hpo; subst hp1; subst hp2
            have hI239 := inv_X11_bad (4 : Int32) σ hI.1.1; rw [q238] at hI239
            have hF240 := fr_X11_bad (4 : Int32) σ; rw [q238] at hF240
            have E9 : B_operand σ = (r236, σ237) := by unfold B_operand; exact (ex_lt_eq q2).trans ((ex_lt_eq q4).trans ((ex_lt_eq q6).trans ((if_pos h7).trans ((if_pos h85).trans ((if_neg h163).trans ((if_neg h164).trans ((if_pos h170).trans ((ex_bd_eq q238).trans (rfl)))))))))
            exact ex_iret C hr hlk (by decide +kernel) (ex_nar (by have b9 := bl_X11_bad (4 : Int32) σ; rw [q238] at b9; exact b9)) (Nat.le_refl _) (Nat.le_refl _) (by rw [E9]; exact ⟨rfl, rfl⟩)
      · skip
        refine ex_aload_n (q := 0) (x := 0) (np := 33) C (by decide +kernel) rfl rfl ?_
        refine ex_iconst (n := 1) (v := 1) (np := 34) C (by decide +kernel) (by decide) rfl ?_
        obtain ⟨r241, σ242, q243⟩ : ∃ r x, B_bad (1 : Int32) σ = (r, x) := ex_pair _
        refine ex_call_i (np := 37) (fun ws H locs ls hR hsz => ex_runV (C1 := "") C (m_X11_bad_T d (by omega) (1 : Int32) σ) hd1 hd2 (by decide) hy_X11_bad tg_1566 hc_X11 rfl (WT_0 _) rfl rfl (Nat.le_of_ble_eq_true rfl) rfl tg_1563 tg_1565 tg_88 tg_158 (by decide +kernel) ws H locs ls hR hsz (Nat.zero_le _) (Nat.zero_le _)) rfl (fun r9 w1 hpo => ?_)
        rw [q243] at hpo
        have hp1 : r241 = r9 := hpo.1.symm
        have hp2 := hpo.2
        clear hpo; subst hp1; subst hp2
        have hI244 := inv_X11_bad (1 : Int32) σ hI.1.1; rw [q243] at hI244
        have hF245 := fr_X11_bad (1 : Int32) σ; rw [q243] at hF245
        have E9 : B_operand σ = (r241, σ242) := by unfold B_operand; exact (ex_lt_eq q2).trans ((ex_lt_eq q4).trans ((ex_lt_eq q6).trans ((if_pos h7).trans ((if_pos h85).trans ((if_pos h163).trans ((ex_bd_eq q243).trans (rfl)))))))
        exact ex_iret C hr hlk (by decide +kernel) (ex_nar (by have b9 := bl_X11_bad (1 : Int32) σ; rw [q243] at b9; exact b9)) (Nat.le_refl _) (Nat.le_refl _) (by rw [E9]; exact ⟨rfl, rfl⟩)
set_option maxRecDepth 100000 in
set_option maxHeartbeats 4000000 in
theorem m_X11_behind {l : Launch} {X : ab_X} {D : va_G} {A : ex_A} (d : Nat) (hd : 4 ≤ d) (σ : ex_S) (hI : (SI σ ∧ ¬ σ.1 26 = 0 ∧ SN σ)) : ex_ctr l X D A d yX11_behind cX11_behind 1 (some .boolean) (WT σ) [.ref 0] (fun r w => r = (B_behind σ).1 ∧ w = WT (B_behind σ).2) := by
  obtain ⟨d, rfl⟩ : ∃ d9, d = d9 + 1 := ⟨d - 1, by omega⟩
  refine ex_meth (own := RX11) rfl (by decide) (Nat.le_of_ble_eq_true rfl) (fun p e R s m below meth c C hr hlk hd1 hd2 => ?_)
  show ex_ok p l e R s m _ below meth c 0 0 _ 1 X D A (WT σ) 0 [(0, .ref 0)] []
  refine ex_aload_n (q := 0) (x := 0) (np := 1) C (by decide +kernel) rfl rfl ?_
  obtain ⟨σ1, q2⟩ : ∃ x, x = B_nots σ := ⟨_, rfl⟩
  refine ex_call_v (np := 4) (fun ws H locs ls hR hsz => ex_runV (C1 := "") C (m_X11_nots d (by omega) σ hI.1.sb) hd1 hd2 (by decide) hy_X11_nots tg_1907 hc_X11 rfl (WT_0 _) rfl rfl (Nat.le_of_ble_eq_true rfl) rfl tg_1904 tg_1906 tg_134 tg_158 (by decide +kernel) ws H locs ls hR hsz (Nat.zero_le _) (Nat.zero_le _)) rfl (fun w1 hpo => ?_)
  rw [← q2] at hpo
  subst hpo
  have hI3 := inv_X11_nots σ hI.1.sb; rw [← q2] at hI3
  refine ex_aload_n (q := 0) (x := 0) (np := 5) C (by decide +kernel) rfl rfl ?_
  refine ex_ldc2 (np := 8) C tg_1363 (by decide +kernel) rfl ?_
  refine ex_call_i (np := 11) (fun ws H locs ls hR hsz => ex_runV (C1 := "") C (m_X11_isWord_T d (by omega) (6385252 : Int64) σ1) hd1 hd2 (by decide) hy_X11_isWord tg_1558 hc_X11 rfl (WT_0 _) rfl rfl (Nat.le_of_ble_eq_true rfl) rfl tg_1555 tg_1557 tg_86 tg_158 (by decide +kernel) ws H locs ls hR hsz (Nat.zero_le _) (Nat.zero_le _)) rfl (fun r4 w1 hpo => ?_)
  obtain ⟨q5, rfl⟩ := hpo
  refine ex_if_ne (off := 13) (tgt := 24) (np := 14) C (by decide +kernel) (by decide) rfl (fun h6 => ?_) (fun h6 => ?_)
  · skip
    refine ex_aload_n (q := 0) (x := 0) (np := 25) C (by decide +kernel) rfl rfl ?_
    refine ex_aload_n (q := 0) (x := 0) (np := 26) C (by decide +kernel) rfl rfl ?_
    refine ex_ldc2 (np := 29) C tg_1363 (by decide +kernel) rfl ?_
    refine ex_call_i (np := 32) (fun ws H locs ls hR hsz => ex_runV (C1 := "") C (m_X11_isWord_T d (by omega) (6385252 : Int64) σ1) hd1 hd2 (by decide) hy_X11_isWord tg_1558 hc_X11 rfl (WT_0 _) rfl rfl (Nat.le_of_ble_eq_true rfl) rfl tg_1555 tg_1557 tg_86 tg_158 (by decide +kernel) ws H locs ls hR hsz (Nat.zero_le _) (Nat.zero_le _)) rfl (fun r7 w1 hpo => ?_)
    obtain ⟨q8, rfl⟩ := hpo
    refine ex_if_eq (off := 8) (tgt := 40) (np := 35) C (by decide +kernel) (by decide) rfl (fun h10 => ?_) (fun h10 => ?_)
    · skip
      refine ex_bipush (n := 22) (v := 22) (np := 42) C (by decide +kernel) (by decide) rfl ?_
      obtain ⟨σ11, q12⟩ : ∃ x, x = B_joins (22 : Int32) σ1 := ⟨_, rfl⟩
      refine ex_call_v (np := 45) (fun ws H locs ls hR hsz => ex_runV (C1 := "") C (m_X11_joins d (by omega) (22 : Int32) σ1 hI3) hd1 hd2 (by decide) hy_X11_joins tg_1915 hc_X11 rfl (WT_0 _) rfl rfl (Nat.le_of_ble_eq_true rfl) rfl tg_1912 tg_1914 tg_136 tg_158 (by decide +kernel) ws H locs ls hR hsz (Nat.zero_le _) (Nat.zero_le _)) rfl (fun w1 hpo => ?_)
      rw [← q12] at hpo
      subst hpo
      have hI13 := inv_X11_joins (22 : Int32) σ1 hI3; rw [← q12] at hI13
      refine ex_aload_n (q := 0) (x := 0) (np := 46) C (by decide +kernel) rfl rfl ?_
      refine ex_getf (q := 41) (v := .ref 7) (np := 49) C hc_X11 hin_X11 (by decide) tg_1416 (by decide +kernel) (WT_0 _) rfl rfl ?_
      refine ex_aload_n (q := 0) (x := 0) (np := 50) C (by decide +kernel) rfl rfl ?_
      refine ex_getf (q := 44) (v := .int (σ11.1 24)) (np := 53) C hc_X11 hin_X11 (by decide) tg_1419 (by decide +kernel) (WT_0 _) rfl rfl ?_
      refine ex_aload_n (q := 0) (x := 0) (np := 54) C (by decide +kernel) rfl rfl ?_
      refine ex_ldc2 (np := 57) C tg_1363 (by decide +kernel) rfl ?_
      refine ex_call_i (np := 60) (fun ws H locs ls hR hsz => ex_runV (C1 := "") C (m_X11_isWord_T d (by omega) (6385252 : Int64) σ11) hd1 hd2 (by decide) hy_X11_isWord tg_1558 hc_X11 rfl (WT_0 _) rfl rfl (Nat.le_of_ble_eq_true rfl) rfl tg_1555 tg_1557 tg_86 tg_158 (by decide +kernel) ws H locs ls hR hsz (Nat.zero_le _) (Nat.zero_le _)) rfl (fun r14 w1 hpo => ?_)
      obtain ⟨q15, rfl⟩ := hpo
      refine ex_if_eq (off := 8) (tgt := 68) (np := 63) C (by decide +kernel) (by decide) rfl (fun h16 => ?_) (fun h16 => ?_)
      · skip
        refine ex_bipush (n := 22) (v := 22) (np := 70) C (by decide +kernel) (by decide) rfl ?_
        refine ex_iast (f := (σ11.2.2.1 4)) (kk := ((σ11.1 24)).toNatClampNeg) (w1 := (WT (sR 4 (upd (σ11.2.2.1 4) ((σ11.1 24)).toNatClampNeg (22 : Int32)) σ11))) (np := 71) C (by decide +kernel) (WT_7 _) (by obtain ⟨i1, i2, i3⟩ := hI13; exact ⟨by omega, by omega⟩) rfl (WT_7_s _ _) rfl ?_
        refine ex_aload_n (q := 0) (x := 0) (np := 72) C (by decide +kernel) rfl rfl ?_
        refine ex_dup (np := 73) C rfl (by decide +kernel) rfl ?_
        refine ex_getf (q := 44) (v := .int (σ11.1 24)) (np := 76) C hc_X11 hin_X11 (by decide) tg_1419 (by decide +kernel) (WT_0 _) rfl rfl ?_
        refine ex_iconst (n := 1) (v := 1) (np := 77) C (by decide +kernel) (by decide) rfl ?_
        refine ex_iadd (v := ((σ11.1 24) + (1 : Int32))) (np := 78) C (by decide +kernel) rfl rfl ?_
        refine ex_putf (q := 44) (w1 := (WT (sI 24 ((σ11.1 24) + (1 : Int32)) (sR 4 (upd (σ11.2.2.1 4) ((σ11.1 24)).toNatClampNeg (22 : Int32)) σ11)))) (np := 81) C hc_X11 hin_X11 (by decide) tyX11_ok nmX11 tg_1419 rfl (by decide +kernel) (WT_0 _) (Nat.le_of_ble_eq_true rfl) rfl rfl (WT_0_44 _ _) rfl ?_
        refine ex_aload_n (q := 0) (x := 0) (np := 82) C (by decide +kernel) rfl rfl ?_
        refine ex_iconst (n := 0) (v := 0) (np := 83) C (by decide +kernel) (by decide) rfl ?_
        refine ex_putf (q := 46) (w1 := (WT (sI 26 (0 : Int32) (sI 24 ((σ11.1 24) + (1 : Int32)) (sR 4 (upd (σ11.2.2.1 4) ((σ11.1 24)).toNatClampNeg (22 : Int32)) σ11))))) (np := 86) C hc_X11 hin_X11 (by decide) tyX11_ok nmX11 tg_1421 rfl (by decide +kernel) (WT_0 _) (Nat.le_of_ble_eq_true rfl) rfl rfl (WT_0_46 _ _) rfl ?_
        refine ex_aload_n (q := 0) (x := 0) (np := 87) C (by decide +kernel) rfl rfl ?_
        obtain ⟨σ17, q18⟩ : ∃ x, x = B_next (sI 26 (0 : Int32) (sI 24 ((σ11.1 24) + (1 : Int32)) (sR 4 (upd (σ11.2.2.1 4) ((σ11.1 24)).toNatClampNeg (22 : Int32)) σ11))) := ⟨_, rfl⟩
        refine ex_call_v (np := 90) (fun ws H locs ls hR hsz => ex_runV (C1 := "") C (m_X11_next_T d (by omega) (sI 26 (0 : Int32) (sI 24 ((σ11.1 24) + (1 : Int32)) (sR 4 (upd (σ11.2.2.1 4) ((σ11.1 24)).toNatClampNeg (22 : Int32)) σ11))) (show B_INV σ11 from by rw [q12, q2]; exact B_P_INV (B_P_joins (B_P_nots hI.1.sb).2.1) (B_P_INV (B_P_nots hI.1.sb) hI.1.1))) hd1 hd2 (by decide) hy_X11_next tg_1540 hc_X11 rfl (WT_0 _) rfl rfl (Nat.le_of_ble_eq_true rfl) rfl tg_1537 tg_1539 tg_83 tg_158 (by decide +kernel) ws H locs ls hR hsz (Nat.zero_le _) (Nat.zero_le _)) rfl (fun w1 hpo => ?_)
        rw [← q18] at hpo
        subst hpo
        have hI19 := inv_X11_next (sI 26 (0 : Int32) (sI 24 ((σ11.1 24) + (1 : Int32)) (sR 4 (upd (σ11.2.2.1 4) ((σ11.1 24)).toNatClampNeg (22 : Int32)) σ11))) (show B_INV σ11 from by rw [q12, q2]; exact B_P_INV (B_P_joins (B_P_nots hI.1.sb).2.1) (B_P_INV (B_P_nots hI.1.sb) hI.1.1)); rw [← q18] at hI19
        refine ex_iconst (n := 1) (v := 1) (np := 91) C (by decide +kernel) (by decide) rfl ?_
        have E9 : B_behind σ = ((1 : Int32), σ17) := by unfold B_behind; exact (ex_lt_eq q2).trans ((ex_lt_eq q5).trans ((if_neg h6).trans ((ex_lt_eq q8).trans ((if_pos h10).trans ((ex_lt_eq q12).trans ((ex_lt_eq q15).trans ((if_pos h16).trans ((ex_lt_eq q18).trans (rfl)))))))))
        exact ex_iret C hr hlk (by decide +kernel) rfl (Nat.le_refl _) (Nat.le_refl _) (by rw [E9]; exact ⟨rfl, rfl⟩)
      · skip
        refine ex_bipush (n := 21) (v := 21) (np := 65) C (by decide +kernel) (by decide) rfl ?_
        refine ex_goto (off := 5) (tgt := 70) C (by decide +kernel) (by decide) ?_
        refine ex_iast (f := (σ11.2.2.1 4)) (kk := ((σ11.1 24)).toNatClampNeg) (w1 := (WT (sR 4 (upd (σ11.2.2.1 4) ((σ11.1 24)).toNatClampNeg (21 : Int32)) σ11))) (np := 71) C (by decide +kernel) (WT_7 _) (by obtain ⟨i1, i2, i3⟩ := hI13; exact ⟨by omega, by omega⟩) rfl (WT_7_s _ _) rfl ?_
        refine ex_aload_n (q := 0) (x := 0) (np := 72) C (by decide +kernel) rfl rfl ?_
        refine ex_dup (np := 73) C rfl (by decide +kernel) rfl ?_
        refine ex_getf (q := 44) (v := .int (σ11.1 24)) (np := 76) C hc_X11 hin_X11 (by decide) tg_1419 (by decide +kernel) (WT_0 _) rfl rfl ?_
        refine ex_iconst (n := 1) (v := 1) (np := 77) C (by decide +kernel) (by decide) rfl ?_
        refine ex_iadd (v := ((σ11.1 24) + (1 : Int32))) (np := 78) C (by decide +kernel) rfl rfl ?_
        refine ex_putf (q := 44) (w1 := (WT (sI 24 ((σ11.1 24) + (1 : Int32)) (sR 4 (upd (σ11.2.2.1 4) ((σ11.1 24)).toNatClampNeg (21 : Int32)) σ11)))) (np := 81) C hc_X11 hin_X11 (by decide) tyX11_ok nmX11 tg_1419 rfl (by decide +kernel) (WT_0 _) (Nat.le_of_ble_eq_true rfl) rfl rfl (WT_0_44 _ _) rfl ?_
        refine ex_aload_n (q := 0) (x := 0) (np := 82) C (by decide +kernel) rfl rfl ?_
        refine ex_iconst (n := 0) (v := 0) (np := 83) C (by decide +kernel) (by decide) rfl ?_
        refine ex_putf (q := 46) (w1 := (WT (sI 26 (0 : Int32) (sI 24 ((σ11.1 24) + (1 : Int32)) (sR 4 (upd (σ11.2.2.1 4) ((σ11.1 24)).toNatClampNeg (21 : Int32)) σ11))))) (np := 86) C hc_X11 hin_X11 (by decide) tyX11_ok nmX11 tg_1421 rfl (by decide +kernel) (WT_0 _) (Nat.le_of_ble_eq_true rfl) rfl rfl (WT_0_46 _ _) rfl ?_
        refine ex_aload_n (q := 0) (x := 0) (np := 87) C (by decide +kernel) rfl rfl ?_
        obtain ⟨σ20, q21⟩ : ∃ x, x = B_next (sI 26 (0 : Int32) (sI 24 ((σ11.1 24) + (1 : Int32)) (sR 4 (upd (σ11.2.2.1 4) ((σ11.1 24)).toNatClampNeg (21 : Int32)) σ11))) := ⟨_, rfl⟩
        refine ex_call_v (np := 90) (fun ws H locs ls hR hsz => ex_runV (C1 := "") C (m_X11_next_T d (by omega) (sI 26 (0 : Int32) (sI 24 ((σ11.1 24) + (1 : Int32)) (sR 4 (upd (σ11.2.2.1 4) ((σ11.1 24)).toNatClampNeg (21 : Int32)) σ11))) (show B_INV σ11 from by rw [q12, q2]; exact B_P_INV (B_P_joins (B_P_nots hI.1.sb).2.1) (B_P_INV (B_P_nots hI.1.sb) hI.1.1))) hd1 hd2 (by decide) hy_X11_next tg_1540 hc_X11 rfl (WT_0 _) rfl rfl (Nat.le_of_ble_eq_true rfl) rfl tg_1537 tg_1539 tg_83 tg_158 (by decide +kernel) ws H locs ls hR hsz (Nat.zero_le _) (Nat.zero_le _)) rfl (fun w1 hpo => ?_)
        rw [← q21] at hpo
        subst hpo
        have hI22 := inv_X11_next (sI 26 (0 : Int32) (sI 24 ((σ11.1 24) + (1 : Int32)) (sR 4 (upd (σ11.2.2.1 4) ((σ11.1 24)).toNatClampNeg (21 : Int32)) σ11))) (show B_INV σ11 from by rw [q12, q2]; exact B_P_INV (B_P_joins (B_P_nots hI.1.sb).2.1) (B_P_INV (B_P_nots hI.1.sb) hI.1.1)); rw [← q21] at hI22
        refine ex_iconst (n := 1) (v := 1) (np := 91) C (by decide +kernel) (by decide) rfl ?_
        have E9 : B_behind σ = ((1 : Int32), σ20) := by unfold B_behind; exact (ex_lt_eq q2).trans ((ex_lt_eq q5).trans ((if_neg h6).trans ((ex_lt_eq q8).trans ((if_pos h10).trans ((ex_lt_eq q12).trans ((ex_lt_eq q15).trans ((if_neg h16).trans ((ex_lt_eq q21).trans (rfl)))))))))
        exact ex_iret C hr hlk (by decide +kernel) rfl (Nat.le_refl _) (Nat.le_refl _) (by rw [E9]; exact ⟨rfl, rfl⟩)
    · skip
      refine ex_bipush (n := 21) (v := 21) (np := 37) C (by decide +kernel) (by decide) rfl ?_
      refine ex_goto (off := 5) (tgt := 42) C (by decide +kernel) (by decide) ?_
      obtain ⟨σ23, q24⟩ : ∃ x, x = B_joins (21 : Int32) σ1 := ⟨_, rfl⟩
      refine ex_call_v (np := 45) (fun ws H locs ls hR hsz => ex_runV (C1 := "") C (m_X11_joins d (by omega) (21 : Int32) σ1 hI3) hd1 hd2 (by decide) hy_X11_joins tg_1915 hc_X11 rfl (WT_0 _) rfl rfl (Nat.le_of_ble_eq_true rfl) rfl tg_1912 tg_1914 tg_136 tg_158 (by decide +kernel) ws H locs ls hR hsz (Nat.zero_le _) (Nat.zero_le _)) rfl (fun w1 hpo => ?_)
      rw [← q24] at hpo
      subst hpo
      have hI25 := inv_X11_joins (21 : Int32) σ1 hI3; rw [← q24] at hI25
      refine ex_aload_n (q := 0) (x := 0) (np := 46) C (by decide +kernel) rfl rfl ?_
      refine ex_getf (q := 41) (v := .ref 7) (np := 49) C hc_X11 hin_X11 (by decide) tg_1416 (by decide +kernel) (WT_0 _) rfl rfl ?_
      refine ex_aload_n (q := 0) (x := 0) (np := 50) C (by decide +kernel) rfl rfl ?_
      refine ex_getf (q := 44) (v := .int (σ23.1 24)) (np := 53) C hc_X11 hin_X11 (by decide) tg_1419 (by decide +kernel) (WT_0 _) rfl rfl ?_
      refine ex_aload_n (q := 0) (x := 0) (np := 54) C (by decide +kernel) rfl rfl ?_
      refine ex_ldc2 (np := 57) C tg_1363 (by decide +kernel) rfl ?_
      refine ex_call_i (np := 60) (fun ws H locs ls hR hsz => ex_runV (C1 := "") C (m_X11_isWord_T d (by omega) (6385252 : Int64) σ23) hd1 hd2 (by decide) hy_X11_isWord tg_1558 hc_X11 rfl (WT_0 _) rfl rfl (Nat.le_of_ble_eq_true rfl) rfl tg_1555 tg_1557 tg_86 tg_158 (by decide +kernel) ws H locs ls hR hsz (Nat.zero_le _) (Nat.zero_le _)) rfl (fun r26 w1 hpo => ?_)
      obtain ⟨q27, rfl⟩ := hpo
      refine ex_if_eq (off := 8) (tgt := 68) (np := 63) C (by decide +kernel) (by decide) rfl (fun h28 => ?_) (fun h28 => ?_)
      · skip
        refine ex_bipush (n := 22) (v := 22) (np := 70) C (by decide +kernel) (by decide) rfl ?_
        refine ex_iast (f := (σ23.2.2.1 4)) (kk := ((σ23.1 24)).toNatClampNeg) (w1 := (WT (sR 4 (upd (σ23.2.2.1 4) ((σ23.1 24)).toNatClampNeg (22 : Int32)) σ23))) (np := 71) C (by decide +kernel) (WT_7 _) (by obtain ⟨i1, i2, i3⟩ := hI25; exact ⟨by omega, by omega⟩) rfl (WT_7_s _ _) rfl ?_
        refine ex_aload_n (q := 0) (x := 0) (np := 72) C (by decide +kernel) rfl rfl ?_
        refine ex_dup (np := 73) C rfl (by decide +kernel) rfl ?_
        refine ex_getf (q := 44) (v := .int (σ23.1 24)) (np := 76) C hc_X11 hin_X11 (by decide) tg_1419 (by decide +kernel) (WT_0 _) rfl rfl ?_
        refine ex_iconst (n := 1) (v := 1) (np := 77) C (by decide +kernel) (by decide) rfl ?_
        refine ex_iadd (v := ((σ23.1 24) + (1 : Int32))) (np := 78) C (by decide +kernel) rfl rfl ?_
        refine ex_putf (q := 44) (w1 := (WT (sI 24 ((σ23.1 24) + (1 : Int32)) (sR 4 (upd (σ23.2.2.1 4) ((σ23.1 24)).toNatClampNeg (22 : Int32)) σ23)))) (np := 81) C hc_X11 hin_X11 (by decide) tyX11_ok nmX11 tg_1419 rfl (by decide +kernel) (WT_0 _) (Nat.le_of_ble_eq_true rfl) rfl rfl (WT_0_44 _ _) rfl ?_
        refine ex_aload_n (q := 0) (x := 0) (np := 82) C (by decide +kernel) rfl rfl ?_
        refine ex_iconst (n := 0) (v := 0) (np := 83) C (by decide +kernel) (by decide) rfl ?_
        refine ex_putf (q := 46) (w1 := (WT (sI 26 (0 : Int32) (sI 24 ((σ23.1 24) + (1 : Int32)) (sR 4 (upd (σ23.2.2.1 4) ((σ23.1 24)).toNatClampNeg (22 : Int32)) σ23))))) (np := 86) C hc_X11 hin_X11 (by decide) tyX11_ok nmX11 tg_1421 rfl (by decide +kernel) (WT_0 _) (Nat.le_of_ble_eq_true rfl) rfl rfl (WT_0_46 _ _) rfl ?_
        refine ex_aload_n (q := 0) (x := 0) (np := 87) C (by decide +kernel) rfl rfl ?_
        obtain ⟨σ29, q30⟩ : ∃ x, x = B_next (sI 26 (0 : Int32) (sI 24 ((σ23.1 24) + (1 : Int32)) (sR 4 (upd (σ23.2.2.1 4) ((σ23.1 24)).toNatClampNeg (22 : Int32)) σ23))) := ⟨_, rfl⟩
        refine ex_call_v (np := 90) (fun ws H locs ls hR hsz => ex_runV (C1 := "") C (m_X11_next_T d (by omega) (sI 26 (0 : Int32) (sI 24 ((σ23.1 24) + (1 : Int32)) (sR 4 (upd (σ23.2.2.1 4) ((σ23.1 24)).toNatClampNeg (22 : Int32)) σ23))) (show B_INV σ23 from by rw [q24, q2]; exact B_P_INV (B_P_joins (B_P_nots hI.1.sb).2.1) (B_P_INV (B_P_nots hI.1.sb) hI.1.1))) hd1 hd2 (by decide) hy_X11_next tg_1540 hc_X11 rfl (WT_0 _) rfl rfl (Nat.le_of_ble_eq_true rfl) rfl tg_1537 tg_1539 tg_83 tg_158 (by decide +kernel) ws H locs ls hR hsz (Nat.zero_le _) (Nat.zero_le _)) rfl (fun w1 hpo => ?_)
        rw [← q30] at hpo
        subst hpo
        have hI31 := inv_X11_next (sI 26 (0 : Int32) (sI 24 ((σ23.1 24) + (1 : Int32)) (sR 4 (upd (σ23.2.2.1 4) ((σ23.1 24)).toNatClampNeg (22 : Int32)) σ23))) (show B_INV σ23 from by rw [q24, q2]; exact B_P_INV (B_P_joins (B_P_nots hI.1.sb).2.1) (B_P_INV (B_P_nots hI.1.sb) hI.1.1)); rw [← q30] at hI31
        refine ex_iconst (n := 1) (v := 1) (np := 91) C (by decide +kernel) (by decide) rfl ?_
        have E9 : B_behind σ = ((1 : Int32), σ29) := by unfold B_behind; exact (ex_lt_eq q2).trans ((ex_lt_eq q5).trans ((if_neg h6).trans ((ex_lt_eq q8).trans ((if_neg h10).trans ((ex_lt_eq q24).trans ((ex_lt_eq q27).trans ((if_pos h28).trans ((ex_lt_eq q30).trans (rfl)))))))))
        exact ex_iret C hr hlk (by decide +kernel) rfl (Nat.le_refl _) (Nat.le_refl _) (by rw [E9]; exact ⟨rfl, rfl⟩)
      · skip
        refine ex_bipush (n := 21) (v := 21) (np := 65) C (by decide +kernel) (by decide) rfl ?_
        refine ex_goto (off := 5) (tgt := 70) C (by decide +kernel) (by decide) ?_
        refine ex_iast (f := (σ23.2.2.1 4)) (kk := ((σ23.1 24)).toNatClampNeg) (w1 := (WT (sR 4 (upd (σ23.2.2.1 4) ((σ23.1 24)).toNatClampNeg (21 : Int32)) σ23))) (np := 71) C (by decide +kernel) (WT_7 _) (by obtain ⟨i1, i2, i3⟩ := hI25; exact ⟨by omega, by omega⟩) rfl (WT_7_s _ _) rfl ?_
        refine ex_aload_n (q := 0) (x := 0) (np := 72) C (by decide +kernel) rfl rfl ?_
        refine ex_dup (np := 73) C rfl (by decide +kernel) rfl ?_
        refine ex_getf (q := 44) (v := .int (σ23.1 24)) (np := 76) C hc_X11 hin_X11 (by decide) tg_1419 (by decide +kernel) (WT_0 _) rfl rfl ?_
        refine ex_iconst (n := 1) (v := 1) (np := 77) C (by decide +kernel) (by decide) rfl ?_
        refine ex_iadd (v := ((σ23.1 24) + (1 : Int32))) (np := 78) C (by decide +kernel) rfl rfl ?_
        refine ex_putf (q := 44) (w1 := (WT (sI 24 ((σ23.1 24) + (1 : Int32)) (sR 4 (upd (σ23.2.2.1 4) ((σ23.1 24)).toNatClampNeg (21 : Int32)) σ23)))) (np := 81) C hc_X11 hin_X11 (by decide) tyX11_ok nmX11 tg_1419 rfl (by decide +kernel) (WT_0 _) (Nat.le_of_ble_eq_true rfl) rfl rfl (WT_0_44 _ _) rfl ?_
        refine ex_aload_n (q := 0) (x := 0) (np := 82) C (by decide +kernel) rfl rfl ?_
        refine ex_iconst (n := 0) (v := 0) (np := 83) C (by decide +kernel) (by decide) rfl ?_
        refine ex_putf (q := 46) (w1 := (WT (sI 26 (0 : Int32) (sI 24 ((σ23.1 24) + (1 : Int32)) (sR 4 (upd (σ23.2.2.1 4) ((σ23.1 24)).toNatClampNeg (21 : Int32)) σ23))))) (np := 86) C hc_X11 hin_X11 (by decide) tyX11_ok nmX11 tg_1421 rfl (by decide +kernel) (WT_0 _) (Nat.le_of_ble_eq_true rfl) rfl rfl (WT_0_46 _ _) rfl ?_
        refine ex_aload_n (q := 0) (x := 0) (np := 87) C (by decide +kernel) rfl rfl ?_
        obtain ⟨σ32, q33⟩ : ∃ x, x = B_next (sI 26 (0 : Int32) (sI 24 ((σ23.1 24) + (1 : Int32)) (sR 4 (upd (σ23.2.2.1 4) ((σ23.1 24)).toNatClampNeg (21 : Int32)) σ23))) := ⟨_, rfl⟩
        refine ex_call_v (np := 90) (fun ws H locs ls hR hsz => ex_runV (C1 := "") C (m_X11_next_T d (by omega) (sI 26 (0 : Int32) (sI 24 ((σ23.1 24) + (1 : Int32)) (sR 4 (upd (σ23.2.2.1 4) ((σ23.1 24)).toNatClampNeg (21 : Int32)) σ23))) (show B_INV σ23 from by rw [q24, q2]; exact B_P_INV (B_P_joins (B_P_nots hI.1.sb).2.1) (B_P_INV (B_P_nots hI.1.sb) hI.1.1))) hd1 hd2 (by decide) hy_X11_next tg_1540 hc_X11 rfl (WT_0 _) rfl rfl (Nat.le_of_ble_eq_true rfl) rfl tg_1537 tg_1539 tg_83 tg_158 (by decide +kernel) ws H locs ls hR hsz (Nat.zero_le _) (Nat.zero_le _)) rfl (fun w1 hpo => ?_)
        rw [← q33] at hpo
        subst hpo
        have hI34 := inv_X11_next (sI 26 (0 : Int32) (sI 24 ((σ23.1 24) + (1 : Int32)) (sR 4 (upd (σ23.2.2.1 4) ((σ23.1 24)).toNatClampNeg (21 : Int32)) σ23))) (show B_INV σ23 from by rw [q24, q2]; exact B_P_INV (B_P_joins (B_P_nots hI.1.sb).2.1) (B_P_INV (B_P_nots hI.1.sb) hI.1.1)); rw [← q33] at hI34
        refine ex_iconst (n := 1) (v := 1) (np := 91) C (by decide +kernel) (by decide) rfl ?_
        have E9 : B_behind σ = ((1 : Int32), σ32) := by unfold B_behind; exact (ex_lt_eq q2).trans ((ex_lt_eq q5).trans ((if_neg h6).trans ((ex_lt_eq q8).trans ((if_neg h10).trans ((ex_lt_eq q24).trans ((ex_lt_eq q27).trans ((if_neg h28).trans ((ex_lt_eq q33).trans (rfl)))))))))
        exact ex_iret C hr hlk (by decide +kernel) rfl (Nat.le_refl _) (Nat.le_refl _) (by rw [E9]; exact ⟨rfl, rfl⟩)
  · skip
    refine ex_aload_n (q := 0) (x := 0) (np := 15) C (by decide +kernel) rfl rfl ?_
    refine ex_ldc2 (np := 18) C tg_1362 (by decide +kernel) rfl ?_
    refine ex_call_i (np := 21) (fun ws H locs ls hR hsz => ex_runV (C1 := "") C (m_X11_isWord_T d (by omega) (28530 : Int64) σ1) hd1 hd2 (by decide) hy_X11_isWord tg_1558 hc_X11 rfl (WT_0 _) rfl rfl (Nat.le_of_ble_eq_true rfl) rfl tg_1555 tg_1557 tg_86 tg_158 (by decide +kernel) ws H locs ls hR hsz (Nat.zero_le _) (Nat.zero_le _)) rfl (fun r35 w1 hpo => ?_)
    obtain ⟨q36, rfl⟩ := hpo
    refine ex_if_eq (off := 71) (tgt := 92) (np := 24) C (by decide +kernel) (by decide) rfl (fun h37 => ?_) (fun h37 => ?_)
    · skip
      refine ex_aload_n (q := 0) (x := 0) (np := 93) C (by decide +kernel) rfl rfl ?_
      refine ex_bipush (n := 22) (v := 22) (np := 95) C (by decide +kernel) (by decide) rfl ?_
      obtain ⟨σ38, q39⟩ : ∃ x, x = B_joins (22 : Int32) σ1 := ⟨_, rfl⟩
      refine ex_call_v (np := 98) (fun ws H locs ls hR hsz => ex_runV (C1 := "") C (m_X11_joins d (by omega) (22 : Int32) σ1 hI3) hd1 hd2 (by decide) hy_X11_joins tg_1915 hc_X11 rfl (WT_0 _) rfl rfl (Nat.le_of_ble_eq_true rfl) rfl tg_1912 tg_1914 tg_136 tg_158 (by decide +kernel) ws H locs ls hR hsz (Nat.zero_le _) (Nat.zero_le _)) rfl (fun w1 hpo => ?_)
      rw [← q39] at hpo
      subst hpo
      have hI40 := inv_X11_joins (22 : Int32) σ1 hI3; rw [← q39] at hI40
      refine ex_aload_n (q := 0) (x := 0) (np := 99) C (by decide +kernel) rfl rfl ?_
      refine ex_bipush (n := 41) (v := 41) (np := 101) C (by decide +kernel) (by decide) rfl ?_
      refine ex_call_i (np := 104) (fun ws H locs ls hR hsz => ex_runV (C1 := "") C (m_X11_isSign_T d (by omega) (41 : Int32) σ38) hd1 hd2 (by decide) hy_X11_isSign tg_1624 hc_X11 rfl (WT_0 _) rfl rfl (Nat.le_of_ble_eq_true rfl) rfl tg_1621 tg_1623 tg_101 tg_158 (by decide +kernel) ws H locs ls hR hsz (Nat.zero_le _) (Nat.zero_le _)) rfl (fun r41 w1 hpo => ?_)
      obtain ⟨q42, rfl⟩ := hpo
      refine ex_if_eq (off := 10) (tgt := 114) (np := 107) C (by decide +kernel) (by decide) rfl (fun h43 => ?_) (fun h43 => ?_)
      · skip
        refine ex_aload_n (q := 0) (x := 0) (np := 115) C (by decide +kernel) rfl rfl ?_
        refine ex_iconst (n := 1) (v := 1) (np := 116) C (by decide +kernel) (by decide) rfl ?_
        obtain ⟨r44, σ45, q46⟩ : ∃ r x, B_bad (1 : Int32) σ38 = (r, x) := ex_pair _
        refine ex_call_i (np := 119) (fun ws H locs ls hR hsz => ex_runV (C1 := "") C (m_X11_bad_T d (by omega) (1 : Int32) σ38) hd1 hd2 (by decide) hy_X11_bad tg_1566 hc_X11 rfl (WT_0 _) rfl rfl (Nat.le_of_ble_eq_true rfl) rfl tg_1563 tg_1565 tg_88 tg_158 (by decide +kernel) ws H locs ls hR hsz (Nat.zero_le _) (Nat.zero_le _)) rfl (fun r9 w1 hpo => ?_)
        rw [q46] at hpo
        have hp1 : r44 = r9 := hpo.1.symm
        have hp2 := hpo.2
        clear hpo; subst hp1; subst hp2
        have hI47 := inv_X11_bad (1 : Int32) σ38 (show B_INV σ38 from by rw [q39, q2]; exact B_P_INV (B_P_joins (B_P_nots hI.1.sb).2.1) (B_P_INV (B_P_nots hI.1.sb) hI.1.1)); rw [q46] at hI47
        have E9 : B_behind σ = (r44, σ45) := by unfold B_behind; exact (ex_lt_eq q2).trans ((ex_lt_eq q5).trans ((if_pos h6).trans ((ex_lt_eq q36).trans ((if_pos h37).trans ((ex_lt_eq q39).trans ((ex_lt_eq q42).trans ((if_pos h43).trans ((ex_bd_eq q46).trans (rfl)))))))))
        exact ex_iret C hr hlk (by decide +kernel) (ex_nar (by have b9 := bl_X11_bad (1 : Int32) σ38; rw [q46] at b9; exact b9)) (Nat.le_refl _) (Nat.le_refl _) (by rw [E9]; exact ⟨rfl, rfl⟩)
      · skip
        refine ex_aload_n (q := 0) (x := 0) (np := 108) C (by decide +kernel) rfl rfl ?_
        refine ex_getf (q := 44) (v := .int (σ38.1 24)) (np := 111) C hc_X11 hin_X11 (by decide) tg_1419 (by decide +kernel) (WT_0 _) rfl rfl ?_
        refine ex_if_ne (off := 9) (tgt := 120) (np := 114) C (by decide +kernel) (by decide) rfl (fun h48 => ?_) (fun h48 => ?_)
        · skip
          refine ex_aload_n (q := 0) (x := 0) (np := 121) C (by decide +kernel) rfl rfl ?_
          refine ex_dup (np := 122) C rfl (by decide +kernel) rfl ?_
          refine ex_getf (q := 44) (v := .int (σ38.1 24)) (np := 125) C hc_X11 hin_X11 (by decide) tg_1419 (by decide +kernel) (WT_0 _) rfl rfl ?_
          refine ex_iconst (n := 1) (v := 1) (np := 126) C (by decide +kernel) (by decide) rfl ?_
          refine ex_isub (v := ((σ38.1 24) - (1 : Int32))) (np := 127) C (by decide +kernel) rfl rfl ?_
          refine ex_putf (q := 44) (w1 := (WT (sI 24 ((σ38.1 24) - (1 : Int32)) σ38))) (np := 130) C hc_X11 hin_X11 (by decide) tyX11_ok nmX11 tg_1419 rfl (by decide +kernel) (WT_0 _) (Nat.le_of_ble_eq_true rfl) rfl rfl (WT_0_44 _ _) rfl ?_
          refine ex_aload_n (q := 0) (x := 0) (np := 131) C (by decide +kernel) rfl rfl ?_
          refine ex_dup (np := 132) C rfl (by decide +kernel) rfl ?_
          refine ex_getf (q := 45) (v := .int (σ38.1 25)) (np := 135) C hc_X11 hin_X11 (by decide) tg_1420 (by decide +kernel) (WT_0 _) rfl rfl ?_
          refine ex_iconst (n := 1) (v := 1) (np := 136) C (by decide +kernel) (by decide) rfl ?_
          refine ex_isub (v := ((σ38.1 25) - (1 : Int32))) (np := 137) C (by decide +kernel) rfl rfl ?_
          refine ex_putf (q := 45) (w1 := (WT (sI 25 ((σ38.1 25) - (1 : Int32)) (sI 24 ((σ38.1 24) - (1 : Int32)) σ38)))) (np := 140) C hc_X11 hin_X11 (by decide) tyX11_ok nmX11 tg_1420 rfl (by decide +kernel) (WT_0 _) (Nat.le_of_ble_eq_true rfl) rfl rfl (WT_0_45 _ _) rfl ?_
          refine ex_aload_n (q := 0) (x := 0) (np := 141) C (by decide +kernel) rfl rfl ?_
          obtain ⟨σ49, q50⟩ : ∃ x, x = B_next (sI 25 ((σ38.1 25) - (1 : Int32)) (sI 24 ((σ38.1 24) - (1 : Int32)) σ38)) := ⟨_, rfl⟩
          refine ex_call_v (np := 144) (fun ws H locs ls hR hsz => ex_runV (C1 := "") C (m_X11_next_T d (by omega) (sI 25 ((σ38.1 25) - (1 : Int32)) (sI 24 ((σ38.1 24) - (1 : Int32)) σ38)) (show B_INV σ38 from by rw [q39, q2]; exact B_P_INV (B_P_joins (B_P_nots hI.1.sb).2.1) (B_P_INV (B_P_nots hI.1.sb) hI.1.1))) hd1 hd2 (by decide) hy_X11_next tg_1540 hc_X11 rfl (WT_0 _) rfl rfl (Nat.le_of_ble_eq_true rfl) rfl tg_1537 tg_1539 tg_83 tg_158 (by decide +kernel) ws H locs ls hR hsz (Nat.zero_le _) (Nat.zero_le _)) rfl (fun w1 hpo => ?_)
          rw [← q50] at hpo
          subst hpo
          have hI51 := inv_X11_next (sI 25 ((σ38.1 25) - (1 : Int32)) (sI 24 ((σ38.1 24) - (1 : Int32)) σ38)) (show B_INV σ38 from by rw [q39, q2]; exact B_P_INV (B_P_joins (B_P_nots hI.1.sb).2.1) (B_P_INV (B_P_nots hI.1.sb) hI.1.1)); rw [← q50] at hI51
          refine ex_iconst (n := 1) (v := 1) (np := 145) C (by decide +kernel) (by decide) rfl ?_
          have E9 : B_behind σ = ((1 : Int32), σ49) := by unfold B_behind; exact (ex_lt_eq q2).trans ((ex_lt_eq q5).trans ((if_pos h6).trans ((ex_lt_eq q36).trans ((if_pos h37).trans ((ex_lt_eq q39).trans ((ex_lt_eq q42).trans ((if_neg h43).trans ((if_neg h48).trans ((ex_lt_eq q50).trans (rfl))))))))))
          exact ex_iret C hr hlk (by decide +kernel) rfl (Nat.le_refl _) (Nat.le_refl _) (by rw [E9]; exact ⟨rfl, rfl⟩)
        · skip
          refine ex_aload_n (q := 0) (x := 0) (np := 115) C (by decide +kernel) rfl rfl ?_
          refine ex_iconst (n := 1) (v := 1) (np := 116) C (by decide +kernel) (by decide) rfl ?_
          obtain ⟨r52, σ53, q54⟩ : ∃ r x, B_bad (1 : Int32) σ38 = (r, x) := ex_pair _
          refine ex_call_i (np := 119) (fun ws H locs ls hR hsz => ex_runV (C1 := "") C (m_X11_bad_T d (by omega) (1 : Int32) σ38) hd1 hd2 (by decide) hy_X11_bad tg_1566 hc_X11 rfl (WT_0 _) rfl rfl (Nat.le_of_ble_eq_true rfl) rfl tg_1563 tg_1565 tg_88 tg_158 (by decide +kernel) ws H locs ls hR hsz (Nat.zero_le _) (Nat.zero_le _)) rfl (fun r9 w1 hpo => ?_)
          rw [q54] at hpo
          have hp1 : r52 = r9 := hpo.1.symm
          have hp2 := hpo.2
          clear hpo; subst hp1; subst hp2
          have hI55 := inv_X11_bad (1 : Int32) σ38 (show B_INV σ38 from by rw [q39, q2]; exact B_P_INV (B_P_joins (B_P_nots hI.1.sb).2.1) (B_P_INV (B_P_nots hI.1.sb) hI.1.1)); rw [q54] at hI55
          have E9 : B_behind σ = (r52, σ53) := by unfold B_behind; exact (ex_lt_eq q2).trans ((ex_lt_eq q5).trans ((if_pos h6).trans ((ex_lt_eq q36).trans ((if_pos h37).trans ((ex_lt_eq q39).trans ((ex_lt_eq q42).trans ((if_neg h43).trans ((if_pos h48).trans ((ex_bd_eq q54).trans (rfl))))))))))
          exact ex_iret C hr hlk (by decide +kernel) (ex_nar (by have b9 := bl_X11_bad (1 : Int32) σ38; rw [q54] at b9; exact b9)) (Nat.le_refl _) (Nat.le_refl _) (by rw [E9]; exact ⟨rfl, rfl⟩)
    · skip
      refine ex_aload_n (q := 0) (x := 0) (np := 25) C (by decide +kernel) rfl rfl ?_
      refine ex_aload_n (q := 0) (x := 0) (np := 26) C (by decide +kernel) rfl rfl ?_
      refine ex_ldc2 (np := 29) C tg_1363 (by decide +kernel) rfl ?_
      refine ex_call_i (np := 32) (fun ws H locs ls hR hsz => ex_runV (C1 := "") C (m_X11_isWord_T d (by omega) (6385252 : Int64) σ1) hd1 hd2 (by decide) hy_X11_isWord tg_1558 hc_X11 rfl (WT_0 _) rfl rfl (Nat.le_of_ble_eq_true rfl) rfl tg_1555 tg_1557 tg_86 tg_158 (by decide +kernel) ws H locs ls hR hsz (Nat.zero_le _) (Nat.zero_le _)) rfl (fun r56 w1 hpo => ?_)
      obtain ⟨q57, rfl⟩ := hpo
      refine ex_if_eq (off := 8) (tgt := 40) (np := 35) C (by decide +kernel) (by decide) rfl (fun h58 => ?_) (fun h58 => ?_)
      · skip
        refine ex_bipush (n := 22) (v := 22) (np := 42) C (by decide +kernel) (by decide) rfl ?_
        obtain ⟨σ59, q60⟩ : ∃ x, x = B_joins (22 : Int32) σ1 := ⟨_, rfl⟩
        refine ex_call_v (np := 45) (fun ws H locs ls hR hsz => ex_runV (C1 := "") C (m_X11_joins d (by omega) (22 : Int32) σ1 hI3) hd1 hd2 (by decide) hy_X11_joins tg_1915 hc_X11 rfl (WT_0 _) rfl rfl (Nat.le_of_ble_eq_true rfl) rfl tg_1912 tg_1914 tg_136 tg_158 (by decide +kernel) ws H locs ls hR hsz (Nat.zero_le _) (Nat.zero_le _)) rfl (fun w1 hpo => ?_)
        rw [← q60] at hpo
        subst hpo
        have hI61 := inv_X11_joins (22 : Int32) σ1 hI3; rw [← q60] at hI61
        refine ex_aload_n (q := 0) (x := 0) (np := 46) C (by decide +kernel) rfl rfl ?_
        refine ex_getf (q := 41) (v := .ref 7) (np := 49) C hc_X11 hin_X11 (by decide) tg_1416 (by decide +kernel) (WT_0 _) rfl rfl ?_
        refine ex_aload_n (q := 0) (x := 0) (np := 50) C (by decide +kernel) rfl rfl ?_
        refine ex_getf (q := 44) (v := .int (σ59.1 24)) (np := 53) C hc_X11 hin_X11 (by decide) tg_1419 (by decide +kernel) (WT_0 _) rfl rfl ?_
        refine ex_aload_n (q := 0) (x := 0) (np := 54) C (by decide +kernel) rfl rfl ?_
        refine ex_ldc2 (np := 57) C tg_1363 (by decide +kernel) rfl ?_
        refine ex_call_i (np := 60) (fun ws H locs ls hR hsz => ex_runV (C1 := "") C (m_X11_isWord_T d (by omega) (6385252 : Int64) σ59) hd1 hd2 (by decide) hy_X11_isWord tg_1558 hc_X11 rfl (WT_0 _) rfl rfl (Nat.le_of_ble_eq_true rfl) rfl tg_1555 tg_1557 tg_86 tg_158 (by decide +kernel) ws H locs ls hR hsz (Nat.zero_le _) (Nat.zero_le _)) rfl (fun r62 w1 hpo => ?_)
        obtain ⟨q63, rfl⟩ := hpo
        refine ex_if_eq (off := 8) (tgt := 68) (np := 63) C (by decide +kernel) (by decide) rfl (fun h64 => ?_) (fun h64 => ?_)
        · skip
          refine ex_bipush (n := 22) (v := 22) (np := 70) C (by decide +kernel) (by decide) rfl ?_
          refine ex_iast (f := (σ59.2.2.1 4)) (kk := ((σ59.1 24)).toNatClampNeg) (w1 := (WT (sR 4 (upd (σ59.2.2.1 4) ((σ59.1 24)).toNatClampNeg (22 : Int32)) σ59))) (np := 71) C (by decide +kernel) (WT_7 _) (by obtain ⟨i1, i2, i3⟩ := hI61; exact ⟨by omega, by omega⟩) rfl (WT_7_s _ _) rfl ?_
          refine ex_aload_n (q := 0) (x := 0) (np := 72) C (by decide +kernel) rfl rfl ?_
          refine ex_dup (np := 73) C rfl (by decide +kernel) rfl ?_
          refine ex_getf (q := 44) (v := .int (σ59.1 24)) (np := 76) C hc_X11 hin_X11 (by decide) tg_1419 (by decide +kernel) (WT_0 _) rfl rfl ?_
          refine ex_iconst (n := 1) (v := 1) (np := 77) C (by decide +kernel) (by decide) rfl ?_
          refine ex_iadd (v := ((σ59.1 24) + (1 : Int32))) (np := 78) C (by decide +kernel) rfl rfl ?_
          refine ex_putf (q := 44) (w1 := (WT (sI 24 ((σ59.1 24) + (1 : Int32)) (sR 4 (upd (σ59.2.2.1 4) ((σ59.1 24)).toNatClampNeg (22 : Int32)) σ59)))) (np := 81) C hc_X11 hin_X11 (by decide) tyX11_ok nmX11 tg_1419 rfl (by decide +kernel) (WT_0 _) (Nat.le_of_ble_eq_true rfl) rfl rfl (WT_0_44 _ _) rfl ?_
          refine ex_aload_n (q := 0) (x := 0) (np := 82) C (by decide +kernel) rfl rfl ?_
          refine ex_iconst (n := 0) (v := 0) (np := 83) C (by decide +kernel) (by decide) rfl ?_
          refine ex_putf (q := 46) (w1 := (WT (sI 26 (0 : Int32) (sI 24 ((σ59.1 24) + (1 : Int32)) (sR 4 (upd (σ59.2.2.1 4) ((σ59.1 24)).toNatClampNeg (22 : Int32)) σ59))))) (np := 86) C hc_X11 hin_X11 (by decide) tyX11_ok nmX11 tg_1421 rfl (by decide +kernel) (WT_0 _) (Nat.le_of_ble_eq_true rfl) rfl rfl (WT_0_46 _ _) rfl ?_
          refine ex_aload_n (q := 0) (x := 0) (np := 87) C (by decide +kernel) rfl rfl ?_
          obtain ⟨σ65, q66⟩ : ∃ x, x = B_next (sI 26 (0 : Int32) (sI 24 ((σ59.1 24) + (1 : Int32)) (sR 4 (upd (σ59.2.2.1 4) ((σ59.1 24)).toNatClampNeg (22 : Int32)) σ59))) := ⟨_, rfl⟩
          refine ex_call_v (np := 90) (fun ws H locs ls hR hsz => ex_runV (C1 := "") C (m_X11_next_T d (by omega) (sI 26 (0 : Int32) (sI 24 ((σ59.1 24) + (1 : Int32)) (sR 4 (upd (σ59.2.2.1 4) ((σ59.1 24)).toNatClampNeg (22 : Int32)) σ59))) (show B_INV σ59 from by rw [q60, q2]; exact B_P_INV (B_P_joins (B_P_nots hI.1.sb).2.1) (B_P_INV (B_P_nots hI.1.sb) hI.1.1))) hd1 hd2 (by decide) hy_X11_next tg_1540 hc_X11 rfl (WT_0 _) rfl rfl (Nat.le_of_ble_eq_true rfl) rfl tg_1537 tg_1539 tg_83 tg_158 (by decide +kernel) ws H locs ls hR hsz (Nat.zero_le _) (Nat.zero_le _)) rfl (fun w1 hpo => ?_)
          rw [← q66] at hpo
          subst hpo
          have hI67 := inv_X11_next (sI 26 (0 : Int32) (sI 24 ((σ59.1 24) + (1 : Int32)) (sR 4 (upd (σ59.2.2.1 4) ((σ59.1 24)).toNatClampNeg (22 : Int32)) σ59))) (show B_INV σ59 from by rw [q60, q2]; exact B_P_INV (B_P_joins (B_P_nots hI.1.sb).2.1) (B_P_INV (B_P_nots hI.1.sb) hI.1.1)); rw [← q66] at hI67
          refine ex_iconst (n := 1) (v := 1) (np := 91) C (by decide +kernel) (by decide) rfl ?_
          have E9 : B_behind σ = ((1 : Int32), σ65) := by unfold B_behind; exact (ex_lt_eq q2).trans ((ex_lt_eq q5).trans ((if_pos h6).trans ((ex_lt_eq q36).trans ((if_neg h37).trans ((ex_lt_eq q57).trans ((if_pos h58).trans ((ex_lt_eq q60).trans ((ex_lt_eq q63).trans ((if_pos h64).trans ((ex_lt_eq q66).trans (rfl)))))))))))
          exact ex_iret C hr hlk (by decide +kernel) rfl (Nat.le_refl _) (Nat.le_refl _) (by rw [E9]; exact ⟨rfl, rfl⟩)
        · skip
          refine ex_bipush (n := 21) (v := 21) (np := 65) C (by decide +kernel) (by decide) rfl ?_
          refine ex_goto (off := 5) (tgt := 70) C (by decide +kernel) (by decide) ?_
          refine ex_iast (f := (σ59.2.2.1 4)) (kk := ((σ59.1 24)).toNatClampNeg) (w1 := (WT (sR 4 (upd (σ59.2.2.1 4) ((σ59.1 24)).toNatClampNeg (21 : Int32)) σ59))) (np := 71) C (by decide +kernel) (WT_7 _) (by obtain ⟨i1, i2, i3⟩ := hI61; exact ⟨by omega, by omega⟩) rfl (WT_7_s _ _) rfl ?_
          refine ex_aload_n (q := 0) (x := 0) (np := 72) C (by decide +kernel) rfl rfl ?_
          refine ex_dup (np := 73) C rfl (by decide +kernel) rfl ?_
          refine ex_getf (q := 44) (v := .int (σ59.1 24)) (np := 76) C hc_X11 hin_X11 (by decide) tg_1419 (by decide +kernel) (WT_0 _) rfl rfl ?_
          refine ex_iconst (n := 1) (v := 1) (np := 77) C (by decide +kernel) (by decide) rfl ?_
          refine ex_iadd (v := ((σ59.1 24) + (1 : Int32))) (np := 78) C (by decide +kernel) rfl rfl ?_
          refine ex_putf (q := 44) (w1 := (WT (sI 24 ((σ59.1 24) + (1 : Int32)) (sR 4 (upd (σ59.2.2.1 4) ((σ59.1 24)).toNatClampNeg (21 : Int32)) σ59)))) (np := 81) C hc_X11 hin_X11 (by decide) tyX11_ok nmX11 tg_1419 rfl (by decide +kernel) (WT_0 _) (Nat.le_of_ble_eq_true rfl) rfl rfl (WT_0_44 _ _) rfl ?_
          refine ex_aload_n (q := 0) (x := 0) (np := 82) C (by decide +kernel) rfl rfl ?_
          refine ex_iconst (n := 0) (v := 0) (np := 83) C (by decide +kernel) (by decide) rfl ?_
          refine ex_putf (q := 46) (w1 := (WT (sI 26 (0 : Int32) (sI 24 ((σ59.1 24) + (1 : Int32)) (sR 4 (upd (σ59.2.2.1 4) ((σ59.1 24)).toNatClampNeg (21 : Int32)) σ59))))) (np := 86) C hc_X11 hin_X11 (by decide) tyX11_ok nmX11 tg_1421 rfl (by decide +kernel) (WT_0 _) (Nat.le_of_ble_eq_true rfl) rfl rfl (WT_0_46 _ _) rfl ?_
          refine ex_aload_n (q := 0) (x := 0) (np := 87) C (by decide +kernel) rfl rfl ?_
          obtain ⟨σ68, q69⟩ : ∃ x, x = B_next (sI 26 (0 : Int32) (sI 24 ((σ59.1 24) + (1 : Int32)) (sR 4 (upd (σ59.2.2.1 4) ((σ59.1 24)).toNatClampNeg (21 : Int32)) σ59))) := ⟨_, rfl⟩
          refine ex_call_v (np := 90) (fun ws H locs ls hR hsz => ex_runV (C1 := "") C (m_X11_next_T d (by omega) (sI 26 (0 : Int32) (sI 24 ((σ59.1 24) + (1 : Int32)) (sR 4 (upd (σ59.2.2.1 4) ((σ59.1 24)).toNatClampNeg (21 : Int32)) σ59))) (show B_INV σ59 from by rw [q60, q2]; exact B_P_INV (B_P_joins (B_P_nots hI.1.sb).2.1) (B_P_INV (B_P_nots hI.1.sb) hI.1.1))) hd1 hd2 (by decide) hy_X11_next tg_1540 hc_X11 rfl (WT_0 _) rfl rfl (Nat.le_of_ble_eq_true rfl) rfl tg_1537 tg_1539 tg_83 tg_158 (by decide +kernel) ws H locs ls hR hsz (Nat.zero_le _) (Nat.zero_le _)) rfl (fun w1 hpo => ?_)
          rw [← q69] at hpo
          subst hpo
          have hI70 := inv_X11_next (sI 26 (0 : Int32) (sI 24 ((σ59.1 24) + (1 : Int32)) (sR 4 (upd (σ59.2.2.1 4) ((σ59.1 24)).toNatClampNeg (21 : Int32)) σ59))) (show B_INV σ59 from by rw [q60, q2]; exact B_P_INV (B_P_joins (B_P_nots hI.1.sb).2.1) (B_P_INV (B_P_nots hI.1.sb) hI.1.1)); rw [← q69] at hI70
          refine ex_iconst (n := 1) (v := 1) (np := 91) C (by decide +kernel) (by decide) rfl ?_
          have E9 : B_behind σ = ((1 : Int32), σ68) := by unfold B_behind; exact (ex_lt_eq q2).trans ((ex_lt_eq q5).trans ((if_pos h6).trans ((ex_lt_eq q36).trans ((if_neg h37).trans ((ex_lt_eq q57).trans ((if_pos h58).trans ((ex_lt_eq q60).trans ((ex_lt_eq q63).trans ((if_neg h64).trans ((ex_lt_eq q69).trans (rfl)))))))))))
          exact ex_iret C hr hlk (by decide +kernel) rfl (Nat.le_refl _) (Nat.le_refl _) (by rw [E9]; exact ⟨rfl, rfl⟩)
      · skip
        refine ex_bipush (n := 21) (v := 21) (np := 37) C (by decide +kernel) (by decide) rfl ?_
        refine ex_goto (off := 5) (tgt := 42) C (by decide +kernel) (by decide) ?_
        obtain ⟨σ71, q72⟩ : ∃ x, x = B_joins (21 : Int32) σ1 := ⟨_, rfl⟩
        refine ex_call_v (np := 45) (fun ws H locs ls hR hsz => ex_runV (C1 := "") C (m_X11_joins d (by omega) (21 : Int32) σ1 hI3) hd1 hd2 (by decide) hy_X11_joins tg_1915 hc_X11 rfl (WT_0 _) rfl rfl (Nat.le_of_ble_eq_true rfl) rfl tg_1912 tg_1914 tg_136 tg_158 (by decide +kernel) ws H locs ls hR hsz (Nat.zero_le _) (Nat.zero_le _)) rfl (fun w1 hpo => ?_)
        rw [← q72] at hpo
        subst hpo
        have hI73 := inv_X11_joins (21 : Int32) σ1 hI3; rw [← q72] at hI73
        refine ex_aload_n (q := 0) (x := 0) (np := 46) C (by decide +kernel) rfl rfl ?_
        refine ex_getf (q := 41) (v := .ref 7) (np := 49) C hc_X11 hin_X11 (by decide) tg_1416 (by decide +kernel) (WT_0 _) rfl rfl ?_
        refine ex_aload_n (q := 0) (x := 0) (np := 50) C (by decide +kernel) rfl rfl ?_
        refine ex_getf (q := 44) (v := .int (σ71.1 24)) (np := 53) C hc_X11 hin_X11 (by decide) tg_1419 (by decide +kernel) (WT_0 _) rfl rfl ?_
        refine ex_aload_n (q := 0) (x := 0) (np := 54) C (by decide +kernel) rfl rfl ?_
        refine ex_ldc2 (np := 57) C tg_1363 (by decide +kernel) rfl ?_
        refine ex_call_i (np := 60) (fun ws H locs ls hR hsz => ex_runV (C1 := "") C (m_X11_isWord_T d (by omega) (6385252 : Int64) σ71) hd1 hd2 (by decide) hy_X11_isWord tg_1558 hc_X11 rfl (WT_0 _) rfl rfl (Nat.le_of_ble_eq_true rfl) rfl tg_1555 tg_1557 tg_86 tg_158 (by decide +kernel) ws H locs ls hR hsz (Nat.zero_le _) (Nat.zero_le _)) rfl (fun r74 w1 hpo => ?_)
        obtain ⟨q75, rfl⟩ := hpo
        refine ex_if_eq (off := 8) (tgt := 68) (np := 63) C (by decide +kernel) (by decide) rfl (fun h76 => ?_) (fun h76 => ?_)
        · skip
          refine ex_bipush (n := 22) (v := 22) (np := 70) C (by decide +kernel) (by decide) rfl ?_
          refine ex_iast (f := (σ71.2.2.1 4)) (kk := ((σ71.1 24)).toNatClampNeg) (w1 := (WT (sR 4 (upd (σ71.2.2.1 4) ((σ71.1 24)).toNatClampNeg (22 : Int32)) σ71))) (np := 71) C (by decide +kernel) (WT_7 _) (by obtain ⟨i1, i2, i3⟩ := hI73; exact ⟨by omega, by omega⟩) rfl (WT_7_s _ _) rfl ?_
          refine ex_aload_n (q := 0) (x := 0) (np := 72) C (by decide +kernel) rfl rfl ?_
          refine ex_dup (np := 73) C rfl (by decide +kernel) rfl ?_
          refine ex_getf (q := 44) (v := .int (σ71.1 24)) (np := 76) C hc_X11 hin_X11 (by decide) tg_1419 (by decide +kernel) (WT_0 _) rfl rfl ?_
          refine ex_iconst (n := 1) (v := 1) (np := 77) C (by decide +kernel) (by decide) rfl ?_
          refine ex_iadd (v := ((σ71.1 24) + (1 : Int32))) (np := 78) C (by decide +kernel) rfl rfl ?_
          refine ex_putf (q := 44) (w1 := (WT (sI 24 ((σ71.1 24) + (1 : Int32)) (sR 4 (upd (σ71.2.2.1 4) ((σ71.1 24)).toNatClampNeg (22 : Int32)) σ71)))) (np := 81) C hc_X11 hin_X11 (by decide) tyX11_ok nmX11 tg_1419 rfl (by decide +kernel) (WT_0 _) (Nat.le_of_ble_eq_true rfl) rfl rfl (WT_0_44 _ _) rfl ?_
          refine ex_aload_n (q := 0) (x := 0) (np := 82) C (by decide +kernel) rfl rfl ?_
          refine ex_iconst (n := 0) (v := 0) (np := 83) C (by decide +kernel) (by decide) rfl ?_
          refine ex_putf (q := 46) (w1 := (WT (sI 26 (0 : Int32) (sI 24 ((σ71.1 24) + (1 : Int32)) (sR 4 (upd (σ71.2.2.1 4) ((σ71.1 24)).toNatClampNeg (22 : Int32)) σ71))))) (np := 86) C hc_X11 hin_X11 (by decide) tyX11_ok nmX11 tg_1421 rfl (by decide +kernel) (WT_0 _) (Nat.le_of_ble_eq_true rfl) rfl rfl (WT_0_46 _ _) rfl ?_
          refine ex_aload_n (q := 0) (x := 0) (np := 87) C (by decide +kernel) rfl rfl ?_
          obtain ⟨σ77, q78⟩ : ∃ x, x = B_next (sI 26 (0 : Int32) (sI 24 ((σ71.1 24) + (1 : Int32)) (sR 4 (upd (σ71.2.2.1 4) ((σ71.1 24)).toNatClampNeg (22 : Int32)) σ71))) := ⟨_, rfl⟩
          refine ex_call_v (np := 90) (fun ws H locs ls hR hsz => ex_runV (C1 := "") C (m_X11_next_T d (by omega) (sI 26 (0 : Int32) (sI 24 ((σ71.1 24) + (1 : Int32)) (sR 4 (upd (σ71.2.2.1 4) ((σ71.1 24)).toNatClampNeg (22 : Int32)) σ71))) (show B_INV σ71 from by rw [q72, q2]; exact B_P_INV (B_P_joins (B_P_nots hI.1.sb).2.1) (B_P_INV (B_P_nots hI.1.sb) hI.1.1))) hd1 hd2 (by decide) hy_X11_next tg_1540 hc_X11 rfl (WT_0 _) rfl rfl (Nat.le_of_ble_eq_true rfl) rfl tg_1537 tg_1539 tg_83 tg_158 (by decide +kernel) ws H locs ls hR hsz (Nat.zero_le _) (Nat.zero_le _)) rfl (fun w1 hpo => ?_)
          rw [← q78] at hpo
          subst hpo
          have hI79 := inv_X11_next (sI 26 (0 : Int32) (sI 24 ((σ71.1 24) + (1 : Int32)) (sR 4 (upd (σ71.2.2.1 4) ((σ71.1 24)).toNatClampNeg (22 : Int32)) σ71))) (show B_INV σ71 from by rw [q72, q2]; exact B_P_INV (B_P_joins (B_P_nots hI.1.sb).2.1) (B_P_INV (B_P_nots hI.1.sb) hI.1.1)); rw [← q78] at hI79
          refine ex_iconst (n := 1) (v := 1) (np := 91) C (by decide +kernel) (by decide) rfl ?_
          have E9 : B_behind σ = ((1 : Int32), σ77) := by unfold B_behind; exact (ex_lt_eq q2).trans ((ex_lt_eq q5).trans ((if_pos h6).trans ((ex_lt_eq q36).trans ((if_neg h37).trans ((ex_lt_eq q57).trans ((if_neg h58).trans ((ex_lt_eq q72).trans ((ex_lt_eq q75).trans ((if_pos h76).trans ((ex_lt_eq q78).trans (rfl)))))))))))
          exact ex_iret C hr hlk (by decide +kernel) rfl (Nat.le_refl _) (Nat.le_refl _) (by rw [E9]; exact ⟨rfl, rfl⟩)
        · skip
          refine ex_bipush (n := 21) (v := 21) (np := 65) C (by decide +kernel) (by decide) rfl ?_
          refine ex_goto (off := 5) (tgt := 70) C (by decide +kernel) (by decide) ?_
          refine ex_iast (f := (σ71.2.2.1 4)) (kk := ((σ71.1 24)).toNatClampNeg) (w1 := (WT (sR 4 (upd (σ71.2.2.1 4) ((σ71.1 24)).toNatClampNeg (21 : Int32)) σ71))) (np := 71) C (by decide +kernel) (WT_7 _) (by obtain ⟨i1, i2, i3⟩ := hI73; exact ⟨by omega, by omega⟩) rfl (WT_7_s _ _) rfl ?_
          refine ex_aload_n (q := 0) (x := 0) (np := 72) C (by decide +kernel) rfl rfl ?_
          refine ex_dup (np := 73) C rfl (by decide +kernel) rfl ?_
          refine ex_getf (q := 44) (v := .int (σ71.1 24)) (np := 76) C hc_X11 hin_X11 (by decide) tg_1419 (by decide +kernel) (WT_0 _) rfl rfl ?_
          refine ex_iconst (n := 1) (v := 1) (np := 77) C (by decide +kernel) (by decide) rfl ?_
          refine ex_iadd (v := ((σ71.1 24) + (1 : Int32))) (np := 78) C (by decide +kernel) rfl rfl ?_
          refine ex_putf (q := 44) (w1 := (WT (sI 24 ((σ71.1 24) + (1 : Int32)) (sR 4 (upd (σ71.2.2.1 4) ((σ71.1 24)).toNatClampNeg (21 : Int32)) σ71)))) (np := 81) C hc_X11 hin_X11 (by decide) tyX11_ok nmX11 tg_1419 rfl (by decide +kernel) (WT_0 _) (Nat.le_of_ble_eq_true rfl) rfl rfl (WT_0_44 _ _) rfl ?_
          refine ex_aload_n (q := 0) (x := 0) (np := 82) C (by decide +kernel) rfl rfl ?_
          refine ex_iconst (n := 0) (v := 0) (np := 83) C (by decide +kernel) (by decide) rfl ?_
          refine ex_putf (q := 46) (w1 := (WT (sI 26 (0 : Int32) (sI 24 ((σ71.1 24) + (1 : Int32)) (sR 4 (upd (σ71.2.2.1 4) ((σ71.1 24)).toNatClampNeg (21 : Int32)) σ71))))) (np := 86) C hc_X11 hin_X11 (by decide) tyX11_ok nmX11 tg_1421 rfl (by decide +kernel) (WT_0 _) (Nat.le_of_ble_eq_true rfl) rfl rfl (WT_0_46 _ _) rfl ?_
          refine ex_aload_n (q := 0) (x := 0) (np := 87) C (by decide +kernel) rfl rfl ?_
          obtain ⟨σ80, q81⟩ : ∃ x, x = B_next (sI 26 (0 : Int32) (sI 24 ((σ71.1 24) + (1 : Int32)) (sR 4 (upd (σ71.2.2.1 4) ((σ71.1 24)).toNatClampNeg (21 : Int32)) σ71))) := ⟨_, rfl⟩
          refine ex_call_v (np := 90) (fun ws H locs ls hR hsz => ex_runV (C1 := "") C (m_X11_next_T d (by omega) (sI 26 (0 : Int32) (sI 24 ((σ71.1 24) + (1 : Int32)) (sR 4 (upd (σ71.2.2.1 4) ((σ71.1 24)).toNatClampNeg (21 : Int32)) σ71))) (show B_INV σ71 from by rw [q72, q2]; exact B_P_INV (B_P_joins (B_P_nots hI.1.sb).2.1) (B_P_INV (B_P_nots hI.1.sb) hI.1.1))) hd1 hd2 (by decide) hy_X11_next tg_1540 hc_X11 rfl (WT_0 _) rfl rfl (Nat.le_of_ble_eq_true rfl) rfl tg_1537 tg_1539 tg_83 tg_158 (by decide +kernel) ws H locs ls hR hsz (Nat.zero_le _) (Nat.zero_le _)) rfl (fun w1 hpo => ?_)
          rw [← q81] at hpo
          subst hpo
          have hI82 := inv_X11_next (sI 26 (0 : Int32) (sI 24 ((σ71.1 24) + (1 : Int32)) (sR 4 (upd (σ71.2.2.1 4) ((σ71.1 24)).toNatClampNeg (21 : Int32)) σ71))) (show B_INV σ71 from by rw [q72, q2]; exact B_P_INV (B_P_joins (B_P_nots hI.1.sb).2.1) (B_P_INV (B_P_nots hI.1.sb) hI.1.1)); rw [← q81] at hI82
          refine ex_iconst (n := 1) (v := 1) (np := 91) C (by decide +kernel) (by decide) rfl ?_
          have E9 : B_behind σ = ((1 : Int32), σ80) := by unfold B_behind; exact (ex_lt_eq q2).trans ((ex_lt_eq q5).trans ((if_pos h6).trans ((ex_lt_eq q36).trans ((if_neg h37).trans ((ex_lt_eq q57).trans ((if_neg h58).trans ((ex_lt_eq q72).trans ((ex_lt_eq q75).trans ((if_neg h76).trans ((ex_lt_eq q81).trans (rfl)))))))))))
          exact ex_iret C hr hlk (by decide +kernel) rfl (Nat.le_refl _) (Nat.le_refl _) (by rw [E9]; exact ⟨rfl, rfl⟩)
set_option maxRecDepth 100000 in
set_option maxHeartbeats 4000000 in
theorem m_X11_sentence {l : Launch} {X : ab_X} {D : va_G} {A : ex_A} (d : Nat) (hd : 7 ≤ d) (σ : ex_S) (hI : B_S0 σ) : ex_ctr l X D A d yX11_sentence cX11_sentence 3 (some .int) (WT σ) [.ref 0] (fun r w => ∃ (N : Nat) (υ : ex_S) (f : Nat → Int32), B_it N (B_s0 σ) = some (r, υ) ∧ w = WT (sR 1 f υ)) := by
  obtain ⟨d, rfl⟩ : ∃ d9, d = d9 + 1 := ⟨d - 1, by omega⟩
  refine ex_meth (own := RX11) rfl (by decide) (Nat.le_of_ble_eq_true rfl) (fun p e R s m below meth c C hr hlk hd1 hd2 => ?_)
  show ex_ok p l e R s m _ below meth c 0 0 _ 3 X D A (WT σ) 0 [(0, .ref 0)] []
  have loop : ∀ (n : Nat) (τ : ex_S), SI τ → SN τ → (B_me τ).toNat < n → (∀ (N : Nat) (r : Int32 × ex_S), B_it N τ = some r → ∃ M, B_it M (B_s0 σ) = some r) → ex_okP p l e R s m below meth c 3 X D A [.ref 0] (fun r w => ∃ (N : Nat) (υ : ex_S) (f : Nat → Int32), B_it N (B_s0 σ) = some (r, υ) ∧ w = WT (sR 1 f υ)) (some .int) (WT τ) 48 [(1, .int (1 : Int32)), (0, .ref 0)] [] := by
    intro n
    induction n with
    | zero => intro τ hJ hN hn hs; exfalso; omega
    | succ n ih =>
      intro τ hJ hN hn hs
      refine ex_iload_n (q := 1) (x := (1 : Int32)) (np := 49) C (by decide +kernel) rfl rfl ?_
      refine ex_if_eq (off := 83) (tgt := 132) (np := 52) C (by decide +kernel) (by decide) rfl (fun h1 => ?_) (fun h1 => ?_)
      · skip
        exact absurd h1 (by decide)
      · skip
        refine ex_aload_n (q := 0) (x := 0) (np := 53) C (by decide +kernel) rfl rfl ?_
        refine ex_getf (q := 46) (v := .int (τ.1 26)) (np := 56) C hc_X11 hin_X11 (by decide) tg_1421 (by decide +kernel) (WT_0 _) rfl rfl ?_
        refine ex_if_eq (off := 45) (tgt := 101) (np := 59) C (by decide +kernel) (by decide) rfl (fun h2 => ?_) (fun h2 => ?_)
        · skip
          refine ex_aload_n (q := 0) (x := 0) (np := 102) C (by decide +kernel) rfl rfl ?_
          refine ex_getf (q := 46) (v := .int (τ.1 26)) (np := 105) C hc_X11 hin_X11 (by decide) tg_1421 (by decide +kernel) (WT_0 _) rfl rfl ?_
          refine ex_if_eq (off := 13) (tgt := 118) (np := 108) C (by decide +kernel) (by decide) rfl (fun h3 => ?_) (fun h3 => ?_)
          · skip
            refine ex_aload_n (q := 0) (x := 0) (np := 119) C (by decide +kernel) rfl rfl ?_
            obtain ⟨r4, σ5, q6⟩ : ∃ r x, B_operand τ = (r, x) := ex_pair _
            refine ex_call_i (np := 122) (fun ws H locs ls hR hsz => ex_runV (C1 := "") C (m_X11_operand d (by omega) τ ⟨hJ, h2, hN⟩) hd1 hd2 (by decide) hy_X11_operand tg_1923 hc_X11 rfl (WT_0 _) rfl rfl (Nat.le_of_ble_eq_true rfl) rfl tg_1920 tg_1922 tg_138 tg_158 (by decide +kernel) ws H locs ls hR hsz (Nat.zero_le _) (Nat.zero_le _)) rfl (fun r9 w1 hpo => ?_)
            rw [q6] at hpo
            have hp1 : r4 = r9 := hpo.1.symm
            have hp2 := hpo.2
            clear hpo; subst hp1; subst hp2
            have hI7 := inv_X11_operand τ ⟨hJ, h2, hN⟩; rw [q6] at hI7
            refine ex_if_ne (off := (-74)) (tgt := 48) (np := 125) C (by decide +kernel) (by decide) rfl (fun h8 => ?_) (fun h8 => ?_)
            · skip
              refine ex_drop (lv1 := [(1, .int (1 : Int32)), (0, .ref 0)]) [0, 1] rfl ?_
              have ho := (hI7).resolve_left h8
              have hm8 := B_me_lo ho.1
              have hm9 := ho.2.2
              exact ih σ5 ho.1 ho.2.1 (by have h6 : B_me σ5 < B_me τ := hm9; omega) (fun N r h => hs (N + 1) r (by rw [B_it_o h2 q6, if_neg h8]; exact h))
            · skip
              refine ex_iconst (n := (-1)) (v := (-1)) (np := 126) C (by decide +kernel) (by decide) rfl ?_
              refine ex_aload_n (q := 0) (x := 0) (np := 127) C (by decide +kernel) rfl rfl ?_
              refine ex_getf (q := 16) (v := .int (σ5.1 10)) (np := 130) C hc_X11 hin_X11 (by decide) tg_1391 (by decide +kernel) (WT_0 _) rfl rfl ?_
              refine ex_isub (v := ((-1 : Int32) - (σ5.1 10))) (np := 131) C (by decide +kernel) rfl rfl ?_
              exact ex_iret C hr hlk (by decide +kernel) rfl (Nat.le_refl _) (Nat.le_refl _) (B_fin (hs 1 ((-1 : Int32) - (σ5.1 10), σ5) (by rw [B_it_o h2 q6, if_pos h8])) (by rw [ex_rid rfl]))
          · skip
            exact absurd h2 h3
        · skip
          refine ex_aload_n (q := 0) (x := 0) (np := 60) C (by decide +kernel) rfl rfl ?_
          refine ex_getf (q := 11) (v := .int (τ.1 5)) (np := 63) C hc_X11 hin_X11 (by decide) tg_1386 (by decide +kernel) (WT_0 _) rfl rfl ?_
          refine ex_if_ne (off := 38) (tgt := 101) (np := 66) C (by decide +kernel) (by decide) rfl (fun h10 => ?_) (fun h10 => ?_)
          · skip
            refine ex_aload_n (q := 0) (x := 0) (np := 102) C (by decide +kernel) rfl rfl ?_
            refine ex_getf (q := 46) (v := .int (τ.1 26)) (np := 105) C hc_X11 hin_X11 (by decide) tg_1421 (by decide +kernel) (WT_0 _) rfl rfl ?_
            refine ex_if_eq (off := 13) (tgt := 118) (np := 108) C (by decide +kernel) (by decide) rfl (fun h11 => ?_) (fun h11 => ?_)
            · skip
              exact absurd h11 h2
            · skip
              refine ex_aload_n (q := 0) (x := 0) (np := 109) C (by decide +kernel) rfl rfl ?_
              obtain ⟨r12, σ13, q14⟩ : ∃ r x, B_behind τ = (r, x) := ex_pair _
              refine ex_call_i (np := 112) (fun ws H locs ls hR hsz => ex_runV (C1 := "") C (m_X11_behind d (by omega) τ ⟨hJ, h2, hN⟩) hd1 hd2 (by decide) hy_X11_behind tg_1919 hc_X11 rfl (WT_0 _) rfl rfl (Nat.le_of_ble_eq_true rfl) rfl tg_1916 tg_1918 tg_137 tg_158 (by decide +kernel) ws H locs ls hR hsz (Nat.zero_le _) (Nat.zero_le _)) rfl (fun r9 w1 hpo => ?_)
              rw [q14] at hpo
              have hp1 : r12 = r9 := hpo.1.symm
              have hp2 := hpo.2
              clear hpo; subst hp1; subst hp2
              have hI15 := inv_X11_behind τ ⟨hJ, h2, hN⟩; rw [q14] at hI15
              refine ex_if_ne (off := (-64)) (tgt := 48) (np := 115) C (by decide +kernel) (by decide) rfl (fun h16 => ?_) (fun h16 => ?_)
              · skip
                refine ex_drop (lv1 := [(1, .int (1 : Int32)), (0, .ref 0)]) [0, 1] rfl ?_
                have ho := (hI15).resolve_left h16
                have hm8 := B_me_lo ho.1
                have hm9 := ho.2.2
                exact ih σ13 ho.1 ho.2.1 (by have h6 : B_me σ13 < B_me τ := hm9; omega) (fun N r h => hs (N + 1) r (by rw [B_it_b h2 h10 q14, if_neg h16]; exact h))
              · skip
                refine ex_goto (off := 10) (tgt := 125) C (by decide +kernel) (by decide) ?_
                refine ex_iconst (n := (-1)) (v := (-1)) (np := 126) C (by decide +kernel) (by decide) rfl ?_
                refine ex_aload_n (q := 0) (x := 0) (np := 127) C (by decide +kernel) rfl rfl ?_
                refine ex_getf (q := 16) (v := .int (σ13.1 10)) (np := 130) C hc_X11 hin_X11 (by decide) tg_1391 (by decide +kernel) (WT_0 _) rfl rfl ?_
                refine ex_isub (v := ((-1 : Int32) - (σ13.1 10))) (np := 131) C (by decide +kernel) rfl rfl ?_
                exact ex_iret C hr hlk (by decide +kernel) rfl (Nat.le_refl _) (Nat.le_refl _) (B_fin (hs 1 ((-1 : Int32) - (σ13.1 10), σ13) (by rw [B_it_b h2 h10 q14, if_pos h16])) (by rw [ex_rid rfl]))
          · skip
            refine ex_aload_n (q := 0) (x := 0) (np := 67) C (by decide +kernel) rfl rfl ?_
            obtain ⟨σ17, q18⟩ : ∃ x, x = B_nots τ := ⟨_, rfl⟩
            refine ex_call_v (np := 70) (fun ws H locs ls hR hsz => ex_runV (C1 := "") C (m_X11_nots d (by omega) τ hJ.sb) hd1 hd2 (by decide) hy_X11_nots tg_1907 hc_X11 rfl (WT_0 _) rfl rfl (Nat.le_of_ble_eq_true rfl) rfl tg_1904 tg_1906 tg_134 tg_158 (by decide +kernel) ws H locs ls hR hsz (Nat.zero_le _) (Nat.zero_le _)) rfl (fun w1 hpo => ?_)
            rw [← q18] at hpo
            subst hpo
            have hI19 := inv_X11_nots τ hJ.sb; rw [← q18] at hI19
            refine ex_aload_n (q := 0) (x := 0) (np := 71) C (by decide +kernel) rfl rfl ?_
            refine ex_bipush (n := 22) (v := 22) (np := 73) C (by decide +kernel) (by decide) rfl ?_
            obtain ⟨σ20, q21⟩ : ∃ x, x = B_joins (22 : Int32) σ17 := ⟨_, rfl⟩
            refine ex_call_v (np := 76) (fun ws H locs ls hR hsz => ex_runV (C1 := "") C (m_X11_joins d (by omega) (22 : Int32) σ17 hI19) hd1 hd2 (by decide) hy_X11_joins tg_1915 hc_X11 rfl (WT_0 _) rfl rfl (Nat.le_of_ble_eq_true rfl) rfl tg_1912 tg_1914 tg_136 tg_158 (by decide +kernel) ws H locs ls hR hsz (Nat.zero_le _) (Nat.zero_le _)) rfl (fun w1 hpo => ?_)
            rw [← q21] at hpo
            subst hpo
            have hI22 := inv_X11_joins (22 : Int32) σ17 hI19; rw [← q21] at hI22
            refine ex_aload_n (q := 0) (x := 0) (np := 77) C (by decide +kernel) rfl rfl ?_
            refine ex_getf (q := 44) (v := .int (σ20.1 24)) (np := 80) C hc_X11 hin_X11 (by decide) tg_1419 (by decide +kernel) (WT_0 _) rfl rfl ?_
            refine ex_if_le (off := 16) (tgt := 96) (np := 83) C (by decide +kernel) (by decide) rfl (fun h23 => ?_) (fun h23 => ?_)
            · skip
              refine ex_iconst (n := 0) (v := 0) (np := 97) C (by decide +kernel) (by decide) rfl ?_
              refine ex_istore_n (q := 1) (np := 98) (lv1 := [(1, .int (0 : Int32)), (0, .ref 0)]) C (by decide) (by decide +kernel) rfl rfl ?_
              refine ex_goto (off := (-50)) (tgt := 48) C (by decide +kernel) (by decide) ?_
              refine ex_iload_n (q := 1) (x := (0 : Int32)) (np := 49) C (by decide +kernel) rfl rfl ?_
              refine ex_if_eq (off := 83) (tgt := 132) (np := 52) C (by decide +kernel) (by decide) rfl (fun h24 => ?_) (fun h24 => ?_)
              · skip
                refine ex_aload_n (q := 0) (x := 0) (np := 133) C (by decide +kernel) rfl rfl ?_
                refine ex_getf (q := 6) (v := .ref 2) (np := 136) C hc_X11 hin_X11 (by decide) tg_1381 (by decide +kernel) (WT_0 _) rfl rfl ?_
                refine ex_bipush (n := 124) (v := 124) (np := 138) C (by decide +kernel) (by decide) rfl ?_
                refine ex_aload_n (q := 0) (x := 0) (np := 139) C (by decide +kernel) rfl rfl ?_
                refine ex_getf (q := 42) (v := .int (σ20.1 22)) (np := 142) C hc_X11 hin_X11 (by decide) tg_1417 (by decide +kernel) (WT_0 _) rfl rfl ?_
                refine ex_iast (f := (σ20.2.2.1 1)) (kk := 124) (w1 := (WT (sR 1 (upd (σ20.2.2.1 1) 124 (σ20.1 22)) σ20))) (np := 143) C (by decide +kernel) (WT_2 _) (by decide) (by decide) (WT_2_s _ _) rfl ?_
                refine ex_iconst (n := 0) (v := 0) (np := 144) C (by decide +kernel) (by decide) rfl ?_
                refine ex_istore_n (q := 2) (np := 145) (lv1 := [(2, .int (0 : Int32)), (1, .int (0 : Int32)), (0, .ref 0)]) C (by decide) (by decide +kernel) rfl rfl ?_
                refine ex_drop (lv1 := [(2, .int (0 : Int32)), (1, .int (0 : Int32)), (0, .ref 0)]) [0, 1, 2] rfl ?_
                have hb : 0 ≤ (σ20.1 22).toInt ∧ (σ20.1 22).toInt ≤ 44 := by obtain ⟨i1, i2, i3⟩ := hI22; exact ⟨by omega, by omega⟩
                have e3 := ex_m3 hb
                have copy : ∀ (k i : Nat) (f : Nat → Int32), (i : Int) + k = 3 * (σ20.1 22).toInt → ex_okP p l e R s m below meth c 3 X D A [.ref 0] (fun r w => ∃ (N : Nat) (υ : ex_S) (f : Nat → Int32), B_it N (B_s0 σ) = some (r, υ) ∧ w = WT (sR 1 f υ)) (some .int) (WT (sR 1 f σ20)) 145 [(2, .int (nI i)), (1, .int (0 : Int32)), (0, .ref 0)] [] := by
                  intro k
                  induction k with
                  | zero =>
                    intro i f hi
                    have hki : (nI i).toInt = (i : Int) := nI_toInt (by omega)
                    have e125 : (125 : Int32).toInt = 125 := by decide
                    have s125 : ((125 : Int32) + nI i).toInt = 125 + i := by have g1 := ex_add (x := (125 : Int32)) (y := nI i) (k := i) (by rw [e125]; decide) hki (by rw [e125]; omega); rw [e125] at g1; exact g1
                    refine ex_iload_n (q := 2) (x := (nI i)) (np := 146) C (by decide +kernel) rfl rfl ?_
                    refine ex_iconst (n := 3) (v := 3) (np := 147) C (by decide +kernel) (by decide) rfl ?_
                    refine ex_aload_n (q := 0) (x := 0) (np := 148) C (by decide +kernel) rfl rfl ?_
                    refine ex_getf (q := 42) (v := .int (σ20.1 22)) (np := 151) C hc_X11 hin_X11 (by decide) tg_1417 (by decide +kernel) (WT_0 _) rfl rfl ?_
                    refine ex_imul (v := ((3 : Int32) * (σ20.1 22))) (np := 152) C (by decide +kernel) rfl rfl ?_
                    refine ex_icmp_ge (off := 24) (tgt := 176) (np := 155) C (by decide +kernel) (by decide) rfl (fun h25 => ?_) (fun h25 => ?_)
                    · skip
                      refine ex_aload_n (q := 0) (x := 0) (np := 177) C (by decide +kernel) rfl rfl ?_
                      refine ex_getf (q := 43) (v := .int (σ20.1 23)) (np := 180) C hc_X11 hin_X11 (by decide) tg_1418 (by decide +kernel) (WT_0 _) rfl rfl ?_
                      exact ex_iret C hr hlk (by decide +kernel) rfl (Nat.le_refl _) (Nat.le_refl _) (B_fin (hs 1 (σ20.1 23, σ20) (by rw [B_it_e h2 h10, ← q18, ← q21, if_neg h23])) rfl)
                    · skip
                      exfalso; rw [hki, e3] at h25; omega
                  | succ k ih2 =>
                    intro i f hi
                    have hki : (nI i).toInt = (i : Int) := nI_toInt (by omega)
                    have e125 : (125 : Int32).toInt = 125 := by decide
                    have s125 : ((125 : Int32) + nI i).toInt = 125 + i := by have g1 := ex_add (x := (125 : Int32)) (y := nI i) (k := i) (by rw [e125]; decide) hki (by rw [e125]; omega); rw [e125] at g1; exact g1
                    refine ex_iload_n (q := 2) (x := (nI i)) (np := 146) C (by decide +kernel) rfl rfl ?_
                    refine ex_iconst (n := 3) (v := 3) (np := 147) C (by decide +kernel) (by decide) rfl ?_
                    refine ex_aload_n (q := 0) (x := 0) (np := 148) C (by decide +kernel) rfl rfl ?_
                    refine ex_getf (q := 42) (v := .int (σ20.1 22)) (np := 151) C hc_X11 hin_X11 (by decide) tg_1417 (by decide +kernel) (WT_0 _) rfl rfl ?_
                    refine ex_imul (v := ((3 : Int32) * (σ20.1 22))) (np := 152) C (by decide +kernel) rfl rfl ?_
                    refine ex_icmp_ge (off := 24) (tgt := 176) (np := 155) C (by decide +kernel) (by decide) rfl (fun h26 => ?_) (fun h26 => ?_)
                    · skip
                      exfalso; rw [hki, e3] at h26; omega
                    · skip
                      refine ex_aload_n (q := 0) (x := 0) (np := 156) C (by decide +kernel) rfl rfl ?_
                      refine ex_getf (q := 6) (v := .ref 2) (np := 159) C hc_X11 hin_X11 (by decide) tg_1381 (by decide +kernel) (WT_0 _) rfl rfl ?_
                      refine ex_bipush (n := 125) (v := 125) (np := 161) C (by decide +kernel) (by decide) rfl ?_
                      refine ex_iload_n (q := 2) (x := (nI i)) (np := 162) C (by decide +kernel) rfl rfl ?_
                      refine ex_iadd (v := ((125 : Int32) + (nI i))) (np := 163) C (by decide +kernel) rfl rfl ?_
                      refine ex_aload_n (q := 0) (x := 0) (np := 164) C (by decide +kernel) rfl rfl ?_
                      refine ex_getf (q := 8) (v := .ref 4) (np := 167) C hc_X11 hin_X11 (by decide) tg_1383 (by decide +kernel) (WT_0 _) rfl rfl ?_
                      refine ex_iload_n (q := 2) (x := (nI i)) (np := 168) C (by decide +kernel) rfl rfl ?_
                      refine ex_iald (f := (σ20.2.2.1 3)) (kk := ((nI i)).toNatClampNeg) (np := 169) C (by decide +kernel) (WT_4 _) (by rw [hki]; omega) rfl rfl ?_
                      refine ex_iast (f := f) (kk := (((125 : Int32) + (nI i))).toNatClampNeg) (w1 := (WT (sR 1 (upd f (((125 : Int32) + (nI i))).toNatClampNeg ((σ20.2.2.1 3) ((nI i)).toNatClampNeg)) (sR 1 f σ20)))) (np := 170) C (by decide +kernel) (WT_2 _) (by rw [s125]; omega) rfl (WT_2_s _ _) rfl ?_
                      refine ex_iinc (i := 2) (n := 1) (x := (nI i)) (v := ((nI i) + 1)) (np := 173) (lv1 := [(2, .int ((nI i) + 1)), (1, .int (0 : Int32)), (0, .ref 0)]) C (by decide) (by decide +kernel) rfl (by rfl) rfl rfl ?_
                      refine ex_goto (off := (-28)) (tgt := 145) C (by decide +kernel) (by decide) ?_
                      refine ex_drop (lv1 := [(2, .int ((nI i) + 1)), (1, .int (0 : Int32)), (0, .ref 0)]) [0, 1, 2] rfl ?_
                      rw [← nI_succ, ex_rr]
                      exact ih2 (i + 1) _ (by omega)
                exact copy (3 * (σ20.1 22).toInt).toNat 0 _ (by omega)
              · skip
                exact absurd (by decide) h24
            · skip
              refine ex_aload_n (q := 0) (x := 0) (np := 84) C (by decide +kernel) rfl rfl ?_
              refine ex_iconst (n := 1) (v := 1) (np := 85) C (by decide +kernel) (by decide) rfl ?_
              obtain ⟨r27, σ28, q29⟩ : ∃ r x, B_bad (1 : Int32) σ20 = (r, x) := ex_pair _
              refine ex_call_i (np := 88) (fun ws H locs ls hR hsz => ex_runV (C1 := "") C (m_X11_bad_T d (by omega) (1 : Int32) σ20) hd1 hd2 (by decide) hy_X11_bad tg_1566 hc_X11 rfl (WT_0 _) rfl rfl (Nat.le_of_ble_eq_true rfl) rfl tg_1563 tg_1565 tg_88 tg_158 (by decide +kernel) ws H locs ls hR hsz (Nat.zero_le _) (Nat.zero_le _)) rfl (fun r9 w1 hpo => ?_)
              rw [q29] at hpo
              have hp1 : r27 = r9 := hpo.1.symm
              have hp2 := hpo.2
              clear hpo; subst hp1; subst hp2
              have hI30 := inv_X11_bad (1 : Int32) σ20 (by rw [q21, q18]; exact B_P_INV (B_P_joins (B_P_nots hJ.sb).2.1) (B_P_INV (B_P_nots hJ.sb) hJ.1)); rw [q29] at hI30
              refine ex_pop (np := 89) C rfl (by decide +kernel) rfl ?_
              refine ex_iconst (n := (-1)) (v := (-1)) (np := 90) C (by decide +kernel) (by decide) rfl ?_
              refine ex_aload_n (q := 0) (x := 0) (np := 91) C (by decide +kernel) rfl rfl ?_
              refine ex_getf (q := 16) (v := .int (σ28.1 10)) (np := 94) C hc_X11 hin_X11 (by decide) tg_1391 (by decide +kernel) (WT_0 _) rfl rfl ?_
              refine ex_isub (v := ((-1 : Int32) - (σ28.1 10))) (np := 95) C (by decide +kernel) rfl rfl ?_
              exact ex_iret C hr hlk (by decide +kernel) rfl (Nat.le_refl _) (Nat.le_refl _) (B_fin (hs 1 ((-1 : Int32) - (σ28.1 10), σ28) (by rw [B_it_e h2 h10, ← q18, ← q21, if_pos h23, q29])) (by rw [ex_rid rfl]))
  refine ex_aload_n (q := 0) (x := 0) (np := 1) C (by decide +kernel) rfl rfl ?_
  refine ex_iconst (n := 0) (v := 0) (np := 2) C (by decide +kernel) (by decide) rfl ?_
  refine ex_putf (q := 0) (w1 := (WT (sI 0 (0 : Int32) σ))) (np := 5) C hc_X11 hin_X11 (by decide) tyX11_ok nmX11 tg_1375 rfl (by decide +kernel) (WT_0 _) (Nat.le_of_ble_eq_true rfl) rfl rfl (WT_0_0 _ _) rfl ?_
  refine ex_aload_n (q := 0) (x := 0) (np := 6) C (by decide +kernel) rfl rfl ?_
  refine ex_sipush (n := 200) (v := 200) (np := 9) C (by decide +kernel) (by decide) rfl ?_
  obtain ⟨σ31, q32⟩ : ∃ x, x = B_taken (200 : Int32) (sI 0 (0 : Int32) σ) := ⟨_, rfl⟩
  refine ex_call_v (np := 12) (fun ws H locs ls hR hsz => ex_runV (C1 := "") C (m_X11_taken_T d (by omega) (200 : Int32) (sI 0 (0 : Int32) σ)) hd1 hd2 (by decide) hy_X11_taken tg_1536 hc_X11 rfl (WT_0 _) rfl rfl (Nat.le_of_ble_eq_true rfl) rfl tg_1533 tg_1535 tg_82 tg_158 (by decide +kernel) ws H locs ls hR hsz (Nat.zero_le _) (Nat.zero_le _)) rfl (fun w1 hpo => ?_)
  rw [← q32] at hpo
  subst hpo
  refine ex_aload_n (q := 0) (x := 0) (np := 13) C (by decide +kernel) rfl rfl ?_
  refine ex_iconst (n := 0) (v := 0) (np := 14) C (by decide +kernel) (by decide) rfl ?_
  refine ex_putf (q := 15) (w1 := (WT (sI 9 (0 : Int32) σ31))) (np := 17) C hc_X11 hin_X11 (by decide) tyX11_ok nmX11 tg_1390 rfl (by decide +kernel) (WT_0 _) (Nat.le_of_ble_eq_true rfl) rfl rfl (WT_0_15 _ _) rfl ?_
  refine ex_aload_n (q := 0) (x := 0) (np := 18) C (by decide +kernel) rfl rfl ?_
  refine ex_iconst (n := 0) (v := 0) (np := 19) C (by decide +kernel) (by decide) rfl ?_
  refine ex_putf (q := 42) (w1 := (WT (sI 22 (0 : Int32) (sI 9 (0 : Int32) σ31)))) (np := 22) C hc_X11 hin_X11 (by decide) tyX11_ok nmX11 tg_1417 rfl (by decide +kernel) (WT_0 _) (Nat.le_of_ble_eq_true rfl) rfl rfl (WT_0_42 _ _) rfl ?_
  refine ex_aload_n (q := 0) (x := 0) (np := 23) C (by decide +kernel) rfl rfl ?_
  refine ex_iconst (n := 0) (v := 0) (np := 24) C (by decide +kernel) (by decide) rfl ?_
  refine ex_putf (q := 43) (w1 := (WT (sI 23 (0 : Int32) (sI 22 (0 : Int32) (sI 9 (0 : Int32) σ31))))) (np := 27) C hc_X11 hin_X11 (by decide) tyX11_ok nmX11 tg_1418 rfl (by decide +kernel) (WT_0 _) (Nat.le_of_ble_eq_true rfl) rfl rfl (WT_0_43 _ _) rfl ?_
  refine ex_aload_n (q := 0) (x := 0) (np := 28) C (by decide +kernel) rfl rfl ?_
  refine ex_iconst (n := 0) (v := 0) (np := 29) C (by decide +kernel) (by decide) rfl ?_
  refine ex_putf (q := 44) (w1 := (WT (sI 24 (0 : Int32) (sI 23 (0 : Int32) (sI 22 (0 : Int32) (sI 9 (0 : Int32) σ31)))))) (np := 32) C hc_X11 hin_X11 (by decide) tyX11_ok nmX11 tg_1419 rfl (by decide +kernel) (WT_0 _) (Nat.le_of_ble_eq_true rfl) rfl rfl (WT_0_44 _ _) rfl ?_
  refine ex_aload_n (q := 0) (x := 0) (np := 33) C (by decide +kernel) rfl rfl ?_
  refine ex_iconst (n := 1) (v := 1) (np := 34) C (by decide +kernel) (by decide) rfl ?_
  refine ex_putf (q := 45) (w1 := (WT (sI 25 (1 : Int32) (sI 24 (0 : Int32) (sI 23 (0 : Int32) (sI 22 (0 : Int32) (sI 9 (0 : Int32) σ31))))))) (np := 37) C hc_X11 hin_X11 (by decide) tyX11_ok nmX11 tg_1420 rfl (by decide +kernel) (WT_0 _) (Nat.le_of_ble_eq_true rfl) rfl rfl (WT_0_45 _ _) rfl ?_
  refine ex_aload_n (q := 0) (x := 0) (np := 38) C (by decide +kernel) rfl rfl ?_
  refine ex_iconst (n := 0) (v := 0) (np := 39) C (by decide +kernel) (by decide) rfl ?_
  refine ex_putf (q := 46) (w1 := (WT (sI 26 (0 : Int32) (sI 25 (1 : Int32) (sI 24 (0 : Int32) (sI 23 (0 : Int32) (sI 22 (0 : Int32) (sI 9 (0 : Int32) σ31)))))))) (np := 42) C hc_X11 hin_X11 (by decide) tyX11_ok nmX11 tg_1421 rfl (by decide +kernel) (WT_0 _) (Nat.le_of_ble_eq_true rfl) rfl rfl (WT_0_46 _ _) rfl ?_
  refine ex_aload_n (q := 0) (x := 0) (np := 43) C (by decide +kernel) rfl rfl ?_
  obtain ⟨σ33, q34⟩ : ∃ x, x = B_next (sI 26 (0 : Int32) (sI 25 (1 : Int32) (sI 24 (0 : Int32) (sI 23 (0 : Int32) (sI 22 (0 : Int32) (sI 9 (0 : Int32) σ31)))))) := ⟨_, rfl⟩
  refine ex_call_v (np := 46) (fun ws H locs ls hR hsz => ex_runV (C1 := "") C (m_X11_next_T d (by omega) (sI 26 (0 : Int32) (sI 25 (1 : Int32) (sI 24 (0 : Int32) (sI 23 (0 : Int32) (sI 22 (0 : Int32) (sI 9 (0 : Int32) σ31)))))) (by rw [q32]; exact B_INV_s0 hI)) hd1 hd2 (by decide) hy_X11_next tg_1540 hc_X11 rfl (WT_0 _) rfl rfl (Nat.le_of_ble_eq_true rfl) rfl tg_1537 tg_1539 tg_83 tg_158 (by decide +kernel) ws H locs ls hR hsz (Nat.zero_le _) (Nat.zero_le _)) rfl (fun w1 hpo => ?_)
  rw [← q34] at hpo
  subst hpo
  have hI35 := inv_X11_next (sI 26 (0 : Int32) (sI 25 (1 : Int32) (sI 24 (0 : Int32) (sI 23 (0 : Int32) (sI 22 (0 : Int32) (sI 9 (0 : Int32) σ31)))))) (by rw [q32]; exact B_INV_s0 hI); rw [← q34] at hI35
  refine ex_iconst (n := 1) (v := 1) (np := 47) C (by decide +kernel) (by decide) rfl ?_
  refine ex_istore_n (q := 1) (np := 48) (lv1 := [(1, .int (1 : Int32)), (0, .ref 0)]) C (by decide) (by decide +kernel) rfl rfl ?_
  refine ex_drop (lv1 := [(1, .int (1 : Int32)), (0, .ref 0)]) [0, 1] rfl ?_
  have e0 : σ33 = B_s0 σ := by rw [q34, q32]; rfl
  have h0 := SI_s0 hI
  rw [← e0] at h0
  exact loop _ σ33 h0.1 h0.2 (Nat.lt_succ_self _) (fun N r h => ⟨N, by rw [← e0]; exact h⟩)
