/-! The reader within a sentence. -/
set_option maxRecDepth 100000 in
set_option maxHeartbeats 4000000 in
theorem m_X4_failAs_S {l : Launch} {X : ab_X} {D : va_G} {A : ex_A} (d : Nat) (hd : 1 ≤ d) (why : Int32) (σ : ex_S) : ex_ctr l X D A d yX4_failAs cX4_failAs 2 (some .boolean) (WS σ) [.ref 1, .int why] (fun r w => r = (A_failAs why σ).1 ∧ w = WS (A_failAs why σ).2) := by
  obtain ⟨d, rfl⟩ : ∃ d9, d = d9 + 1 := ⟨d - 1, by omega⟩
  refine ex_meth (own := RX4) rfl (by decide) (Nat.le_of_ble_eq_true rfl) (fun p e R s m below meth c C hr hlk hd1 hd2 => ?_)
  show ex_ok p l e R s m _ below meth c 0 0 _ 2 X D A (WS σ) 0 [(0, .ref 1), (1, .int why)] []
  refine ex_aload_n (q := 0) (x := 1) (np := 1) C (by decide +kernel) rfl rfl ?_
  refine ex_iload_n (q := 1) (x := why) (np := 2) C (by decide +kernel) rfl rfl ?_
  refine ex_putf (q := 12) (w1 := (WS (sI 9 why σ))) (np := 5) C hc_X4 hin_X4 (by decide) tyX4_ok nmX4 tg_254 rfl (by decide +kernel) (WS_1 _) (Nat.le_of_ble_eq_true rfl) rfl rfl (WS_1_12 _ _) rfl ?_
  refine ex_aload_n (q := 0) (x := 1) (np := 6) C (by decide +kernel) rfl rfl ?_
  refine ex_aload_n (q := 0) (x := 1) (np := 7) C (by decide +kernel) rfl rfl ?_
  refine ex_getf (q := 4) (v := .int (σ.1 3)) (np := 10) C hc_X4 hin_X4 (by decide) tg_235 (by decide +kernel) (WS_1 _) rfl rfl ?_
  refine ex_putf (q := 13) (w1 := (WS (sI 10 (σ.1 3) (sI 9 why σ)))) (np := 13) C hc_X4 hin_X4 (by decide) tyX4_ok nmX4 tg_256 rfl (by decide +kernel) (WS_1 _) (Nat.le_of_ble_eq_true rfl) rfl rfl (WS_1_13 _ _) rfl ?_
  refine ex_iconst (n := 0) (v := 0) (np := 14) C (by decide +kernel) (by decide) rfl ?_
  have E9 : A_failAs why σ = ((0 : Int32), (sI 10 (σ.1 3) (sI 9 why σ))) := by unfold A_failAs; exact rfl
  exact ex_iret C hr hlk (by decide +kernel) rfl (Nat.le_refl _) (Nat.le_refl _) (by rw [E9]; exact ⟨rfl, rfl⟩)
set_option maxRecDepth 100000 in
set_option maxHeartbeats 4000000 in
theorem m_X4_atEnd_S {l : Launch} {X : ab_X} {D : va_G} {A : ex_A} (d : Nat) (hd : 1 ≤ d) (σ : ex_S) : ex_ctr l X D A d yX4_atEnd cX4_atEnd 1 (some .boolean) (WS σ) [.ref 1] (fun r w => r = A_atEnd σ ∧ w = WS σ) := by
  obtain ⟨d, rfl⟩ : ∃ d9, d = d9 + 1 := ⟨d - 1, by omega⟩
  refine ex_meth (own := RX4) rfl (by decide) (Nat.le_of_ble_eq_true rfl) (fun p e R s m below meth c C hr hlk hd1 hd2 => ?_)
  show ex_ok p l e R s m _ below meth c 0 0 _ 1 X D A (WS σ) 0 [(0, .ref 1)] []
  refine ex_aload_n (q := 0) (x := 1) (np := 1) C (by decide +kernel) rfl rfl ?_
  refine ex_getf (q := 5) (v := .int (σ.1 4)) (np := 4) C hc_X4 hin_X4 (by decide) tg_236 (by decide +kernel) (WS_1 _) rfl rfl ?_
  refine ex_iconst (n := 1) (v := 1) (np := 5) C (by decide +kernel) (by decide) rfl ?_
  refine ex_icmp_ne (off := 7) (tgt := 12) (np := 8) C (by decide +kernel) (by decide) rfl (fun h1 => ?_) (fun h1 => ?_)
  · skip
    refine ex_iconst (n := 0) (v := 0) (np := 13) C (by decide +kernel) (by decide) rfl ?_
    have E9 : A_atEnd σ = (0 : Int32) := by unfold A_atEnd; exact (if_neg h1).trans (rfl)
    exact ex_iret C hr hlk (by decide +kernel) rfl (Nat.le_refl _) (Nat.le_refl _) ⟨E9.symm, rfl⟩
  · skip
    refine ex_iconst (n := 1) (v := 1) (np := 9) C (by decide +kernel) (by decide) rfl ?_
    refine ex_goto (off := 4) (tgt := 13) C (by decide +kernel) (by decide) ?_
    have E9 : A_atEnd σ = (1 : Int32) := by unfold A_atEnd; exact (if_pos h1).trans (rfl)
    exact ex_iret C hr hlk (by decide +kernel) rfl (Nat.le_refl _) (Nat.le_refl _) ⟨E9.symm, rfl⟩
set_option maxRecDepth 100000 in
set_option maxHeartbeats 4000000 in
theorem m_X4_isName_S {l : Launch} {X : ab_X} {D : va_G} {A : ex_A} (d : Nat) (hd : 1 ≤ d) (σ : ex_S) : ex_ctr l X D A d yX4_isName cX4_isName 1 (some .boolean) (WS σ) [.ref 1] (fun r w => r = A_isName σ ∧ w = WS σ) := by
  obtain ⟨d, rfl⟩ : ∃ d9, d = d9 + 1 := ⟨d - 1, by omega⟩
  refine ex_meth (own := RX4) rfl (by decide) (Nat.le_of_ble_eq_true rfl) (fun p e R s m below meth c C hr hlk hd1 hd2 => ?_)
  show ex_ok p l e R s m _ below meth c 0 0 _ 1 X D A (WS σ) 0 [(0, .ref 1)] []
  refine ex_aload_n (q := 0) (x := 1) (np := 1) C (by decide +kernel) rfl rfl ?_
  refine ex_getf (q := 5) (v := .int (σ.1 4)) (np := 4) C hc_X4 hin_X4 (by decide) tg_236 (by decide +kernel) (WS_1 _) rfl rfl ?_
  refine ex_iconst (n := 2) (v := 2) (np := 5) C (by decide +kernel) (by decide) rfl ?_
  refine ex_icmp_ne (off := 15) (tgt := 20) (np := 8) C (by decide +kernel) (by decide) rfl (fun h1 => ?_) (fun h1 => ?_)
  · skip
    refine ex_iconst (n := 0) (v := 0) (np := 21) C (by decide +kernel) (by decide) rfl ?_
    have E9 : A_isName σ = (0 : Int32) := by unfold A_isName; exact (if_neg h1).trans (rfl)
    exact ex_iret C hr hlk (by decide +kernel) rfl (Nat.le_refl _) (Nat.le_refl _) ⟨E9.symm, rfl⟩
  · skip
    refine ex_aload_n (q := 0) (x := 1) (np := 9) C (by decide +kernel) rfl rfl ?_
    refine ex_getf (q := 8) (v := .int (σ.1 6)) (np := 12) C hc_X4 hin_X4 (by decide) tg_241 (by decide +kernel) (WS_1 _) rfl rfl ?_
    refine ex_iconst (n := (-1)) (v := (-1)) (np := 13) C (by decide +kernel) (by decide) rfl ?_
    refine ex_icmp_ne (off := 7) (tgt := 20) (np := 16) C (by decide +kernel) (by decide) rfl (fun h2 => ?_) (fun h2 => ?_)
    · skip
      refine ex_iconst (n := 0) (v := 0) (np := 21) C (by decide +kernel) (by decide) rfl ?_
      have E9 : A_isName σ = (0 : Int32) := by unfold A_isName; exact (if_pos h1).trans ((if_neg h2).trans (rfl))
      exact ex_iret C hr hlk (by decide +kernel) rfl (Nat.le_refl _) (Nat.le_refl _) ⟨E9.symm, rfl⟩
    · skip
      refine ex_iconst (n := 1) (v := 1) (np := 17) C (by decide +kernel) (by decide) rfl ?_
      refine ex_goto (off := 4) (tgt := 21) C (by decide +kernel) (by decide) ?_
      have E9 : A_isName σ = (1 : Int32) := by unfold A_isName; exact (if_pos h1).trans ((if_pos h2).trans (rfl))
      exact ex_iret C hr hlk (by decide +kernel) rfl (Nat.le_refl _) (Nat.le_refl _) ⟨E9.symm, rfl⟩
set_option maxRecDepth 100000 in
set_option maxHeartbeats 4000000 in
theorem m_X4_toldWord_S {l : Launch} {X : ab_X} {D : va_G} {A : ex_A} (d : Nat) (hd : 1 ≤ d) (σ : ex_S) : ex_ctr l X D A d yX4_toldWord cX4_toldWord 2 (some .int) (WS σ) [.ref 1] (fun r w => r = A_toldWord σ ∧ w = WS σ) := by
  obtain ⟨d, rfl⟩ : ∃ d9, d = d9 + 1 := ⟨d - 1, by omega⟩
  refine ex_meth (own := RX4) rfl (by decide) (Nat.le_of_ble_eq_true rfl) (fun p e R s m below meth c C hr hlk hd1 hd2 => ?_)
  show ex_ok p l e R s m _ below meth c 0 0 _ 2 X D A (WS σ) 0 [(0, .ref 1)] []
  refine ex_iconst (n := 0) (v := 0) (np := 1) C (by decide +kernel) (by decide) rfl ?_
  refine ex_istore_n (q := 1) (np := 2) (lv1 := [(1, .int (0 : Int32)), (0, .ref 1)]) C (by decide) (by decide +kernel) rfl rfl ?_
  have loop : ∀ (n k : Nat), k + n = 22 → A_toldWord σ = ex_find (σ.2.2.2 0) (σ.2.1 0) n k → ex_okP p l e R s m below meth c 2 X D A [.ref 1] (fun r w => r = A_toldWord σ ∧ w = WS σ) (some .int) (WS σ) 2 [(1, .int (nI k)), (0, .ref 1)] [] := by
    intro n
    induction n with
    | zero =>
      intro k hk hs
      have hki : (nI k).toInt = (k : Int) := nI_toInt (by omega)
      refine ex_iload_n (q := 1) (x := (nI k)) (np := 3) C (by decide +kernel) rfl rfl ?_
      refine ex_aload_n (q := 0) (x := 1) (np := 4) C (by decide +kernel) rfl rfl ?_
      refine ex_getf (q := 14) (v := .ref 3) (np := 7) C hc_X4 hin_X4 (by decide) tg_258 (by decide +kernel) (WS_1 _) rfl rfl ?_
      refine ex_len (v := 22) (np := 8) C (by decide +kernel) (WS_3 _) (by decide) rfl ?_
      refine ex_icmp_ge (off := 25) (tgt := 33) (np := 11) C (by decide +kernel) (by decide) rfl (fun h1 => ?_) (fun h1 => ?_)
      · skip
        refine ex_iconst (n := (-1)) (v := (-1)) (np := 34) C (by decide +kernel) (by decide) rfl ?_
        have E9 : A_toldWord σ = (-1 : Int32) := hs
        exact ex_iret C hr hlk (by decide +kernel) rfl (Nat.le_refl _) (Nat.le_refl _) ⟨E9.symm, rfl⟩
      · skip
        exfalso; rw [hki, show (22 : Int32).toInt = 22 from by decide] at h1; omega
    | succ n ih =>
      intro k hk hs
      have hki : (nI k).toInt = (k : Int) := nI_toInt (by omega)
      refine ex_iload_n (q := 1) (x := (nI k)) (np := 3) C (by decide +kernel) rfl rfl ?_
      refine ex_aload_n (q := 0) (x := 1) (np := 4) C (by decide +kernel) rfl rfl ?_
      refine ex_getf (q := 14) (v := .ref 3) (np := 7) C hc_X4 hin_X4 (by decide) tg_258 (by decide +kernel) (WS_1 _) rfl rfl ?_
      refine ex_len (v := 22) (np := 8) C (by decide +kernel) (WS_3 _) (by decide) rfl ?_
      refine ex_icmp_ge (off := 25) (tgt := 33) (np := 11) C (by decide +kernel) (by decide) rfl (fun h2 => ?_) (fun h2 => ?_)
      · skip
        exfalso; rw [hki, show (22 : Int32).toInt = 22 from by decide] at h2; omega
      · skip
        refine ex_aload_n (q := 0) (x := 1) (np := 12) C (by decide +kernel) rfl rfl ?_
        refine ex_getf (q := 14) (v := .ref 3) (np := 15) C hc_X4 hin_X4 (by decide) tg_258 (by decide +kernel) (WS_1 _) rfl rfl ?_
        refine ex_iload_n (q := 1) (x := (nI k)) (np := 16) C (by decide +kernel) rfl rfl ?_
        refine ex_lald (f := (σ.2.2.2 0)) (kk := ((nI k)).toNatClampNeg) (np := 17) C (by decide +kernel) (WS_3 _) (by rw [hki]; omega) rfl rfl ?_
        refine ex_aload_n (q := 0) (x := 1) (np := 18) C (by decide +kernel) rfl rfl ?_
        refine ex_getf (q := 6) (v := .long (σ.2.1 0)) (np := 21) C hc_X4 hin_X4 (by decide) tg_239 (by decide +kernel) (WS_1 _) rfl rfl ?_
        refine ex_lcmp (np := 22) C (by decide +kernel) rfl ?_
        refine ex_if_ne (off := 5) (tgt := 27) (np := 25) C (by decide +kernel) (by decide) rfl (fun h3 => ?_) (fun h3 => ?_)
        · skip
          refine ex_iinc (i := 1) (n := 1) (x := (nI k)) (v := ((nI k) + 1)) (np := 30) (lv1 := [(1, .int ((nI k) + 1)), (0, .ref 1)]) C (by decide) (by decide +kernel) rfl (by rfl) rfl rfl ?_
          refine ex_goto (off := (-28)) (tgt := 2) C (by decide +kernel) (by decide) ?_
          rw [← nI_succ]
          exact ih (k + 1) (by omega) (hs.trans (ex_find_s.trans (if_neg (by rw [← ex_nk (k := k) (by omega)]; exact h3))))
        · skip
          refine ex_iload_n (q := 1) (x := (nI k)) (np := 26) C (by decide +kernel) rfl rfl ?_
          have E9 : A_toldWord σ = (nI k) := (hs.trans (ex_find_s.trans (if_pos (by rw [← ex_nk (k := k) (by omega)]; exact h3))))
          exact ex_iret C hr hlk (by decide +kernel) rfl (Nat.le_refl _) (Nat.le_refl _) ⟨E9.symm, rfl⟩
  exact loop (22) 0 (by omega) rfl
set_option maxRecDepth 100000 in
set_option maxHeartbeats 4000000 in
theorem m_X4_readRun_S {l : Launch} {X : ab_X} {D : va_G} {A : ex_A} (d : Nat) (hd : 1 ≤ d) (σ : ex_S) (hI : A_INV σ) : ex_ctr l X D A d yX4_readRun cX4_readRun 7 none (WS σ) [.ref 1] (fun _ w => w = WS (A_readRun σ)) := by
  obtain ⟨d, rfl⟩ : ∃ d9, d = d9 + 1 := ⟨d - 1, by omega⟩
  refine ex_meth (own := RX4) rfl (by decide) (Nat.le_of_ble_eq_true rfl) (fun p e R s m below meth c C hr hlk hd1 hd2 => ?_)
  show ex_ok p l e R s m _ below meth c 0 0 _ 7 X D A (WS σ) 0 [(0, .ref 1)] []
  refine ex_iconst (n := 1) (v := 1) (np := 1) C (by decide +kernel) (by decide) rfl ?_
  refine ex_istore_n (q := 1) (np := 2) (lv1 := [(1, .int (1 : Int32)), (0, .ref 1)]) C (by decide) (by decide +kernel) rfl rfl ?_
  refine ex_iconst (n := 1) (v := 1) (np := 3) C (by decide +kernel) (by decide) rfl ?_
  refine ex_istore_n (q := 2) (np := 4) (lv1 := [(2, .int (1 : Int32)), (1, .int (1 : Int32)), (0, .ref 1)]) C (by decide) (by decide +kernel) rfl rfl ?_
  refine ex_aload_n (q := 0) (x := 1) (np := 5) C (by decide +kernel) rfl rfl ?_
  refine ex_lconst0 (np := 6) C (by decide +kernel) rfl ?_
  refine ex_putf (q := 6) (w1 := (WS (sL 0 (0 : Int64) σ))) (np := 9) C hc_X4 hin_X4 (by decide) tyX4_ok nmX4 tg_239 rfl (by decide +kernel) (WS_1 _) (Nat.le_of_ble_eq_true rfl) rfl rfl (WS_1_6 _ _) rfl ?_
  refine ex_aload_n (q := 0) (x := 1) (np := 10) C (by decide +kernel) rfl rfl ?_
  refine ex_iconst (n := 0) (v := 0) (np := 11) C (by decide +kernel) (by decide) rfl ?_
  refine ex_putf (q := 7) (w1 := (WS (sI 5 (0 : Int32) (sL 0 (0 : Int64) σ)))) (np := 14) C hc_X4 hin_X4 (by decide) tyX4_ok nmX4 tg_240 rfl (by decide +kernel) (WS_1 _) (Nat.le_of_ble_eq_true rfl) rfl rfl (WS_1_7 _ _) rfl ?_
  refine ex_iconst (n := 1) (v := 1) (np := 15) C (by decide +kernel) (by decide) rfl ?_
  refine ex_istore_n (q := 3) (np := 16) (lv1 := [(3, .int (1 : Int32)), (2, .int (1 : Int32)), (1, .int (1 : Int32)), (0, .ref 1)]) C (by decide) (by decide +kernel) rfl rfl ?_
  have hI9 := hI; unfold A_INV at hI9
  have loop : ∀ (k : Nat) (q iw nu dg : Int32) (L : Int64), 0 ≤ q.toInt → q.toInt ≤ (σ.1 0).toInt → (σ.1 0).toInt - q.toInt < k → A_readRun σ = A_rr σ k q iw nu dg L → ex_okP p l e R s m below meth c 7 X D A [.ref 1] (fun _ w => w = WS (A_readRun σ)) none (WS (sI 2 q (sI 5 dg (sL 0 L σ)))) 16 [(3, .int (1 : Int32)), (2, .int nu), (1, .int iw), (0, .ref 1)] [] := by
    intro k
    induction k with
    | zero => intro q iw nu dg L h0 h1 hk hs; exfalso; omega
    | succ k ih =>
      intro q iw nu dg L h0 h1 hk hs
      refine ex_iload_n (q := 3) (x := (1 : Int32)) (np := 17) C (by decide +kernel) rfl rfl ?_
      refine ex_if_eq (off := 211) (tgt := 228) (np := 20) C (by decide +kernel) (by decide) rfl (fun h1 => ?_) (fun h1 => ?_)
      · skip
        exact absurd h1 (by decide)
      · skip
        refine ex_aload_n (q := 0) (x := 1) (np := 21) C (by decide +kernel) rfl rfl ?_
        refine ex_getf (q := 3) (v := .int q) (np := 24) C hc_X4 hin_X4 (by decide) tg_234 (by decide +kernel) (WS_1 _) rfl rfl ?_
        refine ex_aload_n (q := 0) (x := 1) (np := 25) C (by decide +kernel) rfl rfl ?_
        refine ex_getf (q := 1) (v := .int (σ.1 0)) (np := 28) C hc_X4 hin_X4 (by decide) tg_231 (by decide +kernel) (WS_1 _) rfl rfl ?_
        refine ex_icmp_ge (off := 200) (tgt := 228) (np := 31) C (by decide +kernel) (by decide) rfl (fun h2 => ?_) (fun h2 => ?_)
        · skip
          refine ex_aload_n (q := 0) (x := 1) (np := 229) C (by decide +kernel) rfl rfl ?_
          refine ex_getf (q := 3) (v := .int q) (np := 232) C hc_X4 hin_X4 (by decide) tg_234 (by decide +kernel) (WS_1 _) rfl rfl ?_
          refine ex_aload_n (q := 0) (x := 1) (np := 233) C (by decide +kernel) rfl rfl ?_
          refine ex_getf (q := 4) (v := .int (σ.1 3)) (np := 236) C hc_X4 hin_X4 (by decide) tg_235 (by decide +kernel) (WS_1 _) rfl rfl ?_
          refine ex_icmp_le (off := 24) (tgt := 260) (np := 239) C (by decide +kernel) (by decide) rfl (fun h3 => ?_) (fun h3 => ?_)
          · skip
            refine ex_vret C hr hlk (by decide +kernel) (Nat.le_refl _) (Nat.le_refl _) ?_
            have E9 : A_readRun σ = (sI 2 q (sI 5 dg (sL 0 L σ))) := (hs.trans (A_rr_s.trans ((if_neg h2).trans ((if_neg h3).trans (rfl)))))
            rw [E9]
          · skip
            refine ex_aload_n (q := 0) (x := 1) (np := 240) C (by decide +kernel) rfl rfl ?_
            have J6 : ∀ v4 : Int32, v4 = A_rr257 iw nu → ex_okP p l e R s m below meth c 7 X D A [.ref 1] (fun _ w => w = WS (A_readRun σ)) none (WS (sI 2 q (sI 5 dg (sL 0 L σ)))) 257 [(3, .int (1 : Int32)), (2, .int nu), (1, .int iw), (0, .ref 1)] [.int v4, .ref 1] := by
              intro v4 hv5
              refine ex_putf (q := 5) (w1 := (WS (sI 4 v4 (sI 2 q (sI 5 dg (sL 0 L σ)))))) (np := 260) C hc_X4 hin_X4 (by decide) tyX4_ok nmX4 tg_236 rfl (by decide +kernel) (WS_1 _) (Nat.le_of_ble_eq_true rfl) rfl rfl (WS_1_5 _ _) rfl ?_
              refine ex_vret C hr hlk (by decide +kernel) (Nat.le_refl _) (Nat.le_refl _) ?_
              have E9 : A_readRun σ = (sI 4 v4 (sI 2 q (sI 5 dg (sL 0 L σ)))) := (hs.trans (A_rr_s.trans ((if_neg h2).trans ((if_pos h3).trans ((ex_lt_eq hv5).trans (rfl))))))
              rw [E9]
            refine ex_iload_n (q := 1) (x := iw) (np := 241) C (by decide +kernel) rfl rfl ?_
            refine ex_if_eq (off := 7) (tgt := 248) (np := 244) C (by decide +kernel) (by decide) rfl (fun h7 => ?_) (fun h7 => ?_)
            · skip
              refine ex_iload_n (q := 2) (x := nu) (np := 249) C (by decide +kernel) rfl rfl ?_
              refine ex_if_eq (off := 7) (tgt := 256) (np := 252) C (by decide +kernel) (by decide) rfl (fun h8 => ?_) (fun h8 => ?_)
              · skip
                refine ex_iconst (n := 0) (v := 0) (np := 257) C (by decide +kernel) (by decide) rfl ?_
                exact J6 _ (show A_rr257 iw nu = (0 : Int32) from by unfold A_rr257; exact (if_pos h7).trans ((if_pos h8).trans (rfl))).symm
              · skip
                refine ex_iconst (n := 3) (v := 3) (np := 253) C (by decide +kernel) (by decide) rfl ?_
                refine ex_goto (off := 4) (tgt := 257) C (by decide +kernel) (by decide) ?_
                exact J6 _ (show A_rr257 iw nu = (3 : Int32) from by unfold A_rr257; exact (if_pos h7).trans ((if_neg h8).trans (rfl))).symm
            · skip
              refine ex_iconst (n := 2) (v := 2) (np := 245) C (by decide +kernel) (by decide) rfl ?_
              refine ex_goto (off := 12) (tgt := 257) C (by decide +kernel) (by decide) ?_
              exact J6 _ (show A_rr257 iw nu = (2 : Int32) from by unfold A_rr257; exact (if_neg h7).trans (rfl)).symm
        · skip
          refine ex_aload_n (q := 0) (x := 1) (np := 32) C (by decide +kernel) rfl rfl ?_
          refine ex_getf (q := 0) (v := .ref 2) (np := 35) C hc_X4 hin_X4 (by decide) tg_229 (by decide +kernel) (WS_1 _) rfl rfl ?_
          refine ex_aload_n (q := 0) (x := 1) (np := 36) C (by decide +kernel) rfl rfl ?_
          refine ex_getf (q := 3) (v := .int q) (np := 39) C hc_X4 hin_X4 (by decide) tg_234 (by decide +kernel) (WS_1 _) rfl rfl ?_
          refine ex_iald (f := (σ.2.2.1 0)) (kk := (q).toNatClampNeg) (np := 40) C (by decide +kernel) (WS_2 _) (by have h9 := h2; show 0 ≤ q.toInt ∧ q.toInt < 940; omega) rfl rfl ?_
          refine ex_istore (i := 4) (np := 42) (lv1 := [(4, .int ((σ.2.2.1 0) (q).toNatClampNeg)), (3, .int (1 : Int32)), (2, .int nu), (1, .int iw), (0, .ref 1)]) C (by decide) (by decide +kernel) rfl rfl ?_
          have J12 : ∀ v10 : Int32, v10 = A_rr61 ((σ.2.2.1 0) (q).toNatClampNeg) → ex_okP p l e R s m below meth c 7 X D A [.ref 1] (fun _ w => w = WS (A_readRun σ)) none (WS (sI 2 q (sI 5 dg (sL 0 L σ)))) 61 [(4, .int ((σ.2.2.1 0) (q).toNatClampNeg)), (3, .int (1 : Int32)), (2, .int nu), (1, .int iw), (0, .ref 1)] [.int v10] := by
            intro v10 hv11
            refine ex_istore (i := 5) (np := 63) (lv1 := [(5, .int v10), (4, .int ((σ.2.2.1 0) (q).toNatClampNeg)), (3, .int (1 : Int32)), (2, .int nu), (1, .int iw), (0, .ref 1)]) C (by decide) (by decide +kernel) rfl rfl ?_
            have J15 : ∀ v13 : Int32, v13 = A_rr82 ((σ.2.2.1 0) (q).toNatClampNeg) → ex_okP p l e R s m below meth c 7 X D A [.ref 1] (fun _ w => w = WS (A_readRun σ)) none (WS (sI 2 q (sI 5 dg (sL 0 L σ)))) 82 [(5, .int v10), (4, .int ((σ.2.2.1 0) (q).toNatClampNeg)), (3, .int (1 : Int32)), (2, .int nu), (1, .int iw), (0, .ref 1)] [.int v13] := by
              intro v13 hv14
              refine ex_istore (i := 6) (np := 84) (lv1 := [(6, .int v13), (5, .int v10), (4, .int ((σ.2.2.1 0) (q).toNatClampNeg)), (3, .int (1 : Int32)), (2, .int nu), (1, .int iw), (0, .ref 1)]) C (by decide) (by decide +kernel) rfl rfl ?_
              have J18 : ∀ v16 : Int32, v16 = A_rr99 v10 v13 → ex_okP p l e R s m below meth c 7 X D A [.ref 1] (fun _ w => w = WS (A_readRun σ)) none (WS (sI 2 q (sI 5 dg (sL 0 L σ)))) 99 [(6, .int v13), (5, .int v10), (4, .int ((σ.2.2.1 0) (q).toNatClampNeg)), (3, .int (1 : Int32)), (2, .int nu), (1, .int iw), (0, .ref 1)] [.int v16] := by
                intro v16 hv17
                refine ex_istore_n (q := 3) (np := 100) (lv1 := [(3, .int v16), (6, .int v13), (5, .int v10), (4, .int ((σ.2.2.1 0) (q).toNatClampNeg)), (2, .int nu), (1, .int iw), (0, .ref 1)]) C (by decide) (by decide +kernel) rfl rfl ?_
                refine ex_iload_n (q := 3) (x := v16) (np := 101) C (by decide +kernel) rfl rfl ?_
                refine ex_if_eq (off := 124) (tgt := 225) (np := 104) C (by decide +kernel) (by decide) rfl (fun h19 => ?_) (fun h19 => ?_)
                · skip
                  refine ex_goto (off := (-209)) (tgt := 16) C (by decide +kernel) (by decide) ?_
                  refine ex_iload_n (q := 3) (x := v16) (np := 17) C (by decide +kernel) rfl rfl ?_
                  refine ex_if_eq (off := 211) (tgt := 228) (np := 20) C (by decide +kernel) (by decide) rfl (fun h20 => ?_) (fun h20 => ?_)
                  · skip
                    refine ex_aload_n (q := 0) (x := 1) (np := 229) C (by decide +kernel) rfl rfl ?_
                    refine ex_getf (q := 3) (v := .int q) (np := 232) C hc_X4 hin_X4 (by decide) tg_234 (by decide +kernel) (WS_1 _) rfl rfl ?_
                    refine ex_aload_n (q := 0) (x := 1) (np := 233) C (by decide +kernel) rfl rfl ?_
                    refine ex_getf (q := 4) (v := .int (σ.1 3)) (np := 236) C hc_X4 hin_X4 (by decide) tg_235 (by decide +kernel) (WS_1 _) rfl rfl ?_
                    refine ex_icmp_le (off := 24) (tgt := 260) (np := 239) C (by decide +kernel) (by decide) rfl (fun h21 => ?_) (fun h21 => ?_)
                    · skip
                      refine ex_vret C hr hlk (by decide +kernel) (Nat.le_refl _) (Nat.le_refl _) ?_
                      have E9 : A_readRun σ = (sI 2 q (sI 5 dg (sL 0 L σ))) := (hs.trans (A_rr_s.trans ((if_pos h2).trans ((ex_lt_eq hv11).trans ((ex_lt_eq hv14).trans ((ex_lt_eq hv17).trans ((if_pos h19).trans ((if_neg h21).trans (rfl)))))))))
                      rw [E9]
                    · skip
                      refine ex_aload_n (q := 0) (x := 1) (np := 240) C (by decide +kernel) rfl rfl ?_
                      have J24 : ∀ v22 : Int32, v22 = A_rr257 iw nu → ex_okP p l e R s m below meth c 7 X D A [.ref 1] (fun _ w => w = WS (A_readRun σ)) none (WS (sI 2 q (sI 5 dg (sL 0 L σ)))) 257 [(3, .int v16), (6, .int v13), (5, .int v10), (4, .int ((σ.2.2.1 0) (q).toNatClampNeg)), (2, .int nu), (1, .int iw), (0, .ref 1)] [.int v22, .ref 1] := by
                        intro v22 hv23
                        refine ex_putf (q := 5) (w1 := (WS (sI 4 v22 (sI 2 q (sI 5 dg (sL 0 L σ)))))) (np := 260) C hc_X4 hin_X4 (by decide) tyX4_ok nmX4 tg_236 rfl (by decide +kernel) (WS_1 _) (Nat.le_of_ble_eq_true rfl) rfl rfl (WS_1_5 _ _) rfl ?_
                        refine ex_vret C hr hlk (by decide +kernel) (Nat.le_refl _) (Nat.le_refl _) ?_
                        have E9 : A_readRun σ = (sI 4 v22 (sI 2 q (sI 5 dg (sL 0 L σ)))) := (hs.trans (A_rr_s.trans ((if_pos h2).trans ((ex_lt_eq hv11).trans ((ex_lt_eq hv14).trans ((ex_lt_eq hv17).trans ((if_pos h19).trans ((if_pos h21).trans ((ex_lt_eq hv23).trans (rfl))))))))))
                        rw [E9]
                      refine ex_iload_n (q := 1) (x := iw) (np := 241) C (by decide +kernel) rfl rfl ?_
                      refine ex_if_eq (off := 7) (tgt := 248) (np := 244) C (by decide +kernel) (by decide) rfl (fun h25 => ?_) (fun h25 => ?_)
                      · skip
                        refine ex_iload_n (q := 2) (x := nu) (np := 249) C (by decide +kernel) rfl rfl ?_
                        refine ex_if_eq (off := 7) (tgt := 256) (np := 252) C (by decide +kernel) (by decide) rfl (fun h26 => ?_) (fun h26 => ?_)
                        · skip
                          refine ex_iconst (n := 0) (v := 0) (np := 257) C (by decide +kernel) (by decide) rfl ?_
                          exact J24 _ (show A_rr257 iw nu = (0 : Int32) from by unfold A_rr257; exact (if_pos h25).trans ((if_pos h26).trans (rfl))).symm
                        · skip
                          refine ex_iconst (n := 3) (v := 3) (np := 253) C (by decide +kernel) (by decide) rfl ?_
                          refine ex_goto (off := 4) (tgt := 257) C (by decide +kernel) (by decide) ?_
                          exact J24 _ (show A_rr257 iw nu = (3 : Int32) from by unfold A_rr257; exact (if_pos h25).trans ((if_neg h26).trans (rfl))).symm
                      · skip
                        refine ex_iconst (n := 2) (v := 2) (np := 245) C (by decide +kernel) (by decide) rfl ?_
                        refine ex_goto (off := 12) (tgt := 257) C (by decide +kernel) (by decide) ?_
                        exact J24 _ (show A_rr257 iw nu = (2 : Int32) from by unfold A_rr257; exact (if_neg h25).trans (rfl)).symm
                  · skip
                    exact absurd h19 h20
                · skip
                  have J29 : ∀ v27 : Int32, v27 = A_rr132 iw v10 q (σ.1 3) → ex_okP p l e R s m below meth c 7 X D A [.ref 1] (fun _ w => w = WS (A_readRun σ)) none (WS (sI 2 q (sI 5 dg (sL 0 L σ)))) 132 [(3, .int v16), (6, .int v13), (5, .int v10), (4, .int ((σ.2.2.1 0) (q).toNatClampNeg)), (2, .int nu), (1, .int iw), (0, .ref 1)] [.int v27] := by
                    intro v27 hv28
                    refine ex_istore_n (q := 1) (np := 133) (lv1 := [(1, .int v27), (3, .int v16), (6, .int v13), (5, .int v10), (4, .int ((σ.2.2.1 0) (q).toNatClampNeg)), (2, .int nu), (0, .ref 1)]) C (by decide) (by decide +kernel) rfl rfl ?_
                    have J32 : ∀ v30 : Int32, v30 = A_rr160 nu v13 q (σ.1 3) → ex_okP p l e R s m below meth c 7 X D A [.ref 1] (fun _ w => w = WS (A_readRun σ)) none (WS (sI 2 q (sI 5 dg (sL 0 L σ)))) 160 [(1, .int v27), (3, .int v16), (6, .int v13), (5, .int v10), (4, .int ((σ.2.2.1 0) (q).toNatClampNeg)), (2, .int nu), (0, .ref 1)] [.int v30] := by
                      intro v30 hv31
                      refine ex_istore_n (q := 2) (np := 161) (lv1 := [(2, .int v30), (1, .int v27), (3, .int v16), (6, .int v13), (5, .int v10), (4, .int ((σ.2.2.1 0) (q).toNatClampNeg)), (0, .ref 1)]) C (by decide) (by decide +kernel) rfl rfl ?_
                      refine ex_aload_n (q := 0) (x := 1) (np := 162) C (by decide +kernel) rfl rfl ?_
                      have J35 : ∀ v33 : Int64, v33 = A_rr184 v27 L ((σ.2.2.1 0) (q).toNatClampNeg) → ex_okP p l e R s m below meth c 7 X D A [.ref 1] (fun _ w => w = WS (A_readRun σ)) none (WS (sI 2 q (sI 5 dg (sL 0 L σ)))) 184 [(2, .int v30), (1, .int v27), (3, .int v16), (6, .int v13), (5, .int v10), (4, .int ((σ.2.2.1 0) (q).toNatClampNeg)), (0, .ref 1)] [.long v33, .ref 1] := by
                        intro v33 hv34
                        refine ex_putf (q := 6) (w1 := (WS (sL 0 v33 (sI 2 q (sI 5 dg (sL 0 L σ)))))) (np := 187) C hc_X4 hin_X4 (by decide) tyX4_ok nmX4 tg_239 rfl (by decide +kernel) (WS_1 _) (Nat.le_of_ble_eq_true rfl) rfl rfl (WS_1_6 _ _) rfl ?_
                        refine ex_aload_n (q := 0) (x := 1) (np := 188) C (by decide +kernel) rfl rfl ?_
                        have J38 : ∀ v36 : Int32, v36 = A_rr212 v30 dg ((σ.2.2.1 0) (q).toNatClampNeg) → ex_okP p l e R s m below meth c 7 X D A [.ref 1] (fun _ w => w = WS (A_readRun σ)) none (WS (sL 0 v33 (sI 2 q (sI 5 dg (sL 0 L σ))))) 212 [(2, .int v30), (1, .int v27), (3, .int v16), (6, .int v13), (5, .int v10), (4, .int ((σ.2.2.1 0) (q).toNatClampNeg)), (0, .ref 1)] [.int v36, .ref 1] := by
                          intro v36 hv37
                          refine ex_putf (q := 7) (w1 := (WS (sI 5 v36 (sL 0 v33 (sI 2 q (sI 5 dg (sL 0 L σ))))))) (np := 215) C hc_X4 hin_X4 (by decide) tyX4_ok nmX4 tg_240 rfl (by decide +kernel) (WS_1 _) (Nat.le_of_ble_eq_true rfl) rfl rfl (WS_1_7 _ _) rfl ?_
                          refine ex_aload_n (q := 0) (x := 1) (np := 216) C (by decide +kernel) rfl rfl ?_
                          refine ex_dup (np := 217) C rfl (by decide +kernel) rfl ?_
                          refine ex_getf (q := 3) (v := .int q) (np := 220) C hc_X4 hin_X4 (by decide) tg_234 (by decide +kernel) (WS_1 _) rfl rfl ?_
                          refine ex_iconst (n := 1) (v := 1) (np := 221) C (by decide +kernel) (by decide) rfl ?_
                          refine ex_iadd (v := (q + (1 : Int32))) (np := 222) C (by decide +kernel) rfl rfl ?_
                          refine ex_putf (q := 3) (w1 := (WS (sI 2 (q + (1 : Int32)) (sI 5 v36 (sL 0 v33 (sI 2 q (sI 5 dg (sL 0 L σ)))))))) (np := 225) C hc_X4 hin_X4 (by decide) tyX4_ok nmX4 tg_234 rfl (by decide +kernel) (WS_1 _) (Nat.le_of_ble_eq_true rfl) rfl rfl (WS_1_3 _ _) rfl ?_
                          refine ex_goto (off := (-209)) (tgt := 16) C (by decide +kernel) (by decide) ?_
                          refine ex_drop (lv1 := [(3, .int v16), (2, .int v30), (1, .int v27), (0, .ref 1)]) [2, 0, 1, 6] rfl ?_
                          rw [ex_can]
                          have g1 : v16 = 1 := ex_one (by rw [hv17]; exact A_rr99_b _ _) h19
                          rw [g1]
                          exact ih _ _ _ _ _ (by rw [ex_inc h2]; omega) (by rw [ex_inc h2]; omega) (by rw [ex_inc h2]; omega) (hs.trans (A_rr_s.trans ((if_pos h2).trans ((ex_lt_eq hv11).trans ((ex_lt_eq hv14).trans ((ex_lt_eq hv17).trans ((if_neg h19).trans ((ex_lt_eq hv28).trans ((ex_lt_eq hv31).trans ((ex_lt_eq hv34).trans ((ex_lt_eq hv37).trans (rfl))))))))))))
                        refine ex_iload_n (q := 2) (x := v30) (np := 189) C (by decide +kernel) rfl rfl ?_
                        refine ex_if_eq (off := 19) (tgt := 208) (np := 192) C (by decide +kernel) (by decide) rfl (fun h39 => ?_) (fun h39 => ?_)
                        · skip
                          refine ex_aload_n (q := 0) (x := 1) (np := 209) C (by decide +kernel) rfl rfl ?_
                          refine ex_getf (q := 7) (v := .int dg) (np := 212) C hc_X4 hin_X4 (by decide) tg_240 (by decide +kernel) (WS_1 _) rfl rfl ?_
                          exact J38 _ (show A_rr212 v30 dg ((σ.2.2.1 0) (q).toNatClampNeg) = dg from by unfold A_rr212; exact (if_pos h39).trans (rfl)).symm
                        · skip
                          refine ex_aload_n (q := 0) (x := 1) (np := 193) C (by decide +kernel) rfl rfl ?_
                          refine ex_getf (q := 7) (v := .int dg) (np := 196) C hc_X4 hin_X4 (by decide) tg_240 (by decide +kernel) (WS_1 _) rfl rfl ?_
                          refine ex_bipush (n := 10) (v := 10) (np := 198) C (by decide +kernel) (by decide) rfl ?_
                          refine ex_imul (v := (dg * (10 : Int32))) (np := 199) C (by decide +kernel) rfl rfl ?_
                          refine ex_iload (i := 4) (x := ((σ.2.2.1 0) (q).toNatClampNeg)) (np := 201) C (by decide +kernel) rfl rfl ?_
                          refine ex_iadd (v := ((dg * (10 : Int32)) + ((σ.2.2.1 0) (q).toNatClampNeg))) (np := 202) C (by decide +kernel) rfl rfl ?_
                          refine ex_bipush (n := 48) (v := 48) (np := 204) C (by decide +kernel) (by decide) rfl ?_
                          refine ex_isub (v := (((dg * (10 : Int32)) + ((σ.2.2.1 0) (q).toNatClampNeg)) - (48 : Int32))) (np := 205) C (by decide +kernel) rfl rfl ?_
                          refine ex_goto (off := 7) (tgt := 212) C (by decide +kernel) (by decide) ?_
                          exact J38 _ (show A_rr212 v30 dg ((σ.2.2.1 0) (q).toNatClampNeg) = (((dg * (10 : Int32)) + ((σ.2.2.1 0) (q).toNatClampNeg)) - (48 : Int32)) from by unfold A_rr212; exact (if_neg h39).trans (rfl)).symm
                      refine ex_iload_n (q := 1) (x := v27) (np := 163) C (by decide +kernel) rfl rfl ?_
                      refine ex_if_eq (off := 17) (tgt := 180) (np := 166) C (by decide +kernel) (by decide) rfl (fun h40 => ?_) (fun h40 => ?_)
                      · skip
                        refine ex_aload_n (q := 0) (x := 1) (np := 181) C (by decide +kernel) rfl rfl ?_
                        refine ex_getf (q := 6) (v := .long L) (np := 184) C hc_X4 hin_X4 (by decide) tg_239 (by decide +kernel) (WS_1 _) rfl rfl ?_
                        exact J35 _ (show A_rr184 v27 L ((σ.2.2.1 0) (q).toNatClampNeg) = L from by unfold A_rr184; exact (if_pos h40).trans (rfl)).symm
                      · skip
                        refine ex_aload_n (q := 0) (x := 1) (np := 167) C (by decide +kernel) rfl rfl ?_
                        refine ex_getf (q := 6) (v := .long L) (np := 170) C hc_X4 hin_X4 (by decide) tg_239 (by decide +kernel) (WS_1 _) rfl rfl ?_
                        refine ex_bipush (n := 8) (v := 8) (np := 172) C (by decide +kernel) (by decide) rfl ?_
                        refine ex_lshl (np := 173) C (by decide +kernel) rfl ?_
                        refine ex_iload (i := 4) (x := ((σ.2.2.1 0) (q).toNatClampNeg)) (np := 175) C (by decide +kernel) rfl rfl ?_
                        refine ex_i2l (np := 176) C (by decide +kernel) rfl ?_
                        refine ex_lor (np := 177) C (by decide +kernel) rfl ?_
                        refine ex_goto (off := 7) (tgt := 184) C (by decide +kernel) (by decide) ?_
                        exact J35 _ (show A_rr184 v27 L ((σ.2.2.1 0) (q).toNatClampNeg) = ((L <<< (((8 : Int32)).toInt64 &&& 63)) ||| ((σ.2.2.1 0) (q).toNatClampNeg).toInt64) from by unfold A_rr184; exact (if_neg h40).trans (rfl)).symm
                    refine ex_iload_n (q := 2) (x := nu) (np := 134) C (by decide +kernel) rfl rfl ?_
                    refine ex_if_eq (off := 25) (tgt := 159) (np := 137) C (by decide +kernel) (by decide) rfl (fun h41 => ?_) (fun h41 => ?_)
                    · skip
                      refine ex_iconst (n := 0) (v := 0) (np := 160) C (by decide +kernel) (by decide) rfl ?_
                      exact J32 _ (show A_rr160 nu v13 q (σ.1 3) = (0 : Int32) from by unfold A_rr160; exact (if_pos h41).trans (rfl)).symm
                    · skip
                      refine ex_iload (i := 6) (x := v13) (np := 139) C (by decide +kernel) rfl rfl ?_
                      refine ex_if_eq (off := 20) (tgt := 159) (np := 142) C (by decide +kernel) (by decide) rfl (fun h42 => ?_) (fun h42 => ?_)
                      · skip
                        refine ex_iconst (n := 0) (v := 0) (np := 160) C (by decide +kernel) (by decide) rfl ?_
                        exact J32 _ (show A_rr160 nu v13 q (σ.1 3) = (0 : Int32) from by unfold A_rr160; exact (if_neg h41).trans ((if_pos h42).trans (rfl))).symm
                      · skip
                        refine ex_aload_n (q := 0) (x := 1) (np := 143) C (by decide +kernel) rfl rfl ?_
                        refine ex_getf (q := 3) (v := .int q) (np := 146) C hc_X4 hin_X4 (by decide) tg_234 (by decide +kernel) (WS_1 _) rfl rfl ?_
                        refine ex_aload_n (q := 0) (x := 1) (np := 147) C (by decide +kernel) rfl rfl ?_
                        refine ex_getf (q := 4) (v := .int (σ.1 3)) (np := 150) C hc_X4 hin_X4 (by decide) tg_235 (by decide +kernel) (WS_1 _) rfl rfl ?_
                        refine ex_isub (v := (q - (σ.1 3))) (np := 151) C (by decide +kernel) rfl rfl ?_
                        refine ex_iconst (n := 3) (v := 3) (np := 152) C (by decide +kernel) (by decide) rfl ?_
                        refine ex_icmp_ge (off := 7) (tgt := 159) (np := 155) C (by decide +kernel) (by decide) rfl (fun h43 => ?_) (fun h43 => ?_)
                        · skip
                          refine ex_iconst (n := 0) (v := 0) (np := 160) C (by decide +kernel) (by decide) rfl ?_
                          exact J32 _ (show A_rr160 nu v13 q (σ.1 3) = (0 : Int32) from by unfold A_rr160; exact (if_neg h41).trans ((if_neg h42).trans ((if_neg h43).trans (rfl)))).symm
                        · skip
                          refine ex_iconst (n := 1) (v := 1) (np := 156) C (by decide +kernel) (by decide) rfl ?_
                          refine ex_goto (off := 4) (tgt := 160) C (by decide +kernel) (by decide) ?_
                          exact J32 _ (show A_rr160 nu v13 q (σ.1 3) = (1 : Int32) from by unfold A_rr160; exact (if_neg h41).trans ((if_neg h42).trans ((if_pos h43).trans (rfl)))).symm
                  refine ex_iload_n (q := 1) (x := iw) (np := 105) C (by decide +kernel) rfl rfl ?_
                  refine ex_if_eq (off := 26) (tgt := 131) (np := 108) C (by decide +kernel) (by decide) rfl (fun h44 => ?_) (fun h44 => ?_)
                  · skip
                    refine ex_iconst (n := 0) (v := 0) (np := 132) C (by decide +kernel) (by decide) rfl ?_
                    exact J29 _ (show A_rr132 iw v10 q (σ.1 3) = (0 : Int32) from by unfold A_rr132; exact (if_pos h44).trans (rfl)).symm
                  · skip
                    refine ex_iload (i := 5) (x := v10) (np := 110) C (by decide +kernel) rfl rfl ?_
                    refine ex_if_eq (off := 21) (tgt := 131) (np := 113) C (by decide +kernel) (by decide) rfl (fun h45 => ?_) (fun h45 => ?_)
                    · skip
                      refine ex_iconst (n := 0) (v := 0) (np := 132) C (by decide +kernel) (by decide) rfl ?_
                      exact J29 _ (show A_rr132 iw v10 q (σ.1 3) = (0 : Int32) from by unfold A_rr132; exact (if_neg h44).trans ((if_pos h45).trans (rfl))).symm
                    · skip
                      refine ex_aload_n (q := 0) (x := 1) (np := 114) C (by decide +kernel) rfl rfl ?_
                      refine ex_getf (q := 3) (v := .int q) (np := 117) C hc_X4 hin_X4 (by decide) tg_234 (by decide +kernel) (WS_1 _) rfl rfl ?_
                      refine ex_aload_n (q := 0) (x := 1) (np := 118) C (by decide +kernel) rfl rfl ?_
                      refine ex_getf (q := 4) (v := .int (σ.1 3)) (np := 121) C hc_X4 hin_X4 (by decide) tg_235 (by decide +kernel) (WS_1 _) rfl rfl ?_
                      refine ex_isub (v := (q - (σ.1 3))) (np := 122) C (by decide +kernel) rfl rfl ?_
                      refine ex_bipush (n := 7) (v := 7) (np := 124) C (by decide +kernel) (by decide) rfl ?_
                      refine ex_icmp_ge (off := 7) (tgt := 131) (np := 127) C (by decide +kernel) (by decide) rfl (fun h46 => ?_) (fun h46 => ?_)
                      · skip
                        refine ex_iconst (n := 0) (v := 0) (np := 132) C (by decide +kernel) (by decide) rfl ?_
                        exact J29 _ (show A_rr132 iw v10 q (σ.1 3) = (0 : Int32) from by unfold A_rr132; exact (if_neg h44).trans ((if_neg h45).trans ((if_neg h46).trans (rfl)))).symm
                      · skip
                        refine ex_iconst (n := 1) (v := 1) (np := 128) C (by decide +kernel) (by decide) rfl ?_
                        refine ex_goto (off := 4) (tgt := 132) C (by decide +kernel) (by decide) ?_
                        exact J29 _ (show A_rr132 iw v10 q (σ.1 3) = (1 : Int32) from by unfold A_rr132; exact (if_neg h44).trans ((if_neg h45).trans ((if_pos h46).trans (rfl)))).symm
              refine ex_iload (i := 5) (x := v10) (np := 86) C (by decide +kernel) rfl rfl ?_
              refine ex_if_ne (off := 8) (tgt := 94) (np := 89) C (by decide +kernel) (by decide) rfl (fun h47 => ?_) (fun h47 => ?_)
              · skip
                refine ex_iconst (n := 1) (v := 1) (np := 95) C (by decide +kernel) (by decide) rfl ?_
                refine ex_goto (off := 4) (tgt := 99) C (by decide +kernel) (by decide) ?_
                exact J18 _ (show A_rr99 v10 v13 = (1 : Int32) from by unfold A_rr99; exact (if_neg h47).trans (rfl)).symm
              · skip
                refine ex_iload (i := 6) (x := v13) (np := 91) C (by decide +kernel) rfl rfl ?_
                refine ex_if_eq (off := 7) (tgt := 98) (np := 94) C (by decide +kernel) (by decide) rfl (fun h48 => ?_) (fun h48 => ?_)
                · skip
                  refine ex_iconst (n := 0) (v := 0) (np := 99) C (by decide +kernel) (by decide) rfl ?_
                  exact J18 _ (show A_rr99 v10 v13 = (0 : Int32) from by unfold A_rr99; exact (if_pos h47).trans ((if_pos h48).trans (rfl))).symm
                · skip
                  refine ex_iconst (n := 1) (v := 1) (np := 95) C (by decide +kernel) (by decide) rfl ?_
                  refine ex_goto (off := 4) (tgt := 99) C (by decide +kernel) (by decide) ?_
                  exact J18 _ (show A_rr99 v10 v13 = (1 : Int32) from by unfold A_rr99; exact (if_pos h47).trans ((if_neg h48).trans (rfl))).symm
            refine ex_iload (i := 4) (x := ((σ.2.2.1 0) (q).toNatClampNeg)) (np := 65) C (by decide +kernel) rfl rfl ?_
            refine ex_bipush (n := 48) (v := 48) (np := 67) C (by decide +kernel) (by decide) rfl ?_
            refine ex_icmp_lt (off := 14) (tgt := 81) (np := 70) C (by decide +kernel) (by decide) rfl (fun h49 => ?_) (fun h49 => ?_)
            · skip
              refine ex_iconst (n := 0) (v := 0) (np := 82) C (by decide +kernel) (by decide) rfl ?_
              exact J15 _ (show A_rr82 ((σ.2.2.1 0) (q).toNatClampNeg) = (0 : Int32) from by unfold A_rr82; exact (if_pos h49).trans (rfl)).symm
            · skip
              refine ex_iload (i := 4) (x := ((σ.2.2.1 0) (q).toNatClampNeg)) (np := 72) C (by decide +kernel) rfl rfl ?_
              refine ex_bipush (n := 57) (v := 57) (np := 74) C (by decide +kernel) (by decide) rfl ?_
              refine ex_icmp_gt (off := 7) (tgt := 81) (np := 77) C (by decide +kernel) (by decide) rfl (fun h50 => ?_) (fun h50 => ?_)
              · skip
                refine ex_iconst (n := 0) (v := 0) (np := 82) C (by decide +kernel) (by decide) rfl ?_
                exact J15 _ (show A_rr82 ((σ.2.2.1 0) (q).toNatClampNeg) = (0 : Int32) from by unfold A_rr82; exact (if_neg h49).trans ((if_pos h50).trans (rfl))).symm
              · skip
                refine ex_iconst (n := 1) (v := 1) (np := 78) C (by decide +kernel) (by decide) rfl ?_
                refine ex_goto (off := 4) (tgt := 82) C (by decide +kernel) (by decide) ?_
                exact J15 _ (show A_rr82 ((σ.2.2.1 0) (q).toNatClampNeg) = (1 : Int32) from by unfold A_rr82; exact (if_neg h49).trans ((if_neg h50).trans (rfl))).symm
          refine ex_iload (i := 4) (x := ((σ.2.2.1 0) (q).toNatClampNeg)) (np := 44) C (by decide +kernel) rfl rfl ?_
          refine ex_bipush (n := 97) (v := 97) (np := 46) C (by decide +kernel) (by decide) rfl ?_
          refine ex_icmp_lt (off := 14) (tgt := 60) (np := 49) C (by decide +kernel) (by decide) rfl (fun h51 => ?_) (fun h51 => ?_)
          · skip
            refine ex_iconst (n := 0) (v := 0) (np := 61) C (by decide +kernel) (by decide) rfl ?_
            exact J12 _ (show A_rr61 ((σ.2.2.1 0) (q).toNatClampNeg) = (0 : Int32) from by unfold A_rr61; exact (if_pos h51).trans (rfl)).symm
          · skip
            refine ex_iload (i := 4) (x := ((σ.2.2.1 0) (q).toNatClampNeg)) (np := 51) C (by decide +kernel) rfl rfl ?_
            refine ex_bipush (n := 122) (v := 122) (np := 53) C (by decide +kernel) (by decide) rfl ?_
            refine ex_icmp_gt (off := 7) (tgt := 60) (np := 56) C (by decide +kernel) (by decide) rfl (fun h52 => ?_) (fun h52 => ?_)
            · skip
              refine ex_iconst (n := 0) (v := 0) (np := 61) C (by decide +kernel) (by decide) rfl ?_
              exact J12 _ (show A_rr61 ((σ.2.2.1 0) (q).toNatClampNeg) = (0 : Int32) from by unfold A_rr61; exact (if_neg h51).trans ((if_pos h52).trans (rfl))).symm
            · skip
              refine ex_iconst (n := 1) (v := 1) (np := 57) C (by decide +kernel) (by decide) rfl ?_
              refine ex_goto (off := 4) (tgt := 61) C (by decide +kernel) (by decide) ?_
              exact J12 _ (show A_rr61 ((σ.2.2.1 0) (q).toNatClampNeg) = (1 : Int32) from by unfold A_rr61; exact (if_neg h51).trans ((if_neg h52).trans (rfl))).symm
  have h9 := loop 941 (σ.1 2) 1 1 0 0 (by omega) (by omega) (by omega) rfl
  rw [ex_id (k := 2) (σ := sI 5 0 (sL 0 0 σ)) (v := σ.1 2) rfl] at h9
  exact h9
set_option maxRecDepth 100000 in
set_option maxHeartbeats 4000000 in
theorem m_X4_next_S {l : Launch} {X : ab_X} {D : va_G} {A : ex_A} (d : Nat) (hd : 2 ≤ d) (σ : ex_S) (hI : A_INV σ) : ex_ctr l X D A d yX4_next cX4_next 1 none (WS σ) [.ref 1] (fun _ w => w = WS (A_next σ)) := by
  obtain ⟨d, rfl⟩ : ∃ d9, d = d9 + 1 := ⟨d - 1, by omega⟩
  refine ex_meth (own := RX4) rfl (by decide) (Nat.le_of_ble_eq_true rfl) (fun p e R s m below meth c C hr hlk hd1 hd2 => ?_)
  show ex_ok p l e R s m _ below meth c 0 0 _ 1 X D A (WS σ) 0 [(0, .ref 1)] []
  have rest : ∀ τ : ex_S, A_INV τ → A_next σ = A_nxt τ → ex_okP p l e R s m below meth c 1 X D A [.ref 1] (fun _ w => w = WS (A_next σ)) none (WS τ) 52 [(0, .ref 1)] [] := by
    intro τ hI h9
    have hI9 := hI; unfold A_INV at hI9
    refine ex_aload_n (q := 0) (x := 1) (np := 53) C (by decide +kernel) rfl rfl ?_
    refine ex_aload_n (q := 0) (x := 1) (np := 54) C (by decide +kernel) rfl rfl ?_
    refine ex_getf (q := 3) (v := .int (τ.1 2)) (np := 57) C hc_X4 hin_X4 (by decide) tg_234 (by decide +kernel) (WS_1 _) rfl rfl ?_
    refine ex_putf (q := 4) (w1 := (WS (sI 3 (τ.1 2) τ))) (np := 60) C hc_X4 hin_X4 (by decide) tyX4_ok nmX4 tg_235 rfl (by decide +kernel) (WS_1 _) (Nat.le_of_ble_eq_true rfl) rfl rfl (WS_1_4 _ _) rfl ?_
    refine ex_aload_n (q := 0) (x := 1) (np := 61) C (by decide +kernel) rfl rfl ?_
    refine ex_iconst (n := 0) (v := 0) (np := 62) C (by decide +kernel) (by decide) rfl ?_
    refine ex_putf (q := 5) (w1 := (WS (sI 4 (0 : Int32) (sI 3 (τ.1 2) τ)))) (np := 65) C hc_X4 hin_X4 (by decide) tyX4_ok nmX4 tg_236 rfl (by decide +kernel) (WS_1 _) (Nat.le_of_ble_eq_true rfl) rfl rfl (WS_1_5 _ _) rfl ?_
    refine ex_aload_n (q := 0) (x := 1) (np := 66) C (by decide +kernel) rfl rfl ?_
    refine ex_iconst (n := (-1)) (v := (-1)) (np := 67) C (by decide +kernel) (by decide) rfl ?_
    refine ex_putf (q := 8) (w1 := (WS (sI 6 (-1 : Int32) (sI 4 (0 : Int32) (sI 3 (τ.1 2) τ))))) (np := 70) C hc_X4 hin_X4 (by decide) tyX4_ok nmX4 tg_241 rfl (by decide +kernel) (WS_1 _) (Nat.le_of_ble_eq_true rfl) rfl rfl (WS_1_8 _ _) rfl ?_
    refine ex_aload_n (q := 0) (x := 1) (np := 71) C (by decide +kernel) rfl rfl ?_
    refine ex_getf (q := 1) (v := .int (τ.1 0)) (np := 74) C hc_X4 hin_X4 (by decide) tg_231 (by decide +kernel) (WS_1 _) rfl rfl ?_
    refine ex_aload_n (q := 0) (x := 1) (np := 75) C (by decide +kernel) rfl rfl ?_
    refine ex_getf (q := 2) (v := .int (τ.1 1)) (np := 78) C hc_X4 hin_X4 (by decide) tg_233 (by decide +kernel) (WS_1 _) rfl rfl ?_
    refine ex_icmp_le (off := 25) (tgt := 103) (np := 81) C (by decide +kernel) (by decide) rfl (fun h1 => ?_) (fun h1 => ?_)
    · skip
      refine ex_aload_n (q := 0) (x := 1) (np := 104) C (by decide +kernel) rfl rfl ?_
      refine ex_getf (q := 4) (v := .int (τ.1 2)) (np := 107) C hc_X4 hin_X4 (by decide) tg_235 (by decide +kernel) (WS_1 _) rfl rfl ?_
      refine ex_aload_n (q := 0) (x := 1) (np := 108) C (by decide +kernel) rfl rfl ?_
      refine ex_getf (q := 1) (v := .int (τ.1 0)) (np := 111) C hc_X4 hin_X4 (by decide) tg_231 (by decide +kernel) (WS_1 _) rfl rfl ?_
      refine ex_icmp_lt (off := 11) (tgt := 122) (np := 114) C (by decide +kernel) (by decide) rfl (fun h2 => ?_) (fun h2 => ?_)
      · skip
        refine ex_aload_n (q := 0) (x := 1) (np := 123) C (by decide +kernel) rfl rfl ?_
        refine ex_getf (q := 0) (v := .ref 2) (np := 126) C hc_X4 hin_X4 (by decide) tg_229 (by decide +kernel) (WS_1 _) rfl rfl ?_
        refine ex_aload_n (q := 0) (x := 1) (np := 127) C (by decide +kernel) rfl rfl ?_
        refine ex_getf (q := 4) (v := .int (τ.1 2)) (np := 130) C hc_X4 hin_X4 (by decide) tg_235 (by decide +kernel) (WS_1 _) rfl rfl ?_
        refine ex_iald (f := (τ.2.2.1 0)) (kk := ((τ.1 2)).toNatClampNeg) (np := 131) C (by decide +kernel) (WS_2 _) (by have h8 := h2; exact ⟨hI9.2.1.1, by omega⟩) rfl rfl ?_
        refine ex_call_i (np := 134) (fun ws H locs ls hR hsz => ex_runS C (m_X4_isSign d (by omega) (WS (sI 6 (-1 : Int32) (sI 4 (0 : Int32) (sI 3 (τ.1 2) τ)))) ((τ.2.2.1 0) ((τ.1 2)).toNatClampNeg)) hd1 hd2 (by decide) hy_X4_isSign tg_670 rfl rfl (Nat.le_of_ble_eq_true rfl) tg_668 tg_669 tg_144 (by decide +kernel) ws H locs ls hR hsz (Nat.zero_le _) (Nat.zero_le _)) rfl (fun r3 w1 hpo => ?_)
        obtain ⟨q4, rfl⟩ := hpo
        refine ex_if_eq (off := 29) (tgt := 163) (np := 137) C (by decide +kernel) (by decide) rfl (fun h5 => ?_) (fun h5 => ?_)
        · skip
          refine ex_aload_n (q := 0) (x := 1) (np := 164) C (by decide +kernel) rfl rfl ?_
          obtain ⟨σ6, q7⟩ : ∃ x, x = A_readRun (sI 6 (-1 : Int32) (sI 4 (0 : Int32) (sI 3 (τ.1 2) τ))) := ⟨_, rfl⟩
          refine ex_call_v (np := 167) (fun ws H locs ls hR hsz => ex_runV (C1 := "") C (m_X4_readRun_S d (by omega) (sI 6 (-1 : Int32) (sI 4 (0 : Int32) (sI 3 (τ.1 2) τ))) hI) hd1 hd2 (by decide) hy_X4_readRun tg_674 hc_X4 rfl (WS_1 _) rfl rfl (Nat.le_of_ble_eq_true rfl) rfl tg_671 tg_673 tg_5 tg_144 (by decide +kernel) ws H locs ls hR hsz (Nat.zero_le _) (Nat.zero_le _)) rfl (fun w1 hpo => ?_)
          rw [← q7] at hpo
          subst hpo
          have hI8 := inv_X4_readRun (sI 6 (-1 : Int32) (sI 4 (0 : Int32) (sI 3 (τ.1 2) τ))) hI; rw [← q7] at hI8
          refine ex_aload_n (q := 0) (x := 1) (np := 168) C (by decide +kernel) rfl rfl ?_
          refine ex_aload_n (q := 0) (x := 1) (np := 169) C (by decide +kernel) rfl rfl ?_
          refine ex_getf (q := 5) (v := .int (σ6.1 4)) (np := 172) C hc_X4 hin_X4 (by decide) tg_236 (by decide +kernel) (WS_1 _) rfl rfl ?_
          refine ex_iconst (n := 2) (v := 2) (np := 173) C (by decide +kernel) (by decide) rfl ?_
          refine ex_icmp_ne (off := 10) (tgt := 183) (np := 176) C (by decide +kernel) (by decide) rfl (fun h10 => ?_) (fun h10 => ?_)
          · skip
            refine ex_iconst (n := (-1)) (v := (-1)) (np := 184) C (by decide +kernel) (by decide) rfl ?_
            refine ex_putf (q := 8) (w1 := (WS (sI 6 (-1 : Int32) σ6))) (np := 187) C hc_X4 hin_X4 (by decide) tyX4_ok nmX4 tg_241 rfl (by decide +kernel) (WS_1 _) (Nat.le_of_ble_eq_true rfl) rfl rfl (WS_1_8 _ _) rfl ?_
            refine ex_vret C hr hlk (by decide +kernel) (Nat.le_refl _) (Nat.le_refl _) ?_
            have E9 : A_next σ = (sI 6 (-1 : Int32) σ6) := (h9.trans (by unfold A_nxt; exact (if_neg h1).trans ((if_pos h2).trans ((ex_lt_eq q4).trans ((if_pos h5).trans ((ex_lt_eq q7).trans ((if_neg h10).trans (rfl))))))))
            rw [E9]
          · skip
            refine ex_aload_n (q := 0) (x := 1) (np := 177) C (by decide +kernel) rfl rfl ?_
            refine ex_call_i (np := 180) (fun ws H locs ls hR hsz => ex_runV (C1 := "") C (m_X4_toldWord_S d (by omega) σ6) hd1 hd2 (by decide) hy_X4_toldWord tg_678 hc_X4 rfl (WS_1 _) rfl rfl (Nat.le_of_ble_eq_true rfl) rfl tg_675 tg_677 tg_6 tg_144 (by decide +kernel) ws H locs ls hR hsz (Nat.zero_le _) (Nat.zero_le _)) rfl (fun r11 w1 hpo => ?_)
            obtain ⟨q12, rfl⟩ := hpo
            refine ex_goto (off := 4) (tgt := 184) C (by decide +kernel) (by decide) ?_
            refine ex_putf (q := 8) (w1 := (WS (sI 6 r11 σ6))) (np := 187) C hc_X4 hin_X4 (by decide) tyX4_ok nmX4 tg_241 rfl (by decide +kernel) (WS_1 _) (Nat.le_of_ble_eq_true rfl) rfl rfl (WS_1_8 _ _) rfl ?_
            refine ex_vret C hr hlk (by decide +kernel) (Nat.le_refl _) (Nat.le_refl _) ?_
            have E9 : A_next σ = (sI 6 r11 σ6) := (h9.trans (by unfold A_nxt; exact (if_neg h1).trans ((if_pos h2).trans ((ex_lt_eq q4).trans ((if_pos h5).trans ((ex_lt_eq q7).trans ((if_pos h10).trans ((ex_lt_eq q12).trans (rfl)))))))))
            rw [E9]
        · skip
          refine ex_aload_n (q := 0) (x := 1) (np := 138) C (by decide +kernel) rfl rfl ?_
          refine ex_aload_n (q := 0) (x := 1) (np := 139) C (by decide +kernel) rfl rfl ?_
          refine ex_getf (q := 0) (v := .ref 2) (np := 142) C hc_X4 hin_X4 (by decide) tg_229 (by decide +kernel) (WS_1 _) rfl rfl ?_
          refine ex_aload_n (q := 0) (x := 1) (np := 143) C (by decide +kernel) rfl rfl ?_
          refine ex_getf (q := 4) (v := .int (τ.1 2)) (np := 146) C hc_X4 hin_X4 (by decide) tg_235 (by decide +kernel) (WS_1 _) rfl rfl ?_
          refine ex_iald (f := (τ.2.2.1 0)) (kk := ((τ.1 2)).toNatClampNeg) (np := 147) C (by decide +kernel) (WS_2 _) (by have h8 := h2; exact ⟨hI9.2.1.1, by omega⟩) rfl rfl ?_
          refine ex_putf (q := 5) (w1 := (WS (sI 4 ((τ.2.2.1 0) ((τ.1 2)).toNatClampNeg) (sI 6 (-1 : Int32) (sI 4 (0 : Int32) (sI 3 (τ.1 2) τ)))))) (np := 150) C hc_X4 hin_X4 (by decide) tyX4_ok nmX4 tg_236 rfl (by decide +kernel) (WS_1 _) (Nat.le_of_ble_eq_true rfl) rfl rfl (WS_1_5 _ _) rfl ?_
          refine ex_aload_n (q := 0) (x := 1) (np := 151) C (by decide +kernel) rfl rfl ?_
          refine ex_dup (np := 152) C rfl (by decide +kernel) rfl ?_
          refine ex_getf (q := 3) (v := .int (τ.1 2)) (np := 155) C hc_X4 hin_X4 (by decide) tg_234 (by decide +kernel) (WS_1 _) rfl rfl ?_
          refine ex_iconst (n := 1) (v := 1) (np := 156) C (by decide +kernel) (by decide) rfl ?_
          refine ex_iadd (v := ((τ.1 2) + (1 : Int32))) (np := 157) C (by decide +kernel) rfl rfl ?_
          refine ex_putf (q := 3) (w1 := (WS (sI 2 ((τ.1 2) + (1 : Int32)) (sI 4 ((τ.2.2.1 0) ((τ.1 2)).toNatClampNeg) (sI 6 (-1 : Int32) (sI 4 (0 : Int32) (sI 3 (τ.1 2) τ))))))) (np := 160) C hc_X4 hin_X4 (by decide) tyX4_ok nmX4 tg_234 rfl (by decide +kernel) (WS_1 _) (Nat.le_of_ble_eq_true rfl) rfl rfl (WS_1_3 _ _) rfl ?_
          refine ex_goto (off := 27) (tgt := 187) C (by decide +kernel) (by decide) ?_
          refine ex_vret C hr hlk (by decide +kernel) (Nat.le_refl _) (Nat.le_refl _) ?_
          have E9 : A_next σ = (sI 2 ((τ.1 2) + (1 : Int32)) (sI 4 ((τ.2.2.1 0) ((τ.1 2)).toNatClampNeg) (sI 6 (-1 : Int32) (sI 4 (0 : Int32) (sI 3 (τ.1 2) τ))))) := (h9.trans (by unfold A_nxt; exact (if_neg h1).trans ((if_pos h2).trans ((ex_lt_eq q4).trans ((if_neg h5).trans (rfl))))))
          rw [E9]
      · skip
        refine ex_aload_n (q := 0) (x := 1) (np := 115) C (by decide +kernel) rfl rfl ?_
        refine ex_iconst (n := 1) (v := 1) (np := 116) C (by decide +kernel) (by decide) rfl ?_
        refine ex_putf (q := 5) (w1 := (WS (sI 4 (1 : Int32) (sI 6 (-1 : Int32) (sI 4 (0 : Int32) (sI 3 (τ.1 2) τ)))))) (np := 119) C hc_X4 hin_X4 (by decide) tyX4_ok nmX4 tg_236 rfl (by decide +kernel) (WS_1 _) (Nat.le_of_ble_eq_true rfl) rfl rfl (WS_1_5 _ _) rfl ?_
        refine ex_goto (off := 68) (tgt := 187) C (by decide +kernel) (by decide) ?_
        refine ex_vret C hr hlk (by decide +kernel) (Nat.le_refl _) (Nat.le_refl _) ?_
        have E9 : A_next σ = (sI 4 (1 : Int32) (sI 6 (-1 : Int32) (sI 4 (0 : Int32) (sI 3 (τ.1 2) τ)))) := (h9.trans (by unfold A_nxt; exact (if_neg h1).trans ((if_neg h2).trans (rfl))))
        rw [E9]
    · skip
      refine ex_aload_n (q := 0) (x := 1) (np := 82) C (by decide +kernel) rfl rfl ?_
      refine ex_getf (q := 4) (v := .int (τ.1 2)) (np := 85) C hc_X4 hin_X4 (by decide) tg_235 (by decide +kernel) (WS_1 _) rfl rfl ?_
      refine ex_aload_n (q := 0) (x := 1) (np := 86) C (by decide +kernel) rfl rfl ?_
      refine ex_getf (q := 2) (v := .int (τ.1 1)) (np := 89) C hc_X4 hin_X4 (by decide) tg_233 (by decide +kernel) (WS_1 _) rfl rfl ?_
      refine ex_icmp_lt (off := 14) (tgt := 103) (np := 92) C (by decide +kernel) (by decide) rfl (fun h13 => ?_) (fun h13 => ?_)
      · skip
        refine ex_aload_n (q := 0) (x := 1) (np := 104) C (by decide +kernel) rfl rfl ?_
        refine ex_getf (q := 4) (v := .int (τ.1 2)) (np := 107) C hc_X4 hin_X4 (by decide) tg_235 (by decide +kernel) (WS_1 _) rfl rfl ?_
        refine ex_aload_n (q := 0) (x := 1) (np := 108) C (by decide +kernel) rfl rfl ?_
        refine ex_getf (q := 1) (v := .int (τ.1 0)) (np := 111) C hc_X4 hin_X4 (by decide) tg_231 (by decide +kernel) (WS_1 _) rfl rfl ?_
        refine ex_icmp_lt (off := 11) (tgt := 122) (np := 114) C (by decide +kernel) (by decide) rfl (fun h14 => ?_) (fun h14 => ?_)
        · skip
          refine ex_aload_n (q := 0) (x := 1) (np := 123) C (by decide +kernel) rfl rfl ?_
          refine ex_getf (q := 0) (v := .ref 2) (np := 126) C hc_X4 hin_X4 (by decide) tg_229 (by decide +kernel) (WS_1 _) rfl rfl ?_
          refine ex_aload_n (q := 0) (x := 1) (np := 127) C (by decide +kernel) rfl rfl ?_
          refine ex_getf (q := 4) (v := .int (τ.1 2)) (np := 130) C hc_X4 hin_X4 (by decide) tg_235 (by decide +kernel) (WS_1 _) rfl rfl ?_
          refine ex_iald (f := (τ.2.2.1 0)) (kk := ((τ.1 2)).toNatClampNeg) (np := 131) C (by decide +kernel) (WS_2 _) (by have h8 := h14; exact ⟨hI9.2.1.1, by omega⟩) rfl rfl ?_
          refine ex_call_i (np := 134) (fun ws H locs ls hR hsz => ex_runS C (m_X4_isSign d (by omega) (WS (sI 6 (-1 : Int32) (sI 4 (0 : Int32) (sI 3 (τ.1 2) τ)))) ((τ.2.2.1 0) ((τ.1 2)).toNatClampNeg)) hd1 hd2 (by decide) hy_X4_isSign tg_670 rfl rfl (Nat.le_of_ble_eq_true rfl) tg_668 tg_669 tg_144 (by decide +kernel) ws H locs ls hR hsz (Nat.zero_le _) (Nat.zero_le _)) rfl (fun r15 w1 hpo => ?_)
          obtain ⟨q16, rfl⟩ := hpo
          refine ex_if_eq (off := 29) (tgt := 163) (np := 137) C (by decide +kernel) (by decide) rfl (fun h17 => ?_) (fun h17 => ?_)
          · skip
            refine ex_aload_n (q := 0) (x := 1) (np := 164) C (by decide +kernel) rfl rfl ?_
            obtain ⟨σ18, q19⟩ : ∃ x, x = A_readRun (sI 6 (-1 : Int32) (sI 4 (0 : Int32) (sI 3 (τ.1 2) τ))) := ⟨_, rfl⟩
            refine ex_call_v (np := 167) (fun ws H locs ls hR hsz => ex_runV (C1 := "") C (m_X4_readRun_S d (by omega) (sI 6 (-1 : Int32) (sI 4 (0 : Int32) (sI 3 (τ.1 2) τ))) hI) hd1 hd2 (by decide) hy_X4_readRun tg_674 hc_X4 rfl (WS_1 _) rfl rfl (Nat.le_of_ble_eq_true rfl) rfl tg_671 tg_673 tg_5 tg_144 (by decide +kernel) ws H locs ls hR hsz (Nat.zero_le _) (Nat.zero_le _)) rfl (fun w1 hpo => ?_)
            rw [← q19] at hpo
            subst hpo
            have hI20 := inv_X4_readRun (sI 6 (-1 : Int32) (sI 4 (0 : Int32) (sI 3 (τ.1 2) τ))) hI; rw [← q19] at hI20
            refine ex_aload_n (q := 0) (x := 1) (np := 168) C (by decide +kernel) rfl rfl ?_
            refine ex_aload_n (q := 0) (x := 1) (np := 169) C (by decide +kernel) rfl rfl ?_
            refine ex_getf (q := 5) (v := .int (σ18.1 4)) (np := 172) C hc_X4 hin_X4 (by decide) tg_236 (by decide +kernel) (WS_1 _) rfl rfl ?_
            refine ex_iconst (n := 2) (v := 2) (np := 173) C (by decide +kernel) (by decide) rfl ?_
            refine ex_icmp_ne (off := 10) (tgt := 183) (np := 176) C (by decide +kernel) (by decide) rfl (fun h21 => ?_) (fun h21 => ?_)
            · skip
              refine ex_iconst (n := (-1)) (v := (-1)) (np := 184) C (by decide +kernel) (by decide) rfl ?_
              refine ex_putf (q := 8) (w1 := (WS (sI 6 (-1 : Int32) σ18))) (np := 187) C hc_X4 hin_X4 (by decide) tyX4_ok nmX4 tg_241 rfl (by decide +kernel) (WS_1 _) (Nat.le_of_ble_eq_true rfl) rfl rfl (WS_1_8 _ _) rfl ?_
              refine ex_vret C hr hlk (by decide +kernel) (Nat.le_refl _) (Nat.le_refl _) ?_
              have E9 : A_next σ = (sI 6 (-1 : Int32) σ18) := (h9.trans (by unfold A_nxt; exact (if_pos h1).trans ((if_pos h13).trans ((if_pos h14).trans ((ex_lt_eq q16).trans ((if_pos h17).trans ((ex_lt_eq q19).trans ((if_neg h21).trans (rfl)))))))))
              rw [E9]
            · skip
              refine ex_aload_n (q := 0) (x := 1) (np := 177) C (by decide +kernel) rfl rfl ?_
              refine ex_call_i (np := 180) (fun ws H locs ls hR hsz => ex_runV (C1 := "") C (m_X4_toldWord_S d (by omega) σ18) hd1 hd2 (by decide) hy_X4_toldWord tg_678 hc_X4 rfl (WS_1 _) rfl rfl (Nat.le_of_ble_eq_true rfl) rfl tg_675 tg_677 tg_6 tg_144 (by decide +kernel) ws H locs ls hR hsz (Nat.zero_le _) (Nat.zero_le _)) rfl (fun r22 w1 hpo => ?_)
              obtain ⟨q23, rfl⟩ := hpo
              refine ex_goto (off := 4) (tgt := 184) C (by decide +kernel) (by decide) ?_
              refine ex_putf (q := 8) (w1 := (WS (sI 6 r22 σ18))) (np := 187) C hc_X4 hin_X4 (by decide) tyX4_ok nmX4 tg_241 rfl (by decide +kernel) (WS_1 _) (Nat.le_of_ble_eq_true rfl) rfl rfl (WS_1_8 _ _) rfl ?_
              refine ex_vret C hr hlk (by decide +kernel) (Nat.le_refl _) (Nat.le_refl _) ?_
              have E9 : A_next σ = (sI 6 r22 σ18) := (h9.trans (by unfold A_nxt; exact (if_pos h1).trans ((if_pos h13).trans ((if_pos h14).trans ((ex_lt_eq q16).trans ((if_pos h17).trans ((ex_lt_eq q19).trans ((if_pos h21).trans ((ex_lt_eq q23).trans (rfl))))))))))
              rw [E9]
          · skip
            refine ex_aload_n (q := 0) (x := 1) (np := 138) C (by decide +kernel) rfl rfl ?_
            refine ex_aload_n (q := 0) (x := 1) (np := 139) C (by decide +kernel) rfl rfl ?_
            refine ex_getf (q := 0) (v := .ref 2) (np := 142) C hc_X4 hin_X4 (by decide) tg_229 (by decide +kernel) (WS_1 _) rfl rfl ?_
            refine ex_aload_n (q := 0) (x := 1) (np := 143) C (by decide +kernel) rfl rfl ?_
            refine ex_getf (q := 4) (v := .int (τ.1 2)) (np := 146) C hc_X4 hin_X4 (by decide) tg_235 (by decide +kernel) (WS_1 _) rfl rfl ?_
            refine ex_iald (f := (τ.2.2.1 0)) (kk := ((τ.1 2)).toNatClampNeg) (np := 147) C (by decide +kernel) (WS_2 _) (by have h8 := h14; exact ⟨hI9.2.1.1, by omega⟩) rfl rfl ?_
            refine ex_putf (q := 5) (w1 := (WS (sI 4 ((τ.2.2.1 0) ((τ.1 2)).toNatClampNeg) (sI 6 (-1 : Int32) (sI 4 (0 : Int32) (sI 3 (τ.1 2) τ)))))) (np := 150) C hc_X4 hin_X4 (by decide) tyX4_ok nmX4 tg_236 rfl (by decide +kernel) (WS_1 _) (Nat.le_of_ble_eq_true rfl) rfl rfl (WS_1_5 _ _) rfl ?_
            refine ex_aload_n (q := 0) (x := 1) (np := 151) C (by decide +kernel) rfl rfl ?_
            refine ex_dup (np := 152) C rfl (by decide +kernel) rfl ?_
            refine ex_getf (q := 3) (v := .int (τ.1 2)) (np := 155) C hc_X4 hin_X4 (by decide) tg_234 (by decide +kernel) (WS_1 _) rfl rfl ?_
            refine ex_iconst (n := 1) (v := 1) (np := 156) C (by decide +kernel) (by decide) rfl ?_
            refine ex_iadd (v := ((τ.1 2) + (1 : Int32))) (np := 157) C (by decide +kernel) rfl rfl ?_
            refine ex_putf (q := 3) (w1 := (WS (sI 2 ((τ.1 2) + (1 : Int32)) (sI 4 ((τ.2.2.1 0) ((τ.1 2)).toNatClampNeg) (sI 6 (-1 : Int32) (sI 4 (0 : Int32) (sI 3 (τ.1 2) τ))))))) (np := 160) C hc_X4 hin_X4 (by decide) tyX4_ok nmX4 tg_234 rfl (by decide +kernel) (WS_1 _) (Nat.le_of_ble_eq_true rfl) rfl rfl (WS_1_3 _ _) rfl ?_
            refine ex_goto (off := 27) (tgt := 187) C (by decide +kernel) (by decide) ?_
            refine ex_vret C hr hlk (by decide +kernel) (Nat.le_refl _) (Nat.le_refl _) ?_
            have E9 : A_next σ = (sI 2 ((τ.1 2) + (1 : Int32)) (sI 4 ((τ.2.2.1 0) ((τ.1 2)).toNatClampNeg) (sI 6 (-1 : Int32) (sI 4 (0 : Int32) (sI 3 (τ.1 2) τ))))) := (h9.trans (by unfold A_nxt; exact (if_pos h1).trans ((if_pos h13).trans ((if_pos h14).trans ((ex_lt_eq q16).trans ((if_neg h17).trans (rfl)))))))
            rw [E9]
        · skip
          refine ex_aload_n (q := 0) (x := 1) (np := 115) C (by decide +kernel) rfl rfl ?_
          refine ex_iconst (n := 1) (v := 1) (np := 116) C (by decide +kernel) (by decide) rfl ?_
          refine ex_putf (q := 5) (w1 := (WS (sI 4 (1 : Int32) (sI 6 (-1 : Int32) (sI 4 (0 : Int32) (sI 3 (τ.1 2) τ)))))) (np := 119) C hc_X4 hin_X4 (by decide) tyX4_ok nmX4 tg_236 rfl (by decide +kernel) (WS_1 _) (Nat.le_of_ble_eq_true rfl) rfl rfl (WS_1_5 _ _) rfl ?_
          refine ex_goto (off := 68) (tgt := 187) C (by decide +kernel) (by decide) ?_
          refine ex_vret C hr hlk (by decide +kernel) (Nat.le_refl _) (Nat.le_refl _) ?_
          have E9 : A_next σ = (sI 4 (1 : Int32) (sI 6 (-1 : Int32) (sI 4 (0 : Int32) (sI 3 (τ.1 2) τ)))) := (h9.trans (by unfold A_nxt; exact (if_pos h1).trans ((if_pos h13).trans ((if_neg h14).trans (rfl)))))
          rw [E9]
      · skip
        refine ex_aload_n (q := 0) (x := 1) (np := 93) C (by decide +kernel) rfl rfl ?_
        refine ex_aload_n (q := 0) (x := 1) (np := 94) C (by decide +kernel) rfl rfl ?_
        refine ex_getf (q := 2) (v := .int (τ.1 1)) (np := 97) C hc_X4 hin_X4 (by decide) tg_233 (by decide +kernel) (WS_1 _) rfl rfl ?_
        refine ex_putf (q := 4) (w1 := (WS (sI 3 (τ.1 1) (sI 6 (-1 : Int32) (sI 4 (0 : Int32) (sI 3 (τ.1 2) τ)))))) (np := 100) C hc_X4 hin_X4 (by decide) tyX4_ok nmX4 tg_235 rfl (by decide +kernel) (WS_1 _) (Nat.le_of_ble_eq_true rfl) rfl rfl (WS_1_4 _ _) rfl ?_
        refine ex_goto (off := 87) (tgt := 187) C (by decide +kernel) (by decide) ?_
        refine ex_vret C hr hlk (by decide +kernel) (Nat.le_refl _) (Nat.le_refl _) ?_
        have E9 : A_next σ = (sI 3 (τ.1 1) (sI 6 (-1 : Int32) (sI 4 (0 : Int32) (sI 3 (τ.1 2) τ)))) := (h9.trans (by unfold A_nxt; exact (if_pos h1).trans ((if_neg h13).trans (rfl))))
        rw [E9]
  have hI9 := hI; unfold A_INV at hI9
  have loop : ∀ (k : Nat) (q : Int32), 0 ≤ q.toInt → q.toInt ≤ (σ.1 0).toInt → (σ.1 0).toInt - q.toInt < k → A_next σ = A_nxt (sI 2 (ex_sk (σ.2.2.1 0) (σ.1 0) k q) σ) → ex_okP p l e R s m below meth c 1 X D A [.ref 1] (fun _ w => w = WS (A_next σ)) none (WS (sI 2 q σ)) 0 [(0, .ref 1)] [] := by
    intro k
    induction k with
    | zero => intro q h0 h1 hk hs; exfalso; omega
    | succ k ih =>
      intro q h0 h1 hk hs
      refine ex_aload_n (q := 0) (x := 1) (np := 1) C (by decide +kernel) rfl rfl ?_
      refine ex_getf (q := 3) (v := .int q) (np := 4) C hc_X4 hin_X4 (by decide) tg_234 (by decide +kernel) (WS_1 _) rfl rfl ?_
      refine ex_aload_n (q := 0) (x := 1) (np := 5) C (by decide +kernel) rfl rfl ?_
      refine ex_getf (q := 1) (v := .int (σ.1 0)) (np := 8) C hc_X4 hin_X4 (by decide) tg_231 (by decide +kernel) (WS_1 _) rfl rfl ?_
      refine ex_icmp_ge (off := 44) (tgt := 52) (np := 11) C (by decide +kernel) (by decide) rfl (fun h24 => ?_) (fun h24 => ?_)
      · skip
        exact rest _ (A_INV_pos hI h0 h1) (hs.trans (congrArg (fun x => A_nxt (sI 2 x σ)) (ex_sk_s.trans ((if_neg h24).trans (rfl)))))
      · skip
        refine ex_aload_n (q := 0) (x := 1) (np := 12) C (by decide +kernel) rfl rfl ?_
        refine ex_getf (q := 0) (v := .ref 2) (np := 15) C hc_X4 hin_X4 (by decide) tg_229 (by decide +kernel) (WS_1 _) rfl rfl ?_
        refine ex_aload_n (q := 0) (x := 1) (np := 16) C (by decide +kernel) rfl rfl ?_
        refine ex_getf (q := 3) (v := .int q) (np := 19) C hc_X4 hin_X4 (by decide) tg_234 (by decide +kernel) (WS_1 _) rfl rfl ?_
        refine ex_iald (f := (σ.2.2.1 0)) (kk := (q).toNatClampNeg) (np := 20) C (by decide +kernel) (WS_2 _) (by have h8 := h24; show 0 ≤ q.toInt ∧ q.toInt < 940; omega) rfl rfl ?_
        refine ex_bipush (n := 32) (v := 32) (np := 22) C (by decide +kernel) (by decide) rfl ?_
        refine ex_icmp_eq (off := 17) (tgt := 39) (np := 25) C (by decide +kernel) (by decide) rfl (fun h25 => ?_) (fun h25 => ?_)
        · skip
          refine ex_aload_n (q := 0) (x := 1) (np := 40) C (by decide +kernel) rfl rfl ?_
          refine ex_dup (np := 41) C rfl (by decide +kernel) rfl ?_
          refine ex_getf (q := 3) (v := .int q) (np := 44) C hc_X4 hin_X4 (by decide) tg_234 (by decide +kernel) (WS_1 _) rfl rfl ?_
          refine ex_iconst (n := 1) (v := 1) (np := 45) C (by decide +kernel) (by decide) rfl ?_
          refine ex_iadd (v := (q + (1 : Int32))) (np := 46) C (by decide +kernel) rfl rfl ?_
          refine ex_putf (q := 3) (w1 := (WS (sI 2 (q + (1 : Int32)) (sI 2 q σ)))) (np := 49) C hc_X4 hin_X4 (by decide) tyX4_ok nmX4 tg_234 rfl (by decide +kernel) (WS_1 _) (Nat.le_of_ble_eq_true rfl) rfl rfl (WS_1_3 _ _) rfl ?_
          refine ex_goto (off := (-49)) (tgt := 0) C (by decide +kernel) (by decide) ?_
          rw [ex_ii]
          exact ih _ (by rw [ex_inc h24]; omega) (by rw [ex_inc h24]; omega) (by rw [ex_inc h24]; omega) (hs.trans (congrArg (fun x => A_nxt (sI 2 x σ)) (ex_sk_s.trans ((if_pos h24).trans ((if_pos h25).trans (rfl))))))
        · skip
          refine ex_aload_n (q := 0) (x := 1) (np := 26) C (by decide +kernel) rfl rfl ?_
          refine ex_getf (q := 0) (v := .ref 2) (np := 29) C hc_X4 hin_X4 (by decide) tg_229 (by decide +kernel) (WS_1 _) rfl rfl ?_
          refine ex_aload_n (q := 0) (x := 1) (np := 30) C (by decide +kernel) rfl rfl ?_
          refine ex_getf (q := 3) (v := .int q) (np := 33) C hc_X4 hin_X4 (by decide) tg_234 (by decide +kernel) (WS_1 _) rfl rfl ?_
          refine ex_iald (f := (σ.2.2.1 0)) (kk := (q).toNatClampNeg) (np := 34) C (by decide +kernel) (WS_2 _) (by have h8 := h24; show 0 ≤ q.toInt ∧ q.toInt < 940; omega) rfl rfl ?_
          refine ex_bipush (n := 10) (v := 10) (np := 36) C (by decide +kernel) (by decide) rfl ?_
          refine ex_icmp_ne (off := 16) (tgt := 52) (np := 39) C (by decide +kernel) (by decide) rfl (fun h26 => ?_) (fun h26 => ?_)
          · skip
            exact rest _ (A_INV_pos hI h0 h1) (hs.trans (congrArg (fun x => A_nxt (sI 2 x σ)) (ex_sk_s.trans ((if_pos h24).trans ((if_neg h25).trans ((if_neg h26).trans (rfl)))))))
          · skip
            refine ex_aload_n (q := 0) (x := 1) (np := 40) C (by decide +kernel) rfl rfl ?_
            refine ex_dup (np := 41) C rfl (by decide +kernel) rfl ?_
            refine ex_getf (q := 3) (v := .int q) (np := 44) C hc_X4 hin_X4 (by decide) tg_234 (by decide +kernel) (WS_1 _) rfl rfl ?_
            refine ex_iconst (n := 1) (v := 1) (np := 45) C (by decide +kernel) (by decide) rfl ?_
            refine ex_iadd (v := (q + (1 : Int32))) (np := 46) C (by decide +kernel) rfl rfl ?_
            refine ex_putf (q := 3) (w1 := (WS (sI 2 (q + (1 : Int32)) (sI 2 q σ)))) (np := 49) C hc_X4 hin_X4 (by decide) tyX4_ok nmX4 tg_234 rfl (by decide +kernel) (WS_1 _) (Nat.le_of_ble_eq_true rfl) rfl rfl (WS_1_3 _ _) rfl ?_
            refine ex_goto (off := (-49)) (tgt := 0) C (by decide +kernel) (by decide) ?_
            rw [ex_ii]
            exact ih _ (by rw [ex_inc h24]; omega) (by rw [ex_inc h24]; omega) (by rw [ex_inc h24]; omega) (hs.trans (congrArg (fun x => A_nxt (sI 2 x σ)) (ex_sk_s.trans ((if_pos h24).trans ((if_neg h25).trans ((if_pos h26).trans (rfl)))))))
  have h9 := loop 941 (σ.1 2) (by omega) (by omega) (by omega) rfl
  rw [ex_id (k := 2) (σ := σ) (v := σ.1 2) rfl] at h9
  exact h9
set_option maxRecDepth 100000 in
set_option maxHeartbeats 4000000 in
theorem m_X4_takeSign_S {l : Launch} {X : ab_X} {D : va_G} {A : ex_A} (d : Nat) (hd : 3 ≤ d) (ch : Int32) (σ : ex_S) (hI : A_INV σ) : ex_ctr l X D A d yX4_takeSign cX4_takeSign 2 (some .boolean) (WS σ) [.ref 1, .int ch] (fun r w => r = (A_takeSign ch σ).1 ∧ w = WS (A_takeSign ch σ).2) := by
  obtain ⟨d, rfl⟩ : ∃ d9, d = d9 + 1 := ⟨d - 1, by omega⟩
  refine ex_meth (own := RX4) rfl (by decide) (Nat.le_of_ble_eq_true rfl) (fun p e R s m below meth c C hr hlk hd1 hd2 => ?_)
  show ex_ok p l e R s m _ below meth c 0 0 _ 2 X D A (WS σ) 0 [(0, .ref 1), (1, .int ch)] []
  refine ex_aload_n (q := 0) (x := 1) (np := 1) C (by decide +kernel) rfl rfl ?_
  refine ex_getf (q := 5) (v := .int (σ.1 4)) (np := 4) C hc_X4 hin_X4 (by decide) tg_236 (by decide +kernel) (WS_1 _) rfl rfl ?_
  refine ex_iload_n (q := 1) (x := ch) (np := 5) C (by decide +kernel) rfl rfl ?_
  refine ex_icmp_eq (off := 9) (tgt := 14) (np := 8) C (by decide +kernel) (by decide) rfl (fun h1 => ?_) (fun h1 => ?_)
  · skip
    refine ex_aload_n (q := 0) (x := 1) (np := 15) C (by decide +kernel) rfl rfl ?_
    obtain ⟨σ2, q3⟩ : ∃ x, x = A_next σ := ⟨_, rfl⟩
    refine ex_call_v (np := 18) (fun ws H locs ls hR hsz => ex_runV (C1 := "") C (m_X4_next_S d (by omega) σ hI) hd1 hd2 (by decide) hy_X4_next tg_667 hc_X4 rfl (WS_1 _) rfl rfl (Nat.le_of_ble_eq_true rfl) rfl tg_664 tg_666 tg_4 tg_144 (by decide +kernel) ws H locs ls hR hsz (Nat.zero_le _) (Nat.zero_le _)) rfl (fun w1 hpo => ?_)
    rw [← q3] at hpo
    subst hpo
    have hI4 := inv_X4_next σ hI; rw [← q3] at hI4
    have hF5 := fr_X4_next σ; rw [← q3] at hF5
    refine ex_iconst (n := 1) (v := 1) (np := 19) C (by decide +kernel) (by decide) rfl ?_
    have E9 : A_takeSign ch σ = ((1 : Int32), σ2) := by unfold A_takeSign; exact (if_pos h1).trans ((ex_lt_eq q3).trans (rfl))
    exact ex_iret C hr hlk (by decide +kernel) rfl (Nat.le_refl _) (Nat.le_refl _) (by rw [E9]; exact ⟨rfl, rfl⟩)
  · skip
    refine ex_aload_n (q := 0) (x := 1) (np := 9) C (by decide +kernel) rfl rfl ?_
    refine ex_iconst (n := 1) (v := 1) (np := 10) C (by decide +kernel) (by decide) rfl ?_
    obtain ⟨r6, σ7, q8⟩ : ∃ r x, A_failAs (1 : Int32) σ = (r, x) := ex_pair _
    refine ex_call_i (np := 13) (fun ws H locs ls hR hsz => ex_runV (C1 := "") C (m_X4_failAs_S d (by omega) (1 : Int32) σ) hd1 hd2 (by decide) hy_X4_failAs tg_694 hc_X4 rfl (WS_1 _) rfl rfl (Nat.le_of_ble_eq_true rfl) rfl tg_704 tg_693 tg_10 tg_144 (by decide +kernel) ws H locs ls hR hsz (Nat.zero_le _) (Nat.zero_le _)) rfl (fun r9 w1 hpo => ?_)
    rw [q8] at hpo
    have hp1 : r6 = r9 := hpo.1.symm
    have hp2 := hpo.2
    clear hpo; subst hp1; subst hp2
    have hI10 := inv_X4_failAs (1 : Int32) σ hI; rw [q8] at hI10
    have hF11 := fr_X4_failAs (1 : Int32) σ; rw [q8] at hF11
    have E9 : A_takeSign ch σ = (r6, σ7) := by unfold A_takeSign; exact (if_neg h1).trans ((ex_bd_eq q8).trans (rfl))
    exact ex_iret C hr hlk (by decide +kernel) (ex_nar (by have b9 := bl_X4_failAs (1 : Int32) σ; rw [q8] at b9; exact b9)) (Nat.le_refl _) (Nat.le_refl _) (by rw [E9]; exact ⟨rfl, rfl⟩)
set_option maxRecDepth 100000 in
set_option maxHeartbeats 4000000 in
theorem m_X4_takeNumber_S {l : Launch} {X : ab_X} {D : va_G} {A : ex_A} (d : Nat) (hd : 3 ≤ d) (lo : Int32) (hi : Int32) (σ : ex_S) (hI : A_INV σ) : ex_ctr l X D A d yX4_takeNumber cX4_takeNumber 3 (some .boolean) (WS σ) [.ref 1, .int lo, .int hi] (fun r w => r = (A_takeNumber lo hi σ).1 ∧ w = WS (A_takeNumber lo hi σ).2) := by
  obtain ⟨d, rfl⟩ : ∃ d9, d = d9 + 1 := ⟨d - 1, by omega⟩
  refine ex_meth (own := RX4) rfl (by decide) (Nat.le_of_ble_eq_true rfl) (fun p e R s m below meth c C hr hlk hd1 hd2 => ?_)
  show ex_ok p l e R s m _ below meth c 0 0 _ 3 X D A (WS σ) 0 [(0, .ref 1), (1, .int lo), (2, .int hi)] []
  refine ex_aload_n (q := 0) (x := 1) (np := 1) C (by decide +kernel) rfl rfl ?_
  refine ex_getf (q := 5) (v := .int (σ.1 4)) (np := 4) C hc_X4 hin_X4 (by decide) tg_236 (by decide +kernel) (WS_1 _) rfl rfl ?_
  refine ex_iconst (n := 3) (v := 3) (np := 5) C (by decide +kernel) (by decide) rfl ?_
  refine ex_icmp_eq (off := 9) (tgt := 14) (np := 8) C (by decide +kernel) (by decide) rfl (fun h1 => ?_) (fun h1 => ?_)
  · skip
    refine ex_aload_n (q := 0) (x := 1) (np := 15) C (by decide +kernel) rfl rfl ?_
    refine ex_getf (q := 7) (v := .int (σ.1 5)) (np := 18) C hc_X4 hin_X4 (by decide) tg_240 (by decide +kernel) (WS_1 _) rfl rfl ?_
    refine ex_iload_n (q := 1) (x := lo) (np := 19) C (by decide +kernel) rfl rfl ?_
    refine ex_icmp_lt (off := 11) (tgt := 30) (np := 22) C (by decide +kernel) (by decide) rfl (fun h2 => ?_) (fun h2 => ?_)
    · skip
      refine ex_aload_n (q := 0) (x := 1) (np := 31) C (by decide +kernel) rfl rfl ?_
      refine ex_iconst (n := 2) (v := 2) (np := 32) C (by decide +kernel) (by decide) rfl ?_
      obtain ⟨r3, σ4, q5⟩ : ∃ r x, A_failAs (2 : Int32) σ = (r, x) := ex_pair _
      refine ex_call_i (np := 35) (fun ws H locs ls hR hsz => ex_runV (C1 := "") C (m_X4_failAs_S d (by omega) (2 : Int32) σ) hd1 hd2 (by decide) hy_X4_failAs tg_694 hc_X4 rfl (WS_1 _) rfl rfl (Nat.le_of_ble_eq_true rfl) rfl tg_704 tg_693 tg_10 tg_144 (by decide +kernel) ws H locs ls hR hsz (Nat.zero_le _) (Nat.zero_le _)) rfl (fun r9 w1 hpo => ?_)
      rw [q5] at hpo
      have hp1 : r3 = r9 := hpo.1.symm
      have hp2 := hpo.2
      clear hpo; subst hp1; subst hp2
      have hI6 := inv_X4_failAs (2 : Int32) σ hI; rw [q5] at hI6
      have hF7 := fr_X4_failAs (2 : Int32) σ; rw [q5] at hF7
      have E9 : A_takeNumber lo hi σ = (r3, σ4) := by unfold A_takeNumber; exact (if_pos h1).trans ((if_pos h2).trans ((ex_bd_eq q5).trans (rfl)))
      exact ex_iret C hr hlk (by decide +kernel) (ex_nar (by have b9 := bl_X4_failAs (2 : Int32) σ; rw [q5] at b9; exact b9)) (Nat.le_refl _) (Nat.le_refl _) (by rw [E9]; exact ⟨rfl, rfl⟩)
    · skip
      refine ex_aload_n (q := 0) (x := 1) (np := 23) C (by decide +kernel) rfl rfl ?_
      refine ex_getf (q := 7) (v := .int (σ.1 5)) (np := 26) C hc_X4 hin_X4 (by decide) tg_240 (by decide +kernel) (WS_1 _) rfl rfl ?_
      refine ex_iload_n (q := 2) (x := hi) (np := 27) C (by decide +kernel) rfl rfl ?_
      refine ex_icmp_le (off := 9) (tgt := 36) (np := 30) C (by decide +kernel) (by decide) rfl (fun h8 => ?_) (fun h8 => ?_)
      · skip
        refine ex_aload_n (q := 0) (x := 1) (np := 37) C (by decide +kernel) rfl rfl ?_
        refine ex_aload_n (q := 0) (x := 1) (np := 38) C (by decide +kernel) rfl rfl ?_
        refine ex_getf (q := 7) (v := .int (σ.1 5)) (np := 41) C hc_X4 hin_X4 (by decide) tg_240 (by decide +kernel) (WS_1 _) rfl rfl ?_
        refine ex_putf (q := 9) (w1 := (WS (sI 7 (σ.1 5) σ))) (np := 44) C hc_X4 hin_X4 (by decide) tyX4_ok nmX4 tg_245 rfl (by decide +kernel) (WS_1 _) (Nat.le_of_ble_eq_true rfl) rfl rfl (WS_1_9 _ _) rfl ?_
        refine ex_aload_n (q := 0) (x := 1) (np := 45) C (by decide +kernel) rfl rfl ?_
        obtain ⟨σ10, q11⟩ : ∃ x, x = A_next (sI 7 (σ.1 5) σ) := ⟨_, rfl⟩
        refine ex_call_v (np := 48) (fun ws H locs ls hR hsz => ex_runV (C1 := "") C (m_X4_next_S d (by omega) (sI 7 (σ.1 5) σ) hI) hd1 hd2 (by decide) hy_X4_next tg_667 hc_X4 rfl (WS_1 _) rfl rfl (Nat.le_of_ble_eq_true rfl) rfl tg_664 tg_666 tg_4 tg_144 (by decide +kernel) ws H locs ls hR hsz (Nat.zero_le _) (Nat.zero_le _)) rfl (fun w1 hpo => ?_)
        rw [← q11] at hpo
        subst hpo
        have hI12 := inv_X4_next (sI 7 (σ.1 5) σ) hI; rw [← q11] at hI12
        have hF13 := fr_X4_next (sI 7 (σ.1 5) σ); rw [← q11] at hF13
        refine ex_iconst (n := 1) (v := 1) (np := 49) C (by decide +kernel) (by decide) rfl ?_
        have E9 : A_takeNumber lo hi σ = ((1 : Int32), σ10) := by unfold A_takeNumber; exact (if_pos h1).trans ((if_neg h2).trans ((if_neg h8).trans ((ex_lt_eq q11).trans (rfl))))
        exact ex_iret C hr hlk (by decide +kernel) rfl (Nat.le_refl _) (Nat.le_refl _) (by rw [E9]; exact ⟨rfl, rfl⟩)
      · skip
        refine ex_aload_n (q := 0) (x := 1) (np := 31) C (by decide +kernel) rfl rfl ?_
        refine ex_iconst (n := 2) (v := 2) (np := 32) C (by decide +kernel) (by decide) rfl ?_
        obtain ⟨r14, σ15, q16⟩ : ∃ r x, A_failAs (2 : Int32) σ = (r, x) := ex_pair _
        refine ex_call_i (np := 35) (fun ws H locs ls hR hsz => ex_runV (C1 := "") C (m_X4_failAs_S d (by omega) (2 : Int32) σ) hd1 hd2 (by decide) hy_X4_failAs tg_694 hc_X4 rfl (WS_1 _) rfl rfl (Nat.le_of_ble_eq_true rfl) rfl tg_704 tg_693 tg_10 tg_144 (by decide +kernel) ws H locs ls hR hsz (Nat.zero_le _) (Nat.zero_le _)) rfl (fun r9 w1 hpo => ?_)
        rw [q16] at hpo
        have hp1 : r14 = r9 := hpo.1.symm
        have hp2 := hpo.2
        clear hpo; subst hp1; subst hp2
        have hI17 := inv_X4_failAs (2 : Int32) σ hI; rw [q16] at hI17
        have hF18 := fr_X4_failAs (2 : Int32) σ; rw [q16] at hF18
        have E9 : A_takeNumber lo hi σ = (r14, σ15) := by unfold A_takeNumber; exact (if_pos h1).trans ((if_neg h2).trans ((if_pos h8).trans ((ex_bd_eq q16).trans (rfl))))
        exact ex_iret C hr hlk (by decide +kernel) (ex_nar (by have b9 := bl_X4_failAs (2 : Int32) σ; rw [q16] at b9; exact b9)) (Nat.le_refl _) (Nat.le_refl _) (by rw [E9]; exact ⟨rfl, rfl⟩)
  · skip
    refine ex_aload_n (q := 0) (x := 1) (np := 9) C (by decide +kernel) rfl rfl ?_
    refine ex_iconst (n := 1) (v := 1) (np := 10) C (by decide +kernel) (by decide) rfl ?_
    obtain ⟨r19, σ20, q21⟩ : ∃ r x, A_failAs (1 : Int32) σ = (r, x) := ex_pair _
    refine ex_call_i (np := 13) (fun ws H locs ls hR hsz => ex_runV (C1 := "") C (m_X4_failAs_S d (by omega) (1 : Int32) σ) hd1 hd2 (by decide) hy_X4_failAs tg_694 hc_X4 rfl (WS_1 _) rfl rfl (Nat.le_of_ble_eq_true rfl) rfl tg_704 tg_693 tg_10 tg_144 (by decide +kernel) ws H locs ls hR hsz (Nat.zero_le _) (Nat.zero_le _)) rfl (fun r9 w1 hpo => ?_)
    rw [q21] at hpo
    have hp1 : r19 = r9 := hpo.1.symm
    have hp2 := hpo.2
    clear hpo; subst hp1; subst hp2
    have hI22 := inv_X4_failAs (1 : Int32) σ hI; rw [q21] at hI22
    have hF23 := fr_X4_failAs (1 : Int32) σ; rw [q21] at hF23
    have E9 : A_takeNumber lo hi σ = (r19, σ20) := by unfold A_takeNumber; exact (if_neg h1).trans ((ex_bd_eq q21).trans (rfl))
    exact ex_iret C hr hlk (by decide +kernel) (ex_nar (by have b9 := bl_X4_failAs (1 : Int32) σ; rw [q21] at b9; exact b9)) (Nat.le_refl _) (Nat.le_refl _) (by rw [E9]; exact ⟨rfl, rfl⟩)
set_option maxRecDepth 100000 in
set_option maxHeartbeats 4000000 in
theorem m_X8_townNamed_S {l : Launch} {X : ab_X} {D : va_G} {A : ex_A} (d : Nat) (hd : 1 ≤ d) (nm : Int64) (σ : ex_S) (hI : A_INV σ) : ex_ctr l X D A d yX8_townNamed cX8_townNamed 4 (some .int) (WS σ) [.ref 6, .long nm] (fun r w => r = A_townNamed nm σ ∧ w = WS σ) := by
  obtain ⟨d, rfl⟩ : ∃ d9, d = d9 + 1 := ⟨d - 1, by omega⟩
  refine ex_meth (own := RX8) rfl (by decide) (Nat.le_of_ble_eq_true rfl) (fun p e R s m below meth c C hr hlk hd1 hd2 => ?_)
  show ex_ok p l e R s m _ below meth c 0 0 _ 4 X D A (WS σ) 0 [(0, .ref 6), (1, .long nm)] []
  refine ex_iconst (n := 0) (v := 0) (np := 1) C (by decide +kernel) (by decide) rfl ?_
  refine ex_istore_n (q := 3) (np := 2) (lv1 := [(3, .int (0 : Int32)), (0, .ref 6), (1, .long nm)]) C (by decide) (by decide +kernel) rfl rfl ?_
  have hI9 := hI; unfold A_INV at hI9
  have hN := ex_nat (x := σ.1 11) (by omega)
  have loop : ∀ (n k : Nat), k + n = (σ.1 11).toInt.toNat → A_townNamed nm σ = ex_find (σ.2.2.2 1) nm n k → ex_okP p l e R s m below meth c 4 X D A [.ref 6, .long nm] (fun r w => r = A_townNamed nm σ ∧ w = WS σ) (some .int) (WS σ) 2 [(3, .int (nI k)), (0, .ref 6), (1, .long nm)] [] := by
    intro n
    induction n with
    | zero =>
      intro k hk hs
      have hki : (nI k).toInt = (k : Int) := nI_toInt (by omega)
      refine ex_iload_n (q := 3) (x := (nI k)) (np := 3) C (by decide +kernel) rfl rfl ?_
      refine ex_aload_n (q := 0) (x := 6) (np := 4) C (by decide +kernel) rfl rfl ?_
      refine ex_getf (q := 0) (v := .int (σ.1 11)) (np := 7) C hc_X8 hin_X8 (by decide) tg_312 (by decide +kernel) (WS_6 _) rfl rfl ?_
      refine ex_icmp_ge (off := 22) (tgt := 29) (np := 10) C (by decide +kernel) (by decide) rfl (fun h1 => ?_) (fun h1 => ?_)
      · skip
        refine ex_iconst (n := (-1)) (v := (-1)) (np := 30) C (by decide +kernel) (by decide) rfl ?_
        have E9 : A_townNamed nm σ = (-1 : Int32) := hs
        exact ex_iret C hr hlk (by decide +kernel) rfl (Nat.le_refl _) (Nat.le_refl _) ⟨E9.symm, rfl⟩
      · skip
        exfalso; rw [hki] at h1; omega
    | succ n ih =>
      intro k hk hs
      have hki : (nI k).toInt = (k : Int) := nI_toInt (by omega)
      refine ex_iload_n (q := 3) (x := (nI k)) (np := 3) C (by decide +kernel) rfl rfl ?_
      refine ex_aload_n (q := 0) (x := 6) (np := 4) C (by decide +kernel) rfl rfl ?_
      refine ex_getf (q := 0) (v := .int (σ.1 11)) (np := 7) C hc_X8 hin_X8 (by decide) tg_312 (by decide +kernel) (WS_6 _) rfl rfl ?_
      refine ex_icmp_ge (off := 22) (tgt := 29) (np := 10) C (by decide +kernel) (by decide) rfl (fun h2 => ?_) (fun h2 => ?_)
      · skip
        exfalso; rw [hki] at h2; omega
      · skip
        refine ex_aload_n (q := 0) (x := 6) (np := 11) C (by decide +kernel) rfl rfl ?_
        refine ex_getf (q := 1) (v := .ref 7) (np := 14) C hc_X8 hin_X8 (by decide) tg_316 (by decide +kernel) (WS_6 _) rfl rfl ?_
        refine ex_iload_n (q := 3) (x := (nI k)) (np := 15) C (by decide +kernel) rfl rfl ?_
        refine ex_lald (f := (σ.2.2.2 1)) (kk := ((nI k)).toNatClampNeg) (np := 16) C (by decide +kernel) (WS_7 _) (by rw [hki]; omega) rfl rfl ?_
        refine ex_lload_n (q := 1) (x := nm) (np := 17) C (by decide +kernel) rfl rfl ?_
        refine ex_lcmp (np := 18) C (by decide +kernel) rfl ?_
        refine ex_if_ne (off := 5) (tgt := 23) (np := 21) C (by decide +kernel) (by decide) rfl (fun h3 => ?_) (fun h3 => ?_)
        · skip
          refine ex_iinc (i := 3) (n := 1) (x := (nI k)) (v := ((nI k) + 1)) (np := 26) (lv1 := [(3, .int ((nI k) + 1)), (0, .ref 6), (1, .long nm)]) C (by decide) (by decide +kernel) rfl (by rfl) rfl rfl ?_
          refine ex_goto (off := (-24)) (tgt := 2) C (by decide +kernel) (by decide) ?_
          rw [← nI_succ]
          exact ih (k + 1) (by omega) (hs.trans (ex_find_s.trans (if_neg (by rw [← ex_nk (k := k) (by omega)]; exact h3))))
        · skip
          refine ex_iload_n (q := 3) (x := (nI k)) (np := 22) C (by decide +kernel) rfl rfl ?_
          have E9 : A_townNamed nm σ = (nI k) := (hs.trans (ex_find_s.trans (if_pos (by rw [← ex_nk (k := k) (by omega)]; exact h3))))
          exact ex_iret C hr hlk (by decide +kernel) rfl (Nat.le_refl _) (Nat.le_refl _) ⟨E9.symm, rfl⟩
  exact loop ((σ.1 11).toInt.toNat) 0 (by omega) rfl
set_option maxRecDepth 100000 in
set_option maxHeartbeats 4000000 in
theorem m_X4_takeTown_S {l : Launch} {X : ab_X} {D : va_G} {A : ex_A} (d : Nat) (hd : 3 ≤ d) (un : Int32) (σ : ex_S) (hI : A_INV σ) : ex_ctr l X D A d yX4_takeTown cX4_takeTown 4 (some .boolean) (WS σ) [.ref 1, .ref 6, .int un] (fun r w => r = (A_takeTown un σ).1 ∧ w = WS (A_takeTown un σ).2) := by
  obtain ⟨d, rfl⟩ : ∃ d9, d = d9 + 1 := ⟨d - 1, by omega⟩
  refine ex_meth (own := RX4) rfl (by decide) (Nat.le_of_ble_eq_true rfl) (fun p e R s m below meth c C hr hlk hd1 hd2 => ?_)
  show ex_ok p l e R s m _ below meth c 0 0 _ 4 X D A (WS σ) 0 [(0, .ref 1), (1, .ref 6), (2, .int un)] []
  refine ex_aload_n (q := 0) (x := 1) (np := 1) C (by decide +kernel) rfl rfl ?_
  refine ex_call_i (np := 4) (fun ws H locs ls hR hsz => ex_runV (C1 := "") C (m_X4_isName_S d (by omega) σ) hd1 hd2 (by decide) hy_X4_isName tg_703 hc_X4 rfl (WS_1 _) rfl rfl (Nat.le_of_ble_eq_true rfl) rfl tg_700 tg_702 tg_12 tg_144 (by decide +kernel) ws H locs ls hR hsz (Nat.zero_le _) (Nat.zero_le _)) rfl (fun r1 w1 hpo => ?_)
  obtain ⟨q2, rfl⟩ := hpo
  refine ex_if_ne (off := 9) (tgt := 13) (np := 7) C (by decide +kernel) (by decide) rfl (fun h3 => ?_) (fun h3 => ?_)
  · skip
    refine ex_aload_n (q := 1) (x := 6) (np := 14) C (by decide +kernel) rfl rfl ?_
    refine ex_aload_n (q := 0) (x := 1) (np := 15) C (by decide +kernel) rfl rfl ?_
    refine ex_getf (q := 6) (v := .long (σ.2.1 0)) (np := 18) C hc_X4 hin_X4 (by decide) tg_239 (by decide +kernel) (WS_1 _) rfl rfl ?_
    refine ex_call_i (np := 21) (fun ws H locs ls hR hsz => ex_runVN C (m_X8_townNamed_S d (by omega) (σ.2.1 0) σ hI) hd1 hd2 (by decide) hy_X8_townNamed tg_712 hc_X8 rfl (WS_6 _) rfl rfl (Nat.le_of_ble_eq_true rfl) tn_729 tg_711 tg_14 tg_150 (by decide +kernel) ws H locs ls hR hsz (Nat.zero_le _) (Nat.zero_le _)) rfl (fun r4 w1 hpo => ?_)
    obtain ⟨q5, rfl⟩ := hpo
    refine ex_istore_n (q := 3) (np := 22) (lv1 := [(3, .int r4), (0, .ref 1), (1, .ref 6), (2, .int un)]) C (by decide) (by decide +kernel) rfl rfl ?_
    refine ex_iload_n (q := 3) (x := r4) (np := 23) C (by decide +kernel) rfl rfl ?_
    refine ex_iconst (n := (-1)) (v := (-1)) (np := 24) C (by decide +kernel) (by decide) rfl ?_
    refine ex_icmp_eq (off := 8) (tgt := 32) (np := 27) C (by decide +kernel) (by decide) rfl (fun h6 => ?_) (fun h6 => ?_)
    · skip
      refine ex_aload_n (q := 0) (x := 1) (np := 33) C (by decide +kernel) rfl rfl ?_
      refine ex_iconst (n := 3) (v := 3) (np := 34) C (by decide +kernel) (by decide) rfl ?_
      obtain ⟨r7, σ8, q10⟩ : ∃ r x, A_failAs (3 : Int32) σ = (r, x) := ex_pair _
      refine ex_call_i (np := 37) (fun ws H locs ls hR hsz => ex_runV (C1 := "") C (m_X4_failAs_S d (by omega) (3 : Int32) σ) hd1 hd2 (by decide) hy_X4_failAs tg_694 hc_X4 rfl (WS_1 _) rfl rfl (Nat.le_of_ble_eq_true rfl) rfl tg_704 tg_693 tg_10 tg_144 (by decide +kernel) ws H locs ls hR hsz (Nat.zero_le _) (Nat.zero_le _)) rfl (fun r9 w1 hpo => ?_)
      rw [q10] at hpo
      have hp1 : r7 = r9 := hpo.1.symm
      have hp2 := hpo.2
      clear hpo; subst hp1; subst hp2
      have hI11 := inv_X4_failAs (3 : Int32) σ hI; rw [q10] at hI11
      have hF12 := fr_X4_failAs (3 : Int32) σ; rw [q10] at hF12
      have E9 : A_takeTown un σ = (r7, σ8) := by unfold A_takeTown; exact (ex_lt_eq q2).trans ((if_neg h3).trans ((ex_lt_eq q5).trans ((if_pos h6).trans ((ex_bd_eq q10).trans (rfl)))))
      exact ex_iret C hr hlk (by decide +kernel) (ex_nar (by have b9 := bl_X4_failAs (3 : Int32) σ; rw [q10] at b9; exact b9)) (Nat.le_refl _) (Nat.le_refl _) (by rw [E9]; exact ⟨rfl, rfl⟩)
    · skip
      refine ex_iload_n (q := 3) (x := r4) (np := 28) C (by decide +kernel) rfl rfl ?_
      refine ex_iload_n (q := 2) (x := un) (np := 29) C (by decide +kernel) rfl rfl ?_
      refine ex_icmp_ne (off := 9) (tgt := 38) (np := 32) C (by decide +kernel) (by decide) rfl (fun h13 => ?_) (fun h13 => ?_)
      · skip
        refine ex_aload_n (q := 0) (x := 1) (np := 39) C (by decide +kernel) rfl rfl ?_
        refine ex_iload_n (q := 3) (x := r4) (np := 40) C (by decide +kernel) rfl rfl ?_
        refine ex_putf (q := 9) (w1 := (WS (sI 7 r4 σ))) (np := 43) C hc_X4 hin_X4 (by decide) tyX4_ok nmX4 tg_245 rfl (by decide +kernel) (WS_1 _) (Nat.le_of_ble_eq_true rfl) rfl rfl (WS_1_9 _ _) rfl ?_
        refine ex_aload_n (q := 0) (x := 1) (np := 44) C (by decide +kernel) rfl rfl ?_
        obtain ⟨σ14, q15⟩ : ∃ x, x = A_next (sI 7 r4 σ) := ⟨_, rfl⟩
        refine ex_call_v (np := 47) (fun ws H locs ls hR hsz => ex_runV (C1 := "") C (m_X4_next_S d (by omega) (sI 7 r4 σ) hI) hd1 hd2 (by decide) hy_X4_next tg_667 hc_X4 rfl (WS_1 _) rfl rfl (Nat.le_of_ble_eq_true rfl) rfl tg_664 tg_666 tg_4 tg_144 (by decide +kernel) ws H locs ls hR hsz (Nat.zero_le _) (Nat.zero_le _)) rfl (fun w1 hpo => ?_)
        rw [← q15] at hpo
        subst hpo
        have hI16 := inv_X4_next (sI 7 r4 σ) hI; rw [← q15] at hI16
        have hF17 := fr_X4_next (sI 7 r4 σ); rw [← q15] at hF17
        refine ex_iconst (n := 1) (v := 1) (np := 48) C (by decide +kernel) (by decide) rfl ?_
        have E9 : A_takeTown un σ = ((1 : Int32), σ14) := by unfold A_takeTown; exact (ex_lt_eq q2).trans ((if_neg h3).trans ((ex_lt_eq q5).trans ((if_neg h6).trans ((if_neg h13).trans ((ex_lt_eq q15).trans (rfl))))))
        exact ex_iret C hr hlk (by decide +kernel) rfl (Nat.le_refl _) (Nat.le_refl _) (by rw [E9]; exact ⟨rfl, rfl⟩)
      · skip
        refine ex_aload_n (q := 0) (x := 1) (np := 33) C (by decide +kernel) rfl rfl ?_
        refine ex_iconst (n := 3) (v := 3) (np := 34) C (by decide +kernel) (by decide) rfl ?_
        obtain ⟨r18, σ19, q20⟩ : ∃ r x, A_failAs (3 : Int32) σ = (r, x) := ex_pair _
        refine ex_call_i (np := 37) (fun ws H locs ls hR hsz => ex_runV (C1 := "") C (m_X4_failAs_S d (by omega) (3 : Int32) σ) hd1 hd2 (by decide) hy_X4_failAs tg_694 hc_X4 rfl (WS_1 _) rfl rfl (Nat.le_of_ble_eq_true rfl) rfl tg_704 tg_693 tg_10 tg_144 (by decide +kernel) ws H locs ls hR hsz (Nat.zero_le _) (Nat.zero_le _)) rfl (fun r9 w1 hpo => ?_)
        rw [q20] at hpo
        have hp1 : r18 = r9 := hpo.1.symm
        have hp2 := hpo.2
        clear hpo; subst hp1; subst hp2
        have hI21 := inv_X4_failAs (3 : Int32) σ hI; rw [q20] at hI21
        have hF22 := fr_X4_failAs (3 : Int32) σ; rw [q20] at hF22
        have E9 : A_takeTown un σ = (r18, σ19) := by unfold A_takeTown; exact (ex_lt_eq q2).trans ((if_neg h3).trans ((ex_lt_eq q5).trans ((if_neg h6).trans ((if_pos h13).trans ((ex_bd_eq q20).trans (rfl))))))
        exact ex_iret C hr hlk (by decide +kernel) (ex_nar (by have b9 := bl_X4_failAs (3 : Int32) σ; rw [q20] at b9; exact b9)) (Nat.le_refl _) (Nat.le_refl _) (by rw [E9]; exact ⟨rfl, rfl⟩)
  · skip
    refine ex_aload_n (q := 0) (x := 1) (np := 8) C (by decide +kernel) rfl rfl ?_
    refine ex_iconst (n := 1) (v := 1) (np := 9) C (by decide +kernel) (by decide) rfl ?_
    obtain ⟨r23, σ24, q25⟩ : ∃ r x, A_failAs (1 : Int32) σ = (r, x) := ex_pair _
    refine ex_call_i (np := 12) (fun ws H locs ls hR hsz => ex_runV (C1 := "") C (m_X4_failAs_S d (by omega) (1 : Int32) σ) hd1 hd2 (by decide) hy_X4_failAs tg_694 hc_X4 rfl (WS_1 _) rfl rfl (Nat.le_of_ble_eq_true rfl) rfl tg_704 tg_693 tg_10 tg_144 (by decide +kernel) ws H locs ls hR hsz (Nat.zero_le _) (Nat.zero_le _)) rfl (fun r9 w1 hpo => ?_)
    rw [q25] at hpo
    have hp1 : r23 = r9 := hpo.1.symm
    have hp2 := hpo.2
    clear hpo; subst hp1; subst hp2
    have hI26 := inv_X4_failAs (1 : Int32) σ hI; rw [q25] at hI26
    have hF27 := fr_X4_failAs (1 : Int32) σ; rw [q25] at hF27
    have E9 : A_takeTown un σ = (r23, σ24) := by unfold A_takeTown; exact (ex_lt_eq q2).trans ((if_pos h3).trans ((ex_bd_eq q25).trans (rfl)))
    exact ex_iret C hr hlk (by decide +kernel) (ex_nar (by have b9 := bl_X4_failAs (1 : Int32) σ; rw [q25] at b9; exact b9)) (Nat.le_refl _) (Nat.le_refl _) (by rw [E9]; exact ⟨rfl, rfl⟩)
set_option maxRecDepth 100000 in
set_option maxHeartbeats 4000000 in
theorem m_X4_begin_S {l : Launch} {X : ab_X} {D : va_G} {A : ex_A} (d : Nat) (hd : 3 ≤ d) (mo : Int32) (σ : ex_S) (hI : A_IN0 σ) : ex_ctr l X D A d yX4_begin cX4_begin 2 none (WS σ) [.ref 1, .int mo] (fun _ w => w = WS (A_begin mo σ)) := by
  obtain ⟨d, rfl⟩ : ∃ d9, d = d9 + 1 := ⟨d - 1, by omega⟩
  refine ex_meth (own := RX4) rfl (by decide) (Nat.le_of_ble_eq_true rfl) (fun p e R s m below meth c C hr hlk hd1 hd2 => ?_)
  show ex_ok p l e R s m _ below meth c 0 0 _ 2 X D A (WS σ) 0 [(0, .ref 1), (1, .int mo)] []
  refine ex_aload_n (q := 0) (x := 1) (np := 1) C (by decide +kernel) rfl rfl ?_
  refine ex_iload_n (q := 1) (x := mo) (np := 2) C (by decide +kernel) rfl rfl ?_
  refine ex_putf (q := 2) (w1 := (WS (sI 1 mo σ))) (np := 5) C hc_X4 hin_X4 (by decide) tyX4_ok nmX4 tg_233 rfl (by decide +kernel) (WS_1 _) (Nat.le_of_ble_eq_true rfl) rfl rfl (WS_1_2 _ _) rfl ?_
  refine ex_aload_n (q := 0) (x := 1) (np := 6) C (by decide +kernel) rfl rfl ?_
  refine ex_iconst (n := 0) (v := 0) (np := 7) C (by decide +kernel) (by decide) rfl ?_
  refine ex_putf (q := 3) (w1 := (WS (sI 2 (0 : Int32) (sI 1 mo σ)))) (np := 10) C hc_X4 hin_X4 (by decide) tyX4_ok nmX4 tg_234 rfl (by decide +kernel) (WS_1 _) (Nat.le_of_ble_eq_true rfl) rfl rfl (WS_1_3 _ _) rfl ?_
  refine ex_aload_n (q := 0) (x := 1) (np := 11) C (by decide +kernel) rfl rfl ?_
  refine ex_iconst (n := 0) (v := 0) (np := 12) C (by decide +kernel) (by decide) rfl ?_
  refine ex_putf (q := 12) (w1 := (WS (sI 9 (0 : Int32) (sI 2 (0 : Int32) (sI 1 mo σ))))) (np := 15) C hc_X4 hin_X4 (by decide) tyX4_ok nmX4 tg_254 rfl (by decide +kernel) (WS_1 _) (Nat.le_of_ble_eq_true rfl) rfl rfl (WS_1_12 _ _) rfl ?_
  refine ex_aload_n (q := 0) (x := 1) (np := 16) C (by decide +kernel) rfl rfl ?_
  refine ex_iconst (n := 0) (v := 0) (np := 17) C (by decide +kernel) (by decide) rfl ?_
  refine ex_putf (q := 13) (w1 := (WS (sI 10 (0 : Int32) (sI 9 (0 : Int32) (sI 2 (0 : Int32) (sI 1 mo σ)))))) (np := 20) C hc_X4 hin_X4 (by decide) tyX4_ok nmX4 tg_256 rfl (by decide +kernel) (WS_1 _) (Nat.le_of_ble_eq_true rfl) rfl rfl (WS_1_13 _ _) rfl ?_
  refine ex_aload_n (q := 0) (x := 1) (np := 21) C (by decide +kernel) rfl rfl ?_
  obtain ⟨σ1, q2⟩ : ∃ x, x = A_next (sI 10 (0 : Int32) (sI 9 (0 : Int32) (sI 2 (0 : Int32) (sI 1 mo σ)))) := ⟨_, rfl⟩
  refine ex_call_v (np := 24) (fun ws H locs ls hR hsz => ex_runV (C1 := "") C (m_X4_next_S d (by omega) (sI 10 (0 : Int32) (sI 9 (0 : Int32) (sI 2 (0 : Int32) (sI 1 mo σ)))) (A_IN0_b hI)) hd1 hd2 (by decide) hy_X4_next tg_667 hc_X4 rfl (WS_1 _) rfl rfl (Nat.le_of_ble_eq_true rfl) rfl tg_664 tg_666 tg_4 tg_144 (by decide +kernel) ws H locs ls hR hsz (Nat.zero_le _) (Nat.zero_le _)) rfl (fun w1 hpo => ?_)
  rw [← q2] at hpo
  subst hpo
  have hI3 := inv_X4_next (sI 10 (0 : Int32) (sI 9 (0 : Int32) (sI 2 (0 : Int32) (sI 1 mo σ)))) (A_IN0_b hI); rw [← q2] at hI3
  have hF4 := fr_X4_next (sI 10 (0 : Int32) (sI 9 (0 : Int32) (sI 2 (0 : Int32) (sI 1 mo σ)))); rw [← q2] at hF4
  refine ex_vret C hr hlk (by decide +kernel) (Nat.le_refl _) (Nat.le_refl _) ?_
  have E9 : A_begin mo σ = σ1 := by unfold A_begin; exact (ex_lt_eq q2).trans (rfl)
  rw [E9]
