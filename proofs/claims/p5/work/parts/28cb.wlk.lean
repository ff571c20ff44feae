/-! Contracts of the parsers' methods. -/
set_option maxRecDepth 100000 in
set_option maxHeartbeats 4000000 in
theorem m_X4_readRun {l : Launch} {X : ab_X} {D : va_G} {A : ex_A} (d : Nat) (hd : 1 ≤ d) (x : Nat × List ex_E) (y : Nat) (σ : ex_S) (hI : A_INV σ) : ex_ctr l X D A d yX4_readRun cX4_readRun 7 none (WA x y σ) [.ref 1] (fun _ w => w = WA x y (A_readRun σ)) := by
  obtain ⟨d, rfl⟩ : ∃ d9, d = d9 + 1 := ⟨d - 1, by omega⟩
  refine ex_meth (own := RX4) rfl (by decide) (Nat.le_of_ble_eq_true rfl) (fun p e R s m below meth c C hr hlk hd1 hd2 => ?_)
  show ex_ok p l e R s m _ below meth c 0 0 _ 7 X D A (WA x y σ) 0 [(0, .ref 1)] []
  refine ex_iconst (n := 1) (v := 1) (np := 1) C (by decide +kernel) (by decide) rfl ?_
  refine ex_istore_n (q := 1) (np := 2) (lv1 := [(1, .int (1 : Int32)), (0, .ref 1)]) C (by decide) (by decide +kernel) rfl rfl ?_
  refine ex_iconst (n := 1) (v := 1) (np := 3) C (by decide +kernel) (by decide) rfl ?_
  refine ex_istore_n (q := 2) (np := 4) (lv1 := [(2, .int (1 : Int32)), (1, .int (1 : Int32)), (0, .ref 1)]) C (by decide) (by decide +kernel) rfl rfl ?_
  refine ex_aload_n (q := 0) (x := 1) (np := 5) C (by decide +kernel) rfl rfl ?_
  refine ex_lconst0 (np := 6) C (by decide +kernel) rfl ?_
  refine ex_putf (q := 6) (w1 := (WA x y (sL 0 (0 : Int64) σ))) (np := 9) C hc_X4 hin_X4 (by decide) tyX4_ok nmX4 tg_239 rfl (by decide +kernel) (WA_1 _ _ _) (Nat.le_of_ble_eq_true rfl) rfl rfl (WA_1_6 _ _ _ _) rfl ?_
  refine ex_aload_n (q := 0) (x := 1) (np := 10) C (by decide +kernel) rfl rfl ?_
  refine ex_iconst (n := 0) (v := 0) (np := 11) C (by decide +kernel) (by decide) rfl ?_
  refine ex_putf (q := 7) (w1 := (WA x y (sI 5 (0 : Int32) (sL 0 (0 : Int64) σ)))) (np := 14) C hc_X4 hin_X4 (by decide) tyX4_ok nmX4 tg_240 rfl (by decide +kernel) (WA_1 _ _ _) (Nat.le_of_ble_eq_true rfl) rfl rfl (WA_1_7 _ _ _ _) rfl ?_
  refine ex_iconst (n := 1) (v := 1) (np := 15) C (by decide +kernel) (by decide) rfl ?_
  refine ex_istore_n (q := 3) (np := 16) (lv1 := [(3, .int (1 : Int32)), (2, .int (1 : Int32)), (1, .int (1 : Int32)), (0, .ref 1)]) C (by decide) (by decide +kernel) rfl rfl ?_
  have hI9 := hI; unfold A_INV at hI9
  have loop : ∀ (k : Nat) (q iw nu dg : Int32) (L : Int64), 0 ≤ q.toInt → q.toInt ≤ (σ.1 0).toInt → (σ.1 0).toInt - q.toInt < k → A_readRun σ = A_rr σ k q iw nu dg L → ex_okP p l e R s m below meth c 7 X D A [.ref 1] (fun _ w => w = WA x y (A_readRun σ)) none (WA x y (sI 2 q (sI 5 dg (sL 0 L σ)))) 16 [(3, .int (1 : Int32)), (2, .int nu), (1, .int iw), (0, .ref 1)] [] := by
    intro k
    induction k with
    | zero => intro q iw nu dg L h0 h1 hk hs; exfalso; omega
    | succ k ih =>
      intro q iw nu dg L h0 h1 hk hs
      refine ex_iload_n (q := 3) (x := (1 : Int32)) (np := 17) C (by decide +kernel) rfl rfl ?_
      refine ex_if_eq (off := 211) (tgt := 228) (np := 20) C (by decide +kernel) (by decide) rfl (fun h1 => ?_) (fun h1 => ?_)
      · skip
        exact absurd h1 (by decide)
      · skip
        refine ex_aload_n (q := 0) (x := 1) (np := 21) C (by decide +kernel) rfl rfl ?_
        refine ex_getf (q := 3) (v := .int q) (np := 24) C hc_X4 hin_X4 (by decide) tg_234 (by decide +kernel) (WA_1 _ _ _) rfl rfl ?_
        refine ex_aload_n (q := 0) (x := 1) (np := 25) C (by decide +kernel) rfl rfl ?_
        refine ex_getf (q := 1) (v := .int (σ.1 0)) (np := 28) C hc_X4 hin_X4 (by decide) tg_231 (by decide +kernel) (WA_1 _ _ _) rfl rfl ?_
        refine ex_icmp_ge (off := 200) (tgt := 228) (np := 31) C (by decide +kernel) (by decide) rfl (fun h2 => ?_) (fun h2 => ?_)
        · skip
          refine ex_aload_n (q := 0) (x := 1) (np := 229) C (by decide +kernel) rfl rfl ?_
          refine ex_getf (q := 3) (v := .int q) (np := 232) C hc_X4 hin_X4 (by decide) tg_234 (by decide +kernel) (WA_1 _ _ _) rfl rfl ?_
          refine ex_aload_n (q := 0) (x := 1) (np := 233) C (by decide +kernel) rfl rfl ?_
          refine ex_getf (q := 4) (v := .int (σ.1 3)) (np := 236) C hc_X4 hin_X4 (by decide) tg_235 (by decide +kernel) (WA_1 _ _ _) rfl rfl ?_
          refine ex_icmp_le (off := 24) (tgt := 260) (np := 239) C (by decide +kernel) (by decide) rfl (fun h3 => ?_) (fun h3 => ?_)
          · skip
            refine ex_vret C hr hlk (by decide +kernel) (Nat.le_refl _) (Nat.le_refl _) ?_
            have E9 : A_readRun σ = (sI 2 q (sI 5 dg (sL 0 L σ))) := (hs.trans (A_rr_s.trans ((if_neg h2).trans ((if_neg h3).trans (rfl)))))
            rw [E9]
          · skip
            refine ex_aload_n (q := 0) (x := 1) (np := 240) C (by decide +kernel) rfl rfl ?_
            have J6 : ∀ v4 : Int32, v4 = A_rr257 iw nu → ex_okP p l e R s m below meth c 7 X D A [.ref 1] (fun _ w => w = WA x y (A_readRun σ)) none (WA x y (sI 2 q (sI 5 dg (sL 0 L σ)))) 257 [(3, .int (1 : Int32)), (2, .int nu), (1, .int iw), (0, .ref 1)] [.int v4, .ref 1] := by
              intro v4 hv5
              refine ex_putf (q := 5) (w1 := (WA x y (sI 4 v4 (sI 2 q (sI 5 dg (sL 0 L σ)))))) (np := 260) C hc_X4 hin_X4 (by decide) tyX4_ok nmX4 tg_236 rfl (by decide +kernel) (WA_1 _ _ _) (Nat.le_of_ble_eq_true rfl) rfl rfl (WA_1_5 _ _ _ _) rfl ?_
              refine ex_vret C hr hlk (by decide +kernel) (Nat.le_refl _) (Nat.le_refl _) ?_
              have E9 : A_readRun σ = (sI 4 v4 (sI 2 q (sI 5 dg (sL 0 L σ)))) := (hs.trans (A_rr_s.trans ((if_neg h2).trans ((if_pos h3).trans ((ex_lt_eq hv5).trans (rfl))))))
              rw [E9]
            refine ex_iload_n (q := 1) (x := iw) (np := 241) C (by decide +kernel) rfl rfl ?_
            refine ex_if_eq (off := 7) (tgt := 248) (np := 244) C (by decide +kernel) (by decide) rfl (fun h7 => ?_) (fun h7 => ?_)
            · skip
              refine ex_iload_n (q := 2) (x := nu) (np := 249) C (by decide +kernel) rfl rfl ?_
              refine ex_if_eq (off := 7) (tgt := 256) (np := 252) C (by decide +kernel) (by decide) rfl (fun h8 => ?_) (fun h8 => ?_)
              · skip
                refine ex_iconst (n := 0) (v := 0) (np := 257) C (by decide +kernel) (by decide) rfl ?_
                exact J6 _ (show A_rr257 iw nu = (0 : Int32) from by unfold A_rr257; exact (if_pos h7).trans ((if_pos h8).trans (rfl))).symm
              · skip
                refine ex_iconst (n := 3) (v := 3) (np := 253) C (by decide +kernel) (by decide) rfl ?_
                refine ex_goto (off := 4) (tgt := 257) C (by decide +kernel) (by decide) ?_
                exact J6 _ (show A_rr257 iw nu = (3 : Int32) from by unfold A_rr257; exact (if_pos h7).trans ((if_neg h8).trans (rfl))).symm
            · skip
              refine ex_iconst (n := 2) (v := 2) (np := 245) C (by decide +kernel) (by decide) rfl ?_
              refine ex_goto (off := 12) (tgt := 257) C (by decide +kernel) (by decide) ?_
              exact J6 _ (show A_rr257 iw nu = (2 : Int32) from by unfold A_rr257; exact (if_neg h7).trans (rfl)).symm
        · skip
          refine ex_aload_n (q := 0) (x := 1) (np := 32) C (by decide +kernel) rfl rfl ?_
          refine ex_getf (q := 0) (v := .ref 2) (np := 35) C hc_X4 hin_X4 (by decide) tg_229 (by decide +kernel) (WA_1 _ _ _) rfl rfl ?_
          refine ex_aload_n (q := 0) (x := 1) (np := 36) C (by decide +kernel) rfl rfl ?_
          refine ex_getf (q := 3) (v := .int q) (np := 39) C hc_X4 hin_X4 (by decide) tg_234 (by decide +kernel) (WA_1 _ _ _) rfl rfl ?_
          refine ex_iald (f := (σ.2.2.1 0)) (kk := (q).toNatClampNeg) (np := 40) C (by decide +kernel) (WA_2 _ _ _) (by have h9 := h2; show 0 ≤ q.toInt ∧ q.toInt < 940; omega) rfl rfl ?_
          refine ex_istore (i := 4) (np := 42) (lv1 := [(4, .int ((σ.2.2.1 0) (q).toNatClampNeg)), (3, .int (1 : Int32)), (2, .int nu), (1, .int iw), (0, .ref 1)]) C (by decide) (by decide +kernel) rfl rfl ?_
          have J12 : ∀ v10 : Int32, v10 = A_rr61 ((σ.2.2.1 0) (q).toNatClampNeg) → ex_okP p l e R s m below meth c 7 X D A [.ref 1] (fun _ w => w = WA x y (A_readRun σ)) none (WA x y (sI 2 q (sI 5 dg (sL 0 L σ)))) 61 [(4, .int ((σ.2.2.1 0) (q).toNatClampNeg)), (3, .int (1 : Int32)), (2, .int nu), (1, .int iw), (0, .ref 1)] [.int v10] := by
            intro v10 hv11
            refine ex_istore (i := 5) (np := 63) (lv1 := [(5, .int v10), (4, .int ((σ.2.2.1 0) (q).toNatClampNeg)), (3, .int (1 : Int32)), (2, .int nu), (1, .int iw), (0, .ref 1)]) C (by decide) (by decide +kernel) rfl rfl ?_
            have J15 : ∀ v13 : Int32, v13 = A_rr82 ((σ.2.2.1 0) (q).toNatClampNeg) → ex_okP p l e R s m below meth c 7 X D A [.ref 1] (fun _ w => w = WA x y (A_readRun σ)) none (WA x y (sI 2 q (sI 5 dg (sL 0 L σ)))) 82 [(5, .int v10), (4, .int ((σ.2.2.1 0) (q).toNatClampNeg)), (3, .int (1 : Int32)), (2, .int nu), (1, .int iw), (0, .ref 1)] [.int v13] := by
              intro v13 hv14
              refine ex_istore (i := 6) (np := 84) (lv1 := [(6, .int v13), (5, .int v10), (4, .int ((σ.2.2.1 0) (q).toNatClampNeg)), (3, .int (1 : Int32)), (2, .int nu), (1, .int iw), (0, .ref 1)]) C (by decide) (by decide +kernel) rfl rfl ?_
              have J18 : ∀ v16 : Int32, v16 = A_rr99 v10 v13 → ex_okP p l e R s m below meth c 7 X D A [.ref 1] (fun _ w => w = WA x y (A_readRun σ)) none (WA x y (sI 2 q (sI 5 dg (sL 0 L σ)))) 99 [(6, .int v13), (5, .int v10), (4, .int ((σ.2.2.1 0) (q).toNatClampNeg)), (3, .int (1 : Int32)), (2, .int nu), (1, .int iw), (0, .ref 1)] [.int v16] := by
                intro v16 hv17
                refine ex_istore_n (q := 3) (np := 100) (lv1 := [(3, .int v16), (6, .int v13), (5, .int v10), (4, .int ((σ.2.2.1 0) (q).toNatClampNeg)), (2, .int nu), (1, .int iw), (0, .ref 1)]) C (by decide) (by decide +kernel) rfl rfl ?_
                refine ex_iload_n (q := 3) (x := v16) (np := 101) C (by decide +kernel) rfl rfl ?_
                refine ex_if_eq (off := 124) (tgt := 225) (np := 104) C (by decide +kernel) (by decide) rfl (fun h19 => ?_) (fun h19 => ?_)
                · skip
                  refine ex_goto (off := (-209)) (tgt := 16) C (by decide +kernel) (by decide) ?_
                  refine ex_iload_n (q := 3) (x := v16) (np := 17) C (by decide +kernel) rfl rfl ?_
                  refine ex_if_eq (off := 211) (tgt := 228) (np := 20) C (by decide +kernel) (by decide) rfl (fun h20 => ?_) (fun h20 => ?_)
                  · skip
                    refine ex_aload_n (q := 0) (x := 1) (np := 229) C (by decide +kernel) rfl rfl ?_
                    refine ex_getf (q := 3) (v := .int q) (np := 232) C hc_X4 hin_X4 (by decide) tg_234 (by decide +kernel) (WA_1 _ _ _) rfl rfl ?_
                    refine ex_aload_n (q := 0) (x := 1) (np := 233) C (by decide +kernel) rfl rfl ?_
                    refine ex_getf (q := 4) (v := .int (σ.1 3)) (np := 236) C hc_X4 hin_X4 (by decide) tg_235 (by decide +kernel) (WA_1 _ _ _) rfl rfl ?_
                    refine ex_icmp_le (off := 24) (tgt := 260) (np := 239) C (by decide +kernel) (by decide) rfl (fun h21 => ?_) (fun h21 => ?_)
                    · skip
                      refine ex_vret C hr hlk (by decide +kernel) (Nat.le_refl _) (Nat.le_refl _) ?_
                      have E9 : A_readRun σ = (sI 2 q (sI 5 dg (sL 0 L σ))) := (hs.trans (A_rr_s.trans ((if_pos h2).trans ((ex_lt_eq hv11).trans ((ex_lt_eq hv14).trans ((ex_lt_eq hv17).trans ((if_pos h19).trans ((if_neg h21).trans (rfl)))))))))
                      rw [E9]
                    · skip
                      refine ex_aload_n (q := 0) (x := 1) (np := 240) C (by decide +kernel) rfl rfl ?_
                      have J24 : ∀ v22 : Int32, v22 = A_rr257 iw nu → ex_okP p l e R s m below meth c 7 X D A [.ref 1] (fun _ w => w = WA x y (A_readRun σ)) none (WA x y (sI 2 q (sI 5 dg (sL 0 L σ)))) 257 [(3, .int v16), (6, .int v13), (5, .int v10), (4, .int ((σ.2.2.1 0) (q).toNatClampNeg)), (2, .int nu), (1, .int iw), (0, .ref 1)] [.int v22, .ref 1] := by
                        intro v22 hv23
                        refine ex_putf (q := 5) (w1 := (WA x y (sI 4 v22 (sI 2 q (sI 5 dg (sL 0 L σ)))))) (np := 260) C hc_X4 hin_X4 (by decide) tyX4_ok nmX4 tg_236 rfl (by decide +kernel) (WA_1 _ _ _) (Nat.le_of_ble_eq_true rfl) rfl rfl (WA_1_5 _ _ _ _) rfl ?_
                        refine ex_vret C hr hlk (by decide +kernel) (Nat.le_refl _) (Nat.le_refl _) ?_
                        have E9 : A_readRun σ = (sI 4 v22 (sI 2 q (sI 5 dg (sL 0 L σ)))) := (hs.trans (A_rr_s.trans ((if_pos h2).trans ((ex_lt_eq hv11).trans ((ex_lt_eq hv14).trans ((ex_lt_eq hv17).trans ((if_pos h19).trans ((if_pos h21).trans ((ex_lt_eq hv23).trans (rfl))))))))))
                        rw [E9]
                      refine ex_iload_n (q := 1) (x := iw) (np := 241) C (by decide +kernel) rfl rfl ?_
                      refine ex_if_eq (off := 7) (tgt := 248) (np := 244) C (by decide +kernel) (by decide) rfl (fun h25 => ?_) (fun h25 => ?_)
                      · skip
                        refine ex_iload_n (q := 2) (x := nu) (np := 249) C (by decide +kernel) rfl rfl ?_
                        refine ex_if_eq (off := 7) (tgt := 256) (np := 252) C (by decide +kernel) (by decide) rfl (fun h26 => ?_) (fun h26 => ?_)
                        · skip
                          refine ex_iconst (n := 0) (v := 0) (np := 257) C (by decide +kernel) (by decide) rfl ?_
                          exact J24 _ (show A_rr257 iw nu = (0 : Int32) from by unfold A_rr257; exact (if_pos h25).trans ((if_pos h26).trans (rfl))).symm
                        · skip
                          refine ex_iconst (n := 3) (v := 3) (np := 253) C (by decide +kernel) (by decide) rfl ?_
                          refine ex_goto (off := 4) (tgt := 257) C (by decide +kernel) (by decide) ?_
                          exact J24 _ (show A_rr257 iw nu = (3 : Int32) from by unfold A_rr257; exact (if_pos h25).trans ((if_neg h26).trans (rfl))).symm
                      · skip
                        refine ex_iconst (n := 2) (v := 2) (np := 245) C (by decide +kernel) (by decide) rfl ?_
                        refine ex_goto (off := 12) (tgt := 257) C (by decide +kernel) (by decide) ?_
                        exact J24 _ (show A_rr257 iw nu = (2 : Int32) from by unfold A_rr257; exact (if_neg h25).trans (rfl)).symm
                  · skip
                    exact absurd h19 h20
                · skip
                  have J29 : ∀ v27 : Int32, v27 = A_rr132 iw v10 q (σ.1 3) → ex_okP p l e R s m below meth c 7 X D A [.ref 1] (fun _ w => w = WA x y (A_readRun σ)) none (WA x y (sI 2 q (sI 5 dg (sL 0 L σ)))) 132 [(3, .int v16), (6, .int v13), (5, .int v10), (4, .int ((σ.2.2.1 0) (q).toNatClampNeg)), (2, .int nu), (1, .int iw), (0, .ref 1)] [.int v27] := by
                    intro v27 hv28
                    refine ex_istore_n (q := 1) (np := 133) (lv1 := [(1, .int v27), (3, .int v16), (6, .int v13), (5, .int v10), (4, .int ((σ.2.2.1 0) (q).toNatClampNeg)), (2, .int nu), (0, .ref 1)]) C (by decide) (by decide +kernel) rfl rfl ?_
                    have J32 : ∀ v30 : Int32, v30 = A_rr160 nu v13 q (σ.1 3) → ex_okP p l e R s m below meth c 7 X D A [.ref 1] (fun _ w => w = WA x y (A_readRun σ)) none (WA x y (sI 2 q (sI 5 dg (sL 0 L σ)))) 160 [(1, .int v27), (3, .int v16), (6, .int v13), (5, .int v10), (4, .int ((σ.2.2.1 0) (q).toNatClampNeg)), (2, .int nu), (0, .ref 1)] [.int v30] := by
                      intro v30 hv31
                      refine ex_istore_n (q := 2) (np := 161) (lv1 := [(2, .int v30), (1, .int v27), (3, .int v16), (6, .int v13), (5, .int v10), (4, .int ((σ.2.2.1 0) (q).toNatClampNeg)), (0, .ref 1)]) C (by decide) (by decide +kernel) rfl rfl ?_
                      refine ex_aload_n (q := 0) (x := 1) (np := 162) C (by decide +kernel) rfl rfl ?_
                      have J35 : ∀ v33 : Int64, v33 = A_rr184 v27 L ((σ.2.2.1 0) (q).toNatClampNeg) → ex_okP p l e R s m below meth c 7 X D A [.ref 1] (fun _ w => w = WA x y (A_readRun σ)) none (WA x y (sI 2 q (sI 5 dg (sL 0 L σ)))) 184 [(2, .int v30), (1, .int v27), (3, .int v16), (6, .int v13), (5, .int v10), (4, .int ((σ.2.2.1 0) (q).toNatClampNeg)), (0, .ref 1)] [.long v33, .ref 1] := by
                        intro v33 hv34
                        refine ex_putf (q := 6) (w1 := (WA x y (sL 0 v33 (sI 2 q (sI 5 dg (sL 0 L σ)))))) (np := 187) C hc_X4 hin_X4 (by decide) tyX4_ok nmX4 tg_239 rfl (by decide +kernel) (WA_1 _ _ _) (Nat.le_of_ble_eq_true rfl) rfl rfl (WA_1_6 _ _ _ _) rfl ?_
                        refine ex_aload_n (q := 0) (x := 1) (np := 188) C (by decide +kernel) rfl rfl ?_
                        have J38 : ∀ v36 : Int32, v36 = A_rr212 v30 dg ((σ.2.2.1 0) (q).toNatClampNeg) → ex_okP p l e R s m below meth c 7 X D A [.ref 1] (fun _ w => w = WA x y (A_readRun σ)) none (WA x y (sL 0 v33 (sI 2 q (sI 5 dg (sL 0 L σ))))) 212 [(2, .int v30), (1, .int v27), (3, .int v16), (6, .int v13), (5, .int v10), (4, .int ((σ.2.2.1 0) (q).toNatClampNeg)), (0, .ref 1)] [.int v36, .ref 1] := by
                          intro v36 hv37
                          refine ex_putf (q := 7) (w1 := (WA x y (sI 5 v36 (sL 0 v33 (sI 2 q (sI 5 dg (sL 0 L σ))))))) (np := 215) C hc_X4 hin_X4 (by decide) tyX4_ok nmX4 tg_240 rfl (by decide +kernel) (WA_1 _ _ _) (Nat.le_of_ble_eq_true rfl) rfl rfl (WA_1_7 _ _ _ _) rfl ?_
                          refine ex_aload_n (q := 0) (x := 1) (np := 216) C (by decide +kernel) rfl rfl ?_
                          refine ex_dup (np := 217) C rfl (by decide +kernel) rfl ?_
                          refine ex_getf (q := 3) (v := .int q) (np := 220) C hc_X4 hin_X4 (by decide) tg_234 (by decide +kernel) (WA_1 _ _ _) rfl rfl ?_
                          refine ex_iconst (n := 1) (v := 1) (np := 221) C (by decide +kernel) (by decide) rfl ?_
                          refine ex_iadd (v := (q + (1 : Int32))) (np := 222) C (by decide +kernel) rfl rfl ?_
                          refine ex_putf (q := 3) (w1 := (WA x y (sI 2 (q + (1 : Int32)) (sI 5 v36 (sL 0 v33 (sI 2 q (sI 5 dg (sL 0 L σ)))))))) (np := 225) C hc_X4 hin_X4 (by decide) tyX4_ok nmX4 tg_234 rfl (by decide +kernel) (WA_1 _ _ _) (Nat.le_of_ble_eq_true rfl) rfl rfl (WA_1_3 _ _ _ _) rfl ?_
                          refine ex_goto (off := (-209)) (tgt := 16) C (by decide +kernel) (by decide) ?_
                          refine ex_drop (lv1 := [(3, .int v16), (2, .int v30), (1, .int v27), (0, .ref 1)]) [2, 0, 1, 6] rfl ?_
                          rw [ex_can]
                          have g1 : v16 = 1 := ex_one (by rw [hv17]; exact A_rr99_b _ _) h19
                          rw [g1]
                          exact ih _ _ _ _ _ (by rw [ex_inc h2]; omega) (by rw [ex_inc h2]; omega) (by rw [ex_inc h2]; omega) (hs.trans (A_rr_s.trans ((if_pos h2).trans ((ex_lt_eq hv11).trans ((ex_lt_eq hv14).trans ((ex_lt_eq hv17).trans ((if_neg h19).trans ((ex_lt_eq hv28).trans ((ex_lt_eq hv31).trans ((ex_lt_eq hv34).trans ((ex_lt_eq hv37).trans (rfl))))))))))))
                        refine ex_iload_n (q := 2) (x := v30) (np := 189) C (by decide +kernel) rfl rfl ?_
                        refine ex_if_eq (off := 19) (tgt := 208) (np := 192) C (by decide +kernel) (by decide) rfl (fun h39 => ?_) (fun h39 => ?_)
                        · skip
                          refine ex_aload_n (q := 0) (x := 1) (np := 209) C (by decide +kernel) rfl rfl ?_
                          refine ex_getf (q := 7) (v := .int dg) (np := 212) C hc_X4 hin_X4 (by decide) tg_240 (by decide +kernel) (WA_1 _ _ _) rfl rfl ?_
                          exact J38 _ (show A_rr212 v30 dg ((σ.2.2.1 0) (q).toNatClampNeg) = dg from by unfold A_rr212; exact (if_pos h39).trans (rfl)).symm
                        · skip
                          refine ex_aload_n (q := 0) (x := 1) (np := 193) C (by decide +kernel) rfl rfl ?_
                          refine ex_getf (q := 7) (v := .int dg) (np := 196) C hc_X4 hin_X4 (by decide) tg_240 (by decide +kernel) (WA_1 _ _ _) rfl rfl ?_
                          refine ex_bipush (n := 10) (v := 10) (np := 198) C (by decide +kernel) (by decide) rfl ?_
                          refine ex_imul (v := (dg * (10 : Int32))) (np := 199) C (by decide +kernel) rfl rfl ?_
                          refine ex_iload (i := 4) (x := ((σ.2.2.1 0) (q).toNatClampNeg)) (np := 201) C (by decide +kernel) rfl rfl ?_
                          refine ex_iadd (v := ((dg * (10 : Int32)) + ((σ.2.2.1 0) (q).toNatClampNeg))) (np := 202) C (by decide +kernel) rfl rfl ?_
                          refine ex_bipush (n := 48) (v := 48) (np := 204) C (by decide +kernel) (by decide) rfl ?_
                          refine ex_isub (v := (((dg * (10 : Int32)) + ((σ.2.2.1 0) (q).toNatClampNeg)) - (48 : Int32))) (np := 205) C (by decide +kernel) rfl rfl ?_
                          refine ex_goto (off := 7) (tgt := 212) C (by decide +kernel) (by decide) ?_
                          exact J38 _ (show A_rr212 v30 dg ((σ.2.2.1 0) (q).toNatClampNeg) = (((dg * (10 : Int32)) + ((σ.2.2.1 0) (q).toNatClampNeg)) - (48 : Int32)) from by unfold A_rr212; exact (if_neg h39).trans (rfl)).symm
                      refine ex_iload_n (q := 1) (x := v27) (np := 163) C (by decide +kernel) rfl rfl ?_
                      refine ex_if_eq (off := 17) (tgt := 180) (np := 166) C (by decide +kernel) (by decide) rfl (fun h40 => ?_) (fun h40 => ?_)
                      · skip
                        refine ex_aload_n (q := 0) (x := 1) (np := 181) C (by decide +kernel) rfl rfl ?_
                        refine ex_getf (q := 6) (v := .long L) (np := 184) C hc_X4 hin_X4 (by decide) tg_239 (by decide +kernel) (WA_1 _ _ _) rfl rfl ?_
                        exact J35 _ (show A_rr184 v27 L ((σ.2.2.1 0) (q).toNatClampNeg) = L from by unfold A_rr184; exact (if_pos h40).trans (rfl)).symm
                      · skip
                        refine ex_aload_n (q := 0) (x := 1) (np := 167) C (by decide +kernel) rfl rfl ?_
                        refine ex_getf (q := 6) (v := .long L) (np := 170) C hc_X4 hin_X4 (by decide) tg_239 (by decide +kernel) (WA_1 _ _ _) rfl rfl ?_
                        refine ex_bipush (n := 8) (v := 8) (np := 172) C (by decide +kernel) (by decide) rfl ?_
                        refine ex_lshl (np := 173) C (by decide +kernel) rfl ?_
                        refine ex_iload (i := 4) (x := ((σ.2.2.1 0) (q).toNatClampNeg)) (np := 175) C (by decide +kernel) rfl rfl ?_
                        refine ex_i2l (np := 176) C (by decide +kernel) rfl ?_
                        refine ex_lor (np := 177) C (by decide +kernel) rfl ?_
                        refine ex_goto (off := 7) (tgt := 184) C (by decide +kernel) (by decide) ?_
                        exact J35 _ (show A_rr184 v27 L ((σ.2.2.1 0) (q).toNatClampNeg) = ((L <<< (((8 : Int32)).toInt64 &&& 63)) ||| ((σ.2.2.1 0) (q).toNatClampNeg).toInt64) from by unfold A_rr184; exact (if_neg h40).trans (rfl)).symm
                    refine ex_iload_n (q := 2) (x := nu) (np := 134) C (by decide +kernel) rfl rfl ?_
                    refine ex_if_eq (off := 25) (tgt := 159) (np := 137) C (by decide +kernel) (by decide) rfl (fun h41 => ?_) (fun h41 => ?_)
                    · skip
                      refine ex_iconst (n := 0) (v := 0) (np := 160) C (by decide +kernel) (by decide) rfl ?_
                      exact J32 _ (show A_rr160 nu v13 q (σ.1 3) = (0 : Int32) from by unfold A_rr160; exact (if_pos h41).trans (rfl)).symm
                    · skip
                      refine ex_iload (i := 6) (x := v13) (np := 139) C (by decide +kernel) rfl rfl ?_
                      refine ex_if_eq (off := 20) (tgt := 159) (np := 142) C (by decide +kernel) (by decide) rfl (fun h42 => ?_) (fun h42 => ?_)
                      · skip
                        refine ex_iconst (n := 0) (v := 0) (np := 160) C (by decide +kernel) (by decide) rfl ?_
                        exact J32 _ (show A_rr160 nu v13 q (σ.1 3) = (0 : Int32) from by unfold A_rr160; exact (if_neg h41).trans ((if_pos h42).trans (rfl))).symm
                      · skip
                        refine ex_aload_n (q := 0) (x := 1) (np := 143) C (by decide +kernel) rfl rfl ?_
                        refine ex_getf (q := 3) (v := .int q) (np := 146) C hc_X4 hin_X4 (by decide) tg_234 (by decide +kernel) (WA_1 _ _ _) rfl rfl ?_
                        refine ex_aload_n (q := 0) (x := 1) (np := 147) C (by decide +kernel) rfl rfl ?_
                        refine ex_getf (q := 4) (v := .int (σ.1 3)) (np := 150) C hc_X4 hin_X4 (by decide) tg_235 (by decide +kernel) (WA_1 _ _ _) rfl rfl ?_
                        refine ex_isub (v := (q - (σ.1 3))) (np := 151) C (by decide +kernel) rfl rfl ?_
                        refine ex_iconst (n := 3) (v := 3) (np := 152) C (by decide +kernel) (by decide) rfl ?_
                        refine ex_icmp_ge (off := 7) (tgt := 159) (np := 155) C (by decide +kernel) (by decide) rfl (fun h43 => ?_) (fun h43 => ?_)
                        · skip
                          refine ex_iconst (n := 0) (v := 0) (np := 160) C (by decide +kernel) (by decide) rfl ?_
                          exact J32 _ (show A_rr160 nu v13 q (σ.1 3) = (0 : Int32) from by unfold A_rr160; exact (if_neg h41).trans ((if_neg h42).trans ((if_neg h43).trans (rfl)))).symm
                        · skip
                          refine ex_iconst (n := 1) (v := 1) (np := 156) C (by decide +kernel) (by decide) rfl ?_
                          refine ex_goto (off := 4) (tgt := 160) C (by decide +kernel) (by decide) ?_
                          exact J32 _ (show A_rr160 nu v13 q (σ.1 3) = (1 : Int32) from by unfold A_rr160; exact (if_neg h41).trans ((if_neg h42).trans ((if_pos h43).trans (rfl)))).symm
                  refine ex_iload_n (q := 1) (x := iw) (np := 105) C (by decide +kernel) rfl rfl ?_
                  refine ex_if_eq (off := 26) (tgt := 131) (np := 108) C (by decide +kernel) (by decide) rfl (fun h44 => ?_) (fun h44 => ?_)
                  · skip
                    refine ex_iconst (n := 0) (v := 0) (np := 132) C (by decide +kernel) (by decide) rfl ?_
                    exact J29 _ (show A_rr132 iw v10 q (σ.1 3) = (0 : Int32) from by unfold A_rr132; exact (if_pos h44).trans (rfl)).symm
                  · skip
                    refine ex_iload (i := 5) (x := v10) (np := 110) C (by decide +kernel) rfl rfl ?_
                    refine ex_if_eq (off := 21) (tgt := 131) (np := 113) C (by decide +kernel) (by decide) rfl (fun h45 => ?_) (fun h45 => ?_)
                    · skip
                      refine ex_iconst (n := 0) (v := 0) (np := 132) C (by decide +kernel) (by decide) rfl ?_
                      exact J29 _ (show A_rr132 iw v10 q (σ.1 3) = (0 : Int32) from by unfold A_rr132; exact (if_neg h44).trans ((if_pos h45).trans (rfl))).symm
                    · skip
                      refine ex_aload_n (q := 0) (x := 1) (np := 114) C (by decide +kernel) rfl rfl ?_
                      refine ex_getf (q := 3) (v := .int q) (np := 117) C hc_X4 hin_X4 (by decide) tg_234 (by decide +kernel) (WA_1 _ _ _) rfl rfl ?_
                      refine ex_aload_n (q := 0) (x := 1) (np := 118) C (by decide +kernel) rfl rfl ?_
                      refine ex_getf (q := 4) (v := .int (σ.1 3)) (np := 121) C hc_X4 hin_X4 (by decide) tg_235 (by decide +kernel) (WA_1 _ _ _) rfl rfl ?_
                      refine ex_isub (v := (q - (σ.1 3))) (np := 122) C (by decide +kernel) rfl rfl ?_
                      refine ex_bipush (n := 7) (v := 7) (np := 124) C (by decide +kernel) (by decide) rfl ?_
                      refine ex_icmp_ge (off := 7) (tgt := 131) (np := 127) C (by decide +kernel) (by decide) rfl (fun h46 => ?_) (fun h46 => ?_)
                      · skip
                        refine ex_iconst (n := 0) (v := 0) (np := 132) C (by decide +kernel) (by decide) rfl ?_
                        exact J29 _ (show A_rr132 iw v10 q (σ.1 3) = (0 : Int32) from by unfold A_rr132; exact (if_neg h44).trans ((if_neg h45).trans ((if_neg h46).trans (rfl)))).symm
                      · skip
                        refine ex_iconst (n := 1) (v := 1) (np := 128) C (by decide +kernel) (by decide) rfl ?_
                        refine ex_goto (off := 4) (tgt := 132) C (by decide +kernel) (by decide) ?_
                        exact J29 _ (show A_rr132 iw v10 q (σ.1 3) = (1 : Int32) from by unfold A_rr132; exact (if_neg h44).trans ((if_neg h45).trans ((if_pos h46).trans (rfl)))).symm
              refine ex_iload (i := 5) (x := v10) (np := 86) C (by decide +kernel) rfl rfl ?_
              refine ex_if_ne (off := 8) (tgt := 94) (np := 89) C (by decide +kernel) (by decide) rfl (fun h47 => ?_) (fun h47 => ?_)
              · skip
                refine ex_iconst (n := 1) (v := 1) (np := 95) C (by decide +kernel) (by decide) rfl ?_
                refine ex_goto (off := 4) (tgt := 99) C (by decide +kernel) (by decide) ?_
                exact J18 _ (show A_rr99 v10 v13 = (1 : Int32) from by unfold A_rr99; exact (if_neg h47).trans (rfl)).symm
              · skip
                refine ex_iload (i := 6) (x := v13) (np := 91) C (by decide +kernel) rfl rfl ?_
                refine ex_if_eq (off := 7) (tgt := 98) (np := 94) C (by decide +kernel) (by decide) rfl (fun h48 => ?_) (fun h48 => ?_)
                · skip
                  refine ex_iconst (n := 0) (v := 0) (np := 99) C (by decide +kernel) (by decide) rfl ?_
                  exact J18 _ (show A_rr99 v10 v13 = (0 : Int32) from by unfold A_rr99; exact (if_pos h47).trans ((if_pos h48).trans (rfl))).symm
                · skip
                  refine ex_iconst (n := 1) (v := 1) (np := 95) C (by decide +kernel) (by decide) rfl ?_
                  refine ex_goto (off := 4) (tgt := 99) C (by decide +kernel) (by decide) ?_
                  exact J18 _ (show A_rr99 v10 v13 = (1 : Int32) from by unfold A_rr99; exact (if_pos h47).trans ((if_neg h48).trans (rfl))).symm
            refine ex_iload (i := 4) (x := ((σ.2.2.1 0) (q).toNatClampNeg)) (np := 65) C (by decide +kernel) rfl rfl ?_
            refine ex_bipush (n := 48) (v := 48) (np := 67) C (by decide +kernel) (by decide) rfl ?_
            refine ex_icmp_lt (off := 14) (tgt := 81) (np := 70) C (by decide +kernel) (by decide) rfl (fun h49 => ?_) (fun h49 => ?_)
            · skip
              refine ex_iconst (n := 0) (v := 0) (np := 82) C (by decide +kernel) (by decide) rfl ?_
              exact J15 _ (show A_rr82 ((σ.2.2.1 0) (q).toNatClampNeg) = (0 : Int32) from by unfold A_rr82; exact (if_pos h49).trans (rfl)).symm
            · skip
              refine ex_iload (i := 4) (x := ((σ.2.2.1 0) (q).toNatClampNeg)) (np := 72) C (by decide +kernel) rfl rfl ?_
              refine ex_bipush (n := 57) (v := 57) (np := 74) C (by decide +kernel) (by decide) rfl ?_
              refine ex_icmp_gt (off := 7) (tgt := 81) (np := 77) C (by decide +kernel) (by decide) rfl (fun h50 => ?_) (fun h50 => ?_)
              · skip
                refine ex_iconst (n := 0) (v := 0) (np := 82) C (by decide +kernel) (by decide) rfl ?_
                exact J15 _ (show A_rr82 ((σ.2.2.1 0) (q).toNatClampNeg) = (0 : Int32) from by unfold A_rr82; exact (if_neg h49).trans ((if_pos h50).trans (rfl))).symm
              · skip
                refine ex_iconst (n := 1) (v := 1) (np := 78) C (by decide +kernel) (by decide) rfl ?_
                refine ex_goto (off := 4) (tgt := 82) C (by decide +kernel) (by decide) ?_
                exact J15 _ (show A_rr82 ((σ.2.2.1 0) (q).toNatClampNeg) = (1 : Int32) from by unfold A_rr82; exact (if_neg h49).trans ((if_neg h50).trans (rfl))).symm
          refine ex_iload (i := 4) (x := ((σ.2.2.1 0) (q).toNatClampNeg)) (np := 44) C (by decide +kernel) rfl rfl ?_
          refine ex_bipush (n := 97) (v := 97) (np := 46) C (by decide +kernel) (by decide) rfl ?_
          refine ex_icmp_lt (off := 14) (tgt := 60) (np := 49) C (by decide +kernel) (by decide) rfl (fun h51 => ?_) (fun h51 => ?_)
          · skip
            refine ex_iconst (n := 0) (v := 0) (np := 61) C (by decide +kernel) (by decide) rfl ?_
            exact J12 _ (show A_rr61 ((σ.2.2.1 0) (q).toNatClampNeg) = (0 : Int32) from by unfold A_rr61; exact (if_pos h51).trans (rfl)).symm
          · skip
            refine ex_iload (i := 4) (x := ((σ.2.2.1 0) (q).toNatClampNeg)) (np := 51) C (by decide +kernel) rfl rfl ?_
            refine ex_bipush (n := 122) (v := 122) (np := 53) C (by decide +kernel) (by decide) rfl ?_
            refine ex_icmp_gt (off := 7) (tgt := 60) (np := 56) C (by decide +kernel) (by decide) rfl (fun h52 => ?_) (fun h52 => ?_)
            · skip
              refine ex_iconst (n := 0) (v := 0) (np := 61) C (by decide +kernel) (by decide) rfl ?_
              exact J12 _ (show A_rr61 ((σ.2.2.1 0) (q).toNatClampNeg) = (0 : Int32) from by unfold A_rr61; exact (if_neg h51).trans ((if_pos h52).trans (rfl))).symm
            · skip
              refine ex_iconst (n := 1) (v := 1) (np := 57) C (by decide +kernel) (by decide) rfl ?_
              refine ex_goto (off := 4) (tgt := 61) C (by decide +kernel) (by decide) ?_
              exact J12 _ (show A_rr61 ((σ.2.2.1 0) (q).toNatClampNeg) = (1 : Int32) from by unfold A_rr61; exact (if_neg h51).trans ((if_neg h52).trans (rfl))).symm
  have h9 := loop 941 (σ.1 2) 1 1 0 0 (by omega) (by omega) (by omega) rfl
  rw [ex_id (k := 2) (σ := sI 5 0 (sL 0 0 σ)) (v := σ.1 2) rfl] at h9
  exact h9
set_option maxRecDepth 100000 in
set_option maxHeartbeats 4000000 in
theorem m_X4_next {l : Launch} {X : ab_X} {D : va_G} {A : ex_A} (d : Nat) (hd : 2 ≤ d) (x : Nat × List ex_E) (y : Nat) (σ : ex_S) (hI : A_INV σ) : ex_ctr l X D A d yX4_next cX4_next 1 none (WA x y σ) [.ref 1] (fun _ w => w = WA x y (A_next σ)) := by
  obtain ⟨d, rfl⟩ : ∃ d9, d = d9 + 1 := ⟨d - 1, by omega⟩
  refine ex_meth (own := RX4) rfl (by decide) (Nat.le_of_ble_eq_true rfl) (fun p e R s m below meth c C hr hlk hd1 hd2 => ?_)
  show ex_ok p l e R s m _ below meth c 0 0 _ 1 X D A (WA x y σ) 0 [(0, .ref 1)] []
  have rest : ∀ τ : ex_S, A_INV τ → A_next σ = A_nxt τ → ex_okP p l e R s m below meth c 1 X D A [.ref 1] (fun _ w => w = WA x y (A_next σ)) none (WA x y τ) 52 [(0, .ref 1)] [] := by
    intro τ hI h9
    have hI9 := hI; unfold A_INV at hI9
    refine ex_aload_n (q := 0) (x := 1) (np := 53) C (by decide +kernel) rfl rfl ?_
    refine ex_aload_n (q := 0) (x := 1) (np := 54) C (by decide +kernel) rfl rfl ?_
    refine ex_getf (q := 3) (v := .int (τ.1 2)) (np := 57) C hc_X4 hin_X4 (by decide) tg_234 (by decide +kernel) (WA_1 _ _ _) rfl rfl ?_
    refine ex_putf (q := 4) (w1 := (WA x y (sI 3 (τ.1 2) τ))) (np := 60) C hc_X4 hin_X4 (by decide) tyX4_ok nmX4 tg_235 rfl (by decide +kernel) (WA_1 _ _ _) (Nat.le_of_ble_eq_true rfl) rfl rfl (WA_1_4 _ _ _ _) rfl ?_
    refine ex_aload_n (q := 0) (x := 1) (np := 61) C (by decide +kernel) rfl rfl ?_
    refine ex_iconst (n := 0) (v := 0) (np := 62) C (by decide +kernel) (by decide) rfl ?_
    refine ex_putf (q := 5) (w1 := (WA x y (sI 4 (0 : Int32) (sI 3 (τ.1 2) τ)))) (np := 65) C hc_X4 hin_X4 (by decide) tyX4_ok nmX4 tg_236 rfl (by decide +kernel) (WA_1 _ _ _) (Nat.le_of_ble_eq_true rfl) rfl rfl (WA_1_5 _ _ _ _) rfl ?_
    refine ex_aload_n (q := 0) (x := 1) (np := 66) C (by decide +kernel) rfl rfl ?_
    refine ex_iconst (n := (-1)) (v := (-1)) (np := 67) C (by decide +kernel) (by decide) rfl ?_
    refine ex_putf (q := 8) (w1 := (WA x y (sI 6 (-1 : Int32) (sI 4 (0 : Int32) (sI 3 (τ.1 2) τ))))) (np := 70) C hc_X4 hin_X4 (by decide) tyX4_ok nmX4 tg_241 rfl (by decide +kernel) (WA_1 _ _ _) (Nat.le_of_ble_eq_true rfl) rfl rfl (WA_1_8 _ _ _ _) rfl ?_
    refine ex_aload_n (q := 0) (x := 1) (np := 71) C (by decide +kernel) rfl rfl ?_
    refine ex_getf (q := 1) (v := .int (τ.1 0)) (np := 74) C hc_X4 hin_X4 (by decide) tg_231 (by decide +kernel) (WA_1 _ _ _) rfl rfl ?_
    refine ex_aload_n (q := 0) (x := 1) (np := 75) C (by decide +kernel) rfl rfl ?_
    refine ex_getf (q := 2) (v := .int (τ.1 1)) (np := 78) C hc_X4 hin_X4 (by decide) tg_233 (by decide +kernel) (WA_1 _ _ _) rfl rfl ?_
    refine ex_icmp_le (off := 25) (tgt := 103) (np := 81) C (by decide +kernel) (by decide) rfl (fun h1 => ?_) (fun h1 => ?_)
    · skip
      refine ex_aload_n (q := 0) (x := 1) (np := 104) C (by decide +kernel) rfl rfl ?_
      refine ex_getf (q := 4) (v := .int (τ.1 2)) (np := 107) C hc_X4 hin_X4 (by decide) tg_235 (by decide +kernel) (WA_1 _ _ _) rfl rfl ?_
      refine ex_aload_n (q := 0) (x := 1) (np := 108) C (by decide +kernel) rfl rfl ?_
      refine ex_getf (q := 1) (v := .int (τ.1 0)) (np := 111) C hc_X4 hin_X4 (by decide) tg_231 (by decide +kernel) (WA_1 _ _ _) rfl rfl ?_
      refine ex_icmp_lt (off := 11) (tgt := 122) (np := 114) C (by decide +kernel) (by decide) rfl (fun h2 => ?_) (fun h2 => ?_)
      · skip
        refine ex_aload_n (q := 0) (x := 1) (np := 123) C (by decide +kernel) rfl rfl ?_
        refine ex_getf (q := 0) (v := .ref 2) (np := 126) C hc_X4 hin_X4 (by decide) tg_229 (by decide +kernel) (WA_1 _ _ _) rfl rfl ?_
        refine ex_aload_n (q := 0) (x := 1) (np := 127) C (by decide +kernel) rfl rfl ?_
        refine ex_getf (q := 4) (v := .int (τ.1 2)) (np := 130) C hc_X4 hin_X4 (by decide) tg_235 (by decide +kernel) (WA_1 _ _ _) rfl rfl ?_
        refine ex_iald (f := (τ.2.2.1 0)) (kk := ((τ.1 2)).toNatClampNeg) (np := 131) C (by decide +kernel) (WA_2 _ _ _) (by have h8 := h2; exact ⟨hI9.2.1.1, by omega⟩) rfl rfl ?_
        refine ex_call_i (np := 134) (fun ws H locs ls hR hsz => ex_runS C (m_X4_isSign d (by omega) (WA x y (sI 6 (-1 : Int32) (sI 4 (0 : Int32) (sI 3 (τ.1 2) τ)))) ((τ.2.2.1 0) ((τ.1 2)).toNatClampNeg)) hd1 hd2 (by decide) hy_X4_isSign tg_670 rfl rfl (Nat.le_of_ble_eq_true rfl) tg_668 tg_669 tg_144 (by decide +kernel) ws H locs ls hR hsz (Nat.zero_le _) (Nat.zero_le _)) rfl (fun r3 w1 hpo => ?_)
        obtain ⟨q4, rfl⟩ := hpo
        refine ex_if_eq (off := 29) (tgt := 163) (np := 137) C (by decide +kernel) (by decide) rfl (fun h5 => ?_) (fun h5 => ?_)
        · skip
          refine ex_aload_n (q := 0) (x := 1) (np := 164) C (by decide +kernel) rfl rfl ?_
          obtain ⟨σ6, q7⟩ : ∃ x, x = A_readRun (sI 6 (-1 : Int32) (sI 4 (0 : Int32) (sI 3 (τ.1 2) τ))) := ⟨_, rfl⟩
          refine ex_call_v (np := 167) (fun ws H locs ls hR hsz => ex_runV (C1 := "") C (m_X4_readRun d (by omega) x y (sI 6 (-1 : Int32) (sI 4 (0 : Int32) (sI 3 (τ.1 2) τ))) hI) hd1 hd2 (by decide) hy_X4_readRun tg_674 hc_X4 rfl (WA_1 _ _ _) rfl rfl (Nat.le_of_ble_eq_true rfl) rfl tg_671 tg_673 tg_5 tg_144 (by decide +kernel) ws H locs ls hR hsz (Nat.zero_le _) (Nat.zero_le _)) rfl (fun w1 hpo => ?_)
          rw [← q7] at hpo
          subst hpo
          have hI8 := inv_X4_readRun (sI 6 (-1 : Int32) (sI 4 (0 : Int32) (sI 3 (τ.1 2) τ))) hI; rw [← q7] at hI8
          refine ex_aload_n (q := 0) (x := 1) (np := 168) C (by decide +kernel) rfl rfl ?_
          refine ex_aload_n (q := 0) (x := 1) (np := 169) C (by decide +kernel) rfl rfl ?_
          refine ex_getf (q := 5) (v := .int (σ6.1 4)) (np := 172) C hc_X4 hin_X4 (by decide) tg_236 (by decide +kernel) (WA_1 _ _ _) rfl rfl ?_
          refine ex_iconst (n := 2) (v := 2) (np := 173) C (by decide +kernel) (by decide) rfl ?_
          refine ex_icmp_ne (off := 10) (tgt := 183) (np := 176) C (by decide +kernel) (by decide) rfl (fun h10 => ?_) (fun h10 => ?_)
          · skip
            refine ex_iconst (n := (-1)) (v := (-1)) (np := 184) C (by decide +kernel) (by decide) rfl ?_
            refine ex_putf (q := 8) (w1 := (WA x y (sI 6 (-1 : Int32) σ6))) (np := 187) C hc_X4 hin_X4 (by decide) tyX4_ok nmX4 tg_241 rfl (by decide +kernel) (WA_1 _ _ _) (Nat.le_of_ble_eq_true rfl) rfl rfl (WA_1_8 _ _ _ _) rfl ?_
            refine ex_vret C hr hlk (by decide +kernel) (Nat.le_refl _) (Nat.le_refl _) ?_
            have E9 : A_next σ = (sI 6 (-1 : Int32) σ6) := (h9.trans (by unfold A_nxt; exact (if_neg h1).trans ((if_pos h2).trans ((ex_lt_eq q4).trans ((if_pos h5).trans ((ex_lt_eq q7).trans ((if_neg h10).trans (rfl))))))))
            rw [E9]
          · skip
            refine ex_aload_n (q := 0) (x := 1) (np := 177) C (by decide +kernel) rfl rfl ?_
            refine ex_call_i (np := 180) (fun ws H locs ls hR hsz => ex_runV (C1 := "") C (m_X4_toldWord d (by omega) x y σ6) hd1 hd2 (by decide) hy_X4_toldWord tg_678 hc_X4 rfl (WA_1 _ _ _) rfl rfl (Nat.le_of_ble_eq_true rfl) rfl tg_675 tg_677 tg_6 tg_144 (by decide +kernel) ws H locs ls hR hsz (Nat.zero_le _) (Nat.zero_le _)) rfl (fun r11 w1 hpo => ?_)
            obtain ⟨q12, rfl⟩ := hpo
            refine ex_goto (off := 4) (tgt := 184) C (by decide +kernel) (by decide) ?_
            refine ex_putf (q := 8) (w1 := (WA x y (sI 6 r11 σ6))) (np := 187) C hc_X4 hin_X4 (by decide) tyX4_ok nmX4 tg_241 rfl (by decide +kernel) (WA_1 _ _ _) (Nat.le_of_ble_eq_true rfl) rfl rfl (WA_1_8 _ _ _ _) rfl ?_
            refine ex_vret C hr hlk (by decide +kernel) (Nat.le_refl _) (Nat.le_refl _) ?_
            have E9 : A_next σ = (sI 6 r11 σ6) := (h9.trans (by unfold A_nxt; exact (if_neg h1).trans ((if_pos h2).trans ((ex_lt_eq q4).trans ((if_pos h5).trans ((ex_lt_eq q7).trans ((if_pos h10).trans ((ex_lt_eq q12).trans (rfl)))))))))
            rw [E9]
        · skip
          refine ex_aload_n (q := 0) (x := 1) (np := 138) C (by decide +kernel) rfl rfl ?_
          refine ex_aload_n (q := 0) (x := 1) (np := 139) C (by decide +kernel) rfl rfl ?_
          refine ex_getf (q := 0) (v := .ref 2) (np := 142) C hc_X4 hin_X4 (by decide) tg_229 (by decide +kernel) (WA_1 _ _ _) rfl rfl ?_
          refine ex_aload_n (q := 0) (x := 1) (np := 143) C (by decide +kernel) rfl rfl ?_
          refine ex_getf (q := 4) (v := .int (τ.1 2)) (np := 146) C hc_X4 hin_X4 (by decide) tg_235 (by decide +kernel) (WA_1 _ _ _) rfl rfl ?_
          refine ex_iald (f := (τ.2.2.1 0)) (kk := ((τ.1 2)).toNatClampNeg) (np := 147) C (by decide +kernel) (WA_2 _ _ _) (by have h8 := h2; exact ⟨hI9.2.1.1, by omega⟩) rfl rfl ?_
          refine ex_putf (q := 5) (w1 := (WA x y (sI 4 ((τ.2.2.1 0) ((τ.1 2)).toNatClampNeg) (sI 6 (-1 : Int32) (sI 4 (0 : Int32) (sI 3 (τ.1 2) τ)))))) (np := 150) C hc_X4 hin_X4 (by decide) tyX4_ok nmX4 tg_236 rfl (by decide +kernel) (WA_1 _ _ _) (Nat.le_of_ble_eq_true rfl) rfl rfl (WA_1_5 _ _ _ _) rfl ?_
          refine ex_aload_n (q := 0) (x := 1) (np := 151) C (by decide +kernel) rfl rfl ?_
          refine ex_dup (np := 152) C rfl (by decide +kernel) rfl ?_
          refine ex_getf (q := 3) (v := .int (τ.1 2)) (np := 155) C hc_X4 hin_X4 (by decide) tg_234 (by decide +kernel) (WA_1 _ _ _) rfl rfl ?_
          refine ex_iconst (n := 1) (v := 1) (np := 156) C (by decide +kernel) (by decide) rfl ?_
          refine ex_iadd (v := ((τ.1 2) + (1 : Int32))) (np := 157) C (by decide +kernel) rfl rfl ?_
          refine ex_putf (q := 3) (w1 := (WA x y (sI 2 ((τ.1 2) + (1 : Int32)) (sI 4 ((τ.2.2.1 0) ((τ.1 2)).toNatClampNeg) (sI 6 (-1 : Int32) (sI 4 (0 : Int32) (sI 3 (τ.1 2) τ))))))) (np := 160) C hc_X4 hin_X4 (by decide) tyX4_ok nmX4 tg_234 rfl (by decide +kernel) (WA_1 _ _ _) (Nat.le_of_ble_eq_true rfl) rfl rfl (WA_1_3 _ _ _ _) rfl ?_
          refine ex_goto (off := 27) (tgt := 187) C (by decide +kernel) (by decide) ?_
          refine ex_vret C hr hlk (by decide +kernel) (Nat.le_refl _) (Nat.le_refl _) ?_
          have E9 : A_next σ = (sI 2 ((τ.1 2) + (1 : Int32)) (sI 4 ((τ.2.2.1 0) ((τ.1 2)).toNatClampNeg) (sI 6 (-1 : Int32) (sI 4 (0 : Int32) (sI 3 (τ.1 2) τ))))) := (h9.trans (by unfold A_nxt; exact (if_neg h1).trans ((if_pos h2).trans ((ex_lt_eq q4).trans ((if_neg h5).trans (rfl))))))
          rw [E9]
      · skip
        refine ex_aload_n (q := 0) (x := 1) (np := 115) C (by decide +kernel) rfl rfl ?_
        refine ex_iconst (n := 1) (v := 1) (np := 116) C (by decide +kernel) (by decide) rfl ?_
        refine ex_putf (q := 5) (w1 := (WA x y (sI 4 (1 : Int32) (sI 6 (-1 : Int32) (sI 4 (0 : Int32) (sI 3 (τ.1 2) τ)))))) (np := 119) C hc_X4 hin_X4 (by decide) tyX4_ok nmX4 tg_236 rfl (by decide +kernel) (WA_1 _ _ _) (Nat.le_of_ble_eq_true rfl) rfl rfl (WA_1_5 _ _ _ _) rfl ?_
        refine ex_goto (off := 68) (tgt := 187) C (by decide +kernel) (by decide) ?_
        refine ex_vret C hr hlk (by decide +kernel) (Nat.le_refl _) (Nat.le_refl _) ?_
        have E9 : A_next σ = (sI 4 (1 : Int32) (sI 6 (-1 : Int32) (sI 4 (0 : Int32) (sI 3 (τ.1 2) τ)))) := (h9.trans (by unfold A_nxt; exact (if_neg h1).trans ((if_neg h2).trans (rfl))))
        rw [E9]
    · skip
      refine ex_aload_n (q := 0) (x := 1) (np := 82) C (by decide +kernel) rfl rfl ?_
      refine ex_getf (q := 4) (v := .int (τ.1 2)) (np := 85) C hc_X4 hin_X4 (by decide) tg_235 (by decide +kernel) (WA_1 _ _ _) rfl rfl ?_
      refine ex_aload_n (q := 0) (x := 1) (np := 86) C (by decide +kernel) rfl rfl ?_
      refine ex_getf (q := 2) (v := .int (τ.1 1)) (np := 89) C hc_X4 hin_X4 (by decide) tg_233 (by decide +kernel) (WA_1 _ _ _) rfl rfl ?_
      refine ex_icmp_lt (off := 14) (tgt := 103) (np := 92) C (by decide +kernel) (by decide) rfl (fun h13 => ?_) (fun h13 => ?_)
      · skip
        refine ex_aload_n (q := 0) (x := 1) (np := 104) C (by decide +kernel) rfl rfl ?_
        refine ex_getf (q := 4) (v := .int (τ.1 2)) (np := 107) C hc_X4 hin_X4 (by decide) tg_235 (by decide +kernel) (WA_1 _ _ _) rfl rfl ?_
        refine ex_aload_n (q := 0) (x := 1) (np := 108) C (by decide +kernel) rfl rfl ?_
        refine ex_getf (q := 1) (v := .int (τ.1 0)) (np := 111) C hc_X4 hin_X4 (by decide) tg_231 (by decide +kernel) (WA_1 _ _ _) rfl rfl ?_
        refine ex_icmp_lt (off := 11) (tgt := 122) (np := 114) C (by decide +kernel) (by decide) rfl (fun h14 => ?_) (fun h14 => ?_)
        · skip
          refine ex_aload_n (q := 0) (x := 1) (np := 123) C (by decide +kernel) rfl rfl ?_
          refine ex_getf (q := 0) (v := .ref 2) (np := 126) C hc_X4 hin_X4 (by decide) tg_229 (by decide +kernel) (WA_1 _ _ _) rfl rfl ?_
          refine ex_aload_n (q := 0) (x := 1) (np := 127) C (by decide +kernel) rfl rfl ?_
          refine ex_getf (q := 4) (v := .int (τ.1 2)) (np := 130) C hc_X4 hin_X4 (by decide) tg_235 (by decide +kernel) (WA_1 _ _ _) rfl rfl ?_
          refine ex_iald (f := (τ.2.2.1 0)) (kk := ((τ.1 2)).toNatClampNeg) (np := 131) C (by decide +kernel) (WA_2 _ _ _) (by have h8 := h14; exact ⟨hI9.2.1.1, by omega⟩) rfl rfl ?_
          refine ex_call_i (np := 134) (fun ws H locs ls hR hsz => ex_runS C (m_X4_isSign d (by omega) (WA x y (sI 6 (-1 : Int32) (sI 4 (0 : Int32) (sI 3 (τ.1 2) τ)))) ((τ.2.2.1 0) ((τ.1 2)).toNatClampNeg)) hd1 hd2 (by decide) hy_X4_isSign tg_670 rfl rfl (Nat.le_of_ble_eq_true rfl) tg_668 tg_669 tg_144 (by decide +kernel) ws H locs ls hR hsz (Nat.zero_le _) (Nat.zero_le _)) rfl (fun r15 w1 hpo => ?_)
          obtain ⟨q16, rfl⟩ := hpo
          refine ex_if_eq (off := 29) (tgt := 163) (np := 137) C (by decide +kernel) (by decide) rfl (fun h17 => ?_) (fun h17 => ?_)
          · skip
            refine ex_aload_n (q := 0) (x := 1) (np := 164) C (by decide +kernel) rfl rfl ?_
            obtain ⟨σ18, q19⟩ : ∃ x, x = A_readRun (sI 6 (-1 : Int32) (sI 4 (0 : Int32) (sI 3 (τ.1 2) τ))) := ⟨_, rfl⟩
            refine ex_call_v (np := 167) (fun ws H locs ls hR hsz => ex_runV (C1 := "") C (m_X4_readRun d (by omega) x y (sI 6 (-1 : Int32) (sI 4 (0 : Int32) (sI 3 (τ.1 2) τ))) hI) hd1 hd2 (by decide) hy_X4_readRun tg_674 hc_X4 rfl (WA_1 _ _ _) rfl rfl (Nat.le_of_ble_eq_true rfl) rfl tg_671 tg_673 tg_5 tg_144 (by decide +kernel) ws H locs ls hR hsz (Nat.zero_le _) (Nat.zero_le _)) rfl (fun w1 hpo => ?_)
            rw [← q19] at hpo
            subst hpo
            have hI20 := inv_X4_readRun (sI 6 (-1 : Int32) (sI 4 (0 : Int32) (sI 3 (τ.1 2) τ))) hI; rw [← q19] at hI20
            refine ex_aload_n (q := 0) (x := 1) (np := 168) C (by decide +kernel) rfl rfl ?_
            refine ex_aload_n (q := 0) (x := 1) (np := 169) C (by decide +kernel) rfl rfl ?_
            refine ex_getf (q := 5) (v := .int (σ18.1 4)) (np := 172) C hc_X4 hin_X4 (by decide) tg_236 (by decide +kernel) (WA_1 _ _ _) rfl rfl ?_
            refine ex_iconst (n := 2) (v := 2) (np := 173) C (by decide +kernel) (by decide) rfl ?_
            refine ex_icmp_ne (off := 10) (tgt := 183) (np := 176) C (by decide +kernel) (by decide) rfl (fun h21 => ?_) (fun h21 => ?_)
            · skip
              refine ex_iconst (n := (-1)) (v := (-1)) (np := 184) C (by decide +kernel) (by decide) rfl ?_
              refine ex_putf (q := 8) (w1 := (WA x y (sI 6 (-1 : Int32) σ18))) (np := 187) C hc_X4 hin_X4 (by decide) tyX4_ok nmX4 tg_241 rfl (by decide +kernel) (WA_1 _ _ _) (Nat.le_of_ble_eq_true rfl) rfl rfl (WA_1_8 _ _ _ _) rfl ?_
              refine ex_vret C hr hlk (by decide +kernel) (Nat.le_refl _) (Nat.le_refl _) ?_
              have E9 : A_next σ = (sI 6 (-1 : Int32) σ18) := (h9.trans (by unfold A_nxt; exact (if_pos h1).trans ((if_pos h13).trans ((if_pos h14).trans ((ex_lt_eq q16).trans ((if_pos h17).trans ((ex_lt_eq q19).trans ((if_neg h21).trans (rfl)))))))))
              rw [E9]
            · skip
              refine ex_aload_n (q := 0) (x := 1) (np := 177) C (by decide +kernel) rfl rfl ?_
              refine ex_call_i (np := 180) (fun ws H locs ls hR hsz => ex_runV (C1 := "") C (m_X4_toldWord d (by omega) x y σ18) hd1 hd2 (by decide) hy_X4_toldWord tg_678 hc_X4 rfl (WA_1 _ _ _) rfl rfl (Nat.le_of_ble_eq_true rfl) rfl tg_675 tg_677 tg_6 tg_144 (by decide +kernel) ws H locs ls hR hsz (Nat.zero_le _) (Nat.zero_le _)) rfl (fun r22 w1 hpo => ?_)
              obtain ⟨q23, rfl⟩ := hpo
              refine ex_goto (off := 4) (tgt := 184) C (by decide +kernel) (by decide) ?_
              refine ex_putf (q := 8) (w1 := (WA x y (sI 6 r22 σ18))) (np := 187) C hc_X4 hin_X4 (by decide) tyX4_ok nmX4 tg_241 rfl (by decide +kernel) (WA_1 _ _ _) (Nat.le_of_ble_eq_true rfl) rfl rfl (WA_1_8 _ _ _ _) rfl ?_
              refine ex_vret C hr hlk (by decide +kernel) (Nat.le_refl _) (Nat.le_refl _) ?_
              have E9 : A_next σ = (sI 6 r22 σ18) := (h9.trans (by unfold A_nxt; exact (if_pos h1).trans ((if_pos h13).trans ((if_pos h14).trans ((ex_lt_eq q16).trans ((if_pos h17).trans ((ex_lt_eq q19).trans ((if_pos h21).trans ((ex_lt_eq q23).trans (rfl))))))))))
              rw [E9]
          · skip
            refine ex_aload_n (q := 0) (x := 1) (np := 138) C (by decide +kernel) rfl rfl ?_
            refine ex_aload_n (q := 0) (x := 1) (np := 139) C (by decide +kernel) rfl rfl ?_
            refine ex_getf (q := 0) (v := .ref 2) (np := 142) C hc_X4 hin_X4 (by decide) tg_229 (by decide +kernel) (WA_1 _ _ _) rfl rfl ?_
            refine ex_aload_n (q := 0) (x := 1) (np := 143) C (by decide +kernel) rfl rfl ?_
            refine ex_getf (q := 4) (v := .int (τ.1 2)) (np := 146) C hc_X4 hin_X4 (by decide) tg_235 (by decide +kernel) (WA_1 _ _ _) rfl rfl ?_
            refine ex_iald (f := (τ.2.2.1 0)) (kk := ((τ.1 2)).toNatClampNeg) (np := 147) C (by decide +kernel) (WA_2 _ _ _) (by have h8 := h14; exact ⟨hI9.2.1.1, by omega⟩) rfl rfl ?_
            refine ex_putf (q := 5) (w1 := (WA x y (sI 4 ((τ.2.2.1 0) ((τ.1 2)).toNatClampNeg) (sI 6 (-1 : Int32) (sI 4 (0 : Int32) (sI 3 (τ.1 2) τ)))))) (np := 150) C hc_X4 hin_X4 (by decide) tyX4_ok nmX4 tg_236 rfl (by decide +kernel) (WA_1 _ _ _) (Nat.le_of_ble_eq_true rfl) rfl rfl (WA_1_5 _ _ _ _) rfl ?_
            refine ex_aload_n (q := 0) (x := 1) (np := 151) C (by decide +kernel) rfl rfl ?_
            refine ex_dup (np := 152) C rfl (by decide +kernel) rfl ?_
            refine ex_getf (q := 3) (v := .int (τ.1 2)) (np := 155) C hc_X4 hin_X4 (by decide) tg_234 (by decide +kernel) (WA_1 _ _ _) rfl rfl ?_
            refine ex_iconst (n := 1) (v := 1) (np := 156) C (by decide +kernel) (by decide) rfl ?_
            refine ex_iadd (v := ((τ.1 2) + (1 : Int32))) (np := 157) C (by decide +kernel) rfl rfl ?_
            refine ex_putf (q := 3) (w1 := (WA x y (sI 2 ((τ.1 2) + (1 : Int32)) (sI 4 ((τ.2.2.1 0) ((τ.1 2)).toNatClampNeg) (sI 6 (-1 : Int32) (sI 4 (0 : Int32) (sI 3 (τ.1 2) τ))))))) (np := 160) C hc_X4 hin_X4 (by decide) tyX4_ok nmX4 tg_234 rfl (by decide +kernel) (WA_1 _ _ _) (Nat.le_of_ble_eq_true rfl) rfl rfl (WA_1_3 _ _ _ _) rfl ?_
            refine ex_goto (off := 27) (tgt := 187) C (by decide +kernel) (by decide) ?_
            refine ex_vret C hr hlk (by decide +kernel) (Nat.le_refl _) (Nat.le_refl _) ?_
            have E9 : A_next σ = (sI 2 ((τ.1 2) + (1 : Int32)) (sI 4 ((τ.2.2.1 0) ((τ.1 2)).toNatClampNeg) (sI 6 (-1 : Int32) (sI 4 (0 : Int32) (sI 3 (τ.1 2) τ))))) := (h9.trans (by unfold A_nxt; exact (if_pos h1).trans ((if_pos h13).trans ((if_pos h14).trans ((ex_lt_eq q16).trans ((if_neg h17).trans (rfl)))))))
            rw [E9]
        · skip
          refine ex_aload_n (q := 0) (x := 1) (np := 115) C (by decide +kernel) rfl rfl ?_
          refine ex_iconst (n := 1) (v := 1) (np := 116) C (by decide +kernel) (by decide) rfl ?_
          refine ex_putf (q := 5) (w1 := (WA x y (sI 4 (1 : Int32) (sI 6 (-1 : Int32) (sI 4 (0 : Int32) (sI 3 (τ.1 2) τ)))))) (np := 119) C hc_X4 hin_X4 (by decide) tyX4_ok nmX4 tg_236 rfl (by decide +kernel) (WA_1 _ _ _) (Nat.le_of_ble_eq_true rfl) rfl rfl (WA_1_5 _ _ _ _) rfl ?_
          refine ex_goto (off := 68) (tgt := 187) C (by decide +kernel) (by decide) ?_
          refine ex_vret C hr hlk (by decide +kernel) (Nat.le_refl _) (Nat.le_refl _) ?_
          have E9 : A_next σ = (sI 4 (1 : Int32) (sI 6 (-1 : Int32) (sI 4 (0 : Int32) (sI 3 (τ.1 2) τ)))) := (h9.trans (by unfold A_nxt; exact (if_pos h1).trans ((if_pos h13).trans ((if_neg h14).trans (rfl)))))
          rw [E9]
      · skip
        refine ex_aload_n (q := 0) (x := 1) (np := 93) C (by decide +kernel) rfl rfl ?_
        refine ex_aload_n (q := 0) (x := 1) (np := 94) C (by decide +kernel) rfl rfl ?_
        refine ex_getf (q := 2) (v := .int (τ.1 1)) (np := 97) C hc_X4 hin_X4 (by decide) tg_233 (by decide +kernel) (WA_1 _ _ _) rfl rfl ?_
        refine ex_putf (q := 4) (w1 := (WA x y (sI 3 (τ.1 1) (sI 6 (-1 : Int32) (sI 4 (0 : Int32) (sI 3 (τ.1 2) τ)))))) (np := 100) C hc_X4 hin_X4 (by decide) tyX4_ok nmX4 tg_235 rfl (by decide +kernel) (WA_1 _ _ _) (Nat.le_of_ble_eq_true rfl) rfl rfl (WA_1_4 _ _ _ _) rfl ?_
        refine ex_goto (off := 87) (tgt := 187) C (by decide +kernel) (by decide) ?_
        refine ex_vret C hr hlk (by decide +kernel) (Nat.le_refl _) (Nat.le_refl _) ?_
        have E9 : A_next σ = (sI 3 (τ.1 1) (sI 6 (-1 : Int32) (sI 4 (0 : Int32) (sI 3 (τ.1 2) τ)))) := (h9.trans (by unfold A_nxt; exact (if_pos h1).trans ((if_neg h13).trans (rfl))))
        rw [E9]
  have hI9 := hI; unfold A_INV at hI9
  have loop : ∀ (k : Nat) (q : Int32), 0 ≤ q.toInt → q.toInt ≤ (σ.1 0).toInt → (σ.1 0).toInt - q.toInt < k → A_next σ = A_nxt (sI 2 (ex_sk (σ.2.2.1 0) (σ.1 0) k q) σ) → ex_okP p l e R s m below meth c 1 X D A [.ref 1] (fun _ w => w = WA x y (A_next σ)) none (WA x y (sI 2 q σ)) 0 [(0, .ref 1)] [] := by
    intro k
    induction k with
    | zero => intro q h0 h1 hk hs; exfalso; omega
    | succ k ih =>
      intro q h0 h1 hk hs
      refine ex_aload_n (q := 0) (x := 1) (np := 1) C (by decide +kernel) rfl rfl ?_
      refine ex_getf (q := 3) (v := .int q) (np := 4) C hc_X4 hin_X4 (by decide) tg_234 (by decide +kernel) (WA_1 _ _ _) rfl rfl ?_
      refine ex_aload_n (q := 0) (x := 1) (np := 5) C (by decide +kernel) rfl rfl ?_
      refine ex_getf (q := 1) (v := .int (σ.1 0)) (np := 8) C hc_X4 hin_X4 (by decide) tg_231 (by decide +kernel) (WA_1 _ _ _) rfl rfl ?_
      refine ex_icmp_ge (off := 44) (tgt := 52) (np := 11) C (by decide +kernel) (by decide) rfl (fun h24 => ?_) (fun h24 => ?_)
      · skip
        exact rest _ (A_INV_pos hI h0 h1) (hs.trans (congrArg (fun x => A_nxt (sI 2 x σ)) (ex_sk_s.trans ((if_neg h24).trans (rfl)))))
      · skip
        refine ex_aload_n (q := 0) (x := 1) (np := 12) C (by decide +kernel) rfl rfl ?_
        refine ex_getf (q := 0) (v := .ref 2) (np := 15) C hc_X4 hin_X4 (by decide) tg_229 (by decide +kernel) (WA_1 _ _ _) rfl rfl ?_
        refine ex_aload_n (q := 0) (x := 1) (np := 16) C (by decide +kernel) rfl rfl ?_
        refine ex_getf (q := 3) (v := .int q) (np := 19) C hc_X4 hin_X4 (by decide) tg_234 (by decide +kernel) (WA_1 _ _ _) rfl rfl ?_
        refine ex_iald (f := (σ.2.2.1 0)) (kk := (q).toNatClampNeg) (np := 20) C (by decide +kernel) (WA_2 _ _ _) (by have h8 := h24; show 0 ≤ q.toInt ∧ q.toInt < 940; omega) rfl rfl ?_
        refine ex_bipush (n := 32) (v := 32) (np := 22) C (by decide +kernel) (by decide) rfl ?_
        refine ex_icmp_eq (off := 17) (tgt := 39) (np := 25) C (by decide +kernel) (by decide) rfl (fun h25 => ?_) (fun h25 => ?_)
        · skip
          refine ex_aload_n (q := 0) (x := 1) (np := 40) C (by decide +kernel) rfl rfl ?_
          refine ex_dup (np := 41) C rfl (by decide +kernel) rfl ?_
          refine ex_getf (q := 3) (v := .int q) (np := 44) C hc_X4 hin_X4 (by decide) tg_234 (by decide +kernel) (WA_1 _ _ _) rfl rfl ?_
          refine ex_iconst (n := 1) (v := 1) (np := 45) C (by decide +kernel) (by decide) rfl ?_
          refine ex_iadd (v := (q + (1 : Int32))) (np := 46) C (by decide +kernel) rfl rfl ?_
          refine ex_putf (q := 3) (w1 := (WA x y (sI 2 (q + (1 : Int32)) (sI 2 q σ)))) (np := 49) C hc_X4 hin_X4 (by decide) tyX4_ok nmX4 tg_234 rfl (by decide +kernel) (WA_1 _ _ _) (Nat.le_of_ble_eq_true rfl) rfl rfl (WA_1_3 _ _ _ _) rfl ?_
          refine ex_goto (off := (-49)) (tgt := 0) C (by decide +kernel) (by decide) ?_
          rw [ex_ii]
          exact ih _ (by rw [ex_inc h24]; omega) (by rw [ex_inc h24]; omega) (by rw [ex_inc h24]; omega) (hs.trans (congrArg (fun x => A_nxt (sI 2 x σ)) (ex_sk_s.trans ((if_pos h24).trans ((if_pos h25).trans (rfl))))))
        · skip
          refine ex_aload_n (q := 0) (x := 1) (np := 26) C (by decide +kernel) rfl rfl ?_
          refine ex_getf (q := 0) (v := .ref 2) (np := 29) C hc_X4 hin_X4 (by decide) tg_229 (by decide +kernel) (WA_1 _ _ _) rfl rfl ?_
          refine ex_aload_n (q := 0) (x := 1) (np := 30) C (by decide +kernel) rfl rfl ?_
          refine ex_getf (q := 3) (v := .int q) (np := 33) C hc_X4 hin_X4 (by decide) tg_234 (by decide +kernel) (WA_1 _ _ _) rfl rfl ?_
          refine ex_iald (f := (σ.2.2.1 0)) (kk := (q).toNatClampNeg) (np := 34) C (by decide +kernel) (WA_2 _ _ _) (by have h8 := h24; show 0 ≤ q.toInt ∧ q.toInt < 940; omega) rfl rfl ?_
          refine ex_bipush (n := 10) (v := 10) (np := 36) C (by decide +kernel) (by decide) rfl ?_
          refine ex_icmp_ne (off := 16) (tgt := 52) (np := 39) C (by decide +kernel) (by decide) rfl (fun h26 => ?_) (fun h26 => ?_)
          · skip
            exact rest _ (A_INV_pos hI h0 h1) (hs.trans (congrArg (fun x => A_nxt (sI 2 x σ)) (ex_sk_s.trans ((if_pos h24).trans ((if_neg h25).trans ((if_neg h26).trans (rfl)))))))
          · skip
            refine ex_aload_n (q := 0) (x := 1) (np := 40) C (by decide +kernel) rfl rfl ?_
            refine ex_dup (np := 41) C rfl (by decide +kernel) rfl ?_
            refine ex_getf (q := 3) (v := .int q) (np := 44) C hc_X4 hin_X4 (by decide) tg_234 (by decide +kernel) (WA_1 _ _ _) rfl rfl ?_
            refine ex_iconst (n := 1) (v := 1) (np := 45) C (by decide +kernel) (by decide) rfl ?_
            refine ex_iadd (v := (q + (1 : Int32))) (np := 46) C (by decide +kernel) rfl rfl ?_
            refine ex_putf (q := 3) (w1 := (WA x y (sI 2 (q + (1 : Int32)) (sI 2 q σ)))) (np := 49) C hc_X4 hin_X4 (by decide) tyX4_ok nmX4 tg_234 rfl (by decide +kernel) (WA_1 _ _ _) (Nat.le_of_ble_eq_true rfl) rfl rfl (WA_1_3 _ _ _ _) rfl ?_
            refine ex_goto (off := (-49)) (tgt := 0) C (by decide +kernel) (by decide) ?_
            rw [ex_ii]
            exact ih _ (by rw [ex_inc h24]; omega) (by rw [ex_inc h24]; omega) (by rw [ex_inc h24]; omega) (hs.trans (congrArg (fun x => A_nxt (sI 2 x σ)) (ex_sk_s.trans ((if_pos h24).trans ((if_neg h25).trans ((if_pos h26).trans (rfl)))))))
  have h9 := loop 941 (σ.1 2) (by omega) (by omega) (by omega) rfl
  rw [ex_id (k := 2) (σ := σ) (v := σ.1 2) rfl] at h9
  exact h9
