/-! Contracts of the parsers' methods. -/
set_option maxRecDepth 100000 in
set_option maxHeartbeats 4000000 in
theorem m_X4_put {l : Launch} {X : ab_X} {D : va_G} {A : ex_A} (d : Nat) (hd : 1 ≤ d) (x : Nat × List ex_E) (y : Nat) (v : Int32) (σ : ex_S) (hI : (0 ≤ (σ.1 0).toInt ∧ (σ.1 0).toInt + 4 ≤ 940)) : ex_ctr l X D A d yX4_put cX4_put 3 none (WA x y σ) [.ref 1, .int v] (fun _ w => w = WA x y (A_put v σ)) := by
  obtain ⟨d, rfl⟩ : ∃ d9, d = d9 + 1 := ⟨d - 1, by omega⟩
  refine ex_meth (own := RX4) rfl (by decide) (Nat.le_of_ble_eq_true rfl) (fun p e R s m below meth c C hr hlk hd1 hd2 => ?_)
  show ex_ok p l e R s m _ below meth c 0 0 _ 3 X D A (WA x y σ) 0 [(0, .ref 1), (1, .int v)] []
  refine ex_bipush (n := 24) (v := 24) (np := 2) C (by decide +kernel) (by decide) rfl ?_
  refine ex_istore_n (q := 2) (np := 3) (lv1 := [(2, .int (24 : Int32)), (0, .ref 1), (1, .int v)]) C (by decide) (by decide +kernel) rfl rfl ?_
  refine ex_iload_n (q := 2) (x := (24 : Int32)) (np := 4) C (by decide +kernel) rfl rfl ?_
  refine ex_if_lt (off := 47) (tgt := 51) (np := 7) C (by decide +kernel) (by decide) rfl (fun h1 => ?_) (fun h1 => ?_)
  · skip
    exact absurd h1 (by decide)
  · skip
    refine ex_aload_n (q := 0) (x := 1) (np := 8) C (by decide +kernel) rfl rfl ?_
    refine ex_getf (q := 1) (v := .int (σ.1 0)) (np := 11) C hc_X4 hin_X4 (by decide) tg_231 (by decide +kernel) (WA_1 _ _ _) rfl rfl ?_
    refine ex_aload_n (q := 0) (x := 1) (np := 12) C (by decide +kernel) rfl rfl ?_
    refine ex_getf (q := 0) (v := .ref 2) (np := 15) C hc_X4 hin_X4 (by decide) tg_229 (by decide +kernel) (WA_1 _ _ _) rfl rfl ?_
    refine ex_len (v := 940) (np := 16) C (by decide +kernel) (WA_2 _ _ _) (by decide) rfl ?_
    refine ex_icmp_ge (off := 29) (tgt := 45) (np := 19) C (by decide +kernel) (by decide) rfl (fun h2 => ?_) (fun h2 => ?_)
    · skip
      exact absurd (by have z9 := ex_4 hI; have e9 : (940 : Int32).toInt = 940 := (by decide); omega) h2
    · skip
      refine ex_aload_n (q := 0) (x := 1) (np := 20) C (by decide +kernel) rfl rfl ?_
      refine ex_getf (q := 0) (v := .ref 2) (np := 23) C hc_X4 hin_X4 (by decide) tg_229 (by decide +kernel) (WA_1 _ _ _) rfl rfl ?_
      refine ex_aload_n (q := 0) (x := 1) (np := 24) C (by decide +kernel) rfl rfl ?_
      refine ex_getf (q := 1) (v := .int (σ.1 0)) (np := 27) C hc_X4 hin_X4 (by decide) tg_231 (by decide +kernel) (WA_1 _ _ _) rfl rfl ?_
      refine ex_iload_n (q := 1) (x := v) (np := 28) C (by decide +kernel) rfl rfl ?_
      refine ex_iload_n (q := 2) (x := (24 : Int32)) (np := 29) C (by decide +kernel) rfl rfl ?_
      refine ex_iushr (v := ((v).toUInt32 >>> (((24 : Int32)).toUInt32 &&& Int32.toUInt32 31)).toInt32) (np := 30) C (by decide +kernel) rfl rfl ?_
      refine ex_sipush (n := 255) (v := 255) (np := 33) C (by decide +kernel) (by decide) rfl ?_
      refine ex_iand (v := (((v).toUInt32 >>> (((24 : Int32)).toUInt32 &&& Int32.toUInt32 31)).toInt32 &&& (255 : Int32))) (np := 34) C (by decide +kernel) rfl rfl ?_
      refine ex_iast (f := (σ.2.2.1 0)) (kk := ((σ.1 0)).toNatClampNeg) (w1 := (WA x y (sR 0 (upd (σ.2.2.1 0) ((σ.1 0)).toNatClampNeg (((v).toUInt32 >>> (((24 : Int32)).toUInt32 &&& Int32.toUInt32 31)).toInt32 &&& (255 : Int32))) σ))) (np := 35) C (by decide +kernel) (WA_2 _ _ _) (by have z9 := ex_4 hI; have e9 : (940 : Int32).toInt = 940 := (by decide); omega) rfl (WA_2_s _ _ _ _) rfl ?_
      refine ex_aload_n (q := 0) (x := 1) (np := 36) C (by decide +kernel) rfl rfl ?_
      refine ex_dup (np := 37) C rfl (by decide +kernel) rfl ?_
      refine ex_getf (q := 1) (v := .int (σ.1 0)) (np := 40) C hc_X4 hin_X4 (by decide) tg_231 (by decide +kernel) (WA_1 _ _ _) rfl rfl ?_
      refine ex_iconst (n := 1) (v := 1) (np := 41) C (by decide +kernel) (by decide) rfl ?_
      refine ex_iadd (v := ((σ.1 0) + (1 : Int32))) (np := 42) C (by decide +kernel) rfl rfl ?_
      refine ex_putf (q := 1) (w1 := (WA x y (sI 0 ((σ.1 0) + (1 : Int32)) (sR 0 (upd (σ.2.2.1 0) ((σ.1 0)).toNatClampNeg (((v).toUInt32 >>> (((24 : Int32)).toUInt32 &&& Int32.toUInt32 31)).toInt32 &&& (255 : Int32))) σ)))) (np := 45) C hc_X4 hin_X4 (by decide) tyX4_ok nmX4 tg_231 rfl (by decide +kernel) (WA_1 _ _ _) (Nat.le_of_ble_eq_true rfl) rfl rfl (WA_1_1 _ _ _ _) rfl ?_
      refine ex_iinc (i := 2) (n := (-8)) (x := (24 : Int32)) (v := (16 : Int32)) (np := 48) (lv1 := [(2, .int (16 : Int32)), (0, .ref 1), (1, .int v)]) C (by decide) (by decide +kernel) rfl (by decide) rfl rfl ?_
      refine ex_goto (off := (-45)) (tgt := 3) C (by decide +kernel) (by decide) ?_
      refine ex_iload_n (q := 2) (x := (16 : Int32)) (np := 4) C (by decide +kernel) rfl rfl ?_
      refine ex_if_lt (off := 47) (tgt := 51) (np := 7) C (by decide +kernel) (by decide) rfl (fun h3 => ?_) (fun h3 => ?_)
      · skip
        exact absurd h3 (by decide)
      · skip
        refine ex_aload_n (q := 0) (x := 1) (np := 8) C (by decide +kernel) rfl rfl ?_
        refine ex_getf (q := 1) (v := .int ((σ.1 0) + (1 : Int32))) (np := 11) C hc_X4 hin_X4 (by decide) tg_231 (by decide +kernel) (WA_1 _ _ _) rfl rfl ?_
        refine ex_aload_n (q := 0) (x := 1) (np := 12) C (by decide +kernel) rfl rfl ?_
        refine ex_getf (q := 0) (v := .ref 2) (np := 15) C hc_X4 hin_X4 (by decide) tg_229 (by decide +kernel) (WA_1 _ _ _) rfl rfl ?_
        refine ex_len (v := 940) (np := 16) C (by decide +kernel) (WA_2 _ _ _) (by decide) rfl ?_
        refine ex_icmp_ge (off := 29) (tgt := 45) (np := 19) C (by decide +kernel) (by decide) rfl (fun h4 => ?_) (fun h4 => ?_)
        · skip
          exact absurd (by have z9 := ex_4 hI; have e9 : (940 : Int32).toInt = 940 := (by decide); omega) h4
        · skip
          refine ex_aload_n (q := 0) (x := 1) (np := 20) C (by decide +kernel) rfl rfl ?_
          refine ex_getf (q := 0) (v := .ref 2) (np := 23) C hc_X4 hin_X4 (by decide) tg_229 (by decide +kernel) (WA_1 _ _ _) rfl rfl ?_
          refine ex_aload_n (q := 0) (x := 1) (np := 24) C (by decide +kernel) rfl rfl ?_
          refine ex_getf (q := 1) (v := .int ((σ.1 0) + (1 : Int32))) (np := 27) C hc_X4 hin_X4 (by decide) tg_231 (by decide +kernel) (WA_1 _ _ _) rfl rfl ?_
          refine ex_iload_n (q := 1) (x := v) (np := 28) C (by decide +kernel) rfl rfl ?_
          refine ex_iload_n (q := 2) (x := (16 : Int32)) (np := 29) C (by decide +kernel) rfl rfl ?_
          refine ex_iushr (v := ((v).toUInt32 >>> (((16 : Int32)).toUInt32 &&& Int32.toUInt32 31)).toInt32) (np := 30) C (by decide +kernel) rfl rfl ?_
          refine ex_sipush (n := 255) (v := 255) (np := 33) C (by decide +kernel) (by decide) rfl ?_
          refine ex_iand (v := (((v).toUInt32 >>> (((16 : Int32)).toUInt32 &&& Int32.toUInt32 31)).toInt32 &&& (255 : Int32))) (np := 34) C (by decide +kernel) rfl rfl ?_
          refine ex_iast (f := (upd (σ.2.2.1 0) ((σ.1 0)).toNatClampNeg (((v).toUInt32 >>> (((24 : Int32)).toUInt32 &&& Int32.toUInt32 31)).toInt32 &&& (255 : Int32)))) (kk := (((σ.1 0) + (1 : Int32))).toNatClampNeg) (w1 := (WA x y (sR 0 (upd (upd (σ.2.2.1 0) ((σ.1 0)).toNatClampNeg (((v).toUInt32 >>> (((24 : Int32)).toUInt32 &&& Int32.toUInt32 31)).toInt32 &&& (255 : Int32))) (((σ.1 0) + (1 : Int32))).toNatClampNeg (((v).toUInt32 >>> (((16 : Int32)).toUInt32 &&& Int32.toUInt32 31)).toInt32 &&& (255 : Int32))) (sI 0 ((σ.1 0) + (1 : Int32)) (sR 0 (upd (σ.2.2.1 0) ((σ.1 0)).toNatClampNeg (((v).toUInt32 >>> (((24 : Int32)).toUInt32 &&& Int32.toUInt32 31)).toInt32 &&& (255 : Int32))) σ))))) (np := 35) C (by decide +kernel) (WA_2 _ _ _) (by have z9 := ex_4 hI; have e9 : (940 : Int32).toInt = 940 := (by decide); omega) rfl (WA_2_s _ _ _ _) rfl ?_
          refine ex_aload_n (q := 0) (x := 1) (np := 36) C (by decide +kernel) rfl rfl ?_
          refine ex_dup (np := 37) C rfl (by decide +kernel) rfl ?_
          refine ex_getf (q := 1) (v := .int ((σ.1 0) + (1 : Int32))) (np := 40) C hc_X4 hin_X4 (by decide) tg_231 (by decide +kernel) (WA_1 _ _ _) rfl rfl ?_
          refine ex_iconst (n := 1) (v := 1) (np := 41) C (by decide +kernel) (by decide) rfl ?_
          refine ex_iadd (v := (((σ.1 0) + (1 : Int32)) + (1 : Int32))) (np := 42) C (by decide +kernel) rfl rfl ?_
          refine ex_putf (q := 1) (w1 := (WA x y (sI 0 (((σ.1 0) + (1 : Int32)) + (1 : Int32)) (sR 0 (upd (upd (σ.2.2.1 0) ((σ.1 0)).toNatClampNeg (((v).toUInt32 >>> (((24 : Int32)).toUInt32 &&& Int32.toUInt32 31)).toInt32 &&& (255 : Int32))) (((σ.1 0) + (1 : Int32))).toNatClampNeg (((v).toUInt32 >>> (((16 : Int32)).toUInt32 &&& Int32.toUInt32 31)).toInt32 &&& (255 : Int32))) (sI 0 ((σ.1 0) + (1 : Int32)) (sR 0 (upd (σ.2.2.1 0) ((σ.1 0)).toNatClampNeg (((v).toUInt32 >>> (((24 : Int32)).toUInt32 &&& Int32.toUInt32 31)).toInt32 &&& (255 : Int32))) σ)))))) (np := 45) C hc_X4 hin_X4 (by decide) tyX4_ok nmX4 tg_231 rfl (by decide +kernel) (WA_1 _ _ _) (Nat.le_of_ble_eq_true rfl) rfl rfl (WA_1_1 _ _ _ _) rfl ?_
          refine ex_iinc (i := 2) (n := (-8)) (x := (16 : Int32)) (v := (8 : Int32)) (np := 48) (lv1 := [(2, .int (8 : Int32)), (0, .ref 1), (1, .int v)]) C (by decide) (by decide +kernel) rfl (by decide) rfl rfl ?_
          refine ex_goto (off := (-45)) (tgt := 3) C (by decide +kernel) (by decide) ?_
          refine ex_iload_n (q := 2) (x := (8 : Int32)) (np := 4) C (by decide +kernel) rfl rfl ?_
          refine ex_if_lt (off := 47) (tgt := 51) (np := 7) C (by decide +kernel) (by decide) rfl (fun h5 => ?_) (fun h5 => ?_)
          · skip
            exact absurd h5 (by decide)
          · skip
            refine ex_aload_n (q := 0) (x := 1) (np := 8) C (by decide +kernel) rfl rfl ?_
            refine ex_getf (q := 1) (v := .int (((σ.1 0) + (1 : Int32)) + (1 : Int32))) (np := 11) C hc_X4 hin_X4 (by decide) tg_231 (by decide +kernel) (WA_1 _ _ _) rfl rfl ?_
            refine ex_aload_n (q := 0) (x := 1) (np := 12) C (by decide +kernel) rfl rfl ?_
            refine ex_getf (q := 0) (v := .ref 2) (np := 15) C hc_X4 hin_X4 (by decide) tg_229 (by decide +kernel) (WA_1 _ _ _) rfl rfl ?_
            refine ex_len (v := 940) (np := 16) C (by decide +kernel) (WA_2 _ _ _) (by decide) rfl ?_
            refine ex_icmp_ge (off := 29) (tgt := 45) (np := 19) C (by decide +kernel) (by decide) rfl (fun h6 => ?_) (fun h6 => ?_)
            · skip
              exact absurd (by have z9 := ex_4 hI; have e9 : (940 : Int32).toInt = 940 := (by decide); omega) h6
            · skip
              refine ex_aload_n (q := 0) (x := 1) (np := 20) C (by decide +kernel) rfl rfl ?_
              refine ex_getf (q := 0) (v := .ref 2) (np := 23) C hc_X4 hin_X4 (by decide) tg_229 (by decide +kernel) (WA_1 _ _ _) rfl rfl ?_
              refine ex_aload_n (q := 0) (x := 1) (np := 24) C (by decide +kernel) rfl rfl ?_
              refine ex_getf (q := 1) (v := .int (((σ.1 0) + (1 : Int32)) + (1 : Int32))) (np := 27) C hc_X4 hin_X4 (by decide) tg_231 (by decide +kernel) (WA_1 _ _ _) rfl rfl ?_
              refine ex_iload_n (q := 1) (x := v) (np := 28) C (by decide +kernel) rfl rfl ?_
              refine ex_iload_n (q := 2) (x := (8 : Int32)) (np := 29) C (by decide +kernel) rfl rfl ?_
              refine ex_iushr (v := ((v).toUInt32 >>> (((8 : Int32)).toUInt32 &&& Int32.toUInt32 31)).toInt32) (np := 30) C (by decide +kernel) rfl rfl ?_
              refine ex_sipush (n := 255) (v := 255) (np := 33) C (by decide +kernel) (by decide) rfl ?_
              refine ex_iand (v := (((v).toUInt32 >>> (((8 : Int32)).toUInt32 &&& Int32.toUInt32 31)).toInt32 &&& (255 : Int32))) (np := 34) C (by decide +kernel) rfl rfl ?_
              refine ex_iast (f := (upd (upd (σ.2.2.1 0) ((σ.1 0)).toNatClampNeg (((v).toUInt32 >>> (((24 : Int32)).toUInt32 &&& Int32.toUInt32 31)).toInt32 &&& (255 : Int32))) (((σ.1 0) + (1 : Int32))).toNatClampNeg (((v).toUInt32 >>> (((16 : Int32)).toUInt32 &&& Int32.toUInt32 31)).toInt32 &&& (255 : Int32)))) (kk := ((((σ.1 0) + (1 : Int32)) + (1 : Int32))).toNatClampNeg) (w1 := (WA x y (sR 0 (upd (upd (upd (σ.2.2.1 0) ((σ.1 0)).toNatClampNeg (((v).toUInt32 >>> (((24 : Int32)).toUInt32 &&& Int32.toUInt32 31)).toInt32 &&& (255 : Int32))) (((σ.1 0) + (1 : Int32))).toNatClampNeg (((v).toUInt32 >>> (((16 : Int32)).toUInt32 &&& Int32.toUInt32 31)).toInt32 &&& (255 : Int32))) ((((σ.1 0) + (1 : Int32)) + (1 : Int32))).toNatClampNeg (((v).toUInt32 >>> (((8 : Int32)).toUInt32 &&& Int32.toUInt32 31)).toInt32 &&& (255 : Int32))) (sI 0 (((σ.1 0) + (1 : Int32)) + (1 : Int32)) (sR 0 (upd (upd (σ.2.2.1 0) ((σ.1 0)).toNatClampNeg (((v).toUInt32 >>> (((24 : Int32)).toUInt32 &&& Int32.toUInt32 31)).toInt32 &&& (255 : Int32))) (((σ.1 0) + (1 : Int32))).toNatClampNeg (((v).toUInt32 >>> (((16 : Int32)).toUInt32 &&& Int32.toUInt32 31)).toInt32 &&& (255 : Int32))) (sI 0 ((σ.1 0) + (1 : Int32)) (sR 0 (upd (σ.2.2.1 0) ((σ.1 0)).toNatClampNeg (((v).toUInt32 >>> (((24 : Int32)).toUInt32 &&& Int32.toUInt32 31)).toInt32 &&& (255 : Int32))) σ))))))) (np := 35) C (by decide +kernel) (WA_2 _ _ _) (by have z9 := ex_4 hI; have e9 : (940 : Int32).toInt = 940 := (by decide); omega) rfl (WA_2_s _ _ _ _) rfl ?_
              refine ex_aload_n (q := 0) (x := 1) (np := 36) C (by decide +kernel) rfl rfl ?_
              refine ex_dup (np := 37) C rfl (by decide +kernel) rfl ?_
              refine ex_getf (q := 1) (v := .int (((σ.1 0) + (1 : Int32)) + (1 : Int32))) (np := 40) C hc_X4 hin_X4 (by decide) tg_231 (by decide +kernel) (WA_1 _ _ _) rfl rfl ?_
              refine ex_iconst (n := 1) (v := 1) (np := 41) C (by decide +kernel) (by decide) rfl ?_
              refine ex_iadd (v := ((((σ.1 0) + (1 : Int32)) + (1 : Int32)) + (1 : Int32))) (np := 42) C (by decide +kernel) rfl rfl ?_
              refine ex_putf (q := 1) (w1 := (WA x y (sI 0 ((((σ.1 0) + (1 : Int32)) + (1 : Int32)) + (1 : Int32)) (sR 0 (upd (upd (upd (σ.2.2.1 0) ((σ.1 0)).toNatClampNeg (((v).toUInt32 >>> (((24 : Int32)).toUInt32 &&& Int32.toUInt32 31)).toInt32 &&& (255 : Int32))) (((σ.1 0) + (1 : Int32))).toNatClampNeg (((v).toUInt32 >>> (((16 : Int32)).toUInt32 &&& Int32.toUInt32 31)).toInt32 &&& (255 : Int32))) ((((σ.1 0) + (1 : Int32)) + (1 : Int32))).toNatClampNeg (((v).toUInt32 >>> (((8 : Int32)).toUInt32 &&& Int32.toUInt32 31)).toInt32 &&& (255 : Int32))) (sI 0 (((σ.1 0) + (1 : Int32)) + (1 : Int32)) (sR 0 (upd (upd (σ.2.2.1 0) ((σ.1 0)).toNatClampNeg (((v).toUInt32 >>> (((24 : Int32)).toUInt32 &&& Int32.toUInt32 31)).toInt32 &&& (255 : Int32))) (((σ.1 0) + (1 : Int32))).toNatClampNeg (((v).toUInt32 >>> (((16 : Int32)).toUInt32 &&& Int32.toUInt32 31)).toInt32 &&& (255 : Int32))) (sI 0 ((σ.1 0) + (1 : Int32)) (sR 0 (upd (σ.2.2.1 0) ((σ.1 0)).toNatClampNeg (((v).toUInt32 >>> (((24 : Int32)).toUInt32 &&& Int32.toUInt32 31)).toInt32 &&& (255 : Int32))) σ)))))))) (np := 45) C hc_X4 hin_X4 (by decide) tyX4_ok nmX4 tg_231 rfl (by decide +kernel) (WA_1 _ _ _) (Nat.le_of_ble_eq_true rfl) rfl rfl (WA_1_1 _ _ _ _) rfl ?_
              refine ex_iinc (i := 2) (n := (-8)) (x := (8 : Int32)) (v := (0 : Int32)) (np := 48) (lv1 := [(2, .int (0 : Int32)), (0, .ref 1), (1, .int v)]) C (by decide) (by decide +kernel) rfl (by decide) rfl rfl ?_
              refine ex_goto (off := (-45)) (tgt := 3) C (by decide +kernel) (by decide) ?_
              refine ex_iload_n (q := 2) (x := (0 : Int32)) (np := 4) C (by decide +kernel) rfl rfl ?_
              refine ex_if_lt (off := 47) (tgt := 51) (np := 7) C (by decide +kernel) (by decide) rfl (fun h7 => ?_) (fun h7 => ?_)
              · skip
                exact absurd h7 (by decide)
              · skip
                refine ex_aload_n (q := 0) (x := 1) (np := 8) C (by decide +kernel) rfl rfl ?_
                refine ex_getf (q := 1) (v := .int ((((σ.1 0) + (1 : Int32)) + (1 : Int32)) + (1 : Int32))) (np := 11) C hc_X4 hin_X4 (by decide) tg_231 (by decide +kernel) (WA_1 _ _ _) rfl rfl ?_
                refine ex_aload_n (q := 0) (x := 1) (np := 12) C (by decide +kernel) rfl rfl ?_
                refine ex_getf (q := 0) (v := .ref 2) (np := 15) C hc_X4 hin_X4 (by decide) tg_229 (by decide +kernel) (WA_1 _ _ _) rfl rfl ?_
                refine ex_len (v := 940) (np := 16) C (by decide +kernel) (WA_2 _ _ _) (by decide) rfl ?_
                refine ex_icmp_ge (off := 29) (tgt := 45) (np := 19) C (by decide +kernel) (by decide) rfl (fun h8 => ?_) (fun h8 => ?_)
                · skip
                  exact absurd (by have z9 := ex_4 hI; have e9 : (940 : Int32).toInt = 940 := (by decide); omega) h8
                · skip
                  refine ex_aload_n (q := 0) (x := 1) (np := 20) C (by decide +kernel) rfl rfl ?_
                  refine ex_getf (q := 0) (v := .ref 2) (np := 23) C hc_X4 hin_X4 (by decide) tg_229 (by decide +kernel) (WA_1 _ _ _) rfl rfl ?_
                  refine ex_aload_n (q := 0) (x := 1) (np := 24) C (by decide +kernel) rfl rfl ?_
                  refine ex_getf (q := 1) (v := .int ((((σ.1 0) + (1 : Int32)) + (1 : Int32)) + (1 : Int32))) (np := 27) C hc_X4 hin_X4 (by decide) tg_231 (by decide +kernel) (WA_1 _ _ _) rfl rfl ?_
                  refine ex_iload_n (q := 1) (x := v) (np := 28) C (by decide +kernel) rfl rfl ?_
                  refine ex_iload_n (q := 2) (x := (0 : Int32)) (np := 29) C (by decide +kernel) rfl rfl ?_
                  refine ex_iushr (v := ((v).toUInt32 >>> (((0 : Int32)).toUInt32 &&& Int32.toUInt32 31)).toInt32) (np := 30) C (by decide +kernel) rfl rfl ?_
                  refine ex_sipush (n := 255) (v := 255) (np := 33) C (by decide +kernel) (by decide) rfl ?_
                  refine ex_iand (v := (((v).toUInt32 >>> (((0 : Int32)).toUInt32 &&& Int32.toUInt32 31)).toInt32 &&& (255 : Int32))) (np := 34) C (by decide +kernel) rfl rfl ?_
                  refine ex_iast (f := (upd (upd (upd (σ.2.2.1 0) ((σ.1 0)).toNatClampNeg (((v).toUInt32 >>> (((24 : Int32)).toUInt32 &&& Int32.toUInt32 31)).toInt32 &&& (255 : Int32))) (((σ.1 0) + (1 : Int32))).toNatClampNeg (((v).toUInt32 >>> (((16 : Int32)).toUInt32 &&& Int32.toUInt32 31)).toInt32 &&& (255 : Int32))) ((((σ.1 0) + (1 : Int32)) + (1 : Int32))).toNatClampNeg (((v).toUInt32 >>> (((8 : Int32)).toUInt32 &&& Int32.toUInt32 31)).toInt32 &&& (255 : Int32)))) (kk := (((((σ.1 0) + (1 : Int32)) + (1 : Int32)) + (1 : Int32))).toNatClampNeg) (w1 := (WA x y (sR 0 (upd (upd (upd (upd (σ.2.2.1 0) ((σ.1 0)).toNatClampNeg (((v).toUInt32 >>> (((24 : Int32)).toUInt32 &&& Int32.toUInt32 31)).toInt32 &&& (255 : Int32))) (((σ.1 0) + (1 : Int32))).toNatClampNeg (((v).toUInt32 >>> (((16 : Int32)).toUInt32 &&& Int32.toUInt32 31)).toInt32 &&& (255 : Int32))) ((((σ.1 0) + (1 : Int32)) + (1 : Int32))).toNatClampNeg (((v).toUInt32 >>> (((8 : Int32)).toUInt32 &&& Int32.toUInt32 31)).toInt32 &&& (255 : Int32))) (((((σ.1 0) + (1 : Int32)) + (1 : Int32)) + (1 : Int32))).toNatClampNeg (((v).toUInt32 >>> (((0 : Int32)).toUInt32 &&& Int32.toUInt32 31)).toInt32 &&& (255 : Int32))) (sI 0 ((((σ.1 0) + (1 : Int32)) + (1 : Int32)) + (1 : Int32)) (sR 0 (upd (upd (upd (σ.2.2.1 0) ((σ.1 0)).toNatClampNeg (((v).toUInt32 >>> (((24 : Int32)).toUInt32 &&& Int32.toUInt32 31)).toInt32 &&& (255 : Int32))) (((σ.1 0) + (1 : Int32))).toNatClampNeg (((v).toUInt32 >>> (((16 : Int32)).toUInt32 &&& Int32.toUInt32 31)).toInt32 &&& (255 : Int32))) ((((σ.1 0) + (1 : Int32)) + (1 : Int32))).toNatClampNeg (((v).toUInt32 >>> (((8 : Int32)).toUInt32 &&& Int32.toUInt32 31)).toInt32 &&& (255 : Int32))) (sI 0 (((σ.1 0) + (1 : Int32)) + (1 : Int32)) (sR 0 (upd (upd (σ.2.2.1 0) ((σ.1 0)).toNatClampNeg (((v).toUInt32 >>> (((24 : Int32)).toUInt32 &&& Int32.toUInt32 31)).toInt32 &&& (255 : Int32))) (((σ.1 0) + (1 : Int32))).toNatClampNeg (((v).toUInt32 >>> (((16 : Int32)).toUInt32 &&& Int32.toUInt32 31)).toInt32 &&& (255 : Int32))) (sI 0 ((σ.1 0) + (1 : Int32)) (sR 0 (upd (σ.2.2.1 0) ((σ.1 0)).toNatClampNeg (((v).toUInt32 >>> (((24 : Int32)).toUInt32 &&& Int32.toUInt32 31)).toInt32 &&& (255 : Int32))) σ))))))))) (np := 35) C (by decide +kernel) (WA_2 _ _ _) (by have z9 := ex_4 hI; have e9 : (940 : Int32).toInt = 940 := (by decide); omega) rfl (WA_2_s _ _ _ _) rfl ?_
                  refine ex_aload_n (q := 0) (x := 1) (np := 36) C (by decide +kernel) rfl rfl ?_
                  refine ex_dup (np := 37) C rfl (by decide +kernel) rfl ?_
                  refine ex_getf (q := 1) (v := .int ((((σ.1 0) + (1 : Int32)) + (1 : Int32)) + (1 : Int32))) (np := 40) C hc_X4 hin_X4 (by decide) tg_231 (by decide +kernel) (WA_1 _ _ _) rfl rfl ?_
                  refine ex_iconst (n := 1) (v := 1) (np := 41) C (by decide +kernel) (by decide) rfl ?_
                  refine ex_iadd (v := (((((σ.1 0) + (1 : Int32)) + (1 : Int32)) + (1 : Int32)) + (1 : Int32))) (np := 42) C (by decide +kernel) rfl rfl ?_
                  refine ex_putf (q := 1) (w1 := (WA x y (sI 0 (((((σ.1 0) + (1 : Int32)) + (1 : Int32)) + (1 : Int32)) + (1 : Int32)) (sR 0 (upd (upd (upd (upd (σ.2.2.1 0) ((σ.1 0)).toNatClampNeg (((v).toUInt32 >>> (((24 : Int32)).toUInt32 &&& Int32.toUInt32 31)).toInt32 &&& (255 : Int32))) (((σ.1 0) + (1 : Int32))).toNatClampNeg (((v).toUInt32 >>> (((16 : Int32)).toUInt32 &&& Int32.toUInt32 31)).toInt32 &&& (255 : Int32))) ((((σ.1 0) + (1 : Int32)) + (1 : Int32))).toNatClampNeg (((v).toUInt32 >>> (((8 : Int32)).toUInt32 &&& Int32.toUInt32 31)).toInt32 &&& (255 : Int32))) (((((σ.1 0) + (1 : Int32)) + (1 : Int32)) + (1 : Int32))).toNatClampNeg (((v).toUInt32 >>> (((0 : Int32)).toUInt32 &&& Int32.toUInt32 31)).toInt32 &&& (255 : Int32))) (sI 0 ((((σ.1 0) + (1 : Int32)) + (1 : Int32)) + (1 : Int32)) (sR 0 (upd (upd (upd (σ.2.2.1 0) ((σ.1 0)).toNatClampNeg (((v).toUInt32 >>> (((24 : Int32)).toUInt32 &&& Int32.toUInt32 31)).toInt32 &&& (255 : Int32))) (((σ.1 0) + (1 : Int32))).toNatClampNeg (((v).toUInt32 >>> (((16 : Int32)).toUInt32 &&& Int32.toUInt32 31)).toInt32 &&& (255 : Int32))) ((((σ.1 0) + (1 : Int32)) + (1 : Int32))).toNatClampNeg (((v).toUInt32 >>> (((8 : Int32)).toUInt32 &&& Int32.toUInt32 31)).toInt32 &&& (255 : Int32))) (sI 0 (((σ.1 0) + (1 : Int32)) + (1 : Int32)) (sR 0 (upd (upd (σ.2.2.1 0) ((σ.1 0)).toNatClampNeg (((v).toUInt32 >>> (((24 : Int32)).toUInt32 &&& Int32.toUInt32 31)).toInt32 &&& (255 : Int32))) (((σ.1 0) + (1 : Int32))).toNatClampNeg (((v).toUInt32 >>> (((16 : Int32)).toUInt32 &&& Int32.toUInt32 31)).toInt32 &&& (255 : Int32))) (sI 0 ((σ.1 0) + (1 : Int32)) (sR 0 (upd (σ.2.2.1 0) ((σ.1 0)).toNatClampNeg (((v).toUInt32 >>> (((24 : Int32)).toUInt32 &&& Int32.toUInt32 31)).toInt32 &&& (255 : Int32))) σ)))))))))) (np := 45) C hc_X4 hin_X4 (by decide) tyX4_ok nmX4 tg_231 rfl (by decide +kernel) (WA_1 _ _ _) (Nat.le_of_ble_eq_true rfl) rfl rfl (WA_1_1 _ _ _ _) rfl ?_
                  refine ex_iinc (i := 2) (n := (-8)) (x := (0 : Int32)) (v := (-8 : Int32)) (np := 48) (lv1 := [(2, .int (-8 : Int32)), (0, .ref 1), (1, .int v)]) C (by decide) (by decide +kernel) rfl (by decide) rfl rfl ?_
                  refine ex_goto (off := (-45)) (tgt := 3) C (by decide +kernel) (by decide) ?_
                  refine ex_iload_n (q := 2) (x := (-8 : Int32)) (np := 4) C (by decide +kernel) rfl rfl ?_
                  refine ex_if_lt (off := 47) (tgt := 51) (np := 7) C (by decide +kernel) (by decide) rfl (fun h10 => ?_) (fun h10 => ?_)
                  · skip
                    refine ex_vret C hr hlk (by decide +kernel) (Nat.le_refl _) (Nat.le_refl _) ?_
                    have E9 : A_put v σ = (sI 0 (((((σ.1 0) + (1 : Int32)) + (1 : Int32)) + (1 : Int32)) + (1 : Int32)) (sR 0 (upd (upd (upd (upd (σ.2.2.1 0) ((σ.1 0)).toNatClampNeg (((v).toUInt32 >>> (((24 : Int32)).toUInt32 &&& Int32.toUInt32 31)).toInt32 &&& (255 : Int32))) (((σ.1 0) + (1 : Int32))).toNatClampNeg (((v).toUInt32 >>> (((16 : Int32)).toUInt32 &&& Int32.toUInt32 31)).toInt32 &&& (255 : Int32))) ((((σ.1 0) + (1 : Int32)) + (1 : Int32))).toNatClampNeg (((v).toUInt32 >>> (((8 : Int32)).toUInt32 &&& Int32.toUInt32 31)).toInt32 &&& (255 : Int32))) (((((σ.1 0) + (1 : Int32)) + (1 : Int32)) + (1 : Int32))).toNatClampNeg (((v).toUInt32 >>> (((0 : Int32)).toUInt32 &&& Int32.toUInt32 31)).toInt32 &&& (255 : Int32))) (sI 0 ((((σ.1 0) + (1 : Int32)) + (1 : Int32)) + (1 : Int32)) (sR 0 (upd (upd (upd (σ.2.2.1 0) ((σ.1 0)).toNatClampNeg (((v).toUInt32 >>> (((24 : Int32)).toUInt32 &&& Int32.toUInt32 31)).toInt32 &&& (255 : Int32))) (((σ.1 0) + (1 : Int32))).toNatClampNeg (((v).toUInt32 >>> (((16 : Int32)).toUInt32 &&& Int32.toUInt32 31)).toInt32 &&& (255 : Int32))) ((((σ.1 0) + (1 : Int32)) + (1 : Int32))).toNatClampNeg (((v).toUInt32 >>> (((8 : Int32)).toUInt32 &&& Int32.toUInt32 31)).toInt32 &&& (255 : Int32))) (sI 0 (((σ.1 0) + (1 : Int32)) + (1 : Int32)) (sR 0 (upd (upd (σ.2.2.1 0) ((σ.1 0)).toNatClampNeg (((v).toUInt32 >>> (((24 : Int32)).toUInt32 &&& Int32.toUInt32 31)).toInt32 &&& (255 : Int32))) (((σ.1 0) + (1 : Int32))).toNatClampNeg (((v).toUInt32 >>> (((16 : Int32)).toUInt32 &&& Int32.toUInt32 31)).toInt32 &&& (255 : Int32))) (sI 0 ((σ.1 0) + (1 : Int32)) (sR 0 (upd (σ.2.2.1 0) ((σ.1 0)).toNatClampNeg (((v).toUInt32 >>> (((24 : Int32)).toUInt32 &&& Int32.toUInt32 31)).toInt32 &&& (255 : Int32))) σ)))))))) := by unfold A_put; exact rfl
                    rw [E9]
                  · skip
                    exact absurd (by decide) h10
set_option maxRecDepth 100000 in
set_option maxHeartbeats 4000000 in
theorem m_X10_feed {l : Launch} {X : ab_X} {D : va_G} {A : ex_A} (d : Nat) (hd : 2 ≤ d) (x : Nat × List ex_E) (y : Nat) (v1 : Int32) (v2 : Int32) (v3 : Int32) (v4 : Int32) (v5 : Int32) (σ : ex_S) (hI : (0 ≤ (σ.1 0).toInt ∧ (σ.1 0).toInt ≤ 940)) : ex_ctr l X D A d yX10_feed cX10_feed 6 (some .int) (WA x y σ) [.ref 0, .int v1, .int v2, .int v3, .int v4, .int v5] (fun r w => r = (A_feed v1 v2 v3 v4 v5 σ).1 ∧ w = WA x y (A_feed v1 v2 v3 v4 v5 σ).2) := by
  obtain ⟨d, rfl⟩ : ∃ d9, d = d9 + 1 := ⟨d - 1, by omega⟩
  refine ex_meth (own := RX10) rfl (by decide) (Nat.le_of_ble_eq_true rfl) (fun p e R s m below meth c C hr hlk hd1 hd2 => ?_)
  show ex_ok p l e R s m _ below meth c 0 0 _ 6 X D A (WA x y σ) 0 [(0, .ref 0), (1, .int v1), (2, .int v2), (3, .int v3), (4, .int v4), (5, .int v5)] []
  refine ex_aload_n (q := 0) (x := 0) (np := 1) C (by decide +kernel) rfl rfl ?_
  refine ex_getf (q := 0) (v := .ref 1) (np := 4) C hc_X10 hin_X10 (by decide) tg_584 (by decide +kernel) (WA_0 _ _ _) rfl rfl ?_
  refine ex_getfN (q := 1) (v := .int (σ.1 0)) (np := 7) C hc_X4 hin_X4 (by decide) tn_232 (by decide +kernel) (WA_1 _ _ _) rfl rfl ?_
  refine ex_bipush (n := 20) (v := 20) (np := 9) C (by decide +kernel) (by decide) rfl ?_
  refine ex_iadd (v := ((σ.1 0) + (20 : Int32))) (np := 10) C (by decide +kernel) rfl rfl ?_
  refine ex_sipush (n := 940) (v := 940) (np := 13) C (by decide +kernel) (by decide) rfl ?_
  refine ex_icmp_le (off := 5) (tgt := 18) (np := 16) C (by decide +kernel) (by decide) rfl (fun h1 => ?_) (fun h1 => ?_)
  · skip
    refine ex_aload_n (q := 0) (x := 0) (np := 19) C (by decide +kernel) rfl rfl ?_
    refine ex_getf (q := 0) (v := .ref 1) (np := 22) C hc_X10 hin_X10 (by decide) tg_584 (by decide +kernel) (WA_0 _ _ _) rfl rfl ?_
    refine ex_iload_n (q := 1) (x := v1) (np := 23) C (by decide +kernel) rfl rfl ?_
    obtain ⟨σ2, q3⟩ : ∃ x, x = A_put v1 σ := ⟨_, rfl⟩
    refine ex_call_v (np := 26) (fun ws H locs ls hR hsz => ex_runVN C (m_X4_put d (by omega) x y v1 σ (by have s9 := ex_20 hI; have e9 : (940 : Int32).toInt = 940 := (by decide); omega)) hd1 hd2 (by decide) hy_X4_put tg_643 hc_X4 rfl (WA_1 _ _ _) rfl rfl (Nat.le_of_ble_eq_true rfl) tn_640 tg_642 tg_0 tg_144 (by decide +kernel) ws H locs ls hR hsz (Nat.zero_le _) (Nat.zero_le _)) rfl (fun w1 hpo => ?_)
    rw [← q3] at hpo
    subst hpo
    have hI4 := inv_X4_put v1 σ (by have s9 := ex_20 hI; have e9 : (940 : Int32).toInt = 940 := (by decide); omega); rw [← q3] at hI4
    refine ex_aload_n (q := 0) (x := 0) (np := 27) C (by decide +kernel) rfl rfl ?_
    refine ex_getf (q := 0) (v := .ref 1) (np := 30) C hc_X10 hin_X10 (by decide) tg_584 (by decide +kernel) (WA_0 _ _ _) rfl rfl ?_
    refine ex_iload_n (q := 2) (x := v2) (np := 31) C (by decide +kernel) rfl rfl ?_
    obtain ⟨σ5, q6⟩ : ∃ x, x = A_put v2 σ2 := ⟨_, rfl⟩
    refine ex_call_v (np := 34) (fun ws H locs ls hR hsz => ex_runVN C (m_X4_put d (by omega) x y v2 σ2 (by have s9 := ex_20 hI; have e9 : (940 : Int32).toInt = 940 := (by decide); omega)) hd1 hd2 (by decide) hy_X4_put tg_643 hc_X4 rfl (WA_1 _ _ _) rfl rfl (Nat.le_of_ble_eq_true rfl) tn_640 tg_642 tg_0 tg_144 (by decide +kernel) ws H locs ls hR hsz (Nat.zero_le _) (Nat.zero_le _)) rfl (fun w1 hpo => ?_)
    rw [← q6] at hpo
    subst hpo
    have hI7 := inv_X4_put v2 σ2 (by have s9 := ex_20 hI; have e9 : (940 : Int32).toInt = 940 := (by decide); omega); rw [← q6] at hI7
    refine ex_aload_n (q := 0) (x := 0) (np := 35) C (by decide +kernel) rfl rfl ?_
    refine ex_getf (q := 0) (v := .ref 1) (np := 38) C hc_X10 hin_X10 (by decide) tg_584 (by decide +kernel) (WA_0 _ _ _) rfl rfl ?_
    refine ex_iload_n (q := 3) (x := v3) (np := 39) C (by decide +kernel) rfl rfl ?_
    obtain ⟨σ8, q10⟩ : ∃ x, x = A_put v3 σ5 := ⟨_, rfl⟩
    refine ex_call_v (np := 42) (fun ws H locs ls hR hsz => ex_runVN C (m_X4_put d (by omega) x y v3 σ5 (by have s9 := ex_20 hI; have e9 : (940 : Int32).toInt = 940 := (by decide); omega)) hd1 hd2 (by decide) hy_X4_put tg_643 hc_X4 rfl (WA_1 _ _ _) rfl rfl (Nat.le_of_ble_eq_true rfl) tn_640 tg_642 tg_0 tg_144 (by decide +kernel) ws H locs ls hR hsz (Nat.zero_le _) (Nat.zero_le _)) rfl (fun w1 hpo => ?_)
    rw [← q10] at hpo
    subst hpo
    have hI11 := inv_X4_put v3 σ5 (by have s9 := ex_20 hI; have e9 : (940 : Int32).toInt = 940 := (by decide); omega); rw [← q10] at hI11
    refine ex_aload_n (q := 0) (x := 0) (np := 43) C (by decide +kernel) rfl rfl ?_
    refine ex_getf (q := 0) (v := .ref 1) (np := 46) C hc_X10 hin_X10 (by decide) tg_584 (by decide +kernel) (WA_0 _ _ _) rfl rfl ?_
    refine ex_iload (i := 4) (x := v4) (np := 48) C (by decide +kernel) rfl rfl ?_
    obtain ⟨σ12, q13⟩ : ∃ x, x = A_put v4 σ8 := ⟨_, rfl⟩
    refine ex_call_v (np := 51) (fun ws H locs ls hR hsz => ex_runVN C (m_X4_put d (by omega) x y v4 σ8 (by have s9 := ex_20 hI; have e9 : (940 : Int32).toInt = 940 := (by decide); omega)) hd1 hd2 (by decide) hy_X4_put tg_643 hc_X4 rfl (WA_1 _ _ _) rfl rfl (Nat.le_of_ble_eq_true rfl) tn_640 tg_642 tg_0 tg_144 (by decide +kernel) ws H locs ls hR hsz (Nat.zero_le _) (Nat.zero_le _)) rfl (fun w1 hpo => ?_)
    rw [← q13] at hpo
    subst hpo
    have hI14 := inv_X4_put v4 σ8 (by have s9 := ex_20 hI; have e9 : (940 : Int32).toInt = 940 := (by decide); omega); rw [← q13] at hI14
    refine ex_aload_n (q := 0) (x := 0) (np := 52) C (by decide +kernel) rfl rfl ?_
    refine ex_getf (q := 0) (v := .ref 1) (np := 55) C hc_X10 hin_X10 (by decide) tg_584 (by decide +kernel) (WA_0 _ _ _) rfl rfl ?_
    refine ex_iload (i := 5) (x := v5) (np := 57) C (by decide +kernel) rfl rfl ?_
    obtain ⟨σ15, q16⟩ : ∃ x, x = A_put v5 σ12 := ⟨_, rfl⟩
    refine ex_call_v (np := 60) (fun ws H locs ls hR hsz => ex_runVN C (m_X4_put d (by omega) x y v5 σ12 (by have s9 := ex_20 hI; have e9 : (940 : Int32).toInt = 940 := (by decide); omega)) hd1 hd2 (by decide) hy_X4_put tg_643 hc_X4 rfl (WA_1 _ _ _) rfl rfl (Nat.le_of_ble_eq_true rfl) tn_640 tg_642 tg_0 tg_144 (by decide +kernel) ws H locs ls hR hsz (Nat.zero_le _) (Nat.zero_le _)) rfl (fun w1 hpo => ?_)
    rw [← q16] at hpo
    subst hpo
    have hI17 := inv_X4_put v5 σ12 (by have s9 := ex_20 hI; have e9 : (940 : Int32).toInt = 940 := (by decide); omega); rw [← q16] at hI17
    refine ex_aload_n (q := 0) (x := 0) (np := 61) C (by decide +kernel) rfl rfl ?_
    refine ex_getf (q := 0) (v := .ref 1) (np := 64) C hc_X10 hin_X10 (by decide) tg_584 (by decide +kernel) (WA_0 _ _ _) rfl rfl ?_
    refine ex_getfN (q := 1) (v := .int (σ15.1 0)) (np := 67) C hc_X4 hin_X4 (by decide) tn_232 (by decide +kernel) (WA_1 _ _ _) rfl rfl ?_
    have E9 : A_feed v1 v2 v3 v4 v5 σ = ((σ15.1 0), σ15) := by unfold A_feed; exact (if_neg h1).trans ((ex_lt_eq q3).trans ((ex_lt_eq q6).trans ((ex_lt_eq q10).trans ((ex_lt_eq q13).trans ((ex_lt_eq q16).trans (rfl))))))
    exact ex_iret C hr hlk (by decide +kernel) rfl (Nat.le_refl _) (Nat.le_refl _) (by rw [E9]; exact ⟨rfl, rfl⟩)
  · skip
    refine ex_iconst (n := (-1)) (v := (-1)) (np := 17) C (by decide +kernel) (by decide) rfl ?_
    have E9 : A_feed v1 v2 v3 v4 v5 σ = ((-1 : Int32), σ) := by unfold A_feed; exact (if_pos h1).trans (rfl)
    exact ex_iret C hr hlk (by decide +kernel) rfl (Nat.le_refl _) (Nat.le_refl _) (by rw [E9]; exact ⟨rfl, rfl⟩)
set_option maxRecDepth 100000 in
set_option maxHeartbeats 4000000 in
theorem m_X4_isSign {l : Launch} {X : ab_X} {D : va_G} {A : ex_A} (d : Nat) (hd : 1 ≤ d) (w0 : List ex_E) (ch : Int32) : ex_ctr l X D A d yX4_isSign cX4_isSign 1 (some .boolean) w0 [.int ch] (fun r w => r = A_isSign ch ∧ w = w0) := by
  obtain ⟨d, rfl⟩ : ∃ d9, d = d9 + 1 := ⟨d - 1, by omega⟩
  refine ex_meth (own := RX4) rfl (by decide) (Nat.le_of_ble_eq_true rfl) (fun p e R s m below meth c C hr hlk hd1 hd2 => ?_)
  show ex_ok p l e R s m _ below meth c 0 0 _ 1 X D A w0 0 [(0, .int ch)] []
  refine ex_iload_n (q := 0) (x := ch) (np := 1) C (by decide +kernel) rfl rfl ?_
  refine ex_bipush (n := 59) (v := 59) (np := 3) C (by decide +kernel) (by decide) rfl ?_
  refine ex_icmp_eq (off := 33) (tgt := 36) (np := 6) C (by decide +kernel) (by decide) rfl (fun h1 => ?_) (fun h1 => ?_)
  · skip
    refine ex_iconst (n := 1) (v := 1) (np := 37) C (by decide +kernel) (by decide) rfl ?_
    refine ex_goto (off := 4) (tgt := 41) C (by decide +kernel) (by decide) ?_
    have E9 : A_isSign ch = (1 : Int32) := by unfold A_isSign; exact (if_pos h1).trans (rfl)
    exact ex_iret C hr hlk (by decide +kernel) rfl (Nat.le_refl _) (Nat.le_refl _) ⟨E9.symm, rfl⟩
  · skip
    refine ex_iload_n (q := 0) (x := ch) (np := 7) C (by decide +kernel) rfl rfl ?_
    refine ex_bipush (n := 60) (v := 60) (np := 9) C (by decide +kernel) (by decide) rfl ?_
    refine ex_icmp_eq (off := 27) (tgt := 36) (np := 12) C (by decide +kernel) (by decide) rfl (fun h2 => ?_) (fun h2 => ?_)
    · skip
      refine ex_iconst (n := 1) (v := 1) (np := 37) C (by decide +kernel) (by decide) rfl ?_
      refine ex_goto (off := 4) (tgt := 41) C (by decide +kernel) (by decide) ?_
      have E9 : A_isSign ch = (1 : Int32) := by unfold A_isSign; exact (if_neg h1).trans ((if_pos h2).trans (rfl))
      exact ex_iret C hr hlk (by decide +kernel) rfl (Nat.le_refl _) (Nat.le_refl _) ⟨E9.symm, rfl⟩
    · skip
      refine ex_iload_n (q := 0) (x := ch) (np := 13) C (by decide +kernel) rfl rfl ?_
      refine ex_bipush (n := 61) (v := 61) (np := 15) C (by decide +kernel) (by decide) rfl ?_
      refine ex_icmp_eq (off := 21) (tgt := 36) (np := 18) C (by decide +kernel) (by decide) rfl (fun h3 => ?_) (fun h3 => ?_)
      · skip
        refine ex_iconst (n := 1) (v := 1) (np := 37) C (by decide +kernel) (by decide) rfl ?_
        refine ex_goto (off := 4) (tgt := 41) C (by decide +kernel) (by decide) ?_
        have E9 : A_isSign ch = (1 : Int32) := by unfold A_isSign; exact (if_neg h1).trans ((if_neg h2).trans ((if_pos h3).trans (rfl)))
        exact ex_iret C hr hlk (by decide +kernel) rfl (Nat.le_refl _) (Nat.le_refl _) ⟨E9.symm, rfl⟩
      · skip
        refine ex_iload_n (q := 0) (x := ch) (np := 19) C (by decide +kernel) rfl rfl ?_
        refine ex_bipush (n := 62) (v := 62) (np := 21) C (by decide +kernel) (by decide) rfl ?_
        refine ex_icmp_eq (off := 15) (tgt := 36) (np := 24) C (by decide +kernel) (by decide) rfl (fun h4 => ?_) (fun h4 => ?_)
        · skip
          refine ex_iconst (n := 1) (v := 1) (np := 37) C (by decide +kernel) (by decide) rfl ?_
          refine ex_goto (off := 4) (tgt := 41) C (by decide +kernel) (by decide) ?_
          have E9 : A_isSign ch = (1 : Int32) := by unfold A_isSign; exact (if_neg h1).trans ((if_neg h2).trans ((if_neg h3).trans ((if_pos h4).trans (rfl))))
          exact ex_iret C hr hlk (by decide +kernel) rfl (Nat.le_refl _) (Nat.le_refl _) ⟨E9.symm, rfl⟩
        · skip
          refine ex_iload_n (q := 0) (x := ch) (np := 25) C (by decide +kernel) rfl rfl ?_
          refine ex_bipush (n := 40) (v := 40) (np := 27) C (by decide +kernel) (by decide) rfl ?_
          refine ex_icmp_eq (off := 9) (tgt := 36) (np := 30) C (by decide +kernel) (by decide) rfl (fun h5 => ?_) (fun h5 => ?_)
          · skip
            refine ex_iconst (n := 1) (v := 1) (np := 37) C (by decide +kernel) (by decide) rfl ?_
            refine ex_goto (off := 4) (tgt := 41) C (by decide +kernel) (by decide) ?_
            have E9 : A_isSign ch = (1 : Int32) := by unfold A_isSign; exact (if_neg h1).trans ((if_neg h2).trans ((if_neg h3).trans ((if_neg h4).trans ((if_pos h5).trans (rfl)))))
            exact ex_iret C hr hlk (by decide +kernel) rfl (Nat.le_refl _) (Nat.le_refl _) ⟨E9.symm, rfl⟩
          · skip
            refine ex_iload_n (q := 0) (x := ch) (np := 31) C (by decide +kernel) rfl rfl ?_
            refine ex_bipush (n := 41) (v := 41) (np := 33) C (by decide +kernel) (by decide) rfl ?_
            refine ex_icmp_ne (off := 7) (tgt := 40) (np := 36) C (by decide +kernel) (by decide) rfl (fun h6 => ?_) (fun h6 => ?_)
            · skip
              refine ex_iconst (n := 0) (v := 0) (np := 41) C (by decide +kernel) (by decide) rfl ?_
              have E9 : A_isSign ch = (0 : Int32) := by unfold A_isSign; exact (if_neg h1).trans ((if_neg h2).trans ((if_neg h3).trans ((if_neg h4).trans ((if_neg h5).trans ((if_neg h6).trans (rfl))))))
              exact ex_iret C hr hlk (by decide +kernel) rfl (Nat.le_refl _) (Nat.le_refl _) ⟨E9.symm, rfl⟩
            · skip
              refine ex_iconst (n := 1) (v := 1) (np := 37) C (by decide +kernel) (by decide) rfl ?_
              refine ex_goto (off := 4) (tgt := 41) C (by decide +kernel) (by decide) ?_
              have E9 : A_isSign ch = (1 : Int32) := by unfold A_isSign; exact (if_neg h1).trans ((if_neg h2).trans ((if_neg h3).trans ((if_neg h4).trans ((if_neg h5).trans ((if_pos h6).trans (rfl))))))
              exact ex_iret C hr hlk (by decide +kernel) rfl (Nat.le_refl _) (Nat.le_refl _) ⟨E9.symm, rfl⟩
set_option maxRecDepth 100000 in
set_option maxHeartbeats 4000000 in
theorem m_X4_failAs {l : Launch} {X : ab_X} {D : va_G} {A : ex_A} (d : Nat) (hd : 1 ≤ d) (x : Nat × List ex_E) (y : Nat) (why : Int32) (σ : ex_S) : ex_ctr l X D A d yX4_failAs cX4_failAs 2 (some .boolean) (WA x y σ) [.ref 1, .int why] (fun r w => r = (A_failAs why σ).1 ∧ w = WA x y (A_failAs why σ).2) := by
  obtain ⟨d, rfl⟩ : ∃ d9, d = d9 + 1 := ⟨d - 1, by omega⟩
  refine ex_meth (own := RX4) rfl (by decide) (Nat.le_of_ble_eq_true rfl) (fun p e R s m below meth c C hr hlk hd1 hd2 => ?_)
  show ex_ok p l e R s m _ below meth c 0 0 _ 2 X D A (WA x y σ) 0 [(0, .ref 1), (1, .int why)] []
  refine ex_aload_n (q := 0) (x := 1) (np := 1) C (by decide +kernel) rfl rfl ?_
  refine ex_iload_n (q := 1) (x := why) (np := 2) C (by decide +kernel) rfl rfl ?_
  refine ex_putf (q := 12) (w1 := (WA x y (sI 9 why σ))) (np := 5) C hc_X4 hin_X4 (by decide) tyX4_ok nmX4 tg_254 rfl (by decide +kernel) (WA_1 _ _ _) (Nat.le_of_ble_eq_true rfl) rfl rfl (WA_1_12 _ _ _ _) rfl ?_
  refine ex_aload_n (q := 0) (x := 1) (np := 6) C (by decide +kernel) rfl rfl ?_
  refine ex_aload_n (q := 0) (x := 1) (np := 7) C (by decide +kernel) rfl rfl ?_
  refine ex_getf (q := 4) (v := .int (σ.1 3)) (np := 10) C hc_X4 hin_X4 (by decide) tg_235 (by decide +kernel) (WA_1 _ _ _) rfl rfl ?_
  refine ex_putf (q := 13) (w1 := (WA x y (sI 10 (σ.1 3) (sI 9 why σ)))) (np := 13) C hc_X4 hin_X4 (by decide) tyX4_ok nmX4 tg_256 rfl (by decide +kernel) (WA_1 _ _ _) (Nat.le_of_ble_eq_true rfl) rfl rfl (WA_1_13 _ _ _ _) rfl ?_
  refine ex_iconst (n := 0) (v := 0) (np := 14) C (by decide +kernel) (by decide) rfl ?_
  have E9 : A_failAs why σ = ((0 : Int32), (sI 10 (σ.1 3) (sI 9 why σ))) := by unfold A_failAs; exact rfl
  exact ex_iret C hr hlk (by decide +kernel) rfl (Nat.le_refl _) (Nat.le_refl _) (by rw [E9]; exact ⟨rfl, rfl⟩)
set_option maxRecDepth 100000 in
set_option maxHeartbeats 4000000 in
theorem m_X4_atEnd {l : Launch} {X : ab_X} {D : va_G} {A : ex_A} (d : Nat) (hd : 1 ≤ d) (x : Nat × List ex_E) (y : Nat) (σ : ex_S) : ex_ctr l X D A d yX4_atEnd cX4_atEnd 1 (some .boolean) (WA x y σ) [.ref 1] (fun r w => r = A_atEnd σ ∧ w = WA x y σ) := by
  obtain ⟨d, rfl⟩ : ∃ d9, d = d9 + 1 := ⟨d - 1, by omega⟩
  refine ex_meth (own := RX4) rfl (by decide) (Nat.le_of_ble_eq_true rfl) (fun p e R s m below meth c C hr hlk hd1 hd2 => ?_)
  show ex_ok p l e R s m _ below meth c 0 0 _ 1 X D A (WA x y σ) 0 [(0, .ref 1)] []
  refine ex_aload_n (q := 0) (x := 1) (np := 1) C (by decide +kernel) rfl rfl ?_
  refine ex_getf (q := 5) (v := .int (σ.1 4)) (np := 4) C hc_X4 hin_X4 (by decide) tg_236 (by decide +kernel) (WA_1 _ _ _) rfl rfl ?_
  refine ex_iconst (n := 1) (v := 1) (np := 5) C (by decide +kernel) (by decide) rfl ?_
  refine ex_icmp_ne (off := 7) (tgt := 12) (np := 8) C (by decide +kernel) (by decide) rfl (fun h1 => ?_) (fun h1 => ?_)
  · skip
    refine ex_iconst (n := 0) (v := 0) (np := 13) C (by decide +kernel) (by decide) rfl ?_
    have E9 : A_atEnd σ = (0 : Int32) := by unfold A_atEnd; exact (if_neg h1).trans (rfl)
    exact ex_iret C hr hlk (by decide +kernel) rfl (Nat.le_refl _) (Nat.le_refl _) ⟨E9.symm, rfl⟩
  · skip
    refine ex_iconst (n := 1) (v := 1) (np := 9) C (by decide +kernel) (by decide) rfl ?_
    refine ex_goto (off := 4) (tgt := 13) C (by decide +kernel) (by decide) ?_
    have E9 : A_atEnd σ = (1 : Int32) := by unfold A_atEnd; exact (if_pos h1).trans (rfl)
    exact ex_iret C hr hlk (by decide +kernel) rfl (Nat.le_refl _) (Nat.le_refl _) ⟨E9.symm, rfl⟩
set_option maxRecDepth 100000 in
set_option maxHeartbeats 4000000 in
theorem m_X4_isName {l : Launch} {X : ab_X} {D : va_G} {A : ex_A} (d : Nat) (hd : 1 ≤ d) (x : Nat × List ex_E) (y : Nat) (σ : ex_S) : ex_ctr l X D A d yX4_isName cX4_isName 1 (some .boolean) (WA x y σ) [.ref 1] (fun r w => r = A_isName σ ∧ w = WA x y σ) := by
  obtain ⟨d, rfl⟩ : ∃ d9, d = d9 + 1 := ⟨d - 1, by omega⟩
  refine ex_meth (own := RX4) rfl (by decide) (Nat.le_of_ble_eq_true rfl) (fun p e R s m below meth c C hr hlk hd1 hd2 => ?_)
  show ex_ok p l e R s m _ below meth c 0 0 _ 1 X D A (WA x y σ) 0 [(0, .ref 1)] []
  refine ex_aload_n (q := 0) (x := 1) (np := 1) C (by decide +kernel) rfl rfl ?_
  refine ex_getf (q := 5) (v := .int (σ.1 4)) (np := 4) C hc_X4 hin_X4 (by decide) tg_236 (by decide +kernel) (WA_1 _ _ _) rfl rfl ?_
  refine ex_iconst (n := 2) (v := 2) (np := 5) C (by decide +kernel) (by decide) rfl ?_
  refine ex_icmp_ne (off := 15) (tgt := 20) (np := 8) C (by decide +kernel) (by decide) rfl (fun h1 => ?_) (fun h1 => ?_)
  · skip
    refine ex_iconst (n := 0) (v := 0) (np := 21) C (by decide +kernel) (by decide) rfl ?_
    have E9 : A_isName σ = (0 : Int32) := by unfold A_isName; exact (if_neg h1).trans (rfl)
    exact ex_iret C hr hlk (by decide +kernel) rfl (Nat.le_refl _) (Nat.le_refl _) ⟨E9.symm, rfl⟩
  · skip
    refine ex_aload_n (q := 0) (x := 1) (np := 9) C (by decide +kernel) rfl rfl ?_
    refine ex_getf (q := 8) (v := .int (σ.1 6)) (np := 12) C hc_X4 hin_X4 (by decide) tg_241 (by decide +kernel) (WA_1 _ _ _) rfl rfl ?_
    refine ex_iconst (n := (-1)) (v := (-1)) (np := 13) C (by decide +kernel) (by decide) rfl ?_
    refine ex_icmp_ne (off := 7) (tgt := 20) (np := 16) C (by decide +kernel) (by decide) rfl (fun h2 => ?_) (fun h2 => ?_)
    · skip
      refine ex_iconst (n := 0) (v := 0) (np := 21) C (by decide +kernel) (by decide) rfl ?_
      have E9 : A_isName σ = (0 : Int32) := by unfold A_isName; exact (if_pos h1).trans ((if_neg h2).trans (rfl))
      exact ex_iret C hr hlk (by decide +kernel) rfl (Nat.le_refl _) (Nat.le_refl _) ⟨E9.symm, rfl⟩
    · skip
      refine ex_iconst (n := 1) (v := 1) (np := 17) C (by decide +kernel) (by decide) rfl ?_
      refine ex_goto (off := 4) (tgt := 21) C (by decide +kernel) (by decide) ?_
      have E9 : A_isName σ = (1 : Int32) := by unfold A_isName; exact (if_pos h1).trans ((if_pos h2).trans (rfl))
      exact ex_iret C hr hlk (by decide +kernel) rfl (Nat.le_refl _) (Nat.le_refl _) ⟨E9.symm, rfl⟩
set_option maxRecDepth 100000 in
set_option maxHeartbeats 4000000 in
theorem m_X4_toldWord {l : Launch} {X : ab_X} {D : va_G} {A : ex_A} (d : Nat) (hd : 1 ≤ d) (x : Nat × List ex_E) (y : Nat) (σ : ex_S) : ex_ctr l X D A d yX4_toldWord cX4_toldWord 2 (some .int) (WA x y σ) [.ref 1] (fun r w => r = A_toldWord σ ∧ w = WA x y σ) := by
  obtain ⟨d, rfl⟩ : ∃ d9, d = d9 + 1 := ⟨d - 1, by omega⟩
  refine ex_meth (own := RX4) rfl (by decide) (Nat.le_of_ble_eq_true rfl) (fun p e R s m below meth c C hr hlk hd1 hd2 => ?_)
  show ex_ok p l e R s m _ below meth c 0 0 _ 2 X D A (WA x y σ) 0 [(0, .ref 1)] []
  refine ex_iconst (n := 0) (v := 0) (np := 1) C (by decide +kernel) (by decide) rfl ?_
  refine ex_istore_n (q := 1) (np := 2) (lv1 := [(1, .int (0 : Int32)), (0, .ref 1)]) C (by decide) (by decide +kernel) rfl rfl ?_
  have loop : ∀ (n k : Nat), k + n = 22 → A_toldWord σ = ex_find (σ.2.2.2 0) (σ.2.1 0) n k → ex_okP p l e R s m below meth c 2 X D A [.ref 1] (fun r w => r = A_toldWord σ ∧ w = WA x y σ) (some .int) (WA x y σ) 2 [(1, .int (nI k)), (0, .ref 1)] [] := by
    intro n
    induction n with
    | zero =>
      intro k hk hs
      have hki : (nI k).toInt = (k : Int) := nI_toInt (by omega)
      refine ex_iload_n (q := 1) (x := (nI k)) (np := 3) C (by decide +kernel) rfl rfl ?_
      refine ex_aload_n (q := 0) (x := 1) (np := 4) C (by decide +kernel) rfl rfl ?_
      refine ex_getf (q := 14) (v := .ref 3) (np := 7) C hc_X4 hin_X4 (by decide) tg_258 (by decide +kernel) (WA_1 _ _ _) rfl rfl ?_
      refine ex_len (v := 22) (np := 8) C (by decide +kernel) (WA_3 _ _ _) (by decide) rfl ?_
      refine ex_icmp_ge (off := 25) (tgt := 33) (np := 11) C (by decide +kernel) (by decide) rfl (fun h1 => ?_) (fun h1 => ?_)
      · skip
        refine ex_iconst (n := (-1)) (v := (-1)) (np := 34) C (by decide +kernel) (by decide) rfl ?_
        have E9 : A_toldWord σ = (-1 : Int32) := hs
        exact ex_iret C hr hlk (by decide +kernel) rfl (Nat.le_refl _) (Nat.le_refl _) ⟨E9.symm, rfl⟩
      · skip
        exfalso; rw [hki, show (22 : Int32).toInt = 22 from by decide] at h1; omega
    | succ n ih =>
      intro k hk hs
      have hki : (nI k).toInt = (k : Int) := nI_toInt (by omega)
      refine ex_iload_n (q := 1) (x := (nI k)) (np := 3) C (by decide +kernel) rfl rfl ?_
      refine ex_aload_n (q := 0) (x := 1) (np := 4) C (by decide +kernel) rfl rfl ?_
      refine ex_getf (q := 14) (v := .ref 3) (np := 7) C hc_X4 hin_X4 (by decide) tg_258 (by decide +kernel) (WA_1 _ _ _) rfl rfl ?_
      refine ex_len (v := 22) (np := 8) C (by decide +kernel) (WA_3 _ _ _) (by decide) rfl ?_
      refine ex_icmp_ge (off := 25) (tgt := 33) (np := 11) C (by decide +kernel) (by decide) rfl (fun h2 => ?_) (fun h2 => ?_)
      · skip
        exfalso; rw [hki, show (22 : Int32).toInt = 22 from by decide] at h2; omega
      · skip
        refine ex_aload_n (q := 0) (x := 1) (np := 12) C (by decide +kernel) rfl rfl ?_
        refine ex_getf (q := 14) (v := .ref 3) (np := 15) C hc_X4 hin_X4 (by decide) tg_258 (by decide +kernel) (WA_1 _ _ _) rfl rfl ?_
        refine ex_iload_n (q := 1) (x := (nI k)) (np := 16) C (by decide +kernel) rfl rfl ?_
        refine ex_lald (f := (σ.2.2.2 0)) (kk := ((nI k)).toNatClampNeg) (np := 17) C (by decide +kernel) (WA_3 _ _ _) (by rw [hki]; omega) rfl rfl ?_
        refine ex_aload_n (q := 0) (x := 1) (np := 18) C (by decide +kernel) rfl rfl ?_
        refine ex_getf (q := 6) (v := .long (σ.2.1 0)) (np := 21) C hc_X4 hin_X4 (by decide) tg_239 (by decide +kernel) (WA_1 _ _ _) rfl rfl ?_
        refine ex_lcmp (np := 22) C (by decide +kernel) rfl ?_
        refine ex_if_ne (off := 5) (tgt := 27) (np := 25) C (by decide +kernel) (by decide) rfl (fun h3 => ?_) (fun h3 => ?_)
        · skip
          refine ex_iinc (i := 1) (n := 1) (x := (nI k)) (v := ((nI k) + 1)) (np := 30) (lv1 := [(1, .int ((nI k) + 1)), (0, .ref 1)]) C (by decide) (by decide +kernel) rfl (by rfl) rfl rfl ?_
          refine ex_goto (off := (-28)) (tgt := 2) C (by decide +kernel) (by decide) ?_
          rw [← nI_succ]
          exact ih (k + 1) (by omega) (hs.trans (ex_find_s.trans (if_neg (by rw [← ex_nk (k := k) (by omega)]; exact h3))))
        · skip
          refine ex_iload_n (q := 1) (x := (nI k)) (np := 26) C (by decide +kernel) rfl rfl ?_
          have E9 : A_toldWord σ = (nI k) := (hs.trans (ex_find_s.trans (if_pos (by rw [← ex_nk (k := k) (by omega)]; exact h3))))
          exact ex_iret C hr hlk (by decide +kernel) rfl (Nat.le_refl _) (Nat.le_refl _) ⟨E9.symm, rfl⟩
  exact loop (22) 0 (by omega) rfl
