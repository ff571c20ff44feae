/-! Copies. -/
set_option maxRecDepth 100000 in
set_option maxHeartbeats 4000000 in
theorem m_X8_copyFrom_18_2 {l : Launch} {X : ab_X} {D : va_G} {A : ex_A} (d : Nat) (hd : 1 ≤ d) (g9 : Nat → Option Nat) (σ : ex_S) : ex_ctr l X D A d yX8_copyFrom cX8_copyFrom 2 none (WI g9 σ) [.ref 18, .ref 2] (fun _ w => ∃ (y0 : Nat → Int64) (y1 : Nat → Int32) (y2 : Nat → Int32) (y3 : Nat → Int32) (y4 : Nat → Int32) (y5 : Nat → Int32) (y6 : Nat → Int32) (y7 : Nat → Int64) (y8 : Nat → Int32) (y9 : Nat → Int32) (y10 : Nat → Int32) (y11 : Nat → Int32) (y12 : Nat → Int32), ((∀ j : Nat, j < 7 → y0 j = (σ.2.2.2 0) j) ∧ (∀ j : Nat, j < 7 → y1 j = (σ.2.2.1 0) j) ∧ (∀ j : Nat, j < 7 → y2 j = (σ.2.2.1 1) j) ∧ (∀ j : Nat, j < 12 → y3 j = (σ.2.2.1 2) j) ∧ (∀ j : Nat, j < 12 → y4 j = (σ.2.2.1 3) j) ∧ (∀ j : Nat, j < 12 → y5 j = (σ.2.2.1 4) j) ∧ (∀ j : Nat, j < 12 → y6 j = (σ.2.2.1 5) j) ∧ (∀ j : Nat, j < 8 → y7 j = (σ.2.2.2 1) j) ∧ (∀ j : Nat, j < 8 → y8 j = (σ.2.2.1 6) j) ∧ (∀ j : Nat, j < 8 → y9 j = (σ.2.2.1 7) j) ∧ (∀ j : Nat, j < 8 → y10 j = (σ.2.2.1 8) j) ∧ (∀ j : Nat, j < 8 → y11 j = (σ.2.2.1 9) j) ∧ (∀ j : Nat, j < 3 → y12 j = (σ.2.2.1 10) j)) ∧ w = WI g9 (sR 110 y12 (sR 109 y11 (sR 108 y10 (sR 107 y9 (sR 106 y8 (sQ 101 y7 (sI 102 (σ.1 2) (sR 105 y6 (sR 104 y5 (sR 103 y4 (sR 102 y3 (sI 101 (σ.1 1) (sR 101 y2 (sR 100 y1 (sQ 100 y0 (sI 100 (σ.1 0) σ))))))))))))))))) := by
  obtain ⟨d, rfl⟩ : ∃ d9, d = d9 + 1 := ⟨d - 1, by omega⟩
  refine ex_meth (own := RX8) rfl (by decide) (Nat.le_of_ble_eq_true rfl) (fun p e R s m below meth c C hr hlk hd1 hd2 => ?_)
  show ex_ok p l e R s m _ below meth c 0 0 _ 2 X D A (WI g9 σ) 0 [(0, .ref 18), (1, .ref 2)] []
  refine ex_aload_n (q := 0) (x := 18) (np := 1) C (by decide +kernel) rfl rfl ?_
  refine ex_aload_n (q := 1) (x := 2) (np := 2) C (by decide +kernel) rfl rfl ?_
  refine ex_getf (q := 0) (v := .int (σ.1 0)) (np := 5) C hc_X8 hin_X8 (by decide) tg_312 (by decide +kernel) (WI_2 _ _) rfl rfl ?_
  refine ex_putf (q := 0) (w1 := (WI g9 (sI 100 (σ.1 0) σ))) (np := 8) C hc_X8 hin_X8 (by decide) tyX8_ok nmX8 tg_312 rfl (by decide +kernel) (WI_18 _ _) (Nat.le_of_ble_eq_true rfl) rfl rfl (WI_18_0 _ _ _) rfl ?_
  refine ex_aload_n (q := 1) (x := 2) (np := 9) C (by decide +kernel) rfl rfl ?_
  refine ex_getf (q := 1) (v := .ref 3) (np := 12) C hc_X8 hin_X8 (by decide) tg_316 (by decide +kernel) (WI_2 _ _) rfl rfl ?_
  refine ex_iconst (n := 0) (v := 0) (np := 13) C (by decide +kernel) (by decide) rfl ?_
  refine ex_aload_n (q := 0) (x := 18) (np := 14) C (by decide +kernel) rfl rfl ?_
  refine ex_getf (q := 1) (v := .ref 19) (np := 17) C hc_X8 hin_X8 (by decide) tg_316 (by decide +kernel) (WI_18 _ _) rfl rfl ?_
  refine ex_iconst (n := 0) (v := 0) (np := 18) C (by decide +kernel) (by decide) rfl ?_
  refine ex_bipush (n := 7) (v := 7) (np := 20) C (by decide +kernel) (by decide) rfl ?_
  refine ex_acl (n := 7) (np := 23) C tg_1144 tg_785 tg_784 tg_164 (by decide +kernel) (WI_3 _ _) (WI_19 _ _) (by decide) (by decide) rfl (fun y0 c0 => ?_)
  rw [WI_19_s]
  refine ex_aload_n (q := 1) (x := 2) (np := 24) C (by decide +kernel) rfl rfl ?_
  refine ex_getf (q := 2) (v := .ref 4) (np := 27) C hc_X8 hin_X8 (by decide) tg_319 (by decide +kernel) (WI_2 _ _) rfl rfl ?_
  refine ex_iconst (n := 0) (v := 0) (np := 28) C (by decide +kernel) (by decide) rfl ?_
  refine ex_aload_n (q := 0) (x := 18) (np := 29) C (by decide +kernel) rfl rfl ?_
  refine ex_getf (q := 2) (v := .ref 20) (np := 32) C hc_X8 hin_X8 (by decide) tg_319 (by decide +kernel) (WI_18 _ _) rfl rfl ?_
  refine ex_iconst (n := 0) (v := 0) (np := 33) C (by decide +kernel) (by decide) rfl ?_
  refine ex_bipush (n := 7) (v := 7) (np := 35) C (by decide +kernel) (by decide) rfl ?_
  refine ex_aci (n := 7) (np := 38) C tg_1144 tg_785 tg_784 tg_164 (by decide +kernel) (WI_4 _ _) (WI_20 _ _) (by decide) (by decide) rfl (fun y1 c1 => ?_)
  rw [WI_20_s]
  refine ex_aload_n (q := 1) (x := 2) (np := 39) C (by decide +kernel) rfl rfl ?_
  refine ex_getf (q := 3) (v := .ref 5) (np := 42) C hc_X8 hin_X8 (by decide) tg_323 (by decide +kernel) (WI_2 _ _) rfl rfl ?_
  refine ex_iconst (n := 0) (v := 0) (np := 43) C (by decide +kernel) (by decide) rfl ?_
  refine ex_aload_n (q := 0) (x := 18) (np := 44) C (by decide +kernel) rfl rfl ?_
  refine ex_getf (q := 3) (v := .ref 21) (np := 47) C hc_X8 hin_X8 (by decide) tg_323 (by decide +kernel) (WI_18 _ _) rfl rfl ?_
  refine ex_iconst (n := 0) (v := 0) (np := 48) C (by decide +kernel) (by decide) rfl ?_
  refine ex_bipush (n := 7) (v := 7) (np := 50) C (by decide +kernel) (by decide) rfl ?_
  refine ex_aci (n := 7) (np := 53) C tg_1144 tg_785 tg_784 tg_164 (by decide +kernel) (WI_5 _ _) (WI_21 _ _) (by decide) (by decide) rfl (fun y2 c2 => ?_)
  rw [WI_21_s]
  refine ex_aload_n (q := 0) (x := 18) (np := 54) C (by decide +kernel) rfl rfl ?_
  refine ex_aload_n (q := 1) (x := 2) (np := 55) C (by decide +kernel) rfl rfl ?_
  refine ex_getf (q := 4) (v := .int (σ.1 1)) (np := 58) C hc_X8 hin_X8 (by decide) tg_326 (by decide +kernel) (WI_2 _ _) rfl rfl ?_
  refine ex_putf (q := 4) (w1 := (WI g9 (sI 101 (σ.1 1) (sR 101 y2 (sR 100 y1 (sQ 100 y0 (sI 100 (σ.1 0) σ))))))) (np := 61) C hc_X8 hin_X8 (by decide) tyX8_ok nmX8 tg_326 rfl (by decide +kernel) (WI_18 _ _) (Nat.le_of_ble_eq_true rfl) rfl rfl (WI_18_4 _ _ _) rfl ?_
  refine ex_aload_n (q := 1) (x := 2) (np := 62) C (by decide +kernel) rfl rfl ?_
  refine ex_getf (q := 5) (v := .ref 6) (np := 65) C hc_X8 hin_X8 (by decide) tg_329 (by decide +kernel) (WI_2 _ _) rfl rfl ?_
  refine ex_iconst (n := 0) (v := 0) (np := 66) C (by decide +kernel) (by decide) rfl ?_
  refine ex_aload_n (q := 0) (x := 18) (np := 67) C (by decide +kernel) rfl rfl ?_
  refine ex_getf (q := 5) (v := .ref 22) (np := 70) C hc_X8 hin_X8 (by decide) tg_329 (by decide +kernel) (WI_18 _ _) rfl rfl ?_
  refine ex_iconst (n := 0) (v := 0) (np := 71) C (by decide +kernel) (by decide) rfl ?_
  refine ex_bipush (n := 12) (v := 12) (np := 73) C (by decide +kernel) (by decide) rfl ?_
  refine ex_aci (n := 12) (np := 76) C tg_1144 tg_785 tg_784 tg_164 (by decide +kernel) (WI_6 _ _) (WI_22 _ _) (by decide) (by decide) rfl (fun y3 c3 => ?_)
  rw [WI_22_s]
  refine ex_aload_n (q := 1) (x := 2) (np := 77) C (by decide +kernel) rfl rfl ?_
  refine ex_getf (q := 6) (v := .ref 7) (np := 80) C hc_X8 hin_X8 (by decide) tg_331 (by decide +kernel) (WI_2 _ _) rfl rfl ?_
  refine ex_iconst (n := 0) (v := 0) (np := 81) C (by decide +kernel) (by decide) rfl ?_
  refine ex_aload_n (q := 0) (x := 18) (np := 82) C (by decide +kernel) rfl rfl ?_
  refine ex_getf (q := 6) (v := .ref 23) (np := 85) C hc_X8 hin_X8 (by decide) tg_331 (by decide +kernel) (WI_18 _ _) rfl rfl ?_
  refine ex_iconst (n := 0) (v := 0) (np := 86) C (by decide +kernel) (by decide) rfl ?_
  refine ex_bipush (n := 12) (v := 12) (np := 88) C (by decide +kernel) (by decide) rfl ?_
  refine ex_aci (n := 12) (np := 91) C tg_1144 tg_785 tg_784 tg_164 (by decide +kernel) (WI_7 _ _) (WI_23 _ _) (by decide) (by decide) rfl (fun y4 c4 => ?_)
  rw [WI_23_s]
  refine ex_aload_n (q := 1) (x := 2) (np := 92) C (by decide +kernel) rfl rfl ?_
  refine ex_getf (q := 7) (v := .ref 8) (np := 95) C hc_X8 hin_X8 (by decide) tg_333 (by decide +kernel) (WI_2 _ _) rfl rfl ?_
  refine ex_iconst (n := 0) (v := 0) (np := 96) C (by decide +kernel) (by decide) rfl ?_
  refine ex_aload_n (q := 0) (x := 18) (np := 97) C (by decide +kernel) rfl rfl ?_
  refine ex_getf (q := 7) (v := .ref 24) (np := 100) C hc_X8 hin_X8 (by decide) tg_333 (by decide +kernel) (WI_18 _ _) rfl rfl ?_
  refine ex_iconst (n := 0) (v := 0) (np := 101) C (by decide +kernel) (by decide) rfl ?_
  refine ex_bipush (n := 12) (v := 12) (np := 103) C (by decide +kernel) (by decide) rfl ?_
  refine ex_aci (n := 12) (np := 106) C tg_1144 tg_785 tg_784 tg_164 (by decide +kernel) (WI_8 _ _) (WI_24 _ _) (by decide) (by decide) rfl (fun y5 c5 => ?_)
  rw [WI_24_s]
  refine ex_aload_n (q := 1) (x := 2) (np := 107) C (by decide +kernel) rfl rfl ?_
  refine ex_getf (q := 8) (v := .ref 9) (np := 110) C hc_X8 hin_X8 (by decide) tg_335 (by decide +kernel) (WI_2 _ _) rfl rfl ?_
  refine ex_iconst (n := 0) (v := 0) (np := 111) C (by decide +kernel) (by decide) rfl ?_
  refine ex_aload_n (q := 0) (x := 18) (np := 112) C (by decide +kernel) rfl rfl ?_
  refine ex_getf (q := 8) (v := .ref 25) (np := 115) C hc_X8 hin_X8 (by decide) tg_335 (by decide +kernel) (WI_18 _ _) rfl rfl ?_
  refine ex_iconst (n := 0) (v := 0) (np := 116) C (by decide +kernel) (by decide) rfl ?_
  refine ex_bipush (n := 12) (v := 12) (np := 118) C (by decide +kernel) (by decide) rfl ?_
  refine ex_aci (n := 12) (np := 121) C tg_1144 tg_785 tg_784 tg_164 (by decide +kernel) (WI_9 _ _) (WI_25 _ _) (by decide) (by decide) rfl (fun y6 c6 => ?_)
  rw [WI_25_s]
  refine ex_aload_n (q := 0) (x := 18) (np := 122) C (by decide +kernel) rfl rfl ?_
  refine ex_aload_n (q := 1) (x := 2) (np := 123) C (by decide +kernel) rfl rfl ?_
  refine ex_getf (q := 9) (v := .int (σ.1 2)) (np := 126) C hc_X8 hin_X8 (by decide) tg_337 (by decide +kernel) (WI_2 _ _) rfl rfl ?_
  refine ex_putf (q := 9) (w1 := (WI g9 (sI 102 (σ.1 2) (sR 105 y6 (sR 104 y5 (sR 103 y4 (sR 102 y3 (sI 101 (σ.1 1) (sR 101 y2 (sR 100 y1 (sQ 100 y0 (sI 100 (σ.1 0) σ)))))))))))) (np := 129) C hc_X8 hin_X8 (by decide) tyX8_ok nmX8 tg_337 rfl (by decide +kernel) (WI_18 _ _) (Nat.le_of_ble_eq_true rfl) rfl rfl (WI_18_9 _ _ _) rfl ?_
  refine ex_aload_n (q := 1) (x := 2) (np := 130) C (by decide +kernel) rfl rfl ?_
  refine ex_getf (q := 10) (v := .ref 10) (np := 133) C hc_X8 hin_X8 (by decide) tg_341 (by decide +kernel) (WI_2 _ _) rfl rfl ?_
  refine ex_iconst (n := 0) (v := 0) (np := 134) C (by decide +kernel) (by decide) rfl ?_
  refine ex_aload_n (q := 0) (x := 18) (np := 135) C (by decide +kernel) rfl rfl ?_
  refine ex_getf (q := 10) (v := .ref 26) (np := 138) C hc_X8 hin_X8 (by decide) tg_341 (by decide +kernel) (WI_18 _ _) rfl rfl ?_
  refine ex_iconst (n := 0) (v := 0) (np := 139) C (by decide +kernel) (by decide) rfl ?_
  refine ex_bipush (n := 8) (v := 8) (np := 141) C (by decide +kernel) (by decide) rfl ?_
  refine ex_acl (n := 8) (np := 144) C tg_1144 tg_785 tg_784 tg_164 (by decide +kernel) (WI_10 _ _) (WI_26 _ _) (by decide) (by decide) rfl (fun y7 c7 => ?_)
  rw [WI_26_s]
  refine ex_aload_n (q := 1) (x := 2) (np := 145) C (by decide +kernel) rfl rfl ?_
  refine ex_getf (q := 11) (v := .ref 11) (np := 148) C hc_X8 hin_X8 (by decide) tg_343 (by decide +kernel) (WI_2 _ _) rfl rfl ?_
  refine ex_iconst (n := 0) (v := 0) (np := 149) C (by decide +kernel) (by decide) rfl ?_
  refine ex_aload_n (q := 0) (x := 18) (np := 150) C (by decide +kernel) rfl rfl ?_
  refine ex_getf (q := 11) (v := .ref 27) (np := 153) C hc_X8 hin_X8 (by decide) tg_343 (by decide +kernel) (WI_18 _ _) rfl rfl ?_
  refine ex_iconst (n := 0) (v := 0) (np := 154) C (by decide +kernel) (by decide) rfl ?_
  refine ex_bipush (n := 8) (v := 8) (np := 156) C (by decide +kernel) (by decide) rfl ?_
  refine ex_aci (n := 8) (np := 159) C tg_1144 tg_785 tg_784 tg_164 (by decide +kernel) (WI_11 _ _) (WI_27 _ _) (by decide) (by decide) rfl (fun y8 c8 => ?_)
  rw [WI_27_s]
  refine ex_aload_n (q := 1) (x := 2) (np := 160) C (by decide +kernel) rfl rfl ?_
  refine ex_getf (q := 12) (v := .ref 12) (np := 163) C hc_X8 hin_X8 (by decide) tg_348 (by decide +kernel) (WI_2 _ _) rfl rfl ?_
  refine ex_iconst (n := 0) (v := 0) (np := 164) C (by decide +kernel) (by decide) rfl ?_
  refine ex_aload_n (q := 0) (x := 18) (np := 165) C (by decide +kernel) rfl rfl ?_
  refine ex_getf (q := 12) (v := .ref 28) (np := 168) C hc_X8 hin_X8 (by decide) tg_348 (by decide +kernel) (WI_18 _ _) rfl rfl ?_
  refine ex_iconst (n := 0) (v := 0) (np := 169) C (by decide +kernel) (by decide) rfl ?_
  refine ex_bipush (n := 8) (v := 8) (np := 171) C (by decide +kernel) (by decide) rfl ?_
  refine ex_aci (n := 8) (np := 174) C tg_1144 tg_785 tg_784 tg_164 (by decide +kernel) (WI_12 _ _) (WI_28 _ _) (by decide) (by decide) rfl (fun y9 c9 => ?_)
  rw [WI_28_s]
  refine ex_aload_n (q := 1) (x := 2) (np := 175) C (by decide +kernel) rfl rfl ?_
  refine ex_getf (q := 13) (v := .ref 13) (np := 178) C hc_X8 hin_X8 (by decide) tg_352 (by decide +kernel) (WI_2 _ _) rfl rfl ?_
  refine ex_iconst (n := 0) (v := 0) (np := 179) C (by decide +kernel) (by decide) rfl ?_
  refine ex_aload_n (q := 0) (x := 18) (np := 180) C (by decide +kernel) rfl rfl ?_
  refine ex_getf (q := 13) (v := .ref 29) (np := 183) C hc_X8 hin_X8 (by decide) tg_352 (by decide +kernel) (WI_18 _ _) rfl rfl ?_
  refine ex_iconst (n := 0) (v := 0) (np := 184) C (by decide +kernel) (by decide) rfl ?_
  refine ex_bipush (n := 8) (v := 8) (np := 186) C (by decide +kernel) (by decide) rfl ?_
  refine ex_aci (n := 8) (np := 189) C tg_1144 tg_785 tg_784 tg_164 (by decide +kernel) (WI_13 _ _) (WI_29 _ _) (by decide) (by decide) rfl (fun y10 c10 => ?_)
  rw [WI_29_s]
  refine ex_aload_n (q := 1) (x := 2) (np := 190) C (by decide +kernel) rfl rfl ?_
  refine ex_getf (q := 14) (v := .ref 14) (np := 193) C hc_X8 hin_X8 (by decide) tg_356 (by decide +kernel) (WI_2 _ _) rfl rfl ?_
  refine ex_iconst (n := 0) (v := 0) (np := 194) C (by decide +kernel) (by decide) rfl ?_
  refine ex_aload_n (q := 0) (x := 18) (np := 195) C (by decide +kernel) rfl rfl ?_
  refine ex_getf (q := 14) (v := .ref 30) (np := 198) C hc_X8 hin_X8 (by decide) tg_356 (by decide +kernel) (WI_18 _ _) rfl rfl ?_
  refine ex_iconst (n := 0) (v := 0) (np := 199) C (by decide +kernel) (by decide) rfl ?_
  refine ex_bipush (n := 8) (v := 8) (np := 201) C (by decide +kernel) (by decide) rfl ?_
  refine ex_aci (n := 8) (np := 204) C tg_1144 tg_785 tg_784 tg_164 (by decide +kernel) (WI_14 _ _) (WI_30 _ _) (by decide) (by decide) rfl (fun y11 c11 => ?_)
  rw [WI_30_s]
  refine ex_aload_n (q := 1) (x := 2) (np := 205) C (by decide +kernel) rfl rfl ?_
  refine ex_getf (q := 15) (v := .ref 15) (np := 208) C hc_X8 hin_X8 (by decide) tg_360 (by decide +kernel) (WI_2 _ _) rfl rfl ?_
  refine ex_iconst (n := 0) (v := 0) (np := 209) C (by decide +kernel) (by decide) rfl ?_
  refine ex_aload_n (q := 0) (x := 18) (np := 210) C (by decide +kernel) rfl rfl ?_
  refine ex_getf (q := 15) (v := .ref 31) (np := 213) C hc_X8 hin_X8 (by decide) tg_360 (by decide +kernel) (WI_18 _ _) rfl rfl ?_
  refine ex_iconst (n := 0) (v := 0) (np := 214) C (by decide +kernel) (by decide) rfl ?_
  refine ex_aload_n (q := 0) (x := 18) (np := 215) C (by decide +kernel) rfl rfl ?_
  refine ex_getf (q := 15) (v := .ref 31) (np := 218) C hc_X8 hin_X8 (by decide) tg_360 (by decide +kernel) (WI_18 _ _) rfl rfl ?_
  refine ex_len (v := 3) (np := 219) C (by decide +kernel) (WI_31 _ _) (by decide) rfl ?_
  refine ex_aci (n := 3) (np := 222) C tg_1144 tg_785 tg_784 tg_164 (by decide +kernel) (WI_15 _ _) (WI_31 _ _) (by decide) (by decide) rfl (fun y12 c12 => ?_)
  rw [WI_31_s]
  exact ex_vret C hr hlk (by decide +kernel) (Nat.le_refl _) (Nat.le_refl _) ⟨y0, y1, y2, y3, y4, y5, y6, y7, y8, y9, y10, y11, y12, ⟨c0, c1, c2, c3, c4, c5, c6, c7, c8, c9, c10, c11, c12⟩, rfl⟩
set_option maxRecDepth 100000 in
set_option maxHeartbeats 4000000 in
theorem m_X7_copyFrom_50_46 {l : Launch} {X : ab_X} {D : va_G} {A : ex_A} (d : Nat) (hd : 1 ≤ d) (g9 : Nat → Option Nat) (σ : ex_S) : ex_ctr l X D A d yX7_copyFrom cX7_copyFrom 2 none (WI g9 σ) [.ref 50, .ref 46] (fun _ w => ∃ (y0 : Nat → Int32) (y1 : Nat → Int32) (y2 : Nat → Int32), ((∀ j : Nat, j < 7 → y0 j = (σ.2.2.1 1000) j) ∧ (∀ j : Nat, j < 7 → y1 j = (σ.2.2.1 1001) j) ∧ (∀ j : Nat, j < 7 → y2 j = (σ.2.2.1 1002) j)) ∧ w = WI g9 (sR 1012 y2 (sR 1011 y1 (sR 1010 y0 (sI 1012 (σ.1 1002) (sI 1011 (σ.1 1001) (sI 1010 (σ.1 1000) σ))))))) := by
  obtain ⟨d, rfl⟩ : ∃ d9, d = d9 + 1 := ⟨d - 1, by omega⟩
  refine ex_meth (own := RX7) rfl (by decide) (Nat.le_of_ble_eq_true rfl) (fun p e R s m below meth c C hr hlk hd1 hd2 => ?_)
  show ex_ok p l e R s m _ below meth c 0 0 _ 2 X D A (WI g9 σ) 0 [(0, .ref 50), (1, .ref 46)] []
  refine ex_aload_n (q := 0) (x := 50) (np := 1) C (by decide +kernel) rfl rfl ?_
  refine ex_aload_n (q := 1) (x := 46) (np := 2) C (by decide +kernel) rfl rfl ?_
  refine ex_getf (q := 0) (v := .int (σ.1 1000)) (np := 5) C hc_X7 hin_X7 (by decide) tg_401 (by decide +kernel) (WI_46 _ _) rfl rfl ?_
  refine ex_putf (q := 0) (w1 := (WI g9 (sI 1010 (σ.1 1000) σ))) (np := 8) C hc_X7 hin_X7 (by decide) tyX7_ok nmX7 tg_401 rfl (by decide +kernel) (WI_50 _ _) (Nat.le_of_ble_eq_true rfl) rfl rfl (WI_50_0 _ _ _) rfl ?_
  refine ex_aload_n (q := 0) (x := 50) (np := 9) C (by decide +kernel) rfl rfl ?_
  refine ex_aload_n (q := 1) (x := 46) (np := 10) C (by decide +kernel) rfl rfl ?_
  refine ex_getf (q := 1) (v := .int (σ.1 1001)) (np := 13) C hc_X7 hin_X7 (by decide) tg_404 (by decide +kernel) (WI_46 _ _) rfl rfl ?_
  refine ex_putf (q := 1) (w1 := (WI g9 (sI 1011 (σ.1 1001) (sI 1010 (σ.1 1000) σ)))) (np := 16) C hc_X7 hin_X7 (by decide) tyX7_ok nmX7 tg_404 rfl (by decide +kernel) (WI_50 _ _) (Nat.le_of_ble_eq_true rfl) rfl rfl (WI_50_1 _ _ _) rfl ?_
  refine ex_aload_n (q := 0) (x := 50) (np := 17) C (by decide +kernel) rfl rfl ?_
  refine ex_aload_n (q := 1) (x := 46) (np := 18) C (by decide +kernel) rfl rfl ?_
  refine ex_getf (q := 2) (v := .int (σ.1 1002)) (np := 21) C hc_X7 hin_X7 (by decide) tg_406 (by decide +kernel) (WI_46 _ _) rfl rfl ?_
  refine ex_putf (q := 2) (w1 := (WI g9 (sI 1012 (σ.1 1002) (sI 1011 (σ.1 1001) (sI 1010 (σ.1 1000) σ))))) (np := 24) C hc_X7 hin_X7 (by decide) tyX7_ok nmX7 tg_406 rfl (by decide +kernel) (WI_50 _ _) (Nat.le_of_ble_eq_true rfl) rfl rfl (WI_50_2 _ _ _) rfl ?_
  refine ex_aload_n (q := 1) (x := 46) (np := 25) C (by decide +kernel) rfl rfl ?_
  refine ex_getf (q := 3) (v := .ref 47) (np := 28) C hc_X7 hin_X7 (by decide) tg_407 (by decide +kernel) (WI_46 _ _) rfl rfl ?_
  refine ex_iconst (n := 0) (v := 0) (np := 29) C (by decide +kernel) (by decide) rfl ?_
  refine ex_aload_n (q := 0) (x := 50) (np := 30) C (by decide +kernel) rfl rfl ?_
  refine ex_getf (q := 3) (v := .ref 51) (np := 33) C hc_X7 hin_X7 (by decide) tg_407 (by decide +kernel) (WI_50 _ _) rfl rfl ?_
  refine ex_iconst (n := 0) (v := 0) (np := 34) C (by decide +kernel) (by decide) rfl ?_
  refine ex_bipush (n := 7) (v := 7) (np := 36) C (by decide +kernel) (by decide) rfl ?_
  refine ex_aci (n := 7) (np := 39) C tg_783 tg_785 tg_784 tg_164 (by decide +kernel) (WI_47 _ _) (WI_51 _ _) (by decide) (by decide) rfl (fun y0 c0 => ?_)
  rw [WI_51_s]
  refine ex_aload_n (q := 1) (x := 46) (np := 40) C (by decide +kernel) rfl rfl ?_
  refine ex_getf (q := 4) (v := .ref 48) (np := 43) C hc_X7 hin_X7 (by decide) tg_410 (by decide +kernel) (WI_46 _ _) rfl rfl ?_
  refine ex_iconst (n := 0) (v := 0) (np := 44) C (by decide +kernel) (by decide) rfl ?_
  refine ex_aload_n (q := 0) (x := 50) (np := 45) C (by decide +kernel) rfl rfl ?_
  refine ex_getf (q := 4) (v := .ref 52) (np := 48) C hc_X7 hin_X7 (by decide) tg_410 (by decide +kernel) (WI_50 _ _) rfl rfl ?_
  refine ex_iconst (n := 0) (v := 0) (np := 49) C (by decide +kernel) (by decide) rfl ?_
  refine ex_bipush (n := 7) (v := 7) (np := 51) C (by decide +kernel) (by decide) rfl ?_
  refine ex_aci (n := 7) (np := 54) C tg_783 tg_785 tg_784 tg_164 (by decide +kernel) (WI_48 _ _) (WI_52 _ _) (by decide) (by decide) rfl (fun y1 c1 => ?_)
  rw [WI_52_s]
  refine ex_aload_n (q := 1) (x := 46) (np := 55) C (by decide +kernel) rfl rfl ?_
  refine ex_getf (q := 5) (v := .ref 49) (np := 58) C hc_X7 hin_X7 (by decide) tg_413 (by decide +kernel) (WI_46 _ _) rfl rfl ?_
  refine ex_iconst (n := 0) (v := 0) (np := 59) C (by decide +kernel) (by decide) rfl ?_
  refine ex_aload_n (q := 0) (x := 50) (np := 60) C (by decide +kernel) rfl rfl ?_
  refine ex_getf (q := 5) (v := .ref 53) (np := 63) C hc_X7 hin_X7 (by decide) tg_413 (by decide +kernel) (WI_50 _ _) rfl rfl ?_
  refine ex_iconst (n := 0) (v := 0) (np := 64) C (by decide +kernel) (by decide) rfl ?_
  refine ex_bipush (n := 7) (v := 7) (np := 66) C (by decide +kernel) (by decide) rfl ?_
  refine ex_aci (n := 7) (np := 69) C tg_783 tg_785 tg_784 tg_164 (by decide +kernel) (WI_49 _ _) (WI_53 _ _) (by decide) (by decide) rfl (fun y2 c2 => ?_)
  rw [WI_53_s]
  exact ex_vret C hr hlk (by decide +kernel) (Nat.le_refl _) (Nat.le_refl _) ⟨y0, y1, y2, ⟨c0, c1, c2⟩, rfl⟩
set_option maxRecDepth 100000 in
set_option maxHeartbeats 4000000 in
theorem m_X6_copyFrom_62_58 {l : Launch} {X : ab_X} {D : va_G} {A : ex_A} (d : Nat) (hd : 1 ≤ d) (g9 : Nat → Option Nat) (σ : ex_S) : ex_ctr l X D A d yX6_copyFrom cX6_copyFrom 2 none (WI g9 σ) [.ref 62, .ref 58] (fun _ w => ∃ (y0 : Nat → Int32) (y1 : Nat → Int32) (y2 : Nat → Int32), ((∀ j : Nat, j < 40 → y0 j = (σ.2.2.1 2000) j) ∧ (∀ j : Nat, j < 40 → y1 j = (σ.2.2.1 2001) j) ∧ (∀ j : Nat, j < 40 → y2 j = (σ.2.2.1 2002) j)) ∧ w = WI g9 (sR 2012 y2 (sR 2011 y1 (sR 2010 y0 (sI 2011 (σ.1 2001) (sI 2010 (σ.1 2000) σ)))))) := by
  obtain ⟨d, rfl⟩ : ∃ d9, d = d9 + 1 := ⟨d - 1, by omega⟩
  refine ex_meth (own := RX6) rfl (by decide) (Nat.le_of_ble_eq_true rfl) (fun p e R s m below meth c C hr hlk hd1 hd2 => ?_)
  show ex_ok p l e R s m _ below meth c 0 0 _ 2 X D A (WI g9 σ) 0 [(0, .ref 62), (1, .ref 58)] []
  refine ex_aload_n (q := 0) (x := 62) (np := 1) C (by decide +kernel) rfl rfl ?_
  refine ex_aload_n (q := 1) (x := 58) (np := 2) C (by decide +kernel) rfl rfl ?_
  refine ex_getf (q := 3) (v := .int (σ.1 2000)) (np := 5) C hc_X6 hin_X6 (by decide) tg_457 (by decide +kernel) (WI_58 _ _) rfl rfl ?_
  refine ex_putf (q := 3) (w1 := (WI g9 (sI 2010 (σ.1 2000) σ))) (np := 8) C hc_X6 hin_X6 (by decide) tyX6_ok nmX6 tg_457 rfl (by decide +kernel) (WI_62 _ _) (Nat.le_of_ble_eq_true rfl) rfl rfl (WI_62_3 _ _ _) rfl ?_
  refine ex_aload_n (q := 0) (x := 62) (np := 9) C (by decide +kernel) rfl rfl ?_
  refine ex_aload_n (q := 1) (x := 58) (np := 10) C (by decide +kernel) rfl rfl ?_
  refine ex_getf (q := 4) (v := .int (σ.1 2001)) (np := 13) C hc_X6 hin_X6 (by decide) tg_459 (by decide +kernel) (WI_58 _ _) rfl rfl ?_
  refine ex_putf (q := 4) (w1 := (WI g9 (sI 2011 (σ.1 2001) (sI 2010 (σ.1 2000) σ)))) (np := 16) C hc_X6 hin_X6 (by decide) tyX6_ok nmX6 tg_459 rfl (by decide +kernel) (WI_62 _ _) (Nat.le_of_ble_eq_true rfl) rfl rfl (WI_62_4 _ _ _) rfl ?_
  refine ex_aload_n (q := 1) (x := 58) (np := 17) C (by decide +kernel) rfl rfl ?_
  refine ex_getf (q := 0) (v := .ref 59) (np := 20) C hc_X6 hin_X6 (by decide) tg_454 (by decide +kernel) (WI_58 _ _) rfl rfl ?_
  refine ex_iconst (n := 0) (v := 0) (np := 21) C (by decide +kernel) (by decide) rfl ?_
  refine ex_aload_n (q := 0) (x := 62) (np := 22) C (by decide +kernel) rfl rfl ?_
  refine ex_getf (q := 0) (v := .ref 63) (np := 25) C hc_X6 hin_X6 (by decide) tg_454 (by decide +kernel) (WI_62 _ _) rfl rfl ?_
  refine ex_iconst (n := 0) (v := 0) (np := 26) C (by decide +kernel) (by decide) rfl ?_
  refine ex_bipush (n := 40) (v := 40) (np := 28) C (by decide +kernel) (by decide) rfl ?_
  refine ex_aci (n := 40) (np := 31) C tg_1149 tg_785 tg_784 tg_164 (by decide +kernel) (WI_59 _ _) (WI_63 _ _) (by decide) (by decide) rfl (fun y0 c0 => ?_)
  rw [WI_63_s]
  refine ex_aload_n (q := 1) (x := 58) (np := 32) C (by decide +kernel) rfl rfl ?_
  refine ex_getf (q := 1) (v := .ref 60) (np := 35) C hc_X6 hin_X6 (by decide) tg_455 (by decide +kernel) (WI_58 _ _) rfl rfl ?_
  refine ex_iconst (n := 0) (v := 0) (np := 36) C (by decide +kernel) (by decide) rfl ?_
  refine ex_aload_n (q := 0) (x := 62) (np := 37) C (by decide +kernel) rfl rfl ?_
  refine ex_getf (q := 1) (v := .ref 64) (np := 40) C hc_X6 hin_X6 (by decide) tg_455 (by decide +kernel) (WI_62 _ _) rfl rfl ?_
  refine ex_iconst (n := 0) (v := 0) (np := 41) C (by decide +kernel) (by decide) rfl ?_
  refine ex_bipush (n := 40) (v := 40) (np := 43) C (by decide +kernel) (by decide) rfl ?_
  refine ex_aci (n := 40) (np := 46) C tg_1149 tg_785 tg_784 tg_164 (by decide +kernel) (WI_60 _ _) (WI_64 _ _) (by decide) (by decide) rfl (fun y1 c1 => ?_)
  rw [WI_64_s]
  refine ex_aload_n (q := 1) (x := 58) (np := 47) C (by decide +kernel) rfl rfl ?_
  refine ex_getf (q := 2) (v := .ref 61) (np := 50) C hc_X6 hin_X6 (by decide) tg_456 (by decide +kernel) (WI_58 _ _) rfl rfl ?_
  refine ex_iconst (n := 0) (v := 0) (np := 51) C (by decide +kernel) (by decide) rfl ?_
  refine ex_aload_n (q := 0) (x := 62) (np := 52) C (by decide +kernel) rfl rfl ?_
  refine ex_getf (q := 2) (v := .ref 65) (np := 55) C hc_X6 hin_X6 (by decide) tg_456 (by decide +kernel) (WI_62 _ _) rfl rfl ?_
  refine ex_iconst (n := 0) (v := 0) (np := 56) C (by decide +kernel) (by decide) rfl ?_
  refine ex_bipush (n := 40) (v := 40) (np := 58) C (by decide +kernel) (by decide) rfl ?_
  refine ex_aci (n := 40) (np := 61) C tg_1149 tg_785 tg_784 tg_164 (by decide +kernel) (WI_61 _ _) (WI_65 _ _) (by decide) (by decide) rfl (fun y2 c2 => ?_)
  rw [WI_65_s]
  exact ex_vret C hr hlk (by decide +kernel) (Nat.le_refl _) (Nat.le_refl _) ⟨y0, y1, y2, ⟨c0, c1, c2⟩, rfl⟩
set_option maxRecDepth 100000 in
set_option maxHeartbeats 4000000 in
theorem m_X8_copyFrom_32_2 {l : Launch} {X : ab_X} {D : va_G} {A : ex_A} (d : Nat) (hd : 1 ≤ d) (g9 : Nat → Option Nat) (σ : ex_S) : ex_ctr l X D A d yX8_copyFrom cX8_copyFrom 2 none (WI g9 σ) [.ref 32, .ref 2] (fun _ w => ∃ (y0 : Nat → Int64) (y1 : Nat → Int32) (y2 : Nat → Int32) (y3 : Nat → Int32) (y4 : Nat → Int32) (y5 : Nat → Int32) (y6 : Nat → Int32) (y7 : Nat → Int64) (y8 : Nat → Int32) (y9 : Nat → Int32) (y10 : Nat → Int32) (y11 : Nat → Int32) (y12 : Nat → Int32), ((∀ j : Nat, j < 7 → y0 j = (σ.2.2.2 0) j) ∧ (∀ j : Nat, j < 7 → y1 j = (σ.2.2.1 0) j) ∧ (∀ j : Nat, j < 7 → y2 j = (σ.2.2.1 1) j) ∧ (∀ j : Nat, j < 12 → y3 j = (σ.2.2.1 2) j) ∧ (∀ j : Nat, j < 12 → y4 j = (σ.2.2.1 3) j) ∧ (∀ j : Nat, j < 12 → y5 j = (σ.2.2.1 4) j) ∧ (∀ j : Nat, j < 12 → y6 j = (σ.2.2.1 5) j) ∧ (∀ j : Nat, j < 8 → y7 j = (σ.2.2.2 1) j) ∧ (∀ j : Nat, j < 8 → y8 j = (σ.2.2.1 6) j) ∧ (∀ j : Nat, j < 8 → y9 j = (σ.2.2.1 7) j) ∧ (∀ j : Nat, j < 8 → y10 j = (σ.2.2.1 8) j) ∧ (∀ j : Nat, j < 8 → y11 j = (σ.2.2.1 9) j) ∧ (∀ j : Nat, j < 3 → y12 j = (σ.2.2.1 10) j)) ∧ w = WI g9 (sR 210 y12 (sR 209 y11 (sR 208 y10 (sR 207 y9 (sR 206 y8 (sQ 201 y7 (sI 202 (σ.1 2) (sR 205 y6 (sR 204 y5 (sR 203 y4 (sR 202 y3 (sI 201 (σ.1 1) (sR 201 y2 (sR 200 y1 (sQ 200 y0 (sI 200 (σ.1 0) σ))))))))))))))))) := by
  obtain ⟨d, rfl⟩ : ∃ d9, d = d9 + 1 := ⟨d - 1, by omega⟩
  refine ex_meth (own := RX8) rfl (by decide) (Nat.le_of_ble_eq_true rfl) (fun p e R s m below meth c C hr hlk hd1 hd2 => ?_)
  show ex_ok p l e R s m _ below meth c 0 0 _ 2 X D A (WI g9 σ) 0 [(0, .ref 32), (1, .ref 2)] []
  refine ex_aload_n (q := 0) (x := 32) (np := 1) C (by decide +kernel) rfl rfl ?_
  refine ex_aload_n (q := 1) (x := 2) (np := 2) C (by decide +kernel) rfl rfl ?_
  refine ex_getf (q := 0) (v := .int (σ.1 0)) (np := 5) C hc_X8 hin_X8 (by decide) tg_312 (by decide +kernel) (WI_2 _ _) rfl rfl ?_
  refine ex_putf (q := 0) (w1 := (WI g9 (sI 200 (σ.1 0) σ))) (np := 8) C hc_X8 hin_X8 (by decide) tyX8_ok nmX8 tg_312 rfl (by decide +kernel) (WI_32 _ _) (Nat.le_of_ble_eq_true rfl) rfl rfl (WI_32_0 _ _ _) rfl ?_
  refine ex_aload_n (q := 1) (x := 2) (np := 9) C (by decide +kernel) rfl rfl ?_
  refine ex_getf (q := 1) (v := .ref 3) (np := 12) C hc_X8 hin_X8 (by decide) tg_316 (by decide +kernel) (WI_2 _ _) rfl rfl ?_
  refine ex_iconst (n := 0) (v := 0) (np := 13) C (by decide +kernel) (by decide) rfl ?_
  refine ex_aload_n (q := 0) (x := 32) (np := 14) C (by decide +kernel) rfl rfl ?_
  refine ex_getf (q := 1) (v := .ref 33) (np := 17) C hc_X8 hin_X8 (by decide) tg_316 (by decide +kernel) (WI_32 _ _) rfl rfl ?_
  refine ex_iconst (n := 0) (v := 0) (np := 18) C (by decide +kernel) (by decide) rfl ?_
  refine ex_bipush (n := 7) (v := 7) (np := 20) C (by decide +kernel) (by decide) rfl ?_
  refine ex_acl (n := 7) (np := 23) C tg_1144 tg_785 tg_784 tg_164 (by decide +kernel) (WI_3 _ _) (WI_33 _ _) (by decide) (by decide) rfl (fun y0 c0 => ?_)
  rw [WI_33_s]
  refine ex_aload_n (q := 1) (x := 2) (np := 24) C (by decide +kernel) rfl rfl ?_
  refine ex_getf (q := 2) (v := .ref 4) (np := 27) C hc_X8 hin_X8 (by decide) tg_319 (by decide +kernel) (WI_2 _ _) rfl rfl ?_
  refine ex_iconst (n := 0) (v := 0) (np := 28) C (by decide +kernel) (by decide) rfl ?_
  refine ex_aload_n (q := 0) (x := 32) (np := 29) C (by decide +kernel) rfl rfl ?_
  refine ex_getf (q := 2) (v := .ref 34) (np := 32) C hc_X8 hin_X8 (by decide) tg_319 (by decide +kernel) (WI_32 _ _) rfl rfl ?_
  refine ex_iconst (n := 0) (v := 0) (np := 33) C (by decide +kernel) (by decide) rfl ?_
  refine ex_bipush (n := 7) (v := 7) (np := 35) C (by decide +kernel) (by decide) rfl ?_
  refine ex_aci (n := 7) (np := 38) C tg_1144 tg_785 tg_784 tg_164 (by decide +kernel) (WI_4 _ _) (WI_34 _ _) (by decide) (by decide) rfl (fun y1 c1 => ?_)
  rw [WI_34_s]
  refine ex_aload_n (q := 1) (x := 2) (np := 39) C (by decide +kernel) rfl rfl ?_
  refine ex_getf (q := 3) (v := .ref 5) (np := 42) C hc_X8 hin_X8 (by decide) tg_323 (by decide +kernel) (WI_2 _ _) rfl rfl ?_
  refine ex_iconst (n := 0) (v := 0) (np := 43) C (by decide +kernel) (by decide) rfl ?_
  refine ex_aload_n (q := 0) (x := 32) (np := 44) C (by decide +kernel) rfl rfl ?_
  refine ex_getf (q := 3) (v := .ref 35) (np := 47) C hc_X8 hin_X8 (by decide) tg_323 (by decide +kernel) (WI_32 _ _) rfl rfl ?_
  refine ex_iconst (n := 0) (v := 0) (np := 48) C (by decide +kernel) (by decide) rfl ?_
  refine ex_bipush (n := 7) (v := 7) (np := 50) C (by decide +kernel) (by decide) rfl ?_
  refine ex_aci (n := 7) (np := 53) C tg_1144 tg_785 tg_784 tg_164 (by decide +kernel) (WI_5 _ _) (WI_35 _ _) (by decide) (by decide) rfl (fun y2 c2 => ?_)
  rw [WI_35_s]
  refine ex_aload_n (q := 0) (x := 32) (np := 54) C (by decide +kernel) rfl rfl ?_
  refine ex_aload_n (q := 1) (x := 2) (np := 55) C (by decide +kernel) rfl rfl ?_
  refine ex_getf (q := 4) (v := .int (σ.1 1)) (np := 58) C hc_X8 hin_X8 (by decide) tg_326 (by decide +kernel) (WI_2 _ _) rfl rfl ?_
  refine ex_putf (q := 4) (w1 := (WI g9 (sI 201 (σ.1 1) (sR 201 y2 (sR 200 y1 (sQ 200 y0 (sI 200 (σ.1 0) σ))))))) (np := 61) C hc_X8 hin_X8 (by decide) tyX8_ok nmX8 tg_326 rfl (by decide +kernel) (WI_32 _ _) (Nat.le_of_ble_eq_true rfl) rfl rfl (WI_32_4 _ _ _) rfl ?_
  refine ex_aload_n (q := 1) (x := 2) (np := 62) C (by decide +kernel) rfl rfl ?_
  refine ex_getf (q := 5) (v := .ref 6) (np := 65) C hc_X8 hin_X8 (by decide) tg_329 (by decide +kernel) (WI_2 _ _) rfl rfl ?_
  refine ex_iconst (n := 0) (v := 0) (np := 66) C (by decide +kernel) (by decide) rfl ?_
  refine ex_aload_n (q := 0) (x := 32) (np := 67) C (by decide +kernel) rfl rfl ?_
  refine ex_getf (q := 5) (v := .ref 36) (np := 70) C hc_X8 hin_X8 (by decide) tg_329 (by decide +kernel) (WI_32 _ _) rfl rfl ?_
  refine ex_iconst (n := 0) (v := 0) (np := 71) C (by decide +kernel) (by decide) rfl ?_
  refine ex_bipush (n := 12) (v := 12) (np := 73) C (by decide +kernel) (by decide) rfl ?_
  refine ex_aci (n := 12) (np := 76) C tg_1144 tg_785 tg_784 tg_164 (by decide +kernel) (WI_6 _ _) (WI_36 _ _) (by decide) (by decide) rfl (fun y3 c3 => ?_)
  rw [WI_36_s]
  refine ex_aload_n (q := 1) (x := 2) (np := 77) C (by decide +kernel) rfl rfl ?_
  refine ex_getf (q := 6) (v := .ref 7) (np := 80) C hc_X8 hin_X8 (by decide) tg_331 (by decide +kernel) (WI_2 _ _) rfl rfl ?_
  refine ex_iconst (n := 0) (v := 0) (np := 81) C (by decide +kernel) (by decide) rfl ?_
  refine ex_aload_n (q := 0) (x := 32) (np := 82) C (by decide +kernel) rfl rfl ?_
  refine ex_getf (q := 6) (v := .ref 37) (np := 85) C hc_X8 hin_X8 (by decide) tg_331 (by decide +kernel) (WI_32 _ _) rfl rfl ?_
  refine ex_iconst (n := 0) (v := 0) (np := 86) C (by decide +kernel) (by decide) rfl ?_
  refine ex_bipush (n := 12) (v := 12) (np := 88) C (by decide +kernel) (by decide) rfl ?_
  refine ex_aci (n := 12) (np := 91) C tg_1144 tg_785 tg_784 tg_164 (by decide +kernel) (WI_7 _ _) (WI_37 _ _) (by decide) (by decide) rfl (fun y4 c4 => ?_)
  rw [WI_37_s]
  refine ex_aload_n (q := 1) (x := 2) (np := 92) C (by decide +kernel) rfl rfl ?_
  refine ex_getf (q := 7) (v := .ref 8) (np := 95) C hc_X8 hin_X8 (by decide) tg_333 (by decide +kernel) (WI_2 _ _) rfl rfl ?_
  refine ex_iconst (n := 0) (v := 0) (np := 96) C (by decide +kernel) (by decide) rfl ?_
  refine ex_aload_n (q := 0) (x := 32) (np := 97) C (by decide +kernel) rfl rfl ?_
  refine ex_getf (q := 7) (v := .ref 38) (np := 100) C hc_X8 hin_X8 (by decide) tg_333 (by decide +kernel) (WI_32 _ _) rfl rfl ?_
  refine ex_iconst (n := 0) (v := 0) (np := 101) C (by decide +kernel) (by decide) rfl ?_
  refine ex_bipush (n := 12) (v := 12) (np := 103) C (by decide +kernel) (by decide) rfl ?_
  refine ex_aci (n := 12) (np := 106) C tg_1144 tg_785 tg_784 tg_164 (by decide +kernel) (WI_8 _ _) (WI_38 _ _) (by decide) (by decide) rfl (fun y5 c5 => ?_)
  rw [WI_38_s]
  refine ex_aload_n (q := 1) (x := 2) (np := 107) C (by decide +kernel) rfl rfl ?_
  refine ex_getf (q := 8) (v := .ref 9) (np := 110) C hc_X8 hin_X8 (by decide) tg_335 (by decide +kernel) (WI_2 _ _) rfl rfl ?_
  refine ex_iconst (n := 0) (v := 0) (np := 111) C (by decide +kernel) (by decide) rfl ?_
  refine ex_aload_n (q := 0) (x := 32) (np := 112) C (by decide +kernel) rfl rfl ?_
  refine ex_getf (q := 8) (v := .ref 39) (np := 115) C hc_X8 hin_X8 (by decide) tg_335 (by decide +kernel) (WI_32 _ _) rfl rfl ?_
  refine ex_iconst (n := 0) (v := 0) (np := 116) C (by decide +kernel) (by decide) rfl ?_
  refine ex_bipush (n := 12) (v := 12) (np := 118) C (by decide +kernel) (by decide) rfl ?_
  refine ex_aci (n := 12) (np := 121) C tg_1144 tg_785 tg_784 tg_164 (by decide +kernel) (WI_9 _ _) (WI_39 _ _) (by decide) (by decide) rfl (fun y6 c6 => ?_)
  rw [WI_39_s]
  refine ex_aload_n (q := 0) (x := 32) (np := 122) C (by decide +kernel) rfl rfl ?_
  refine ex_aload_n (q := 1) (x := 2) (np := 123) C (by decide +kernel) rfl rfl ?_
  refine ex_getf (q := 9) (v := .int (σ.1 2)) (np := 126) C hc_X8 hin_X8 (by decide) tg_337 (by decide +kernel) (WI_2 _ _) rfl rfl ?_
  refine ex_putf (q := 9) (w1 := (WI g9 (sI 202 (σ.1 2) (sR 205 y6 (sR 204 y5 (sR 203 y4 (sR 202 y3 (sI 201 (σ.1 1) (sR 201 y2 (sR 200 y1 (sQ 200 y0 (sI 200 (σ.1 0) σ)))))))))))) (np := 129) C hc_X8 hin_X8 (by decide) tyX8_ok nmX8 tg_337 rfl (by decide +kernel) (WI_32 _ _) (Nat.le_of_ble_eq_true rfl) rfl rfl (WI_32_9 _ _ _) rfl ?_
  refine ex_aload_n (q := 1) (x := 2) (np := 130) C (by decide +kernel) rfl rfl ?_
  refine ex_getf (q := 10) (v := .ref 10) (np := 133) C hc_X8 hin_X8 (by decide) tg_341 (by decide +kernel) (WI_2 _ _) rfl rfl ?_
  refine ex_iconst (n := 0) (v := 0) (np := 134) C (by decide +kernel) (by decide) rfl ?_
  refine ex_aload_n (q := 0) (x := 32) (np := 135) C (by decide +kernel) rfl rfl ?_
  refine ex_getf (q := 10) (v := .ref 40) (np := 138) C hc_X8 hin_X8 (by decide) tg_341 (by decide +kernel) (WI_32 _ _) rfl rfl ?_
  refine ex_iconst (n := 0) (v := 0) (np := 139) C (by decide +kernel) (by decide) rfl ?_
  refine ex_bipush (n := 8) (v := 8) (np := 141) C (by decide +kernel) (by decide) rfl ?_
  refine ex_acl (n := 8) (np := 144) C tg_1144 tg_785 tg_784 tg_164 (by decide +kernel) (WI_10 _ _) (WI_40 _ _) (by decide) (by decide) rfl (fun y7 c7 => ?_)
  rw [WI_40_s]
  refine ex_aload_n (q := 1) (x := 2) (np := 145) C (by decide +kernel) rfl rfl ?_
  refine ex_getf (q := 11) (v := .ref 11) (np := 148) C hc_X8 hin_X8 (by decide) tg_343 (by decide +kernel) (WI_2 _ _) rfl rfl ?_
  refine ex_iconst (n := 0) (v := 0) (np := 149) C (by decide +kernel) (by decide) rfl ?_
  refine ex_aload_n (q := 0) (x := 32) (np := 150) C (by decide +kernel) rfl rfl ?_
  refine ex_getf (q := 11) (v := .ref 41) (np := 153) C hc_X8 hin_X8 (by decide) tg_343 (by decide +kernel) (WI_32 _ _) rfl rfl ?_
  refine ex_iconst (n := 0) (v := 0) (np := 154) C (by decide +kernel) (by decide) rfl ?_
  refine ex_bipush (n := 8) (v := 8) (np := 156) C (by decide +kernel) (by decide) rfl ?_
  refine ex_aci (n := 8) (np := 159) C tg_1144 tg_785 tg_784 tg_164 (by decide +kernel) (WI_11 _ _) (WI_41 _ _) (by decide) (by decide) rfl (fun y8 c8 => ?_)
  rw [WI_41_s]
  refine ex_aload_n (q := 1) (x := 2) (np := 160) C (by decide +kernel) rfl rfl ?_
  refine ex_getf (q := 12) (v := .ref 12) (np := 163) C hc_X8 hin_X8 (by decide) tg_348 (by decide +kernel) (WI_2 _ _) rfl rfl ?_
  refine ex_iconst (n := 0) (v := 0) (np := 164) C (by decide +kernel) (by decide) rfl ?_
  refine ex_aload_n (q := 0) (x := 32) (np := 165) C (by decide +kernel) rfl rfl ?_
  refine ex_getf (q := 12) (v := .ref 42) (np := 168) C hc_X8 hin_X8 (by decide) tg_348 (by decide +kernel) (WI_32 _ _) rfl rfl ?_
  refine ex_iconst (n := 0) (v := 0) (np := 169) C (by decide +kernel) (by decide) rfl ?_
  refine ex_bipush (n := 8) (v := 8) (np := 171) C (by decide +kernel) (by decide) rfl ?_
  refine ex_aci (n := 8) (np := 174) C tg_1144 tg_785 tg_784 tg_164 (by decide +kernel) (WI_12 _ _) (WI_42 _ _) (by decide) (by decide) rfl (fun y9 c9 => ?_)
  rw [WI_42_s]
  refine ex_aload_n (q := 1) (x := 2) (np := 175) C (by decide +kernel) rfl rfl ?_
  refine ex_getf (q := 13) (v := .ref 13) (np := 178) C hc_X8 hin_X8 (by decide) tg_352 (by decide +kernel) (WI_2 _ _) rfl rfl ?_
  refine ex_iconst (n := 0) (v := 0) (np := 179) C (by decide +kernel) (by decide) rfl ?_
  refine ex_aload_n (q := 0) (x := 32) (np := 180) C (by decide +kernel) rfl rfl ?_
  refine ex_getf (q := 13) (v := .ref 43) (np := 183) C hc_X8 hin_X8 (by decide) tg_352 (by decide +kernel) (WI_32 _ _) rfl rfl ?_
  refine ex_iconst (n := 0) (v := 0) (np := 184) C (by decide +kernel) (by decide) rfl ?_
  refine ex_bipush (n := 8) (v := 8) (np := 186) C (by decide +kernel) (by decide) rfl ?_
  refine ex_aci (n := 8) (np := 189) C tg_1144 tg_785 tg_784 tg_164 (by decide +kernel) (WI_13 _ _) (WI_43 _ _) (by decide) (by decide) rfl (fun y10 c10 => ?_)
  rw [WI_43_s]
  refine ex_aload_n (q := 1) (x := 2) (np := 190) C (by decide +kernel) rfl rfl ?_
  refine ex_getf (q := 14) (v := .ref 14) (np := 193) C hc_X8 hin_X8 (by decide) tg_356 (by decide +kernel) (WI_2 _ _) rfl rfl ?_
  refine ex_iconst (n := 0) (v := 0) (np := 194) C (by decide +kernel) (by decide) rfl ?_
  refine ex_aload_n (q := 0) (x := 32) (np := 195) C (by decide +kernel) rfl rfl ?_
  refine ex_getf (q := 14) (v := .ref 44) (np := 198) C hc_X8 hin_X8 (by decide) tg_356 (by decide +kernel) (WI_32 _ _) rfl rfl ?_
  refine ex_iconst (n := 0) (v := 0) (np := 199) C (by decide +kernel) (by decide) rfl ?_
  refine ex_bipush (n := 8) (v := 8) (np := 201) C (by decide +kernel) (by decide) rfl ?_
  refine ex_aci (n := 8) (np := 204) C tg_1144 tg_785 tg_784 tg_164 (by decide +kernel) (WI_14 _ _) (WI_44 _ _) (by decide) (by decide) rfl (fun y11 c11 => ?_)
  rw [WI_44_s]
  refine ex_aload_n (q := 1) (x := 2) (np := 205) C (by decide +kernel) rfl rfl ?_
  refine ex_getf (q := 15) (v := .ref 15) (np := 208) C hc_X8 hin_X8 (by decide) tg_360 (by decide +kernel) (WI_2 _ _) rfl rfl ?_
  refine ex_iconst (n := 0) (v := 0) (np := 209) C (by decide +kernel) (by decide) rfl ?_
  refine ex_aload_n (q := 0) (x := 32) (np := 210) C (by decide +kernel) rfl rfl ?_
  refine ex_getf (q := 15) (v := .ref 45) (np := 213) C hc_X8 hin_X8 (by decide) tg_360 (by decide +kernel) (WI_32 _ _) rfl rfl ?_
  refine ex_iconst (n := 0) (v := 0) (np := 214) C (by decide +kernel) (by decide) rfl ?_
  refine ex_aload_n (q := 0) (x := 32) (np := 215) C (by decide +kernel) rfl rfl ?_
  refine ex_getf (q := 15) (v := .ref 45) (np := 218) C hc_X8 hin_X8 (by decide) tg_360 (by decide +kernel) (WI_32 _ _) rfl rfl ?_
  refine ex_len (v := 3) (np := 219) C (by decide +kernel) (WI_45 _ _) (by decide) rfl ?_
  refine ex_aci (n := 3) (np := 222) C tg_1144 tg_785 tg_784 tg_164 (by decide +kernel) (WI_15 _ _) (WI_45 _ _) (by decide) (by decide) rfl (fun y12 c12 => ?_)
  rw [WI_45_s]
  exact ex_vret C hr hlk (by decide +kernel) (Nat.le_refl _) (Nat.le_refl _) ⟨y0, y1, y2, y3, y4, y5, y6, y7, y8, y9, y10, y11, y12, ⟨c0, c1, c2, c3, c4, c5, c6, c7, c8, c9, c10, c11, c12⟩, rfl⟩
set_option maxRecDepth 100000 in
set_option maxHeartbeats 4000000 in
theorem m_X7_copyFrom_54_46 {l : Launch} {X : ab_X} {D : va_G} {A : ex_A} (d : Nat) (hd : 1 ≤ d) (g9 : Nat → Option Nat) (σ : ex_S) : ex_ctr l X D A d yX7_copyFrom cX7_copyFrom 2 none (WI g9 σ) [.ref 54, .ref 46] (fun _ w => ∃ (y0 : Nat → Int32) (y1 : Nat → Int32) (y2 : Nat → Int32), ((∀ j : Nat, j < 7 → y0 j = (σ.2.2.1 1000) j) ∧ (∀ j : Nat, j < 7 → y1 j = (σ.2.2.1 1001) j) ∧ (∀ j : Nat, j < 7 → y2 j = (σ.2.2.1 1002) j)) ∧ w = WI g9 (sR 1022 y2 (sR 1021 y1 (sR 1020 y0 (sI 1022 (σ.1 1002) (sI 1021 (σ.1 1001) (sI 1020 (σ.1 1000) σ))))))) := by
  obtain ⟨d, rfl⟩ : ∃ d9, d = d9 + 1 := ⟨d - 1, by omega⟩
  refine ex_meth (own := RX7) rfl (by decide) (Nat.le_of_ble_eq_true rfl) (fun p e R s m below meth c C hr hlk hd1 hd2 => ?_)
  show ex_ok p l e R s m _ below meth c 0 0 _ 2 X D A (WI g9 σ) 0 [(0, .ref 54), (1, .ref 46)] []
  refine ex_aload_n (q := 0) (x := 54) (np := 1) C (by decide +kernel) rfl rfl ?_
  refine ex_aload_n (q := 1) (x := 46) (np := 2) C (by decide +kernel) rfl rfl ?_
  refine ex_getf (q := 0) (v := .int (σ.1 1000)) (np := 5) C hc_X7 hin_X7 (by decide) tg_401 (by decide +kernel) (WI_46 _ _) rfl rfl ?_
  refine ex_putf (q := 0) (w1 := (WI g9 (sI 1020 (σ.1 1000) σ))) (np := 8) C hc_X7 hin_X7 (by decide) tyX7_ok nmX7 tg_401 rfl (by decide +kernel) (WI_54 _ _) (Nat.le_of_ble_eq_true rfl) rfl rfl (WI_54_0 _ _ _) rfl ?_
  refine ex_aload_n (q := 0) (x := 54) (np := 9) C (by decide +kernel) rfl rfl ?_
  refine ex_aload_n (q := 1) (x := 46) (np := 10) C (by decide +kernel) rfl rfl ?_
  refine ex_getf (q := 1) (v := .int (σ.1 1001)) (np := 13) C hc_X7 hin_X7 (by decide) tg_404 (by decide +kernel) (WI_46 _ _) rfl rfl ?_
  refine ex_putf (q := 1) (w1 := (WI g9 (sI 1021 (σ.1 1001) (sI 1020 (σ.1 1000) σ)))) (np := 16) C hc_X7 hin_X7 (by decide) tyX7_ok nmX7 tg_404 rfl (by decide +kernel) (WI_54 _ _) (Nat.le_of_ble_eq_true rfl) rfl rfl (WI_54_1 _ _ _) rfl ?_
  refine ex_aload_n (q := 0) (x := 54) (np := 17) C (by decide +kernel) rfl rfl ?_
  refine ex_aload_n (q := 1) (x := 46) (np := 18) C (by decide +kernel) rfl rfl ?_
  refine ex_getf (q := 2) (v := .int (σ.1 1002)) (np := 21) C hc_X7 hin_X7 (by decide) tg_406 (by decide +kernel) (WI_46 _ _) rfl rfl ?_
  refine ex_putf (q := 2) (w1 := (WI g9 (sI 1022 (σ.1 1002) (sI 1021 (σ.1 1001) (sI 1020 (σ.1 1000) σ))))) (np := 24) C hc_X7 hin_X7 (by decide) tyX7_ok nmX7 tg_406 rfl (by decide +kernel) (WI_54 _ _) (Nat.le_of_ble_eq_true rfl) rfl rfl (WI_54_2 _ _ _) rfl ?_
  refine ex_aload_n (q := 1) (x := 46) (np := 25) C (by decide +kernel) rfl rfl ?_
  refine ex_getf (q := 3) (v := .ref 47) (np := 28) C hc_X7 hin_X7 (by decide) tg_407 (by decide +kernel) (WI_46 _ _) rfl rfl ?_
  refine ex_iconst (n := 0) (v := 0) (np := 29) C (by decide +kernel) (by decide) rfl ?_
  refine ex_aload_n (q := 0) (x := 54) (np := 30) C (by decide +kernel) rfl rfl ?_
  refine ex_getf (q := 3) (v := .ref 55) (np := 33) C hc_X7 hin_X7 (by decide) tg_407 (by decide +kernel) (WI_54 _ _) rfl rfl ?_
  refine ex_iconst (n := 0) (v := 0) (np := 34) C (by decide +kernel) (by decide) rfl ?_
  refine ex_bipush (n := 7) (v := 7) (np := 36) C (by decide +kernel) (by decide) rfl ?_
  refine ex_aci (n := 7) (np := 39) C tg_783 tg_785 tg_784 tg_164 (by decide +kernel) (WI_47 _ _) (WI_55 _ _) (by decide) (by decide) rfl (fun y0 c0 => ?_)
  rw [WI_55_s]
  refine ex_aload_n (q := 1) (x := 46) (np := 40) C (by decide +kernel) rfl rfl ?_
  refine ex_getf (q := 4) (v := .ref 48) (np := 43) C hc_X7 hin_X7 (by decide) tg_410 (by decide +kernel) (WI_46 _ _) rfl rfl ?_
  refine ex_iconst (n := 0) (v := 0) (np := 44) C (by decide +kernel) (by decide) rfl ?_
  refine ex_aload_n (q := 0) (x := 54) (np := 45) C (by decide +kernel) rfl rfl ?_
  refine ex_getf (q := 4) (v := .ref 56) (np := 48) C hc_X7 hin_X7 (by decide) tg_410 (by decide +kernel) (WI_54 _ _) rfl rfl ?_
  refine ex_iconst (n := 0) (v := 0) (np := 49) C (by decide +kernel) (by decide) rfl ?_
  refine ex_bipush (n := 7) (v := 7) (np := 51) C (by decide +kernel) (by decide) rfl ?_
  refine ex_aci (n := 7) (np := 54) C tg_783 tg_785 tg_784 tg_164 (by decide +kernel) (WI_48 _ _) (WI_56 _ _) (by decide) (by decide) rfl (fun y1 c1 => ?_)
  rw [WI_56_s]
  refine ex_aload_n (q := 1) (x := 46) (np := 55) C (by decide +kernel) rfl rfl ?_
  refine ex_getf (q := 5) (v := .ref 49) (np := 58) C hc_X7 hin_X7 (by decide) tg_413 (by decide +kernel) (WI_46 _ _) rfl rfl ?_
  refine ex_iconst (n := 0) (v := 0) (np := 59) C (by decide +kernel) (by decide) rfl ?_
  refine ex_aload_n (q := 0) (x := 54) (np := 60) C (by decide +kernel) rfl rfl ?_
  refine ex_getf (q := 5) (v := .ref 57) (np := 63) C hc_X7 hin_X7 (by decide) tg_413 (by decide +kernel) (WI_54 _ _) rfl rfl ?_
  refine ex_iconst (n := 0) (v := 0) (np := 64) C (by decide +kernel) (by decide) rfl ?_
  refine ex_bipush (n := 7) (v := 7) (np := 66) C (by decide +kernel) (by decide) rfl ?_
  refine ex_aci (n := 7) (np := 69) C tg_783 tg_785 tg_784 tg_164 (by decide +kernel) (WI_49 _ _) (WI_57 _ _) (by decide) (by decide) rfl (fun y2 c2 => ?_)
  rw [WI_57_s]
  exact ex_vret C hr hlk (by decide +kernel) (Nat.le_refl _) (Nat.le_refl _) ⟨y0, y1, y2, ⟨c0, c1, c2⟩, rfl⟩
set_option maxRecDepth 100000 in
set_option maxHeartbeats 4000000 in
theorem m_X6_copyFrom_66_58 {l : Launch} {X : ab_X} {D : va_G} {A : ex_A} (d : Nat) (hd : 1 ≤ d) (g9 : Nat → Option Nat) (σ : ex_S) : ex_ctr l X D A d yX6_copyFrom cX6_copyFrom 2 none (WI g9 σ) [.ref 66, .ref 58] (fun _ w => ∃ (y0 : Nat → Int32) (y1 : Nat → Int32) (y2 : Nat → Int32), ((∀ j : Nat, j < 40 → y0 j = (σ.2.2.1 2000) j) ∧ (∀ j : Nat, j < 40 → y1 j = (σ.2.2.1 2001) j) ∧ (∀ j : Nat, j < 40 → y2 j = (σ.2.2.1 2002) j)) ∧ w = WI g9 (sR 2022 y2 (sR 2021 y1 (sR 2020 y0 (sI 2021 (σ.1 2001) (sI 2020 (σ.1 2000) σ)))))) := by
  obtain ⟨d, rfl⟩ : ∃ d9, d = d9 + 1 := ⟨d - 1, by omega⟩
  refine ex_meth (own := RX6) rfl (by decide) (Nat.le_of_ble_eq_true rfl) (fun p e R s m below meth c C hr hlk hd1 hd2 => ?_)
  show ex_ok p l e R s m _ below meth c 0 0 _ 2 X D A (WI g9 σ) 0 [(0, .ref 66), (1, .ref 58)] []
  refine ex_aload_n (q := 0) (x := 66) (np := 1) C (by decide +kernel) rfl rfl ?_
  refine ex_aload_n (q := 1) (x := 58) (np := 2) C (by decide +kernel) rfl rfl ?_
  refine ex_getf (q := 3) (v := .int (σ.1 2000)) (np := 5) C hc_X6 hin_X6 (by decide) tg_457 (by decide +kernel) (WI_58 _ _) rfl rfl ?_
  refine ex_putf (q := 3) (w1 := (WI g9 (sI 2020 (σ.1 2000) σ))) (np := 8) C hc_X6 hin_X6 (by decide) tyX6_ok nmX6 tg_457 rfl (by decide +kernel) (WI_66 _ _) (Nat.le_of_ble_eq_true rfl) rfl rfl (WI_66_3 _ _ _) rfl ?_
  refine ex_aload_n (q := 0) (x := 66) (np := 9) C (by decide +kernel) rfl rfl ?_
  refine ex_aload_n (q := 1) (x := 58) (np := 10) C (by decide +kernel) rfl rfl ?_
  refine ex_getf (q := 4) (v := .int (σ.1 2001)) (np := 13) C hc_X6 hin_X6 (by decide) tg_459 (by decide +kernel) (WI_58 _ _) rfl rfl ?_
  refine ex_putf (q := 4) (w1 := (WI g9 (sI 2021 (σ.1 2001) (sI 2020 (σ.1 2000) σ)))) (np := 16) C hc_X6 hin_X6 (by decide) tyX6_ok nmX6 tg_459 rfl (by decide +kernel) (WI_66 _ _) (Nat.le_of_ble_eq_true rfl) rfl rfl (WI_66_4 _ _ _) rfl ?_
  refine ex_aload_n (q := 1) (x := 58) (np := 17) C (by decide +kernel) rfl rfl ?_
  refine ex_getf (q := 0) (v := .ref 59) (np := 20) C hc_X6 hin_X6 (by decide) tg_454 (by decide +kernel) (WI_58 _ _) rfl rfl ?_
  refine ex_iconst (n := 0) (v := 0) (np := 21) C (by decide +kernel) (by decide) rfl ?_
  refine ex_aload_n (q := 0) (x := 66) (np := 22) C (by decide +kernel) rfl rfl ?_
  refine ex_getf (q := 0) (v := .ref 67) (np := 25) C hc_X6 hin_X6 (by decide) tg_454 (by decide +kernel) (WI_66 _ _) rfl rfl ?_
  refine ex_iconst (n := 0) (v := 0) (np := 26) C (by decide +kernel) (by decide) rfl ?_
  refine ex_bipush (n := 40) (v := 40) (np := 28) C (by decide +kernel) (by decide) rfl ?_
  refine ex_aci (n := 40) (np := 31) C tg_1149 tg_785 tg_784 tg_164 (by decide +kernel) (WI_59 _ _) (WI_67 _ _) (by decide) (by decide) rfl (fun y0 c0 => ?_)
  rw [WI_67_s]
  refine ex_aload_n (q := 1) (x := 58) (np := 32) C (by decide +kernel) rfl rfl ?_
  refine ex_getf (q := 1) (v := .ref 60) (np := 35) C hc_X6 hin_X6 (by decide) tg_455 (by decide +kernel) (WI_58 _ _) rfl rfl ?_
  refine ex_iconst (n := 0) (v := 0) (np := 36) C (by decide +kernel) (by decide) rfl ?_
  refine ex_aload_n (q := 0) (x := 66) (np := 37) C (by decide +kernel) rfl rfl ?_
  refine ex_getf (q := 1) (v := .ref 68) (np := 40) C hc_X6 hin_X6 (by decide) tg_455 (by decide +kernel) (WI_66 _ _) rfl rfl ?_
  refine ex_iconst (n := 0) (v := 0) (np := 41) C (by decide +kernel) (by decide) rfl ?_
  refine ex_bipush (n := 40) (v := 40) (np := 43) C (by decide +kernel) (by decide) rfl ?_
  refine ex_aci (n := 40) (np := 46) C tg_1149 tg_785 tg_784 tg_164 (by decide +kernel) (WI_60 _ _) (WI_68 _ _) (by decide) (by decide) rfl (fun y1 c1 => ?_)
  rw [WI_68_s]
  refine ex_aload_n (q := 1) (x := 58) (np := 47) C (by decide +kernel) rfl rfl ?_
  refine ex_getf (q := 2) (v := .ref 61) (np := 50) C hc_X6 hin_X6 (by decide) tg_456 (by decide +kernel) (WI_58 _ _) rfl rfl ?_
  refine ex_iconst (n := 0) (v := 0) (np := 51) C (by decide +kernel) (by decide) rfl ?_
  refine ex_aload_n (q := 0) (x := 66) (np := 52) C (by decide +kernel) rfl rfl ?_
  refine ex_getf (q := 2) (v := .ref 69) (np := 55) C hc_X6 hin_X6 (by decide) tg_456 (by decide +kernel) (WI_66 _ _) rfl rfl ?_
  refine ex_iconst (n := 0) (v := 0) (np := 56) C (by decide +kernel) (by decide) rfl ?_
  refine ex_bipush (n := 40) (v := 40) (np := 58) C (by decide +kernel) (by decide) rfl ?_
  refine ex_aci (n := 40) (np := 61) C tg_1149 tg_785 tg_784 tg_164 (by decide +kernel) (WI_61 _ _) (WI_69 _ _) (by decide) (by decide) rfl (fun y2 c2 => ?_)
  rw [WI_69_s]
  exact ex_vret C hr hlk (by decide +kernel) (Nat.le_refl _) (Nat.le_refl _) ⟨y0, y1, y2, ⟨c0, c1, c2⟩, rfl⟩
set_option maxRecDepth 100000 in
set_option maxHeartbeats 4000000 in
theorem m_X8_copyFrom_2_18 {l : Launch} {X : ab_X} {D : va_G} {A : ex_A} (d : Nat) (hd : 1 ≤ d) (g9 : Nat → Option Nat) (σ : ex_S) : ex_ctr l X D A d yX8_copyFrom cX8_copyFrom 2 none (WI g9 σ) [.ref 2, .ref 18] (fun _ w => ∃ (y0 : Nat → Int64) (y1 : Nat → Int32) (y2 : Nat → Int32) (y3 : Nat → Int32) (y4 : Nat → Int32) (y5 : Nat → Int32) (y6 : Nat → Int32) (y7 : Nat → Int64) (y8 : Nat → Int32) (y9 : Nat → Int32) (y10 : Nat → Int32) (y11 : Nat → Int32) (y12 : Nat → Int32), ((∀ j : Nat, j < 7 → y0 j = (σ.2.2.2 100) j) ∧ (∀ j : Nat, j < 7 → y1 j = (σ.2.2.1 100) j) ∧ (∀ j : Nat, j < 7 → y2 j = (σ.2.2.1 101) j) ∧ (∀ j : Nat, j < 12 → y3 j = (σ.2.2.1 102) j) ∧ (∀ j : Nat, j < 12 → y4 j = (σ.2.2.1 103) j) ∧ (∀ j : Nat, j < 12 → y5 j = (σ.2.2.1 104) j) ∧ (∀ j : Nat, j < 12 → y6 j = (σ.2.2.1 105) j) ∧ (∀ j : Nat, j < 8 → y7 j = (σ.2.2.2 101) j) ∧ (∀ j : Nat, j < 8 → y8 j = (σ.2.2.1 106) j) ∧ (∀ j : Nat, j < 8 → y9 j = (σ.2.2.1 107) j) ∧ (∀ j : Nat, j < 8 → y10 j = (σ.2.2.1 108) j) ∧ (∀ j : Nat, j < 8 → y11 j = (σ.2.2.1 109) j) ∧ (∀ j : Nat, j < 3 → y12 j = (σ.2.2.1 110) j)) ∧ w = WI g9 (sR 10 y12 (sR 9 y11 (sR 8 y10 (sR 7 y9 (sR 6 y8 (sQ 1 y7 (sI 2 (σ.1 102) (sR 5 y6 (sR 4 y5 (sR 3 y4 (sR 2 y3 (sI 1 (σ.1 101) (sR 1 y2 (sR 0 y1 (sQ 0 y0 (sI 0 (σ.1 100) σ))))))))))))))))) := by
  obtain ⟨d, rfl⟩ : ∃ d9, d = d9 + 1 := ⟨d - 1, by omega⟩
  refine ex_meth (own := RX8) rfl (by decide) (Nat.le_of_ble_eq_true rfl) (fun p e R s m below meth c C hr hlk hd1 hd2 => ?_)
  show ex_ok p l e R s m _ below meth c 0 0 _ 2 X D A (WI g9 σ) 0 [(0, .ref 2), (1, .ref 18)] []
  refine ex_aload_n (q := 0) (x := 2) (np := 1) C (by decide +kernel) rfl rfl ?_
  refine ex_aload_n (q := 1) (x := 18) (np := 2) C (by decide +kernel) rfl rfl ?_
  refine ex_getf (q := 0) (v := .int (σ.1 100)) (np := 5) C hc_X8 hin_X8 (by decide) tg_312 (by decide +kernel) (WI_18 _ _) rfl rfl ?_
  refine ex_putf (q := 0) (w1 := (WI g9 (sI 0 (σ.1 100) σ))) (np := 8) C hc_X8 hin_X8 (by decide) tyX8_ok nmX8 tg_312 rfl (by decide +kernel) (WI_2 _ _) (Nat.le_of_ble_eq_true rfl) rfl rfl (WI_2_0 _ _ _) rfl ?_
  refine ex_aload_n (q := 1) (x := 18) (np := 9) C (by decide +kernel) rfl rfl ?_
  refine ex_getf (q := 1) (v := .ref 19) (np := 12) C hc_X8 hin_X8 (by decide) tg_316 (by decide +kernel) (WI_18 _ _) rfl rfl ?_
  refine ex_iconst (n := 0) (v := 0) (np := 13) C (by decide +kernel) (by decide) rfl ?_
  refine ex_aload_n (q := 0) (x := 2) (np := 14) C (by decide +kernel) rfl rfl ?_
  refine ex_getf (q := 1) (v := .ref 3) (np := 17) C hc_X8 hin_X8 (by decide) tg_316 (by decide +kernel) (WI_2 _ _) rfl rfl ?_
  refine ex_iconst (n := 0) (v := 0) (np := 18) C (by decide +kernel) (by decide) rfl ?_
  refine ex_bipush (n := 7) (v := 7) (np := 20) C (by decide +kernel) (by decide) rfl ?_
  refine ex_acl (n := 7) (np := 23) C tg_1144 tg_785 tg_784 tg_164 (by decide +kernel) (WI_19 _ _) (WI_3 _ _) (by decide) (by decide) rfl (fun y0 c0 => ?_)
  rw [WI_3_s]
  refine ex_aload_n (q := 1) (x := 18) (np := 24) C (by decide +kernel) rfl rfl ?_
  refine ex_getf (q := 2) (v := .ref 20) (np := 27) C hc_X8 hin_X8 (by decide) tg_319 (by decide +kernel) (WI_18 _ _) rfl rfl ?_
  refine ex_iconst (n := 0) (v := 0) (np := 28) C (by decide +kernel) (by decide) rfl ?_
  refine ex_aload_n (q := 0) (x := 2) (np := 29) C (by decide +kernel) rfl rfl ?_
  refine ex_getf (q := 2) (v := .ref 4) (np := 32) C hc_X8 hin_X8 (by decide) tg_319 (by decide +kernel) (WI_2 _ _) rfl rfl ?_
  refine ex_iconst (n := 0) (v := 0) (np := 33) C (by decide +kernel) (by decide) rfl ?_
  refine ex_bipush (n := 7) (v := 7) (np := 35) C (by decide +kernel) (by decide) rfl ?_
  refine ex_aci (n := 7) (np := 38) C tg_1144 tg_785 tg_784 tg_164 (by decide +kernel) (WI_20 _ _) (WI_4 _ _) (by decide) (by decide) rfl (fun y1 c1 => ?_)
  rw [WI_4_s]
  refine ex_aload_n (q := 1) (x := 18) (np := 39) C (by decide +kernel) rfl rfl ?_
  refine ex_getf (q := 3) (v := .ref 21) (np := 42) C hc_X8 hin_X8 (by decide) tg_323 (by decide +kernel) (WI_18 _ _) rfl rfl ?_
  refine ex_iconst (n := 0) (v := 0) (np := 43) C (by decide +kernel) (by decide) rfl ?_
  refine ex_aload_n (q := 0) (x := 2) (np := 44) C (by decide +kernel) rfl rfl ?_
  refine ex_getf (q := 3) (v := .ref 5) (np := 47) C hc_X8 hin_X8 (by decide) tg_323 (by decide +kernel) (WI_2 _ _) rfl rfl ?_
  refine ex_iconst (n := 0) (v := 0) (np := 48) C (by decide +kernel) (by decide) rfl ?_
  refine ex_bipush (n := 7) (v := 7) (np := 50) C (by decide +kernel) (by decide) rfl ?_
  refine ex_aci (n := 7) (np := 53) C tg_1144 tg_785 tg_784 tg_164 (by decide +kernel) (WI_21 _ _) (WI_5 _ _) (by decide) (by decide) rfl (fun y2 c2 => ?_)
  rw [WI_5_s]
  refine ex_aload_n (q := 0) (x := 2) (np := 54) C (by decide +kernel) rfl rfl ?_
  refine ex_aload_n (q := 1) (x := 18) (np := 55) C (by decide +kernel) rfl rfl ?_
  refine ex_getf (q := 4) (v := .int (σ.1 101)) (np := 58) C hc_X8 hin_X8 (by decide) tg_326 (by decide +kernel) (WI_18 _ _) rfl rfl ?_
  refine ex_putf (q := 4) (w1 := (WI g9 (sI 1 (σ.1 101) (sR 1 y2 (sR 0 y1 (sQ 0 y0 (sI 0 (σ.1 100) σ))))))) (np := 61) C hc_X8 hin_X8 (by decide) tyX8_ok nmX8 tg_326 rfl (by decide +kernel) (WI_2 _ _) (Nat.le_of_ble_eq_true rfl) rfl rfl (WI_2_4 _ _ _) rfl ?_
  refine ex_aload_n (q := 1) (x := 18) (np := 62) C (by decide +kernel) rfl rfl ?_
  refine ex_getf (q := 5) (v := .ref 22) (np := 65) C hc_X8 hin_X8 (by decide) tg_329 (by decide +kernel) (WI_18 _ _) rfl rfl ?_
  refine ex_iconst (n := 0) (v := 0) (np := 66) C (by decide +kernel) (by decide) rfl ?_
  refine ex_aload_n (q := 0) (x := 2) (np := 67) C (by decide +kernel) rfl rfl ?_
  refine ex_getf (q := 5) (v := .ref 6) (np := 70) C hc_X8 hin_X8 (by decide) tg_329 (by decide +kernel) (WI_2 _ _) rfl rfl ?_
  refine ex_iconst (n := 0) (v := 0) (np := 71) C (by decide +kernel) (by decide) rfl ?_
  refine ex_bipush (n := 12) (v := 12) (np := 73) C (by decide +kernel) (by decide) rfl ?_
  refine ex_aci (n := 12) (np := 76) C tg_1144 tg_785 tg_784 tg_164 (by decide +kernel) (WI_22 _ _) (WI_6 _ _) (by decide) (by decide) rfl (fun y3 c3 => ?_)
  rw [WI_6_s]
  refine ex_aload_n (q := 1) (x := 18) (np := 77) C (by decide +kernel) rfl rfl ?_
  refine ex_getf (q := 6) (v := .ref 23) (np := 80) C hc_X8 hin_X8 (by decide) tg_331 (by decide +kernel) (WI_18 _ _) rfl rfl ?_
  refine ex_iconst (n := 0) (v := 0) (np := 81) C (by decide +kernel) (by decide) rfl ?_
  refine ex_aload_n (q := 0) (x := 2) (np := 82) C (by decide +kernel) rfl rfl ?_
  refine ex_getf (q := 6) (v := .ref 7) (np := 85) C hc_X8 hin_X8 (by decide) tg_331 (by decide +kernel) (WI_2 _ _) rfl rfl ?_
  refine ex_iconst (n := 0) (v := 0) (np := 86) C (by decide +kernel) (by decide) rfl ?_
  refine ex_bipush (n := 12) (v := 12) (np := 88) C (by decide +kernel) (by decide) rfl ?_
  refine ex_aci (n := 12) (np := 91) C tg_1144 tg_785 tg_784 tg_164 (by decide +kernel) (WI_23 _ _) (WI_7 _ _) (by decide) (by decide) rfl (fun y4 c4 => ?_)
  rw [WI_7_s]
  refine ex_aload_n (q := 1) (x := 18) (np := 92) C (by decide +kernel) rfl rfl ?_
  refine ex_getf (q := 7) (v := .ref 24) (np := 95) C hc_X8 hin_X8 (by decide) tg_333 (by decide +kernel) (WI_18 _ _) rfl rfl ?_
  refine ex_iconst (n := 0) (v := 0) (np := 96) C (by decide +kernel) (by decide) rfl ?_
  refine ex_aload_n (q := 0) (x := 2) (np := 97) C (by decide +kernel) rfl rfl ?_
  refine ex_getf (q := 7) (v := .ref 8) (np := 100) C hc_X8 hin_X8 (by decide) tg_333 (by decide +kernel) (WI_2 _ _) rfl rfl ?_
  refine ex_iconst (n := 0) (v := 0) (np := 101) C (by decide +kernel) (by decide) rfl ?_
  refine ex_bipush (n := 12) (v := 12) (np := 103) C (by decide +kernel) (by decide) rfl ?_
  refine ex_aci (n := 12) (np := 106) C tg_1144 tg_785 tg_784 tg_164 (by decide +kernel) (WI_24 _ _) (WI_8 _ _) (by decide) (by decide) rfl (fun y5 c5 => ?_)
  rw [WI_8_s]
  refine ex_aload_n (q := 1) (x := 18) (np := 107) C (by decide +kernel) rfl rfl ?_
  refine ex_getf (q := 8) (v := .ref 25) (np := 110) C hc_X8 hin_X8 (by decide) tg_335 (by decide +kernel) (WI_18 _ _) rfl rfl ?_
  refine ex_iconst (n := 0) (v := 0) (np := 111) C (by decide +kernel) (by decide) rfl ?_
  refine ex_aload_n (q := 0) (x := 2) (np := 112) C (by decide +kernel) rfl rfl ?_
  refine ex_getf (q := 8) (v := .ref 9) (np := 115) C hc_X8 hin_X8 (by decide) tg_335 (by decide +kernel) (WI_2 _ _) rfl rfl ?_
  refine ex_iconst (n := 0) (v := 0) (np := 116) C (by decide +kernel) (by decide) rfl ?_
  refine ex_bipush (n := 12) (v := 12) (np := 118) C (by decide +kernel) (by decide) rfl ?_
  refine ex_aci (n := 12) (np := 121) C tg_1144 tg_785 tg_784 tg_164 (by decide +kernel) (WI_25 _ _) (WI_9 _ _) (by decide) (by decide) rfl (fun y6 c6 => ?_)
  rw [WI_9_s]
  refine ex_aload_n (q := 0) (x := 2) (np := 122) C (by decide +kernel) rfl rfl ?_
  refine ex_aload_n (q := 1) (x := 18) (np := 123) C (by decide +kernel) rfl rfl ?_
  refine ex_getf (q := 9) (v := .int (σ.1 102)) (np := 126) C hc_X8 hin_X8 (by decide) tg_337 (by decide +kernel) (WI_18 _ _) rfl rfl ?_
  refine ex_putf (q := 9) (w1 := (WI g9 (sI 2 (σ.1 102) (sR 5 y6 (sR 4 y5 (sR 3 y4 (sR 2 y3 (sI 1 (σ.1 101) (sR 1 y2 (sR 0 y1 (sQ 0 y0 (sI 0 (σ.1 100) σ)))))))))))) (np := 129) C hc_X8 hin_X8 (by decide) tyX8_ok nmX8 tg_337 rfl (by decide +kernel) (WI_2 _ _) (Nat.le_of_ble_eq_true rfl) rfl rfl (WI_2_9 _ _ _) rfl ?_
  refine ex_aload_n (q := 1) (x := 18) (np := 130) C (by decide +kernel) rfl rfl ?_
  refine ex_getf (q := 10) (v := .ref 26) (np := 133) C hc_X8 hin_X8 (by decide) tg_341 (by decide +kernel) (WI_18 _ _) rfl rfl ?_
  refine ex_iconst (n := 0) (v := 0) (np := 134) C (by decide +kernel) (by decide) rfl ?_
  refine ex_aload_n (q := 0) (x := 2) (np := 135) C (by decide +kernel) rfl rfl ?_
  refine ex_getf (q := 10) (v := .ref 10) (np := 138) C hc_X8 hin_X8 (by decide) tg_341 (by decide +kernel) (WI_2 _ _) rfl rfl ?_
  refine ex_iconst (n := 0) (v := 0) (np := 139) C (by decide +kernel) (by decide) rfl ?_
  refine ex_bipush (n := 8) (v := 8) (np := 141) C (by decide +kernel) (by decide) rfl ?_
  refine ex_acl (n := 8) (np := 144) C tg_1144 tg_785 tg_784 tg_164 (by decide +kernel) (WI_26 _ _) (WI_10 _ _) (by decide) (by decide) rfl (fun y7 c7 => ?_)
  rw [WI_10_s]
  refine ex_aload_n (q := 1) (x := 18) (np := 145) C (by decide +kernel) rfl rfl ?_
  refine ex_getf (q := 11) (v := .ref 27) (np := 148) C hc_X8 hin_X8 (by decide) tg_343 (by decide +kernel) (WI_18 _ _) rfl rfl ?_
  refine ex_iconst (n := 0) (v := 0) (np := 149) C (by decide +kernel) (by decide) rfl ?_
  refine ex_aload_n (q := 0) (x := 2) (np := 150) C (by decide +kernel) rfl rfl ?_
  refine ex_getf (q := 11) (v := .ref 11) (np := 153) C hc_X8 hin_X8 (by decide) tg_343 (by decide +kernel) (WI_2 _ _) rfl rfl ?_
  refine ex_iconst (n := 0) (v := 0) (np := 154) C (by decide +kernel) (by decide) rfl ?_
  refine ex_bipush (n := 8) (v := 8) (np := 156) C (by decide +kernel) (by decide) rfl ?_
  refine ex_aci (n := 8) (np := 159) C tg_1144 tg_785 tg_784 tg_164 (by decide +kernel) (WI_27 _ _) (WI_11 _ _) (by decide) (by decide) rfl (fun y8 c8 => ?_)
  rw [WI_11_s]
  refine ex_aload_n (q := 1) (x := 18) (np := 160) C (by decide +kernel) rfl rfl ?_
  refine ex_getf (q := 12) (v := .ref 28) (np := 163) C hc_X8 hin_X8 (by decide) tg_348 (by decide +kernel) (WI_18 _ _) rfl rfl ?_
  refine ex_iconst (n := 0) (v := 0) (np := 164) C (by decide +kernel) (by decide) rfl ?_
  refine ex_aload_n (q := 0) (x := 2) (np := 165) C (by decide +kernel) rfl rfl ?_
  refine ex_getf (q := 12) (v := .ref 12) (np := 168) C hc_X8 hin_X8 (by decide) tg_348 (by decide +kernel) (WI_2 _ _) rfl rfl ?_
  refine ex_iconst (n := 0) (v := 0) (np := 169) C (by decide +kernel) (by decide) rfl ?_
  refine ex_bipush (n := 8) (v := 8) (np := 171) C (by decide +kernel) (by decide) rfl ?_
  refine ex_aci (n := 8) (np := 174) C tg_1144 tg_785 tg_784 tg_164 (by decide +kernel) (WI_28 _ _) (WI_12 _ _) (by decide) (by decide) rfl (fun y9 c9 => ?_)
  rw [WI_12_s]
  refine ex_aload_n (q := 1) (x := 18) (np := 175) C (by decide +kernel) rfl rfl ?_
  refine ex_getf (q := 13) (v := .ref 29) (np := 178) C hc_X8 hin_X8 (by decide) tg_352 (by decide +kernel) (WI_18 _ _) rfl rfl ?_
  refine ex_iconst (n := 0) (v := 0) (np := 179) C (by decide +kernel) (by decide) rfl ?_
  refine ex_aload_n (q := 0) (x := 2) (np := 180) C (by decide +kernel) rfl rfl ?_
  refine ex_getf (q := 13) (v := .ref 13) (np := 183) C hc_X8 hin_X8 (by decide) tg_352 (by decide +kernel) (WI_2 _ _) rfl rfl ?_
  refine ex_iconst (n := 0) (v := 0) (np := 184) C (by decide +kernel) (by decide) rfl ?_
  refine ex_bipush (n := 8) (v := 8) (np := 186) C (by decide +kernel) (by decide) rfl ?_
  refine ex_aci (n := 8) (np := 189) C tg_1144 tg_785 tg_784 tg_164 (by decide +kernel) (WI_29 _ _) (WI_13 _ _) (by decide) (by decide) rfl (fun y10 c10 => ?_)
  rw [WI_13_s]
  refine ex_aload_n (q := 1) (x := 18) (np := 190) C (by decide +kernel) rfl rfl ?_
  refine ex_getf (q := 14) (v := .ref 30) (np := 193) C hc_X8 hin_X8 (by decide) tg_356 (by decide +kernel) (WI_18 _ _) rfl rfl ?_
  refine ex_iconst (n := 0) (v := 0) (np := 194) C (by decide +kernel) (by decide) rfl ?_
  refine ex_aload_n (q := 0) (x := 2) (np := 195) C (by decide +kernel) rfl rfl ?_
  refine ex_getf (q := 14) (v := .ref 14) (np := 198) C hc_X8 hin_X8 (by decide) tg_356 (by decide +kernel) (WI_2 _ _) rfl rfl ?_
  refine ex_iconst (n := 0) (v := 0) (np := 199) C (by decide +kernel) (by decide) rfl ?_
  refine ex_bipush (n := 8) (v := 8) (np := 201) C (by decide +kernel) (by decide) rfl ?_
  refine ex_aci (n := 8) (np := 204) C tg_1144 tg_785 tg_784 tg_164 (by decide +kernel) (WI_30 _ _) (WI_14 _ _) (by decide) (by decide) rfl (fun y11 c11 => ?_)
  rw [WI_14_s]
  refine ex_aload_n (q := 1) (x := 18) (np := 205) C (by decide +kernel) rfl rfl ?_
  refine ex_getf (q := 15) (v := .ref 31) (np := 208) C hc_X8 hin_X8 (by decide) tg_360 (by decide +kernel) (WI_18 _ _) rfl rfl ?_
  refine ex_iconst (n := 0) (v := 0) (np := 209) C (by decide +kernel) (by decide) rfl ?_
  refine ex_aload_n (q := 0) (x := 2) (np := 210) C (by decide +kernel) rfl rfl ?_
  refine ex_getf (q := 15) (v := .ref 15) (np := 213) C hc_X8 hin_X8 (by decide) tg_360 (by decide +kernel) (WI_2 _ _) rfl rfl ?_
  refine ex_iconst (n := 0) (v := 0) (np := 214) C (by decide +kernel) (by decide) rfl ?_
  refine ex_aload_n (q := 0) (x := 2) (np := 215) C (by decide +kernel) rfl rfl ?_
  refine ex_getf (q := 15) (v := .ref 15) (np := 218) C hc_X8 hin_X8 (by decide) tg_360 (by decide +kernel) (WI_2 _ _) rfl rfl ?_
  refine ex_len (v := 3) (np := 219) C (by decide +kernel) (WI_15 _ _) (by decide) rfl ?_
  refine ex_aci (n := 3) (np := 222) C tg_1144 tg_785 tg_784 tg_164 (by decide +kernel) (WI_31 _ _) (WI_15 _ _) (by decide) (by decide) rfl (fun y12 c12 => ?_)
  rw [WI_15_s]
  exact ex_vret C hr hlk (by decide +kernel) (Nat.le_refl _) (Nat.le_refl _) ⟨y0, y1, y2, y3, y4, y5, y6, y7, y8, y9, y10, y11, y12, ⟨c0, c1, c2, c3, c4, c5, c6, c7, c8, c9, c10, c11, c12⟩, rfl⟩
set_option maxRecDepth 100000 in
set_option maxHeartbeats 4000000 in
theorem m_X7_copyFrom_46_50 {l : Launch} {X : ab_X} {D : va_G} {A : ex_A} (d : Nat) (hd : 1 ≤ d) (g9 : Nat → Option Nat) (σ : ex_S) : ex_ctr l X D A d yX7_copyFrom cX7_copyFrom 2 none (WI g9 σ) [.ref 46, .ref 50] (fun _ w => ∃ (y0 : Nat → Int32) (y1 : Nat → Int32) (y2 : Nat → Int32), ((∀ j : Nat, j < 7 → y0 j = (σ.2.2.1 1010) j) ∧ (∀ j : Nat, j < 7 → y1 j = (σ.2.2.1 1011) j) ∧ (∀ j : Nat, j < 7 → y2 j = (σ.2.2.1 1012) j)) ∧ w = WI g9 (sR 1002 y2 (sR 1001 y1 (sR 1000 y0 (sI 1002 (σ.1 1012) (sI 1001 (σ.1 1011) (sI 1000 (σ.1 1010) σ))))))) := by
  obtain ⟨d, rfl⟩ : ∃ d9, d = d9 + 1 := ⟨d - 1, by omega⟩
  refine ex_meth (own := RX7) rfl (by decide) (Nat.le_of_ble_eq_true rfl) (fun p e R s m below meth c C hr hlk hd1 hd2 => ?_)
  show ex_ok p l e R s m _ below meth c 0 0 _ 2 X D A (WI g9 σ) 0 [(0, .ref 46), (1, .ref 50)] []
  refine ex_aload_n (q := 0) (x := 46) (np := 1) C (by decide +kernel) rfl rfl ?_
  refine ex_aload_n (q := 1) (x := 50) (np := 2) C (by decide +kernel) rfl rfl ?_
  refine ex_getf (q := 0) (v := .int (σ.1 1010)) (np := 5) C hc_X7 hin_X7 (by decide) tg_401 (by decide +kernel) (WI_50 _ _) rfl rfl ?_
  refine ex_putf (q := 0) (w1 := (WI g9 (sI 1000 (σ.1 1010) σ))) (np := 8) C hc_X7 hin_X7 (by decide) tyX7_ok nmX7 tg_401 rfl (by decide +kernel) (WI_46 _ _) (Nat.le_of_ble_eq_true rfl) rfl rfl (WI_46_0 _ _ _) rfl ?_
  refine ex_aload_n (q := 0) (x := 46) (np := 9) C (by decide +kernel) rfl rfl ?_
  refine ex_aload_n (q := 1) (x := 50) (np := 10) C (by decide +kernel) rfl rfl ?_
  refine ex_getf (q := 1) (v := .int (σ.1 1011)) (np := 13) C hc_X7 hin_X7 (by decide) tg_404 (by decide +kernel) (WI_50 _ _) rfl rfl ?_
  refine ex_putf (q := 1) (w1 := (WI g9 (sI 1001 (σ.1 1011) (sI 1000 (σ.1 1010) σ)))) (np := 16) C hc_X7 hin_X7 (by decide) tyX7_ok nmX7 tg_404 rfl (by decide +kernel) (WI_46 _ _) (Nat.le_of_ble_eq_true rfl) rfl rfl (WI_46_1 _ _ _) rfl ?_
  refine ex_aload_n (q := 0) (x := 46) (np := 17) C (by decide +kernel) rfl rfl ?_
  refine ex_aload_n (q := 1) (x := 50) (np := 18) C (by decide +kernel) rfl rfl ?_
  refine ex_getf (q := 2) (v := .int (σ.1 1012)) (np := 21) C hc_X7 hin_X7 (by decide) tg_406 (by decide +kernel) (WI_50 _ _) rfl rfl ?_
  refine ex_putf (q := 2) (w1 := (WI g9 (sI 1002 (σ.1 1012) (sI 1001 (σ.1 1011) (sI 1000 (σ.1 1010) σ))))) (np := 24) C hc_X7 hin_X7 (by decide) tyX7_ok nmX7 tg_406 rfl (by decide +kernel) (WI_46 _ _) (Nat.le_of_ble_eq_true rfl) rfl rfl (WI_46_2 _ _ _) rfl ?_
  refine ex_aload_n (q := 1) (x := 50) (np := 25) C (by decide +kernel) rfl rfl ?_
  refine ex_getf (q := 3) (v := .ref 51) (np := 28) C hc_X7 hin_X7 (by decide) tg_407 (by decide +kernel) (WI_50 _ _) rfl rfl ?_
  refine ex_iconst (n := 0) (v := 0) (np := 29) C (by decide +kernel) (by decide) rfl ?_
  refine ex_aload_n (q := 0) (x := 46) (np := 30) C (by decide +kernel) rfl rfl ?_
  refine ex_getf (q := 3) (v := .ref 47) (np := 33) C hc_X7 hin_X7 (by decide) tg_407 (by decide +kernel) (WI_46 _ _) rfl rfl ?_
  refine ex_iconst (n := 0) (v := 0) (np := 34) C (by decide +kernel) (by decide) rfl ?_
  refine ex_bipush (n := 7) (v := 7) (np := 36) C (by decide +kernel) (by decide) rfl ?_
  refine ex_aci (n := 7) (np := 39) C tg_783 tg_785 tg_784 tg_164 (by decide +kernel) (WI_51 _ _) (WI_47 _ _) (by decide) (by decide) rfl (fun y0 c0 => ?_)
  rw [WI_47_s]
  refine ex_aload_n (q := 1) (x := 50) (np := 40) C (by decide +kernel) rfl rfl ?_
  refine ex_getf (q := 4) (v := .ref 52) (np := 43) C hc_X7 hin_X7 (by decide) tg_410 (by decide +kernel) (WI_50 _ _) rfl rfl ?_
  refine ex_iconst (n := 0) (v := 0) (np := 44) C (by decide +kernel) (by decide) rfl ?_
  refine ex_aload_n (q := 0) (x := 46) (np := 45) C (by decide +kernel) rfl rfl ?_
  refine ex_getf (q := 4) (v := .ref 48) (np := 48) C hc_X7 hin_X7 (by decide) tg_410 (by decide +kernel) (WI_46 _ _) rfl rfl ?_
  refine ex_iconst (n := 0) (v := 0) (np := 49) C (by decide +kernel) (by decide) rfl ?_
  refine ex_bipush (n := 7) (v := 7) (np := 51) C (by decide +kernel) (by decide) rfl ?_
  refine ex_aci (n := 7) (np := 54) C tg_783 tg_785 tg_784 tg_164 (by decide +kernel) (WI_52 _ _) (WI_48 _ _) (by decide) (by decide) rfl (fun y1 c1 => ?_)
  rw [WI_48_s]
  refine ex_aload_n (q := 1) (x := 50) (np := 55) C (by decide +kernel) rfl rfl ?_
  refine ex_getf (q := 5) (v := .ref 53) (np := 58) C hc_X7 hin_X7 (by decide) tg_413 (by decide +kernel) (WI_50 _ _) rfl rfl ?_
  refine ex_iconst (n := 0) (v := 0) (np := 59) C (by decide +kernel) (by decide) rfl ?_
  refine ex_aload_n (q := 0) (x := 46) (np := 60) C (by decide +kernel) rfl rfl ?_
  refine ex_getf (q := 5) (v := .ref 49) (np := 63) C hc_X7 hin_X7 (by decide) tg_413 (by decide +kernel) (WI_46 _ _) rfl rfl ?_
  refine ex_iconst (n := 0) (v := 0) (np := 64) C (by decide +kernel) (by decide) rfl ?_
  refine ex_bipush (n := 7) (v := 7) (np := 66) C (by decide +kernel) (by decide) rfl ?_
  refine ex_aci (n := 7) (np := 69) C tg_783 tg_785 tg_784 tg_164 (by decide +kernel) (WI_53 _ _) (WI_49 _ _) (by decide) (by decide) rfl (fun y2 c2 => ?_)
  rw [WI_49_s]
  exact ex_vret C hr hlk (by decide +kernel) (Nat.le_refl _) (Nat.le_refl _) ⟨y0, y1, y2, ⟨c0, c1, c2⟩, rfl⟩
set_option maxRecDepth 100000 in
set_option maxHeartbeats 4000000 in
theorem m_X6_copyFrom_58_62 {l : Launch} {X : ab_X} {D : va_G} {A : ex_A} (d : Nat) (hd : 1 ≤ d) (g9 : Nat → Option Nat) (σ : ex_S) : ex_ctr l X D A d yX6_copyFrom cX6_copyFrom 2 none (WI g9 σ) [.ref 58, .ref 62] (fun _ w => ∃ (y0 : Nat → Int32) (y1 : Nat → Int32) (y2 : Nat → Int32), ((∀ j : Nat, j < 40 → y0 j = (σ.2.2.1 2010) j) ∧ (∀ j : Nat, j < 40 → y1 j = (σ.2.2.1 2011) j) ∧ (∀ j : Nat, j < 40 → y2 j = (σ.2.2.1 2012) j)) ∧ w = WI g9 (sR 2002 y2 (sR 2001 y1 (sR 2000 y0 (sI 2001 (σ.1 2011) (sI 2000 (σ.1 2010) σ)))))) := by
  obtain ⟨d, rfl⟩ : ∃ d9, d = d9 + 1 := ⟨d - 1, by omega⟩
  refine ex_meth (own := RX6) rfl (by decide) (Nat.le_of_ble_eq_true rfl) (fun p e R s m below meth c C hr hlk hd1 hd2 => ?_)
  show ex_ok p l e R s m _ below meth c 0 0 _ 2 X D A (WI g9 σ) 0 [(0, .ref 58), (1, .ref 62)] []
  refine ex_aload_n (q := 0) (x := 58) (np := 1) C (by decide +kernel) rfl rfl ?_
  refine ex_aload_n (q := 1) (x := 62) (np := 2) C (by decide +kernel) rfl rfl ?_
  refine ex_getf (q := 3) (v := .int (σ.1 2010)) (np := 5) C hc_X6 hin_X6 (by decide) tg_457 (by decide +kernel) (WI_62 _ _) rfl rfl ?_
  refine ex_putf (q := 3) (w1 := (WI g9 (sI 2000 (σ.1 2010) σ))) (np := 8) C hc_X6 hin_X6 (by decide) tyX6_ok nmX6 tg_457 rfl (by decide +kernel) (WI_58 _ _) (Nat.le_of_ble_eq_true rfl) rfl rfl (WI_58_3 _ _ _) rfl ?_
  refine ex_aload_n (q := 0) (x := 58) (np := 9) C (by decide +kernel) rfl rfl ?_
  refine ex_aload_n (q := 1) (x := 62) (np := 10) C (by decide +kernel) rfl rfl ?_
  refine ex_getf (q := 4) (v := .int (σ.1 2011)) (np := 13) C hc_X6 hin_X6 (by decide) tg_459 (by decide +kernel) (WI_62 _ _) rfl rfl ?_
  refine ex_putf (q := 4) (w1 := (WI g9 (sI 2001 (σ.1 2011) (sI 2000 (σ.1 2010) σ)))) (np := 16) C hc_X6 hin_X6 (by decide) tyX6_ok nmX6 tg_459 rfl (by decide +kernel) (WI_58 _ _) (Nat.le_of_ble_eq_true rfl) rfl rfl (WI_58_4 _ _ _) rfl ?_
  refine ex_aload_n (q := 1) (x := 62) (np := 17) C (by decide +kernel) rfl rfl ?_
  refine ex_getf (q := 0) (v := .ref 63) (np := 20) C hc_X6 hin_X6 (by decide) tg_454 (by decide +kernel) (WI_62 _ _) rfl rfl ?_
  refine ex_iconst (n := 0) (v := 0) (np := 21) C (by decide +kernel) (by decide) rfl ?_
  refine ex_aload_n (q := 0) (x := 58) (np := 22) C (by decide +kernel) rfl rfl ?_
  refine ex_getf (q := 0) (v := .ref 59) (np := 25) C hc_X6 hin_X6 (by decide) tg_454 (by decide +kernel) (WI_58 _ _) rfl rfl ?_
  refine ex_iconst (n := 0) (v := 0) (np := 26) C (by decide +kernel) (by decide) rfl ?_
  refine ex_bipush (n := 40) (v := 40) (np := 28) C (by decide +kernel) (by decide) rfl ?_
  refine ex_aci (n := 40) (np := 31) C tg_1149 tg_785 tg_784 tg_164 (by decide +kernel) (WI_63 _ _) (WI_59 _ _) (by decide) (by decide) rfl (fun y0 c0 => ?_)
  rw [WI_59_s]
  refine ex_aload_n (q := 1) (x := 62) (np := 32) C (by decide +kernel) rfl rfl ?_
  refine ex_getf (q := 1) (v := .ref 64) (np := 35) C hc_X6 hin_X6 (by decide) tg_455 (by decide +kernel) (WI_62 _ _) rfl rfl ?_
  refine ex_iconst (n := 0) (v := 0) (np := 36) C (by decide +kernel) (by decide) rfl ?_
  refine ex_aload_n (q := 0) (x := 58) (np := 37) C (by decide +kernel) rfl rfl ?_
  refine ex_getf (q := 1) (v := .ref 60) (np := 40) C hc_X6 hin_X6 (by decide) tg_455 (by decide +kernel) (WI_58 _ _) rfl rfl ?_
  refine ex_iconst (n := 0) (v := 0) (np := 41) C (by decide +kernel) (by decide) rfl ?_
  refine ex_bipush (n := 40) (v := 40) (np := 43) C (by decide +kernel) (by decide) rfl ?_
  refine ex_aci (n := 40) (np := 46) C tg_1149 tg_785 tg_784 tg_164 (by decide +kernel) (WI_64 _ _) (WI_60 _ _) (by decide) (by decide) rfl (fun y1 c1 => ?_)
  rw [WI_60_s]
  refine ex_aload_n (q := 1) (x := 62) (np := 47) C (by decide +kernel) rfl rfl ?_
  refine ex_getf (q := 2) (v := .ref 65) (np := 50) C hc_X6 hin_X6 (by decide) tg_456 (by decide +kernel) (WI_62 _ _) rfl rfl ?_
  refine ex_iconst (n := 0) (v := 0) (np := 51) C (by decide +kernel) (by decide) rfl ?_
  refine ex_aload_n (q := 0) (x := 58) (np := 52) C (by decide +kernel) rfl rfl ?_
  refine ex_getf (q := 2) (v := .ref 61) (np := 55) C hc_X6 hin_X6 (by decide) tg_456 (by decide +kernel) (WI_58 _ _) rfl rfl ?_
  refine ex_iconst (n := 0) (v := 0) (np := 56) C (by decide +kernel) (by decide) rfl ?_
  refine ex_bipush (n := 40) (v := 40) (np := 58) C (by decide +kernel) (by decide) rfl ?_
  refine ex_aci (n := 40) (np := 61) C tg_1149 tg_785 tg_784 tg_164 (by decide +kernel) (WI_65 _ _) (WI_61 _ _) (by decide) (by decide) rfl (fun y2 c2 => ?_)
  rw [WI_61_s]
  exact ex_vret C hr hlk (by decide +kernel) (Nat.le_refl _) (Nat.le_refl _) ⟨y0, y1, y2, ⟨c0, c1, c2⟩, rfl⟩
set_option maxRecDepth 100000 in
set_option maxHeartbeats 4000000 in
theorem m_X8_copyFrom_2_32 {l : Launch} {X : ab_X} {D : va_G} {A : ex_A} (d : Nat) (hd : 1 ≤ d) (g9 : Nat → Option Nat) (σ : ex_S) : ex_ctr l X D A d yX8_copyFrom cX8_copyFrom 2 none (WI g9 σ) [.ref 2, .ref 32] (fun _ w => ∃ (y0 : Nat → Int64) (y1 : Nat → Int32) (y2 : Nat → Int32) (y3 : Nat → Int32) (y4 : Nat → Int32) (y5 : Nat → Int32) (y6 : Nat → Int32) (y7 : Nat → Int64) (y8 : Nat → Int32) (y9 : Nat → Int32) (y10 : Nat → Int32) (y11 : Nat → Int32) (y12 : Nat → Int32), ((∀ j : Nat, j < 7 → y0 j = (σ.2.2.2 200) j) ∧ (∀ j : Nat, j < 7 → y1 j = (σ.2.2.1 200) j) ∧ (∀ j : Nat, j < 7 → y2 j = (σ.2.2.1 201) j) ∧ (∀ j : Nat, j < 12 → y3 j = (σ.2.2.1 202) j) ∧ (∀ j : Nat, j < 12 → y4 j = (σ.2.2.1 203) j) ∧ (∀ j : Nat, j < 12 → y5 j = (σ.2.2.1 204) j) ∧ (∀ j : Nat, j < 12 → y6 j = (σ.2.2.1 205) j) ∧ (∀ j : Nat, j < 8 → y7 j = (σ.2.2.2 201) j) ∧ (∀ j : Nat, j < 8 → y8 j = (σ.2.2.1 206) j) ∧ (∀ j : Nat, j < 8 → y9 j = (σ.2.2.1 207) j) ∧ (∀ j : Nat, j < 8 → y10 j = (σ.2.2.1 208) j) ∧ (∀ j : Nat, j < 8 → y11 j = (σ.2.2.1 209) j) ∧ (∀ j : Nat, j < 3 → y12 j = (σ.2.2.1 210) j)) ∧ w = WI g9 (sR 10 y12 (sR 9 y11 (sR 8 y10 (sR 7 y9 (sR 6 y8 (sQ 1 y7 (sI 2 (σ.1 202) (sR 5 y6 (sR 4 y5 (sR 3 y4 (sR 2 y3 (sI 1 (σ.1 201) (sR 1 y2 (sR 0 y1 (sQ 0 y0 (sI 0 (σ.1 200) σ))))))))))))))))) := by
  obtain ⟨d, rfl⟩ : ∃ d9, d = d9 + 1 := ⟨d - 1, by omega⟩
  refine ex_meth (own := RX8) rfl (by decide) (Nat.le_of_ble_eq_true rfl) (fun p e R s m below meth c C hr hlk hd1 hd2 => ?_)
  show ex_ok p l e R s m _ below meth c 0 0 _ 2 X D A (WI g9 σ) 0 [(0, .ref 2), (1, .ref 32)] []
  refine ex_aload_n (q := 0) (x := 2) (np := 1) C (by decide +kernel) rfl rfl ?_
  refine ex_aload_n (q := 1) (x := 32) (np := 2) C (by decide +kernel) rfl rfl ?_
  refine ex_getf (q := 0) (v := .int (σ.1 200)) (np := 5) C hc_X8 hin_X8 (by decide) tg_312 (by decide +kernel) (WI_32 _ _) rfl rfl ?_
  refine ex_putf (q := 0) (w1 := (WI g9 (sI 0 (σ.1 200) σ))) (np := 8) C hc_X8 hin_X8 (by decide) tyX8_ok nmX8 tg_312 rfl (by decide +kernel) (WI_2 _ _) (Nat.le_of_ble_eq_true rfl) rfl rfl (WI_2_0 _ _ _) rfl ?_
  refine ex_aload_n (q := 1) (x := 32) (np := 9) C (by decide +kernel) rfl rfl ?_
  refine ex_getf (q := 1) (v := .ref 33) (np := 12) C hc_X8 hin_X8 (by decide) tg_316 (by decide +kernel) (WI_32 _ _) rfl rfl ?_
  refine ex_iconst (n := 0) (v := 0) (np := 13) C (by decide +kernel) (by decide) rfl ?_
  refine ex_aload_n (q := 0) (x := 2) (np := 14) C (by decide +kernel) rfl rfl ?_
  refine ex_getf (q := 1) (v := .ref 3) (np := 17) C hc_X8 hin_X8 (by decide) tg_316 (by decide +kernel) (WI_2 _ _) rfl rfl ?_
  refine ex_iconst (n := 0) (v := 0) (np := 18) C (by decide +kernel) (by decide) rfl ?_
  refine ex_bipush (n := 7) (v := 7) (np := 20) C (by decide +kernel) (by decide) rfl ?_
  refine ex_acl (n := 7) (np := 23) C tg_1144 tg_785 tg_784 tg_164 (by decide +kernel) (WI_33 _ _) (WI_3 _ _) (by decide) (by decide) rfl (fun y0 c0 => ?_)
  rw [WI_3_s]
  refine ex_aload_n (q := 1) (x := 32) (np := 24) C (by decide +kernel) rfl rfl ?_
  refine ex_getf (q := 2) (v := .ref 34) (np := 27) C hc_X8 hin_X8 (by decide) tg_319 (by decide +kernel) (WI_32 _ _) rfl rfl ?_
  refine ex_iconst (n := 0) (v := 0) (np := 28) C (by decide +kernel) (by decide) rfl ?_
  refine ex_aload_n (q := 0) (x := 2) (np := 29) C (by decide +kernel) rfl rfl ?_
  refine ex_getf (q := 2) (v := .ref 4) (np := 32) C hc_X8 hin_X8 (by decide) tg_319 (by decide +kernel) (WI_2 _ _) rfl rfl ?_
  refine ex_iconst (n := 0) (v := 0) (np := 33) C (by decide +kernel) (by decide) rfl ?_
  refine ex_bipush (n := 7) (v := 7) (np := 35) C (by decide +kernel) (by decide) rfl ?_
  refine ex_aci (n := 7) (np := 38) C tg_1144 tg_785 tg_784 tg_164 (by decide +kernel) (WI_34 _ _) (WI_4 _ _) (by decide) (by decide) rfl (fun y1 c1 => ?_)
  rw [WI_4_s]
  refine ex_aload_n (q := 1) (x := 32) (np := 39) C (by decide +kernel) rfl rfl ?_
  refine ex_getf (q := 3) (v := .ref 35) (np := 42) C hc_X8 hin_X8 (by decide) tg_323 (by decide +kernel) (WI_32 _ _) rfl rfl ?_
  refine ex_iconst (n := 0) (v := 0) (np := 43) C (by decide +kernel) (by decide) rfl ?_
  refine ex_aload_n (q := 0) (x := 2) (np := 44) C (by decide +kernel) rfl rfl ?_
  refine ex_getf (q := 3) (v := .ref 5) (np := 47) C hc_X8 hin_X8 (by decide) tg_323 (by decide +kernel) (WI_2 _ _) rfl rfl ?_
  refine ex_iconst (n := 0) (v := 0) (np := 48) C (by decide +kernel) (by decide) rfl ?_
  refine ex_bipush (n := 7) (v := 7) (np := 50) C (by decide +kernel) (by decide) rfl ?_
  refine ex_aci (n := 7) (np := 53) C tg_1144 tg_785 tg_784 tg_164 (by decide +kernel) (WI_35 _ _) (WI_5 _ _) (by decide) (by decide) rfl (fun y2 c2 => ?_)
  rw [WI_5_s]
  refine ex_aload_n (q := 0) (x := 2) (np := 54) C (by decide +kernel) rfl rfl ?_
  refine ex_aload_n (q := 1) (x := 32) (np := 55) C (by decide +kernel) rfl rfl ?_
  refine ex_getf (q := 4) (v := .int (σ.1 201)) (np := 58) C hc_X8 hin_X8 (by decide) tg_326 (by decide +kernel) (WI_32 _ _) rfl rfl ?_
  refine ex_putf (q := 4) (w1 := (WI g9 (sI 1 (σ.1 201) (sR 1 y2 (sR 0 y1 (sQ 0 y0 (sI 0 (σ.1 200) σ))))))) (np := 61) C hc_X8 hin_X8 (by decide) tyX8_ok nmX8 tg_326 rfl (by decide +kernel) (WI_2 _ _) (Nat.le_of_ble_eq_true rfl) rfl rfl (WI_2_4 _ _ _) rfl ?_
  refine ex_aload_n (q := 1) (x := 32) (np := 62) C (by decide +kernel) rfl rfl ?_
  refine ex_getf (q := 5) (v := .ref 36) (np := 65) C hc_X8 hin_X8 (by decide) tg_329 (by decide +kernel) (WI_32 _ _) rfl rfl ?_
  refine ex_iconst (n := 0) (v := 0) (np := 66) C (by decide +kernel) (by decide) rfl ?_
  refine ex_aload_n (q := 0) (x := 2) (np := 67) C (by decide +kernel) rfl rfl ?_
  refine ex_getf (q := 5) (v := .ref 6) (np := 70) C hc_X8 hin_X8 (by decide) tg_329 (by decide +kernel) (WI_2 _ _) rfl rfl ?_
  refine ex_iconst (n := 0) (v := 0) (np := 71) C (by decide +kernel) (by decide) rfl ?_
  refine ex_bipush (n := 12) (v := 12) (np := 73) C (by decide +kernel) (by decide) rfl ?_
  refine ex_aci (n := 12) (np := 76) C tg_1144 tg_785 tg_784 tg_164 (by decide +kernel) (WI_36 _ _) (WI_6 _ _) (by decide) (by decide) rfl (fun y3 c3 => ?_)
  rw [WI_6_s]
  refine ex_aload_n (q := 1) (x := 32) (np := 77) C (by decide +kernel) rfl rfl ?_
  refine ex_getf (q := 6) (v := .ref 37) (np := 80) C hc_X8 hin_X8 (by decide) tg_331 (by decide +kernel) (WI_32 _ _) rfl rfl ?_
  refine ex_iconst (n := 0) (v := 0) (np := 81) C (by decide +kernel) (by decide) rfl ?_
  refine ex_aload_n (q := 0) (x := 2) (np := 82) C (by decide +kernel) rfl rfl ?_
  refine ex_getf (q := 6) (v := .ref 7) (np := 85) C hc_X8 hin_X8 (by decide) tg_331 (by decide +kernel) (WI_2 _ _) rfl rfl ?_
  refine ex_iconst (n := 0) (v := 0) (np := 86) C (by decide +kernel) (by decide) rfl ?_
  refine ex_bipush (n := 12) (v := 12) (np := 88) C (by decide +kernel) (by decide) rfl ?_
  refine ex_aci (n := 12) (np := 91) C tg_1144 tg_785 tg_784 tg_164 (by decide +kernel) (WI_37 _ _) (WI_7 _ _) (by decide) (by decide) rfl (fun y4 c4 => ?_)
  rw [WI_7_s]
  refine ex_aload_n (q := 1) (x := 32) (np := 92) C (by decide +kernel) rfl rfl ?_
  refine ex_getf (q := 7) (v := .ref 38) (np := 95) C hc_X8 hin_X8 (by decide) tg_333 (by decide +kernel) (WI_32 _ _) rfl rfl ?_
  refine ex_iconst (n := 0) (v := 0) (np := 96) C (by decide +kernel) (by decide) rfl ?_
  refine ex_aload_n (q := 0) (x := 2) (np := 97) C (by decide +kernel) rfl rfl ?_
  refine ex_getf (q := 7) (v := .ref 8) (np := 100) C hc_X8 hin_X8 (by decide) tg_333 (by decide +kernel) (WI_2 _ _) rfl rfl ?_
  refine ex_iconst (n := 0) (v := 0) (np := 101) C (by decide +kernel) (by decide) rfl ?_
  refine ex_bipush (n := 12) (v := 12) (np := 103) C (by decide +kernel) (by decide) rfl ?_
  refine ex_aci (n := 12) (np := 106) C tg_1144 tg_785 tg_784 tg_164 (by decide +kernel) (WI_38 _ _) (WI_8 _ _) (by decide) (by decide) rfl (fun y5 c5 => ?_)
  rw [WI_8_s]
  refine ex_aload_n (q := 1) (x := 32) (np := 107) C (by decide +kernel) rfl rfl ?_
  refine ex_getf (q := 8) (v := .ref 39) (np := 110) C hc_X8 hin_X8 (by decide) tg_335 (by decide +kernel) (WI_32 _ _) rfl rfl ?_
  refine ex_iconst (n := 0) (v := 0) (np := 111) C (by decide +kernel) (by decide) rfl ?_
  refine ex_aload_n (q := 0) (x := 2) (np := 112) C (by decide +kernel) rfl rfl ?_
  refine ex_getf (q := 8) (v := .ref 9) (np := 115) C hc_X8 hin_X8 (by decide) tg_335 (by decide +kernel) (WI_2 _ _) rfl rfl ?_
  refine ex_iconst (n := 0) (v := 0) (np := 116) C (by decide +kernel) (by decide) rfl ?_
  refine ex_bipush (n := 12) (v := 12) (np := 118) C (by decide +kernel) (by decide) rfl ?_
  refine ex_aci (n := 12) (np := 121) C tg_1144 tg_785 tg_784 tg_164 (by decide +kernel) (WI_39 _ _) (WI_9 _ _) (by decide) (by decide) rfl (fun y6 c6 => ?_)
  rw [WI_9_s]
  refine ex_aload_n (q := 0) (x := 2) (np := 122) C (by decide +kernel) rfl rfl ?_
  refine ex_aload_n (q := 1) (x := 32) (np := 123) C (by decide +kernel) rfl rfl ?_
  refine ex_getf (q := 9) (v := .int (σ.1 202)) (np := 126) C hc_X8 hin_X8 (by decide) tg_337 (by decide +kernel) (WI_32 _ _) rfl rfl ?_
  refine ex_putf (q := 9) (w1 := (WI g9 (sI 2 (σ.1 202) (sR 5 y6 (sR 4 y5 (sR 3 y4 (sR 2 y3 (sI 1 (σ.1 201) (sR 1 y2 (sR 0 y1 (sQ 0 y0 (sI 0 (σ.1 200) σ)))))))))))) (np := 129) C hc_X8 hin_X8 (by decide) tyX8_ok nmX8 tg_337 rfl (by decide +kernel) (WI_2 _ _) (Nat.le_of_ble_eq_true rfl) rfl rfl (WI_2_9 _ _ _) rfl ?_
  refine ex_aload_n (q := 1) (x := 32) (np := 130) C (by decide +kernel) rfl rfl ?_
  refine ex_getf (q := 10) (v := .ref 40) (np := 133) C hc_X8 hin_X8 (by decide) tg_341 (by decide +kernel) (WI_32 _ _) rfl rfl ?_
  refine ex_iconst (n := 0) (v := 0) (np := 134) C (by decide +kernel) (by decide) rfl ?_
  refine ex_aload_n (q := 0) (x := 2) (np := 135) C (by decide +kernel) rfl rfl ?_
  refine ex_getf (q := 10) (v := .ref 10) (np := 138) C hc_X8 hin_X8 (by decide) tg_341 (by decide +kernel) (WI_2 _ _) rfl rfl ?_
  refine ex_iconst (n := 0) (v := 0) (np := 139) C (by decide +kernel) (by decide) rfl ?_
  refine ex_bipush (n := 8) (v := 8) (np := 141) C (by decide +kernel) (by decide) rfl ?_
  refine ex_acl (n := 8) (np := 144) C tg_1144 tg_785 tg_784 tg_164 (by decide +kernel) (WI_40 _ _) (WI_10 _ _) (by decide) (by decide) rfl (fun y7 c7 => ?_)
  rw [WI_10_s]
  refine ex_aload_n (q := 1) (x := 32) (np := 145) C (by decide +kernel) rfl rfl ?_
  refine ex_getf (q := 11) (v := .ref 41) (np := 148) C hc_X8 hin_X8 (by decide) tg_343 (by decide +kernel) (WI_32 _ _) rfl rfl ?_
  refine ex_iconst (n := 0) (v := 0) (np := 149) C (by decide +kernel) (by decide) rfl ?_
  refine ex_aload_n (q := 0) (x := 2) (np := 150) C (by decide +kernel) rfl rfl ?_
  refine ex_getf (q := 11) (v := .ref 11) (np := 153) C hc_X8 hin_X8 (by decide) tg_343 (by decide +kernel) (WI_2 _ _) rfl rfl ?_
  refine ex_iconst (n := 0) (v := 0) (np := 154) C (by decide +kernel) (by decide) rfl ?_
  refine ex_bipush (n := 8) (v := 8) (np := 156) C (by decide +kernel) (by decide) rfl ?_
  refine ex_aci (n := 8) (np := 159) C tg_1144 tg_785 tg_784 tg_164 (by decide +kernel) (WI_41 _ _) (WI_11 _ _) (by decide) (by decide) rfl (fun y8 c8 => ?_)
  rw [WI_11_s]
  refine ex_aload_n (q := 1) (x := 32) (np := 160) C (by decide +kernel) rfl rfl ?_
  refine ex_getf (q := 12) (v := .ref 42) (np := 163) C hc_X8 hin_X8 (by decide) tg_348 (by decide +kernel) (WI_32 _ _) rfl rfl ?_
  refine ex_iconst (n := 0) (v := 0) (np := 164) C (by decide +kernel) (by decide) rfl ?_
  refine ex_aload_n (q := 0) (x := 2) (np := 165) C (by decide +kernel) rfl rfl ?_
  refine ex_getf (q := 12) (v := .ref 12) (np := 168) C hc_X8 hin_X8 (by decide) tg_348 (by decide +kernel) (WI_2 _ _) rfl rfl ?_
  refine ex_iconst (n := 0) (v := 0) (np := 169) C (by decide +kernel) (by decide) rfl ?_
  refine ex_bipush (n := 8) (v := 8) (np := 171) C (by decide +kernel) (by decide) rfl ?_
  refine ex_aci (n := 8) (np := 174) C tg_1144 tg_785 tg_784 tg_164 (by decide +kernel) (WI_42 _ _) (WI_12 _ _) (by decide) (by decide) rfl (fun y9 c9 => ?_)
  rw [WI_12_s]
  refine ex_aload_n (q := 1) (x := 32) (np := 175) C (by decide +kernel) rfl rfl ?_
  refine ex_getf (q := 13) (v := .ref 43) (np := 178) C hc_X8 hin_X8 (by decide) tg_352 (by decide +kernel) (WI_32 _ _) rfl rfl ?_
  refine ex_iconst (n := 0) (v := 0) (np := 179) C (by decide +kernel) (by decide) rfl ?_
  refine ex_aload_n (q := 0) (x := 2) (np := 180) C (by decide +kernel) rfl rfl ?_
  refine ex_getf (q := 13) (v := .ref 13) (np := 183) C hc_X8 hin_X8 (by decide) tg_352 (by decide +kernel) (WI_2 _ _) rfl rfl ?_
  refine ex_iconst (n := 0) (v := 0) (np := 184) C (by decide +kernel) (by decide) rfl ?_
  refine ex_bipush (n := 8) (v := 8) (np := 186) C (by decide +kernel) (by decide) rfl ?_
  refine ex_aci (n := 8) (np := 189) C tg_1144 tg_785 tg_784 tg_164 (by decide +kernel) (WI_43 _ _) (WI_13 _ _) (by decide) (by decide) rfl (fun y10 c10 => ?_)
  rw [WI_13_s]
  refine ex_aload_n (q := 1) (x := 32) (np := 190) C (by decide +kernel) rfl rfl ?_
  refine ex_getf (q := 14) (v := .ref 44) (np := 193) C hc_X8 hin_X8 (by decide) tg_356 (by decide +kernel) (WI_32 _ _) rfl rfl ?_
  refine ex_iconst (n := 0) (v := 0) (np := 194) C (by decide +kernel) (by decide) rfl ?_
  refine ex_aload_n (q := 0) (x := 2) (np := 195) C (by decide +kernel) rfl rfl ?_
  refine ex_getf (q := 14) (v := .ref 14) (np := 198) C hc_X8 hin_X8 (by decide) tg_356 (by decide +kernel) (WI_2 _ _) rfl rfl ?_
  refine ex_iconst (n := 0) (v := 0) (np := 199) C (by decide +kernel) (by decide) rfl ?_
  refine ex_bipush (n := 8) (v := 8) (np := 201) C (by decide +kernel) (by decide) rfl ?_
  refine ex_aci (n := 8) (np := 204) C tg_1144 tg_785 tg_784 tg_164 (by decide +kernel) (WI_44 _ _) (WI_14 _ _) (by decide) (by decide) rfl (fun y11 c11 => ?_)
  rw [WI_14_s]
  refine ex_aload_n (q := 1) (x := 32) (np := 205) C (by decide +kernel) rfl rfl ?_
  refine ex_getf (q := 15) (v := .ref 45) (np := 208) C hc_X8 hin_X8 (by decide) tg_360 (by decide +kernel) (WI_32 _ _) rfl rfl ?_
  refine ex_iconst (n := 0) (v := 0) (np := 209) C (by decide +kernel) (by decide) rfl ?_
  refine ex_aload_n (q := 0) (x := 2) (np := 210) C (by decide +kernel) rfl rfl ?_
  refine ex_getf (q := 15) (v := .ref 15) (np := 213) C hc_X8 hin_X8 (by decide) tg_360 (by decide +kernel) (WI_2 _ _) rfl rfl ?_
  refine ex_iconst (n := 0) (v := 0) (np := 214) C (by decide +kernel) (by decide) rfl ?_
  refine ex_aload_n (q := 0) (x := 2) (np := 215) C (by decide +kernel) rfl rfl ?_
  refine ex_getf (q := 15) (v := .ref 15) (np := 218) C hc_X8 hin_X8 (by decide) tg_360 (by decide +kernel) (WI_2 _ _) rfl rfl ?_
  refine ex_len (v := 3) (np := 219) C (by decide +kernel) (WI_15 _ _) (by decide) rfl ?_
  refine ex_aci (n := 3) (np := 222) C tg_1144 tg_785 tg_784 tg_164 (by decide +kernel) (WI_45 _ _) (WI_15 _ _) (by decide) (by decide) rfl (fun y12 c12 => ?_)
  rw [WI_15_s]
  exact ex_vret C hr hlk (by decide +kernel) (Nat.le_refl _) (Nat.le_refl _) ⟨y0, y1, y2, y3, y4, y5, y6, y7, y8, y9, y10, y11, y12, ⟨c0, c1, c2, c3, c4, c5, c6, c7, c8, c9, c10, c11, c12⟩, rfl⟩
set_option maxRecDepth 100000 in
set_option maxHeartbeats 4000000 in
theorem m_X7_copyFrom_46_54 {l : Launch} {X : ab_X} {D : va_G} {A : ex_A} (d : Nat) (hd : 1 ≤ d) (g9 : Nat → Option Nat) (σ : ex_S) : ex_ctr l X D A d yX7_copyFrom cX7_copyFrom 2 none (WI g9 σ) [.ref 46, .ref 54] (fun _ w => ∃ (y0 : Nat → Int32) (y1 : Nat → Int32) (y2 : Nat → Int32), ((∀ j : Nat, j < 7 → y0 j = (σ.2.2.1 1020) j) ∧ (∀ j : Nat, j < 7 → y1 j = (σ.2.2.1 1021) j) ∧ (∀ j : Nat, j < 7 → y2 j = (σ.2.2.1 1022) j)) ∧ w = WI g9 (sR 1002 y2 (sR 1001 y1 (sR 1000 y0 (sI 1002 (σ.1 1022) (sI 1001 (σ.1 1021) (sI 1000 (σ.1 1020) σ))))))) := by
  obtain ⟨d, rfl⟩ : ∃ d9, d = d9 + 1 := ⟨d - 1, by omega⟩
  refine ex_meth (own := RX7) rfl (by decide) (Nat.le_of_ble_eq_true rfl) (fun p e R s m below meth c C hr hlk hd1 hd2 => ?_)
  show ex_ok p l e R s m _ below meth c 0 0 _ 2 X D A (WI g9 σ) 0 [(0, .ref 46), (1, .ref 54)] []
  refine ex_aload_n (q := 0) (x := 46) (np := 1) C (by decide +kernel) rfl rfl ?_
  refine ex_aload_n (q := 1) (x := 54) (np := 2) C (by decide +kernel) rfl rfl ?_
  refine ex_getf (q := 0) (v := .int (σ.1 1020)) (np := 5) C hc_X7 hin_X7 (by decide) tg_401 (by decide +kernel) (WI_54 _ _) rfl rfl ?_
  refine ex_putf (q := 0) (w1 := (WI g9 (sI 1000 (σ.1 1020) σ))) (np := 8) C hc_X7 hin_X7 (by decide) tyX7_ok nmX7 tg_401 rfl (by decide +kernel) (WI_46 _ _) (Nat.le_of_ble_eq_true rfl) rfl rfl (WI_46_0 _ _ _) rfl ?_
  refine ex_aload_n (q := 0) (x := 46) (np := 9) C (by decide +kernel) rfl rfl ?_
  refine ex_aload_n (q := 1) (x := 54) (np := 10) C (by decide +kernel) rfl rfl ?_
  refine ex_getf (q := 1) (v := .int (σ.1 1021)) (np := 13) C hc_X7 hin_X7 (by decide) tg_404 (by decide +kernel) (WI_54 _ _) rfl rfl ?_
  refine ex_putf (q := 1) (w1 := (WI g9 (sI 1001 (σ.1 1021) (sI 1000 (σ.1 1020) σ)))) (np := 16) C hc_X7 hin_X7 (by decide) tyX7_ok nmX7 tg_404 rfl (by decide +kernel) (WI_46 _ _) (Nat.le_of_ble_eq_true rfl) rfl rfl (WI_46_1 _ _ _) rfl ?_
  refine ex_aload_n (q := 0) (x := 46) (np := 17) C (by decide +kernel) rfl rfl ?_
  refine ex_aload_n (q := 1) (x := 54) (np := 18) C (by decide +kernel) rfl rfl ?_
  refine ex_getf (q := 2) (v := .int (σ.1 1022)) (np := 21) C hc_X7 hin_X7 (by decide) tg_406 (by decide +kernel) (WI_54 _ _) rfl rfl ?_
  refine ex_putf (q := 2) (w1 := (WI g9 (sI 1002 (σ.1 1022) (sI 1001 (σ.1 1021) (sI 1000 (σ.1 1020) σ))))) (np := 24) C hc_X7 hin_X7 (by decide) tyX7_ok nmX7 tg_406 rfl (by decide +kernel) (WI_46 _ _) (Nat.le_of_ble_eq_true rfl) rfl rfl (WI_46_2 _ _ _) rfl ?_
  refine ex_aload_n (q := 1) (x := 54) (np := 25) C (by decide +kernel) rfl rfl ?_
  refine ex_getf (q := 3) (v := .ref 55) (np := 28) C hc_X7 hin_X7 (by decide) tg_407 (by decide +kernel) (WI_54 _ _) rfl rfl ?_
  refine ex_iconst (n := 0) (v := 0) (np := 29) C (by decide +kernel) (by decide) rfl ?_
  refine ex_aload_n (q := 0) (x := 46) (np := 30) C (by decide +kernel) rfl rfl ?_
  refine ex_getf (q := 3) (v := .ref 47) (np := 33) C hc_X7 hin_X7 (by decide) tg_407 (by decide +kernel) (WI_46 _ _) rfl rfl ?_
  refine ex_iconst (n := 0) (v := 0) (np := 34) C (by decide +kernel) (by decide) rfl ?_
  refine ex_bipush (n := 7) (v := 7) (np := 36) C (by decide +kernel) (by decide) rfl ?_
  refine ex_aci (n := 7) (np := 39) C tg_783 tg_785 tg_784 tg_164 (by decide +kernel) (WI_55 _ _) (WI_47 _ _) (by decide) (by decide) rfl (fun y0 c0 => ?_)
  rw [WI_47_s]
  refine ex_aload_n (q := 1) (x := 54) (np := 40) C (by decide +kernel) rfl rfl ?_
  refine ex_getf (q := 4) (v := .ref 56) (np := 43) C hc_X7 hin_X7 (by decide) tg_410 (by decide +kernel) (WI_54 _ _) rfl rfl ?_
  refine ex_iconst (n := 0) (v := 0) (np := 44) C (by decide +kernel) (by decide) rfl ?_
  refine ex_aload_n (q := 0) (x := 46) (np := 45) C (by decide +kernel) rfl rfl ?_
  refine ex_getf (q := 4) (v := .ref 48) (np := 48) C hc_X7 hin_X7 (by decide) tg_410 (by decide +kernel) (WI_46 _ _) rfl rfl ?_
  refine ex_iconst (n := 0) (v := 0) (np := 49) C (by decide +kernel) (by decide) rfl ?_
  refine ex_bipush (n := 7) (v := 7) (np := 51) C (by decide +kernel) (by decide) rfl ?_
  refine ex_aci (n := 7) (np := 54) C tg_783 tg_785 tg_784 tg_164 (by decide +kernel) (WI_56 _ _) (WI_48 _ _) (by decide) (by decide) rfl (fun y1 c1 => ?_)
  rw [WI_48_s]
  refine ex_aload_n (q := 1) (x := 54) (np := 55) C (by decide +kernel) rfl rfl ?_
  refine ex_getf (q := 5) (v := .ref 57) (np := 58) C hc_X7 hin_X7 (by decide) tg_413 (by decide +kernel) (WI_54 _ _) rfl rfl ?_
  refine ex_iconst (n := 0) (v := 0) (np := 59) C (by decide +kernel) (by decide) rfl ?_
  refine ex_aload_n (q := 0) (x := 46) (np := 60) C (by decide +kernel) rfl rfl ?_
  refine ex_getf (q := 5) (v := .ref 49) (np := 63) C hc_X7 hin_X7 (by decide) tg_413 (by decide +kernel) (WI_46 _ _) rfl rfl ?_
  refine ex_iconst (n := 0) (v := 0) (np := 64) C (by decide +kernel) (by decide) rfl ?_
  refine ex_bipush (n := 7) (v := 7) (np := 66) C (by decide +kernel) (by decide) rfl ?_
  refine ex_aci (n := 7) (np := 69) C tg_783 tg_785 tg_784 tg_164 (by decide +kernel) (WI_57 _ _) (WI_49 _ _) (by decide) (by decide) rfl (fun y2 c2 => ?_)
  rw [WI_49_s]
  exact ex_vret C hr hlk (by decide +kernel) (Nat.le_refl _) (Nat.le_refl _) ⟨y0, y1, y2, ⟨c0, c1, c2⟩, rfl⟩
set_option maxRecDepth 100000 in
set_option maxHeartbeats 4000000 in
theorem m_X6_copyFrom_58_66 {l : Launch} {X : ab_X} {D : va_G} {A : ex_A} (d : Nat) (hd : 1 ≤ d) (g9 : Nat → Option Nat) (σ : ex_S) : ex_ctr l X D A d yX6_copyFrom cX6_copyFrom 2 none (WI g9 σ) [.ref 58, .ref 66] (fun _ w => ∃ (y0 : Nat → Int32) (y1 : Nat → Int32) (y2 : Nat → Int32), ((∀ j : Nat, j < 40 → y0 j = (σ.2.2.1 2020) j) ∧ (∀ j : Nat, j < 40 → y1 j = (σ.2.2.1 2021) j) ∧ (∀ j : Nat, j < 40 → y2 j = (σ.2.2.1 2022) j)) ∧ w = WI g9 (sR 2002 y2 (sR 2001 y1 (sR 2000 y0 (sI 2001 (σ.1 2021) (sI 2000 (σ.1 2020) σ)))))) := by
  obtain ⟨d, rfl⟩ : ∃ d9, d = d9 + 1 := ⟨d - 1, by omega⟩
  refine ex_meth (own := RX6) rfl (by decide) (Nat.le_of_ble_eq_true rfl) (fun p e R s m below meth c C hr hlk hd1 hd2 => ?_)
  show ex_ok p l e R s m _ below meth c 0 0 _ 2 X D A (WI g9 σ) 0 [(0, .ref 58), (1, .ref 66)] []
  refine ex_aload_n (q := 0) (x := 58) (np := 1) C (by decide +kernel) rfl rfl ?_
  refine ex_aload_n (q := 1) (x := 66) (np := 2) C (by decide +kernel) rfl rfl ?_
  refine ex_getf (q := 3) (v := .int (σ.1 2020)) (np := 5) C hc_X6 hin_X6 (by decide) tg_457 (by decide +kernel) (WI_66 _ _) rfl rfl ?_
  refine ex_putf (q := 3) (w1 := (WI g9 (sI 2000 (σ.1 2020) σ))) (np := 8) C hc_X6 hin_X6 (by decide) tyX6_ok nmX6 tg_457 rfl (by decide +kernel) (WI_58 _ _) (Nat.le_of_ble_eq_true rfl) rfl rfl (WI_58_3 _ _ _) rfl ?_
  refine ex_aload_n (q := 0) (x := 58) (np := 9) C (by decide +kernel) rfl rfl ?_
  refine ex_aload_n (q := 1) (x := 66) (np := 10) C (by decide +kernel) rfl rfl ?_
  refine ex_getf (q := 4) (v := .int (σ.1 2021)) (np := 13) C hc_X6 hin_X6 (by decide) tg_459 (by decide +kernel) (WI_66 _ _) rfl rfl ?_
  refine ex_putf (q := 4) (w1 := (WI g9 (sI 2001 (σ.1 2021) (sI 2000 (σ.1 2020) σ)))) (np := 16) C hc_X6 hin_X6 (by decide) tyX6_ok nmX6 tg_459 rfl (by decide +kernel) (WI_58 _ _) (Nat.le_of_ble_eq_true rfl) rfl rfl (WI_58_4 _ _ _) rfl ?_
  refine ex_aload_n (q := 1) (x := 66) (np := 17) C (by decide +kernel) rfl rfl ?_
  refine ex_getf (q := 0) (v := .ref 67) (np := 20) C hc_X6 hin_X6 (by decide) tg_454 (by decide +kernel) (WI_66 _ _) rfl rfl ?_
  refine ex_iconst (n := 0) (v := 0) (np := 21) C (by decide +kernel) (by decide) rfl ?_
  refine ex_aload_n (q := 0) (x := 58) (np := 22) C (by decide +kernel) rfl rfl ?_
  refine ex_getf (q := 0) (v := .ref 59) (np := 25) C hc_X6 hin_X6 (by decide) tg_454 (by decide +kernel) (WI_58 _ _) rfl rfl ?_
  refine ex_iconst (n := 0) (v := 0) (np := 26) C (by decide +kernel) (by decide) rfl ?_
  refine ex_bipush (n := 40) (v := 40) (np := 28) C (by decide +kernel) (by decide) rfl ?_
  refine ex_aci (n := 40) (np := 31) C tg_1149 tg_785 tg_784 tg_164 (by decide +kernel) (WI_67 _ _) (WI_59 _ _) (by decide) (by decide) rfl (fun y0 c0 => ?_)
  rw [WI_59_s]
  refine ex_aload_n (q := 1) (x := 66) (np := 32) C (by decide +kernel) rfl rfl ?_
  refine ex_getf (q := 1) (v := .ref 68) (np := 35) C hc_X6 hin_X6 (by decide) tg_455 (by decide +kernel) (WI_66 _ _) rfl rfl ?_
  refine ex_iconst (n := 0) (v := 0) (np := 36) C (by decide +kernel) (by decide) rfl ?_
  refine ex_aload_n (q := 0) (x := 58) (np := 37) C (by decide +kernel) rfl rfl ?_
  refine ex_getf (q := 1) (v := .ref 60) (np := 40) C hc_X6 hin_X6 (by decide) tg_455 (by decide +kernel) (WI_58 _ _) rfl rfl ?_
  refine ex_iconst (n := 0) (v := 0) (np := 41) C (by decide +kernel) (by decide) rfl ?_
  refine ex_bipush (n := 40) (v := 40) (np := 43) C (by decide +kernel) (by decide) rfl ?_
  refine ex_aci (n := 40) (np := 46) C tg_1149 tg_785 tg_784 tg_164 (by decide +kernel) (WI_68 _ _) (WI_60 _ _) (by decide) (by decide) rfl (fun y1 c1 => ?_)
  rw [WI_60_s]
  refine ex_aload_n (q := 1) (x := 66) (np := 47) C (by decide +kernel) rfl rfl ?_
  refine ex_getf (q := 2) (v := .ref 69) (np := 50) C hc_X6 hin_X6 (by decide) tg_456 (by decide +kernel) (WI_66 _ _) rfl rfl ?_
  refine ex_iconst (n := 0) (v := 0) (np := 51) C (by decide +kernel) (by decide) rfl ?_
  refine ex_aload_n (q := 0) (x := 58) (np := 52) C (by decide +kernel) rfl rfl ?_
  refine ex_getf (q := 2) (v := .ref 61) (np := 55) C hc_X6 hin_X6 (by decide) tg_456 (by decide +kernel) (WI_58 _ _) rfl rfl ?_
  refine ex_iconst (n := 0) (v := 0) (np := 56) C (by decide +kernel) (by decide) rfl ?_
  refine ex_bipush (n := 40) (v := 40) (np := 58) C (by decide +kernel) (by decide) rfl ?_
  refine ex_aci (n := 40) (np := 61) C tg_1149 tg_785 tg_784 tg_164 (by decide +kernel) (WI_69 _ _) (WI_61 _ _) (by decide) (by decide) rfl (fun y2 c2 => ?_)
  rw [WI_61_s]
  exact ex_vret C hr hlk (by decide +kernel) (Nat.le_refl _) (Nat.le_refl _) ⟨y0, y1, y2, ⟨c0, c1, c2⟩, rfl⟩
