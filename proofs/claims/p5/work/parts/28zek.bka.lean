/-! The book: the class. -/
/-- the class within a book -/
noncomputable def BK_INV (σ : ex_S) : Prop := A_INV σ ∧ (0 ≤ (σ.1 23).toInt ∧ (σ.1 23).toInt ≤ 40)
noncomputable def A_isAct (wrd : Int32) : Int32 :=
  if (wrd).toInt < ((8 : Int32)).toInt then
    (0 : Int32)
  else
    if ((12 : Int32)).toInt < (wrd).toInt then
      (0 : Int32)
    else
      (1 : Int32)
noncomputable def A_bkLine (σ : ex_S) : Int32 × ex_S :=
  ex_lt (A_next (sR 19 (upd (σ.2.2.1 19) ((σ.1 23)).toNatClampNeg (σ.1 6)) σ)) (fun σ1 =>
  if (σ.1 6) = (8 : Int32) then
    ex_bd (A_takeTown (-1 : Int32) σ1) (fun r6 σ7 =>
    if r6 = 0 then
      ((0 : Int32), σ7)
    else
      if (σ.1 6) = (8 : Int32) then
        ex_bd (A_takeWay (sR 20 (upd (σ7.2.2.1 20) ((σ7.1 23)).toNatClampNeg (σ7.1 7)) σ7)) (fun r21 σ22 =>
        if r21 = 0 then
          ((0 : Int32), σ22)
        else
          ex_bd (A_takeNumber (1 : Int32) (10 : Int32) σ22) (fun r27 σ28 =>
          if r27 = 0 then
            ((0 : Int32), σ28)
          else
            if (σ.1 6) = (12 : Int32) then
              ex_bd (A_takeNumber (1 : Int32) (60 : Int32) (sR 21 (upd (σ28.2.2.1 21) ((σ28.1 23)).toNatClampNeg ((σ28.1 8) * (σ28.1 7))) σ28)) (fun r34 σ35 =>
              if r34 = 0 then
                ((0 : Int32), σ35)
              else
                ((1 : Int32), (sR 21 (upd (σ35.2.2.1 21) ((σ35.1 23)).toNatClampNeg (σ35.1 7)) σ35)))
            else
              ((1 : Int32), (sR 21 (upd (σ28.2.2.1 21) ((σ28.1 23)).toNatClampNeg ((σ28.1 8) * (σ28.1 7))) σ28))))
      else
        if (σ.1 6) = (12 : Int32) then
          ex_bd (A_takeNumber (1 : Int32) (60 : Int32) (sR 20 (upd (σ7.2.2.1 20) ((σ7.1 23)).toNatClampNeg (σ7.1 7)) σ7)) (fun r15 σ16 =>
          if r15 = 0 then
            ((0 : Int32), σ16)
          else
            ((1 : Int32), (sR 21 (upd (σ16.2.2.1 21) ((σ16.1 23)).toNatClampNeg (σ16.1 7)) σ16)))
        else
          ((1 : Int32), (sR 20 (upd (σ7.2.2.1 20) ((σ7.1 23)).toNatClampNeg (σ7.1 7)) σ7)))
  else
    if (σ.1 6) = (9 : Int32) then
      ex_bd (A_takeTown (-1 : Int32) σ1) (fun r41 σ42 =>
      if r41 = 0 then
        ((0 : Int32), σ42)
      else
        if (σ.1 6) = (8 : Int32) then
          ex_bd (A_takeWay (sR 20 (upd (σ42.2.2.1 20) ((σ42.1 23)).toNatClampNeg (σ42.1 7)) σ42)) (fun r55 σ56 =>
          if r55 = 0 then
            ((0 : Int32), σ56)
          else
            ex_bd (A_takeNumber (1 : Int32) (10 : Int32) σ56) (fun r61 σ62 =>
            if r61 = 0 then
              ((0 : Int32), σ62)
            else
              if (σ.1 6) = (12 : Int32) then
                ex_bd (A_takeNumber (1 : Int32) (60 : Int32) (sR 21 (upd (σ62.2.2.1 21) ((σ62.1 23)).toNatClampNeg ((σ62.1 8) * (σ62.1 7))) σ62)) (fun r68 σ69 =>
                if r68 = 0 then
                  ((0 : Int32), σ69)
                else
                  ((1 : Int32), (sR 21 (upd (σ69.2.2.1 21) ((σ69.1 23)).toNatClampNeg (σ69.1 7)) σ69)))
              else
                ((1 : Int32), (sR 21 (upd (σ62.2.2.1 21) ((σ62.1 23)).toNatClampNeg ((σ62.1 8) * (σ62.1 7))) σ62))))
        else
          if (σ.1 6) = (12 : Int32) then
            ex_bd (A_takeNumber (1 : Int32) (60 : Int32) (sR 20 (upd (σ42.2.2.1 20) ((σ42.1 23)).toNatClampNeg (σ42.1 7)) σ42)) (fun r49 σ50 =>
            if r49 = 0 then
              ((0 : Int32), σ50)
            else
              ((1 : Int32), (sR 21 (upd (σ50.2.2.1 21) ((σ50.1 23)).toNatClampNeg (σ50.1 7)) σ50)))
          else
            ((1 : Int32), (sR 20 (upd (σ42.2.2.1 20) ((σ42.1 23)).toNatClampNeg (σ42.1 7)) σ42)))
    else
      if (σ.1 6) = (10 : Int32) then
        ex_bd (A_takeTown (-1 : Int32) σ1) (fun r102 σ103 =>
        if r102 = 0 then
          ((0 : Int32), σ103)
        else
          if (σ.1 6) = (8 : Int32) then
            ex_bd (A_takeWay (sR 20 (upd (σ103.2.2.1 20) ((σ103.1 23)).toNatClampNeg (σ103.1 7)) σ103)) (fun r117 σ118 =>
            if r117 = 0 then
              ((0 : Int32), σ118)
            else
              ex_bd (A_takeNumber (1 : Int32) (10 : Int32) σ118) (fun r123 σ124 =>
              if r123 = 0 then
                ((0 : Int32), σ124)
              else
                if (σ.1 6) = (12 : Int32) then
                  ex_bd (A_takeNumber (1 : Int32) (60 : Int32) (sR 21 (upd (σ124.2.2.1 21) ((σ124.1 23)).toNatClampNeg ((σ124.1 8) * (σ124.1 7))) σ124)) (fun r130 σ131 =>
                  if r130 = 0 then
                    ((0 : Int32), σ131)
                  else
                    ((1 : Int32), (sR 21 (upd (σ131.2.2.1 21) ((σ131.1 23)).toNatClampNeg (σ131.1 7)) σ131)))
                else
                  ((1 : Int32), (sR 21 (upd (σ124.2.2.1 21) ((σ124.1 23)).toNatClampNeg ((σ124.1 8) * (σ124.1 7))) σ124))))
          else
            if (σ.1 6) = (12 : Int32) then
              ex_bd (A_takeNumber (1 : Int32) (60 : Int32) (sR 20 (upd (σ103.2.2.1 20) ((σ103.1 23)).toNatClampNeg (σ103.1 7)) σ103)) (fun r111 σ112 =>
              if r111 = 0 then
                ((0 : Int32), σ112)
              else
                ((1 : Int32), (sR 21 (upd (σ112.2.2.1 21) ((σ112.1 23)).toNatClampNeg (σ112.1 7)) σ112)))
            else
              ((1 : Int32), (sR 20 (upd (σ103.2.2.1 20) ((σ103.1 23)).toNatClampNeg (σ103.1 7)) σ103)))
      else
        if (σ.1 6) = (8 : Int32) then
          ex_bd (A_takeWay σ1) (fun r83 σ84 =>
          if r83 = 0 then
            ((0 : Int32), σ84)
          else
            ex_bd (A_takeNumber (1 : Int32) (10 : Int32) σ84) (fun r89 σ90 =>
            if r89 = 0 then
              ((0 : Int32), σ90)
            else
              if (σ.1 6) = (12 : Int32) then
                ex_bd (A_takeNumber (1 : Int32) (60 : Int32) (sR 21 (upd (σ90.2.2.1 21) ((σ90.1 23)).toNatClampNeg ((σ90.1 8) * (σ90.1 7))) σ90)) (fun r96 σ97 =>
                if r96 = 0 then
                  ((0 : Int32), σ97)
                else
                  ((1 : Int32), (sR 21 (upd (σ97.2.2.1 21) ((σ97.1 23)).toNatClampNeg (σ97.1 7)) σ97)))
              else
                ((1 : Int32), (sR 21 (upd (σ90.2.2.1 21) ((σ90.1 23)).toNatClampNeg ((σ90.1 8) * (σ90.1 7))) σ90))))
        else
          if (σ.1 6) = (12 : Int32) then
            ex_bd (A_takeNumber (1 : Int32) (60 : Int32) σ1) (fun r77 σ78 =>
            if r77 = 0 then
              ((0 : Int32), σ78)
            else
              ((1 : Int32), (sR 21 (upd (σ78.2.2.1 21) ((σ78.1 23)).toNatClampNeg (σ78.1 7)) σ78)))
          else
            ((1 : Int32), σ1))
theorem BL_FR : ∀ σ : ex_S, A_FR σ (A_bkLine σ).2 := by
  intro σ
  unfold A_bkLine
  simp only [ex_bd, ex_lt]
  repeat' (with_reducible split)
  all_goals (repeat (first
    | with_reducible exact A_FR_0 _
    | with_reducible refine A_FR_t (fr_X4_next _) ?_
    | with_reducible refine A_FR_t (fr_X4_takeTown _ _) ?_
    | with_reducible refine A_FR_t (fr_X4_takeWay _) ?_
    | with_reducible refine A_FR_t (fr_X4_takeNumber _ _ _) ?_
    | with_reducible refine A_FR_R ?_
    ))
theorem BL_INV (σ : ex_S) (h : A_INV σ) : A_INV (A_bkLine σ).2 := by
  unfold A_bkLine
  simp only [ex_bd, ex_lt]
  repeat' (with_reducible split)
  all_goals (repeat (first
    | with_reducible exact h
    | with_reducible refine inv_X4_next _ ?_
    | with_reducible refine inv_X4_takeTown _ _ ?_
    | with_reducible refine inv_X4_takeWay _ ?_
    | with_reducible refine inv_X4_takeNumber _ _ _ ?_
    | (show A_INV (sR _ _ _); exact h)
    ))
theorem inv_X0_readLine (σ : ex_S) (h : A_INV σ ∧ 0 ≤ (σ.1 23).toInt ∧ (σ.1 23).toInt < 40) : A_INV (A_bkLine σ).2 := BL_INV σ h.1
theorem fr_X0_readLine (σ : ex_S) : A_FR σ (A_bkLine σ).2 := BL_FR σ
theorem BK_bg {σ : ex_S} (h : A_IN0 σ) : BK_INV (A_begin (400 : Int32) (sI 23 (0 : Int32) σ)) := by
  refine ⟨inv_X4_begin _ _ h, ?_⟩
  rw [A_begin_k (by decide)]
  show 0 ≤ (0 : Int32).toInt ∧ (0 : Int32).toInt ≤ 40
  decide
noncomputable def A_bk : Nat → ex_S → Int32 × ex_S
  | 0, τ => ((1 : Int32), τ)
  | k + 1, τ =>
    ex_lt (A_atEnd τ) (fun r1 =>
    if r1 = 0 then
      ex_lt (A_isAct (τ.1 6)) (fun r5 =>
      if r5 = 0 then
        ex_bd (A_failAs (1 : Int32) τ) (fun r27 σ28 =>
        (r27, σ28))
      else
        if ((τ.1 23)).toInt < ((40 : Int32)).toInt then
          ex_bd (A_bkLine τ) (fun r10 σ11 =>
          if r10 = 0 then
            ((0 : Int32), σ11)
          else
            ex_bd (A_takeSign (59 : Int32) σ11) (fun r16 σ17 =>
            if r16 = 0 then
              ((0 : Int32), σ17)
            else
              A_bk k (sI 23 ((σ17.1 23) + (1 : Int32)) σ17)))
        else
          ex_bd (A_failAs (4 : Int32) τ) (fun r22 σ23 =>
          (r22, σ23)))
    else
      ((1 : Int32), τ))
theorem A_bk_s {k : Nat} {τ : ex_S} : A_bk (k + 1) τ =
    ex_lt (A_atEnd τ) (fun r1 =>
    if r1 = 0 then
      ex_lt (A_isAct (τ.1 6)) (fun r5 =>
      if r5 = 0 then
        ex_bd (A_failAs (1 : Int32) τ) (fun r27 σ28 =>
        (r27, σ28))
      else
        if ((τ.1 23)).toInt < ((40 : Int32)).toInt then
          ex_bd (A_bkLine τ) (fun r10 σ11 =>
          if r10 = 0 then
            ((0 : Int32), σ11)
          else
            ex_bd (A_takeSign (59 : Int32) σ11) (fun r16 σ17 =>
            if r16 = 0 then
              ((0 : Int32), σ17)
            else
              A_bk k (sI 23 ((σ17.1 23) + (1 : Int32)) σ17)))
        else
          ex_bd (A_failAs (4 : Int32) τ) (fun r22 σ23 =>
          (r22, σ23)))
    else
      ((1 : Int32), τ)) := rfl
noncomputable def A_bkRead (σ : ex_S) : Int32 × ex_S :=
  ex_lt (A_begin (400 : Int32) (sI 23 (0 : Int32) σ)) (fun σ32 =>
  A_bk 42 σ32)
noncomputable def A_fault (σ : ex_S) : Int32 :=
  (σ.1 9)
set_option maxRecDepth 100000 in
set_option maxHeartbeats 4000000 in
theorem m_X0_isAct {l : Launch} {X : ab_X} {D : va_G} {A : ex_A} (d : Nat) (hd : 1 ≤ d) (w0 : List ex_E) (wrd : Int32) : ex_ctr l X D A d yX0_isAct cX0_isAct 1 (some .boolean) w0 [.int wrd] (fun r w => r = A_isAct wrd ∧ w = w0) := by
  obtain ⟨d, rfl⟩ : ∃ d9, d = d9 + 1 := ⟨d - 1, by omega⟩
  refine ex_meth (own := RX0) rfl (by decide) (Nat.le_of_ble_eq_true rfl) (fun p e R s m below meth c C hr hlk hd1 hd2 => ?_)
  show ex_ok p l e R s m _ below meth c 0 0 _ 1 X D A w0 0 [(0, .int wrd)] []
  refine ex_iload_n (q := 0) (x := wrd) (np := 1) C (by decide +kernel) rfl rfl ?_
  refine ex_bipush (n := 8) (v := 8) (np := 3) C (by decide +kernel) (by decide) rfl ?_
  refine ex_icmp_lt (off := 13) (tgt := 16) (np := 6) C (by decide +kernel) (by decide) rfl (fun h1 => ?_) (fun h1 => ?_)
  · skip
    refine ex_iconst (n := 0) (v := 0) (np := 17) C (by decide +kernel) (by decide) rfl ?_
    have E9 : A_isAct wrd = (0 : Int32) := by unfold A_isAct; exact (if_pos h1).trans (rfl)
    exact ex_iret C hr hlk (by decide +kernel) rfl (Nat.le_refl _) (Nat.le_refl _) ⟨E9.symm, rfl⟩
  · skip
    refine ex_iload_n (q := 0) (x := wrd) (np := 7) C (by decide +kernel) rfl rfl ?_
    refine ex_bipush (n := 12) (v := 12) (np := 9) C (by decide +kernel) (by decide) rfl ?_
    refine ex_icmp_gt (off := 7) (tgt := 16) (np := 12) C (by decide +kernel) (by decide) rfl (fun h2 => ?_) (fun h2 => ?_)
    · skip
      refine ex_iconst (n := 0) (v := 0) (np := 17) C (by decide +kernel) (by decide) rfl ?_
      have E9 : A_isAct wrd = (0 : Int32) := by unfold A_isAct; exact (if_neg h1).trans ((if_pos h2).trans (rfl))
      exact ex_iret C hr hlk (by decide +kernel) rfl (Nat.le_refl _) (Nat.le_refl _) ⟨E9.symm, rfl⟩
    · skip
      refine ex_iconst (n := 1) (v := 1) (np := 13) C (by decide +kernel) (by decide) rfl ?_
      refine ex_goto (off := 4) (tgt := 17) C (by decide +kernel) (by decide) ?_
      have E9 : A_isAct wrd = (1 : Int32) := by unfold A_isAct; exact (if_neg h1).trans ((if_neg h2).trans (rfl))
      exact ex_iret C hr hlk (by decide +kernel) rfl (Nat.le_refl _) (Nat.le_refl _) ⟨E9.symm, rfl⟩
set_option maxRecDepth 100000 in
set_option maxHeartbeats 4000000 in
theorem m_X0_readLine {l : Launch} {X : ab_X} {D : va_G} {A : ex_A} (d : Nat) (hd : 4 ≤ d) (σ : ex_S) (hI : (A_INV σ ∧ 0 ≤ (σ.1 23).toInt ∧ (σ.1 23).toInt < 40)) : ex_ctr l X D A d yX0_readLine cX0_readLine 4 (some .boolean) (WS σ) [.ref 10, .ref 6, .ref 1] (fun r w => r = (A_bkLine σ).1 ∧ w = WS (A_bkLine σ).2) := by
  obtain ⟨d, rfl⟩ : ∃ d9, d = d9 + 1 := ⟨d - 1, by omega⟩
  refine ex_meth (own := RX0) rfl (by decide) (Nat.le_of_ble_eq_true rfl) (fun p e R s m below meth c C hr hlk hd1 hd2 => ?_)
  show ex_ok p l e R s m _ below meth c 0 0 _ 4 X D A (WS σ) 0 [(0, .ref 10), (1, .ref 6), (2, .ref 1)] []
  refine ex_aload_n (q := 2) (x := 1) (np := 1) C (by decide +kernel) rfl rfl ?_
  refine ex_getfN (q := 8) (v := .int (σ.1 6)) (np := 4) C hc_X4 hin_X4 (by decide) tn_242 (by decide +kernel) (WS_1 _) rfl rfl ?_
  refine ex_istore_n (q := 3) (np := 5) (lv1 := [(3, .int (σ.1 6)), (0, .ref 10), (1, .ref 6), (2, .ref 1)]) C (by decide) (by decide +kernel) rfl rfl ?_
  refine ex_aload_n (q := 0) (x := 10) (np := 6) C (by decide +kernel) rfl rfl ?_
  refine ex_getf (q := 0) (v := .ref 11) (np := 9) C hc_X0 hin_X0 (by decide) tg_478 (by decide +kernel) (WS_10 _) rfl rfl ?_
  refine ex_aload_n (q := 0) (x := 10) (np := 10) C (by decide +kernel) rfl rfl ?_
  refine ex_getf (q := 3) (v := .int (σ.1 23)) (np := 13) C hc_X0 hin_X0 (by decide) tg_481 (by decide +kernel) (WS_10 _) rfl rfl ?_
  refine ex_iload_n (q := 3) (x := (σ.1 6)) (np := 14) C (by decide +kernel) rfl rfl ?_
  refine ex_iast (f := (σ.2.2.1 19)) (kk := ((σ.1 23)).toNatClampNeg) (w1 := (WS (sR 19 (upd (σ.2.2.1 19) ((σ.1 23)).toNatClampNeg (σ.1 6)) σ))) (np := 15) C (by decide +kernel) (WS_11 _) hI.2 rfl (WS_11_s _ _) rfl ?_
  refine ex_aload_n (q := 2) (x := 1) (np := 16) C (by decide +kernel) rfl rfl ?_
  obtain ⟨σ1, q2⟩ : ∃ x, x = A_next (sR 19 (upd (σ.2.2.1 19) ((σ.1 23)).toNatClampNeg (σ.1 6)) σ) := ⟨_, rfl⟩
  refine ex_call_v (np := 19) (fun ws H locs ls hR hsz => ex_runVN C (m_X4_next_S d (by omega) (sR 19 (upd (σ.2.2.1 19) ((σ.1 23)).toNatClampNeg (σ.1 6)) σ) hI.1) hd1 hd2 (by decide) hy_X4_next tg_667 hc_X4 rfl (WS_1 _) rfl rfl (Nat.le_of_ble_eq_true rfl) tn_1041 tg_666 tg_4 tg_144 (by decide +kernel) ws H locs ls hR hsz (Nat.zero_le _) (Nat.zero_le _)) rfl (fun w1 hpo => ?_)
  rw [← q2] at hpo
  subst hpo
  have hI3 := inv_X4_next (sR 19 (upd (σ.2.2.1 19) ((σ.1 23)).toNatClampNeg (σ.1 6)) σ) hI.1; rw [← q2] at hI3
  have hF4 := fr_X4_next (sR 19 (upd (σ.2.2.1 19) ((σ.1 23)).toNatClampNeg (σ.1 6)) σ); rw [← q2] at hF4
  refine ex_iload_n (q := 3) (x := (σ.1 6)) (np := 20) C (by decide +kernel) rfl rfl ?_
  refine ex_bipush (n := 8) (v := 8) (np := 22) C (by decide +kernel) (by decide) rfl ?_
  refine ex_icmp_eq (off := 15) (tgt := 37) (np := 25) C (by decide +kernel) (by decide) rfl (fun h5 => ?_) (fun h5 => ?_)
  · skip
    refine ex_aload_n (q := 2) (x := 1) (np := 38) C (by decide +kernel) rfl rfl ?_
    refine ex_aload_n (q := 1) (x := 6) (np := 39) C (by decide +kernel) rfl rfl ?_
    refine ex_iconst (n := (-1)) (v := (-1)) (np := 40) C (by decide +kernel) (by decide) rfl ?_
    obtain ⟨r6, σ7, q8⟩ : ∃ r x, A_takeTown (-1 : Int32) σ1 = (r, x) := ex_pair _
    refine ex_call_i (np := 43) (fun ws H locs ls hR hsz => ex_runVN C (m_X4_takeTown_S d (by omega) (-1 : Int32) σ1 hI3) hd1 hd2 (by decide) hy_X4_takeTown tg_728 hc_X4 rfl (WS_1 _) rfl rfl (Nat.le_of_ble_eq_true rfl) tn_1042 tg_727 tg_18 tg_144 (by decide +kernel) ws H locs ls hR hsz (Nat.zero_le _) (Nat.zero_le _)) rfl (fun r9 w1 hpo => ?_)
    rw [q8] at hpo
    have hp1 : r6 = r9 := hpo.1.symm
    have hp2 := hpo.2
    clear hpo; subst hp1; subst hp2
    have hI10 := inv_X4_takeTown (-1 : Int32) σ1 hI3; rw [q8] at hI10
    have hF11 := fr_X4_takeTown (-1 : Int32) σ1; rw [q8] at hF11
    refine ex_if_ne (off := 5) (tgt := 48) (np := 46) C (by decide +kernel) (by decide) rfl (fun h12 => ?_) (fun h12 => ?_)
    · skip
      refine ex_aload_n (q := 0) (x := 10) (np := 49) C (by decide +kernel) rfl rfl ?_
      refine ex_getf (q := 1) (v := .ref 12) (np := 52) C hc_X0 hin_X0 (by decide) tg_479 (by decide +kernel) (WS_10 _) rfl rfl ?_
      refine ex_aload_n (q := 0) (x := 10) (np := 53) C (by decide +kernel) rfl rfl ?_
      refine ex_getf (q := 3) (v := .int (σ7.1 23)) (np := 56) C hc_X0 hin_X0 (by decide) tg_481 (by decide +kernel) (WS_10 _) rfl rfl ?_
      refine ex_aload_n (q := 2) (x := 1) (np := 57) C (by decide +kernel) rfl rfl ?_
      refine ex_getfN (q := 9) (v := .int (σ7.1 7)) (np := 60) C hc_X4 hin_X4 (by decide) tn_247 (by decide +kernel) (WS_1 _) rfl rfl ?_
      refine ex_iast (f := (σ7.2.2.1 20)) (kk := ((σ7.1 23)).toNatClampNeg) (w1 := (WS (sR 20 (upd (σ7.2.2.1 20) ((σ7.1 23)).toNatClampNeg (σ7.1 7)) σ7))) (np := 61) C (by decide +kernel) (WS_12 _) (by have e9 : σ7.1 23 = σ.1 23 := ((hF11.1 23 (by decide)).trans (hF4.1 23 (by decide))); have h9 := hI.2; rw [← e9] at h9; exact h9) rfl (WS_12_s _ _) rfl ?_
      refine ex_iload_n (q := 3) (x := (σ.1 6)) (np := 62) C (by decide +kernel) rfl rfl ?_
      refine ex_bipush (n := 8) (v := 8) (np := 64) C (by decide +kernel) (by decide) rfl ?_
      refine ex_icmp_ne (off := 40) (tgt := 104) (np := 67) C (by decide +kernel) (by decide) rfl (fun h13 => ?_) (fun h13 => ?_)
      · skip
        refine ex_iload_n (q := 3) (x := (σ.1 6)) (np := 105) C (by decide +kernel) rfl rfl ?_
        refine ex_bipush (n := 12) (v := 12) (np := 107) C (by decide +kernel) (by decide) rfl ?_
        refine ex_icmp_ne (off := 28) (tgt := 135) (np := 110) C (by decide +kernel) (by decide) rfl (fun h14 => ?_) (fun h14 => ?_)
        · skip
          refine ex_iconst (n := 1) (v := 1) (np := 136) C (by decide +kernel) (by decide) rfl ?_
          have E9 : A_bkLine σ = ((1 : Int32), (sR 20 (upd (σ7.2.2.1 20) ((σ7.1 23)).toNatClampNeg (σ7.1 7)) σ7)) := by unfold A_bkLine; exact (ex_lt_eq q2).trans ((if_pos h5).trans ((ex_bd_eq q8).trans ((if_neg h12).trans ((if_neg h13).trans ((if_neg h14).trans (rfl))))))
          exact ex_iret C hr hlk (by decide +kernel) rfl (Nat.le_refl _) (Nat.le_refl _) (by rw [E9]; exact ⟨rfl, rfl⟩)
        · skip
          refine ex_aload_n (q := 2) (x := 1) (np := 111) C (by decide +kernel) rfl rfl ?_
          refine ex_iconst (n := 1) (v := 1) (np := 112) C (by decide +kernel) (by decide) rfl ?_
          refine ex_bipush (n := 60) (v := 60) (np := 114) C (by decide +kernel) (by decide) rfl ?_
          obtain ⟨r15, σ16, q17⟩ : ∃ r x, A_takeNumber (1 : Int32) (60 : Int32) (sR 20 (upd (σ7.2.2.1 20) ((σ7.1 23)).toNatClampNeg (σ7.1 7)) σ7) = (r, x) := ex_pair _
          refine ex_call_i (np := 117) (fun ws H locs ls hR hsz => ex_runVN C (m_X4_takeNumber_S d (by omega) (1 : Int32) (60 : Int32) (sR 20 (upd (σ7.2.2.1 20) ((σ7.1 23)).toNatClampNeg (σ7.1 7)) σ7) hI10) hd1 hd2 (by decide) hy_X4_takeNumber tg_716 hc_X4 rfl (WS_1 _) rfl rfl (Nat.le_of_ble_eq_true rfl) tn_1044 tg_715 tg_15 tg_144 (by decide +kernel) ws H locs ls hR hsz (Nat.zero_le _) (Nat.zero_le _)) rfl (fun r9 w1 hpo => ?_)
          rw [q17] at hpo
          have hp1 : r15 = r9 := hpo.1.symm
          have hp2 := hpo.2
          clear hpo; subst hp1; subst hp2
          have hI18 := inv_X4_takeNumber (1 : Int32) (60 : Int32) (sR 20 (upd (σ7.2.2.1 20) ((σ7.1 23)).toNatClampNeg (σ7.1 7)) σ7) hI10; rw [q17] at hI18
          have hF19 := fr_X4_takeNumber (1 : Int32) (60 : Int32) (sR 20 (upd (σ7.2.2.1 20) ((σ7.1 23)).toNatClampNeg (σ7.1 7)) σ7); rw [q17] at hF19
          refine ex_if_ne (off := 5) (tgt := 122) (np := 120) C (by decide +kernel) (by decide) rfl (fun h20 => ?_) (fun h20 => ?_)
          · skip
            refine ex_aload_n (q := 0) (x := 10) (np := 123) C (by decide +kernel) rfl rfl ?_
            refine ex_getf (q := 2) (v := .ref 13) (np := 126) C hc_X0 hin_X0 (by decide) tg_480 (by decide +kernel) (WS_10 _) rfl rfl ?_
            refine ex_aload_n (q := 0) (x := 10) (np := 127) C (by decide +kernel) rfl rfl ?_
            refine ex_getf (q := 3) (v := .int (σ16.1 23)) (np := 130) C hc_X0 hin_X0 (by decide) tg_481 (by decide +kernel) (WS_10 _) rfl rfl ?_
            refine ex_aload_n (q := 2) (x := 1) (np := 131) C (by decide +kernel) rfl rfl ?_
            refine ex_getfN (q := 9) (v := .int (σ16.1 7)) (np := 134) C hc_X4 hin_X4 (by decide) tn_247 (by decide +kernel) (WS_1 _) rfl rfl ?_
            refine ex_iast (f := (σ16.2.2.1 21)) (kk := ((σ16.1 23)).toNatClampNeg) (w1 := (WS (sR 21 (upd (σ16.2.2.1 21) ((σ16.1 23)).toNatClampNeg (σ16.1 7)) σ16))) (np := 135) C (by decide +kernel) (WS_13 _) (by have e9 : σ16.1 23 = σ.1 23 := (((hF19.1 23 (by decide)).trans (hF11.1 23 (by decide))).trans (hF4.1 23 (by decide))); have h9 := hI.2; rw [← e9] at h9; exact h9) rfl (WS_13_s _ _) rfl ?_
            refine ex_iconst (n := 1) (v := 1) (np := 136) C (by decide +kernel) (by decide) rfl ?_
            have E9 : A_bkLine σ = ((1 : Int32), (sR 21 (upd (σ16.2.2.1 21) ((σ16.1 23)).toNatClampNeg (σ16.1 7)) σ16)) := by unfold A_bkLine; exact (ex_lt_eq q2).trans ((if_pos h5).trans ((ex_bd_eq q8).trans ((if_neg h12).trans ((if_neg h13).trans ((if_pos h14).trans ((ex_bd_eq q17).trans ((if_neg h20).trans (rfl))))))))
            exact ex_iret C hr hlk (by decide +kernel) rfl (Nat.le_refl _) (Nat.le_refl _) (by rw [E9]; exact ⟨rfl, rfl⟩)
          · skip
            refine ex_iconst (n := 0) (v := 0) (np := 121) C (by decide +kernel) (by decide) rfl ?_
            have E9 : A_bkLine σ = ((0 : Int32), σ16) := by unfold A_bkLine; exact (ex_lt_eq q2).trans ((if_pos h5).trans ((ex_bd_eq q8).trans ((if_neg h12).trans ((if_neg h13).trans ((if_pos h14).trans ((ex_bd_eq q17).trans ((if_pos h20).trans (rfl))))))))
            exact ex_iret C hr hlk (by decide +kernel) rfl (Nat.le_refl _) (Nat.le_refl _) (by rw [E9]; exact ⟨rfl, rfl⟩)
      · skip
        refine ex_aload_n (q := 2) (x := 1) (np := 68) C (by decide +kernel) rfl rfl ?_
        obtain ⟨r21, σ22, q23⟩ : ∃ r x, A_takeWay (sR 20 (upd (σ7.2.2.1 20) ((σ7.1 23)).toNatClampNeg (σ7.1 7)) σ7) = (r, x) := ex_pair _
        refine ex_call_i (np := 71) (fun ws H locs ls hR hsz => ex_runVN C (m_X4_takeWay_S d (by omega) (sR 20 (upd (σ7.2.2.1 20) ((σ7.1 23)).toNatClampNeg (σ7.1 7)) σ7) hI10) hd1 hd2 (by decide) hy_X4_takeWay tg_720 hc_X4 rfl (WS_1 _) rfl rfl (Nat.le_of_ble_eq_true rfl) tn_1043 tg_719 tg_16 tg_144 (by decide +kernel) ws H locs ls hR hsz (Nat.zero_le _) (Nat.zero_le _)) rfl (fun r9 w1 hpo => ?_)
        rw [q23] at hpo
        have hp1 : r21 = r9 := hpo.1.symm
        have hp2 := hpo.2
        clear hpo; subst hp1; subst hp2
        have hI24 := inv_X4_takeWay (sR 20 (upd (σ7.2.2.1 20) ((σ7.1 23)).toNatClampNeg (σ7.1 7)) σ7) hI10; rw [q23] at hI24
        have hF25 := fr_X4_takeWay (sR 20 (upd (σ7.2.2.1 20) ((σ7.1 23)).toNatClampNeg (σ7.1 7)) σ7); rw [q23] at hF25
        refine ex_if_eq (off := 13) (tgt := 84) (np := 74) C (by decide +kernel) (by decide) rfl (fun h26 => ?_) (fun h26 => ?_)
        · skip
          refine ex_iconst (n := 0) (v := 0) (np := 85) C (by decide +kernel) (by decide) rfl ?_
          have E9 : A_bkLine σ = ((0 : Int32), σ22) := by unfold A_bkLine; exact (ex_lt_eq q2).trans ((if_pos h5).trans ((ex_bd_eq q8).trans ((if_neg h12).trans ((if_pos h13).trans ((ex_bd_eq q23).trans ((if_pos h26).trans (rfl)))))))
          exact ex_iret C hr hlk (by decide +kernel) rfl (Nat.le_refl _) (Nat.le_refl _) (by rw [E9]; exact ⟨rfl, rfl⟩)
        · skip
          refine ex_aload_n (q := 2) (x := 1) (np := 75) C (by decide +kernel) rfl rfl ?_
          refine ex_iconst (n := 1) (v := 1) (np := 76) C (by decide +kernel) (by decide) rfl ?_
          refine ex_bipush (n := 10) (v := 10) (np := 78) C (by decide +kernel) (by decide) rfl ?_
          obtain ⟨r27, σ28, q29⟩ : ∃ r x, A_takeNumber (1 : Int32) (10 : Int32) σ22 = (r, x) := ex_pair _
          refine ex_call_i (np := 81) (fun ws H locs ls hR hsz => ex_runVN C (m_X4_takeNumber_S d (by omega) (1 : Int32) (10 : Int32) σ22 hI24) hd1 hd2 (by decide) hy_X4_takeNumber tg_716 hc_X4 rfl (WS_1 _) rfl rfl (Nat.le_of_ble_eq_true rfl) tn_1044 tg_715 tg_15 tg_144 (by decide +kernel) ws H locs ls hR hsz (Nat.zero_le _) (Nat.zero_le _)) rfl (fun r9 w1 hpo => ?_)
          rw [q29] at hpo
          have hp1 : r27 = r9 := hpo.1.symm
          have hp2 := hpo.2
          clear hpo; subst hp1; subst hp2
          have hI30 := inv_X4_takeNumber (1 : Int32) (10 : Int32) σ22 hI24; rw [q29] at hI30
          have hF31 := fr_X4_takeNumber (1 : Int32) (10 : Int32) σ22; rw [q29] at hF31
          refine ex_if_ne (off := 5) (tgt := 86) (np := 84) C (by decide +kernel) (by decide) rfl (fun h32 => ?_) (fun h32 => ?_)
          · skip
            refine ex_aload_n (q := 0) (x := 10) (np := 87) C (by decide +kernel) rfl rfl ?_
            refine ex_getf (q := 2) (v := .ref 13) (np := 90) C hc_X0 hin_X0 (by decide) tg_480 (by decide +kernel) (WS_10 _) rfl rfl ?_
            refine ex_aload_n (q := 0) (x := 10) (np := 91) C (by decide +kernel) rfl rfl ?_
            refine ex_getf (q := 3) (v := .int (σ28.1 23)) (np := 94) C hc_X0 hin_X0 (by decide) tg_481 (by decide +kernel) (WS_10 _) rfl rfl ?_
            refine ex_aload_n (q := 2) (x := 1) (np := 95) C (by decide +kernel) rfl rfl ?_
            refine ex_getfN (q := 11) (v := .int (σ28.1 8)) (np := 98) C hc_X4 hin_X4 (by decide) tn_252 (by decide +kernel) (WS_1 _) rfl rfl ?_
            refine ex_aload_n (q := 2) (x := 1) (np := 99) C (by decide +kernel) rfl rfl ?_
            refine ex_getfN (q := 9) (v := .int (σ28.1 7)) (np := 102) C hc_X4 hin_X4 (by decide) tn_247 (by decide +kernel) (WS_1 _) rfl rfl ?_
            refine ex_imul (v := ((σ28.1 8) * (σ28.1 7))) (np := 103) C (by decide +kernel) rfl rfl ?_
            refine ex_iast (f := (σ28.2.2.1 21)) (kk := ((σ28.1 23)).toNatClampNeg) (w1 := (WS (sR 21 (upd (σ28.2.2.1 21) ((σ28.1 23)).toNatClampNeg ((σ28.1 8) * (σ28.1 7))) σ28))) (np := 104) C (by decide +kernel) (WS_13 _) (by have e9 : σ28.1 23 = σ.1 23 := ((((hF31.1 23 (by decide)).trans (hF25.1 23 (by decide))).trans (hF11.1 23 (by decide))).trans (hF4.1 23 (by decide))); have h9 := hI.2; rw [← e9] at h9; exact h9) rfl (WS_13_s _ _) rfl ?_
            refine ex_iload_n (q := 3) (x := (σ.1 6)) (np := 105) C (by decide +kernel) rfl rfl ?_
            refine ex_bipush (n := 12) (v := 12) (np := 107) C (by decide +kernel) (by decide) rfl ?_
            refine ex_icmp_ne (off := 28) (tgt := 135) (np := 110) C (by decide +kernel) (by decide) rfl (fun h33 => ?_) (fun h33 => ?_)
            · skip
              refine ex_iconst (n := 1) (v := 1) (np := 136) C (by decide +kernel) (by decide) rfl ?_
              have E9 : A_bkLine σ = ((1 : Int32), (sR 21 (upd (σ28.2.2.1 21) ((σ28.1 23)).toNatClampNeg ((σ28.1 8) * (σ28.1 7))) σ28)) := by unfold A_bkLine; exact (ex_lt_eq q2).trans ((if_pos h5).trans ((ex_bd_eq q8).trans ((if_neg h12).trans ((if_pos h13).trans ((ex_bd_eq q23).trans ((if_neg h26).trans ((ex_bd_eq q29).trans ((if_neg h32).trans ((if_neg h33).trans (rfl))))))))))
              exact ex_iret C hr hlk (by decide +kernel) rfl (Nat.le_refl _) (Nat.le_refl _) (by rw [E9]; exact ⟨rfl, rfl⟩)
            · skip
              refine ex_aload_n (q := 2) (x := 1) (np := 111) C (by decide +kernel) rfl rfl ?_
              refine ex_iconst (n := 1) (v := 1) (np := 112) C (by decide +kernel) (by decide) rfl ?_
              refine ex_bipush (n := 60) (v := 60) (np := 114) C (by decide +kernel) (by decide) rfl ?_
              obtain ⟨r34, σ35, q36⟩ : ∃ r x, A_takeNumber (1 : Int32) (60 : Int32) (sR 21 (upd (σ28.2.2.1 21) ((σ28.1 23)).toNatClampNeg ((σ28.1 8) * (σ28.1 7))) σ28) = (r, x) := ex_pair _
              refine ex_call_i (np := 117) (fun ws H locs ls hR hsz => ex_runVN C (m_X4_takeNumber_S d (by omega) (1 : Int32) (60 : Int32) (sR 21 (upd (σ28.2.2.1 21) ((σ28.1 23)).toNatClampNeg ((σ28.1 8) * (σ28.1 7))) σ28) hI30) hd1 hd2 (by decide) hy_X4_takeNumber tg_716 hc_X4 rfl (WS_1 _) rfl rfl (Nat.le_of_ble_eq_true rfl) tn_1044 tg_715 tg_15 tg_144 (by decide +kernel) ws H locs ls hR hsz (Nat.zero_le _) (Nat.zero_le _)) rfl (fun r9 w1 hpo => ?_)
              rw [q36] at hpo
              have hp1 : r34 = r9 := hpo.1.symm
              have hp2 := hpo.2
              clear hpo; subst hp1; subst hp2
              have hI37 := inv_X4_takeNumber (1 : Int32) (60 : Int32) (sR 21 (upd (σ28.2.2.1 21) ((σ28.1 23)).toNatClampNeg ((σ28.1 8) * (σ28.1 7))) σ28) hI30; rw [q36] at hI37
              have hF38 := fr_X4_takeNumber (1 : Int32) (60 : Int32) (sR 21 (upd (σ28.2.2.1 21) ((σ28.1 23)).toNatClampNeg ((σ28.1 8) * (σ28.1 7))) σ28); rw [q36] at hF38
              refine ex_if_ne (off := 5) (tgt := 122) (np := 120) C (by decide +kernel) (by decide) rfl (fun h39 => ?_) (fun h39 => ?_)
              · skip
                refine ex_aload_n (q := 0) (x := 10) (np := 123) C (by decide +kernel) rfl rfl ?_
                refine ex_getf (q := 2) (v := .ref 13) (np := 126) C hc_X0 hin_X0 (by decide) tg_480 (by decide +kernel) (WS_10 _) rfl rfl ?_
                refine ex_aload_n (q := 0) (x := 10) (np := 127) C (by decide +kernel) rfl rfl ?_
                refine ex_getf (q := 3) (v := .int (σ35.1 23)) (np := 130) C hc_X0 hin_X0 (by decide) tg_481 (by decide +kernel) (WS_10 _) rfl rfl ?_
                refine ex_aload_n (q := 2) (x := 1) (np := 131) C (by decide +kernel) rfl rfl ?_
                refine ex_getfN (q := 9) (v := .int (σ35.1 7)) (np := 134) C hc_X4 hin_X4 (by decide) tn_247 (by decide +kernel) (WS_1 _) rfl rfl ?_
                refine ex_iast (f := (σ35.2.2.1 21)) (kk := ((σ35.1 23)).toNatClampNeg) (w1 := (WS (sR 21 (upd (σ35.2.2.1 21) ((σ35.1 23)).toNatClampNeg (σ35.1 7)) σ35))) (np := 135) C (by decide +kernel) (WS_13 _) (by have e9 : σ35.1 23 = σ.1 23 := (((((hF38.1 23 (by decide)).trans (hF31.1 23 (by decide))).trans (hF25.1 23 (by decide))).trans (hF11.1 23 (by decide))).trans (hF4.1 23 (by decide))); have h9 := hI.2; rw [← e9] at h9; exact h9) rfl (WS_13_s _ _) rfl ?_
                refine ex_iconst (n := 1) (v := 1) (np := 136) C (by decide +kernel) (by decide) rfl ?_
                have E9 : A_bkLine σ = ((1 : Int32), (sR 21 (upd (σ35.2.2.1 21) ((σ35.1 23)).toNatClampNeg (σ35.1 7)) σ35)) := by unfold A_bkLine; exact (ex_lt_eq q2).trans ((if_pos h5).trans ((ex_bd_eq q8).trans ((if_neg h12).trans ((if_pos h13).trans ((ex_bd_eq q23).trans ((if_neg h26).trans ((ex_bd_eq q29).trans ((if_neg h32).trans ((if_pos h33).trans ((ex_bd_eq q36).trans ((if_neg h39).trans (rfl))))))))))))
                exact ex_iret C hr hlk (by decide +kernel) rfl (Nat.le_refl _) (Nat.le_refl _) (by rw [E9]; exact ⟨rfl, rfl⟩)
              · skip
                refine ex_iconst (n := 0) (v := 0) (np := 121) C (by decide +kernel) (by decide) rfl ?_
                have E9 : A_bkLine σ = ((0 : Int32), σ35) := by unfold A_bkLine; exact (ex_lt_eq q2).trans ((if_pos h5).trans ((ex_bd_eq q8).trans ((if_neg h12).trans ((if_pos h13).trans ((ex_bd_eq q23).trans ((if_neg h26).trans ((ex_bd_eq q29).trans ((if_neg h32).trans ((if_pos h33).trans ((ex_bd_eq q36).trans ((if_pos h39).trans (rfl))))))))))))
                exact ex_iret C hr hlk (by decide +kernel) rfl (Nat.le_refl _) (Nat.le_refl _) (by rw [E9]; exact ⟨rfl, rfl⟩)
          · skip
            refine ex_iconst (n := 0) (v := 0) (np := 85) C (by decide +kernel) (by decide) rfl ?_
            have E9 : A_bkLine σ = ((0 : Int32), σ28) := by unfold A_bkLine; exact (ex_lt_eq q2).trans ((if_pos h5).trans ((ex_bd_eq q8).trans ((if_neg h12).trans ((if_pos h13).trans ((ex_bd_eq q23).trans ((if_neg h26).trans ((ex_bd_eq q29).trans ((if_pos h32).trans (rfl)))))))))
            exact ex_iret C hr hlk (by decide +kernel) rfl (Nat.le_refl _) (Nat.le_refl _) (by rw [E9]; exact ⟨rfl, rfl⟩)
    · skip
      refine ex_iconst (n := 0) (v := 0) (np := 47) C (by decide +kernel) (by decide) rfl ?_
      have E9 : A_bkLine σ = ((0 : Int32), σ7) := by unfold A_bkLine; exact (ex_lt_eq q2).trans ((if_pos h5).trans ((ex_bd_eq q8).trans ((if_pos h12).trans (rfl))))
      exact ex_iret C hr hlk (by decide +kernel) rfl (Nat.le_refl _) (Nat.le_refl _) (by rw [E9]; exact ⟨rfl, rfl⟩)
  · skip
    refine ex_iload_n (q := 3) (x := (σ.1 6)) (np := 26) C (by decide +kernel) rfl rfl ?_
    refine ex_bipush (n := 9) (v := 9) (np := 28) C (by decide +kernel) (by decide) rfl ?_
    refine ex_icmp_eq (off := 9) (tgt := 37) (np := 31) C (by decide +kernel) (by decide) rfl (fun h40 => ?_) (fun h40 => ?_)
    · skip
      refine ex_aload_n (q := 2) (x := 1) (np := 38) C (by decide +kernel) rfl rfl ?_
      refine ex_aload_n (q := 1) (x := 6) (np := 39) C (by decide +kernel) rfl rfl ?_
      refine ex_iconst (n := (-1)) (v := (-1)) (np := 40) C (by decide +kernel) (by decide) rfl ?_
      obtain ⟨r41, σ42, q43⟩ : ∃ r x, A_takeTown (-1 : Int32) σ1 = (r, x) := ex_pair _
      refine ex_call_i (np := 43) (fun ws H locs ls hR hsz => ex_runVN C (m_X4_takeTown_S d (by omega) (-1 : Int32) σ1 hI3) hd1 hd2 (by decide) hy_X4_takeTown tg_728 hc_X4 rfl (WS_1 _) rfl rfl (Nat.le_of_ble_eq_true rfl) tn_1042 tg_727 tg_18 tg_144 (by decide +kernel) ws H locs ls hR hsz (Nat.zero_le _) (Nat.zero_le _)) rfl (fun r9 w1 hpo => ?_)
      rw [q43] at hpo
      have hp1 : r41 = r9 := hpo.1.symm
      have hp2 := hpo.2
      clear hpo; subst hp1; subst hp2
      have hI44 := inv_X4_takeTown (-1 : Int32) σ1 hI3; rw [q43] at hI44
      have hF45 := fr_X4_takeTown (-1 : Int32) σ1; rw [q43] at hF45
      refine ex_if_ne (off := 5) (tgt := 48) (np := 46) C (by decide +kernel) (by decide) rfl (fun h46 => ?_) (fun h46 => ?_)
      · skip
        refine ex_aload_n (q := 0) (x := 10) (np := 49) C (by decide +kernel) rfl rfl ?_
        refine ex_getf (q := 1) (v := .ref 12) (np := 52) C hc_X0 hin_X0 (by decide) tg_479 (by decide +kernel) (WS_10 _) rfl rfl ?_
        refine ex_aload_n (q := 0) (x := 10) (np := 53) C (by decide +kernel) rfl rfl ?_
        refine ex_getf (q := 3) (v := .int (σ42.1 23)) (np := 56) C hc_X0 hin_X0 (by decide) tg_481 (by decide +kernel) (WS_10 _) rfl rfl ?_
        refine ex_aload_n (q := 2) (x := 1) (np := 57) C (by decide +kernel) rfl rfl ?_
        refine ex_getfN (q := 9) (v := .int (σ42.1 7)) (np := 60) C hc_X4 hin_X4 (by decide) tn_247 (by decide +kernel) (WS_1 _) rfl rfl ?_
        refine ex_iast (f := (σ42.2.2.1 20)) (kk := ((σ42.1 23)).toNatClampNeg) (w1 := (WS (sR 20 (upd (σ42.2.2.1 20) ((σ42.1 23)).toNatClampNeg (σ42.1 7)) σ42))) (np := 61) C (by decide +kernel) (WS_12 _) (by have e9 : σ42.1 23 = σ.1 23 := ((hF45.1 23 (by decide)).trans (hF4.1 23 (by decide))); have h9 := hI.2; rw [← e9] at h9; exact h9) rfl (WS_12_s _ _) rfl ?_
        refine ex_iload_n (q := 3) (x := (σ.1 6)) (np := 62) C (by decide +kernel) rfl rfl ?_
        refine ex_bipush (n := 8) (v := 8) (np := 64) C (by decide +kernel) (by decide) rfl ?_
        refine ex_icmp_ne (off := 40) (tgt := 104) (np := 67) C (by decide +kernel) (by decide) rfl (fun h47 => ?_) (fun h47 => ?_)
        · skip
          refine ex_iload_n (q := 3) (x := (σ.1 6)) (np := 105) C (by decide +kernel) rfl rfl ?_
          refine ex_bipush (n := 12) (v := 12) (np := 107) C (by decide +kernel) (by decide) rfl ?_
          refine ex_icmp_ne (off := 28) (tgt := 135) (np := 110) C (by decide +kernel) (by decide) rfl (fun h48 => ?_) (fun h48 => ?_)
          · skip
            refine ex_iconst (n := 1) (v := 1) (np := 136) C (by decide +kernel) (by decide) rfl ?_
            have E9 : A_bkLine σ = ((1 : Int32), (sR 20 (upd (σ42.2.2.1 20) ((σ42.1 23)).toNatClampNeg (σ42.1 7)) σ42)) := by unfold A_bkLine; exact (ex_lt_eq q2).trans ((if_neg h5).trans ((if_pos h40).trans ((ex_bd_eq q43).trans ((if_neg h46).trans ((if_neg h47).trans ((if_neg h48).trans (rfl)))))))
            exact ex_iret C hr hlk (by decide +kernel) rfl (Nat.le_refl _) (Nat.le_refl _) (by rw [E9]; exact ⟨rfl, rfl⟩)
          · skip
            refine ex_aload_n (q := 2) (x := 1) (np := 111) C (by decide +kernel) rfl rfl ?_
            refine ex_iconst (n := 1) (v := 1) (np := 112) C (by decide +kernel) (by decide) rfl ?_
            refine ex_bipush (n := 60) (v := 60) (np := 114) C (by decide +kernel) (by decide) rfl ?_
            obtain ⟨r49, σ50, q51⟩ : ∃ r x, A_takeNumber (1 : Int32) (60 : Int32) (sR 20 (upd (σ42.2.2.1 20) ((σ42.1 23)).toNatClampNeg (σ42.1 7)) σ42) = (r, x) := ex_pair _
            refine ex_call_i (np := 117) (fun ws H locs ls hR hsz => ex_runVN C (m_X4_takeNumber_S d (by omega) (1 : Int32) (60 : Int32) (sR 20 (upd (σ42.2.2.1 20) ((σ42.1 23)).toNatClampNeg (σ42.1 7)) σ42) hI44) hd1 hd2 (by decide) hy_X4_takeNumber tg_716 hc_X4 rfl (WS_1 _) rfl rfl (Nat.le_of_ble_eq_true rfl) tn_1044 tg_715 tg_15 tg_144 (by decide +kernel) ws H locs ls hR hsz (Nat.zero_le _) (Nat.zero_le _)) rfl (fun r9 w1 hpo => ?_)
            rw [q51] at hpo
            have hp1 : r49 = r9 := hpo.1.symm
            have hp2 := hpo.2
            clear hpo; subst hp1; subst hp2
            have hI52 := inv_X4_takeNumber (1 : Int32) (60 : Int32) (sR 20 (upd (σ42.2.2.1 20) ((σ42.1 23)).toNatClampNeg (σ42.1 7)) σ42) hI44; rw [q51] at hI52
            have hF53 := fr_X4_takeNumber (1 : Int32) (60 : Int32) (sR 20 (upd (σ42.2.2.1 20) ((σ42.1 23)).toNatClampNeg (σ42.1 7)) σ42); rw [q51] at hF53
            refine ex_if_ne (off := 5) (tgt := 122) (np := 120) C (by decide +kernel) (by decide) rfl (fun h54 => ?_) (fun h54 => ?_)
            · skip
              refine ex_aload_n (q := 0) (x := 10) (np := 123) C (by decide +kernel) rfl rfl ?_
              refine ex_getf (q := 2) (v := .ref 13) (np := 126) C hc_X0 hin_X0 (by decide) tg_480 (by decide +kernel) (WS_10 _) rfl rfl ?_
              refine ex_aload_n (q := 0) (x := 10) (np := 127) C (by decide +kernel) rfl rfl ?_
              refine ex_getf (q := 3) (v := .int (σ50.1 23)) (np := 130) C hc_X0 hin_X0 (by decide) tg_481 (by decide +kernel) (WS_10 _) rfl rfl ?_
              refine ex_aload_n (q := 2) (x := 1) (np := 131) C (by decide +kernel) rfl rfl ?_
              refine ex_getfN (q := 9) (v := .int (σ50.1 7)) (np := 134) C hc_X4 hin_X4 (by decide) tn_247 (by decide +kernel) (WS_1 _) rfl rfl ?_
              refine ex_iast (f := (σ50.2.2.1 21)) (kk := ((σ50.1 23)).toNatClampNeg) (w1 := (WS (sR 21 (upd (σ50.2.2.1 21) ((σ50.1 23)).toNatClampNeg (σ50.1 7)) σ50))) (np := 135) C (by decide +kernel) (WS_13 _) (by have e9 : σ50.1 23 = σ.1 23 := (((hF53.1 23 (by decide)).trans (hF45.1 23 (by decide))).trans (hF4.1 23 (by decide))); have h9 := hI.2; rw [← e9] at h9; exact h9) rfl (WS_13_s _ _) rfl ?_
              refine ex_iconst (n := 1) (v := 1) (np := 136) C (by decide +kernel) (by decide) rfl ?_
              have E9 : A_bkLine σ = ((1 : Int32), (sR 21 (upd (σ50.2.2.1 21) ((σ50.1 23)).toNatClampNeg (σ50.1 7)) σ50)) := by unfold A_bkLine; exact (ex_lt_eq q2).trans ((if_neg h5).trans ((if_pos h40).trans ((ex_bd_eq q43).trans ((if_neg h46).trans ((if_neg h47).trans ((if_pos h48).trans ((ex_bd_eq q51).trans ((if_neg h54).trans (rfl)))))))))
              exact ex_iret C hr hlk (by decide +kernel) rfl (Nat.le_refl _) (Nat.le_refl _) (by rw [E9]; exact ⟨rfl, rfl⟩)
            · skip
              refine ex_iconst (n := 0) (v := 0) (np := 121) C (by decide +kernel) (by decide) rfl ?_
              have E9 : A_bkLine σ = ((0 : Int32), σ50) := by unfold A_bkLine; exact (ex_lt_eq q2).trans ((if_neg h5).trans ((if_pos h40).trans ((ex_bd_eq q43).trans ((if_neg h46).trans ((if_neg h47).trans ((if_pos h48).trans ((ex_bd_eq q51).trans ((if_pos h54).trans (rfl)))))))))
              exact ex_iret C hr hlk (by decide +kernel) rfl (Nat.le_refl _) (Nat.le_refl _) (by rw [E9]; exact ⟨rfl, rfl⟩)
        · skip
          refine ex_aload_n (q := 2) (x := 1) (np := 68) C (by decide +kernel) rfl rfl ?_
          obtain ⟨r55, σ56, q57⟩ : ∃ r x, A_takeWay (sR 20 (upd (σ42.2.2.1 20) ((σ42.1 23)).toNatClampNeg (σ42.1 7)) σ42) = (r, x) := ex_pair _
          refine ex_call_i (np := 71) (fun ws H locs ls hR hsz => ex_runVN C (m_X4_takeWay_S d (by omega) (sR 20 (upd (σ42.2.2.1 20) ((σ42.1 23)).toNatClampNeg (σ42.1 7)) σ42) hI44) hd1 hd2 (by decide) hy_X4_takeWay tg_720 hc_X4 rfl (WS_1 _) rfl rfl (Nat.le_of_ble_eq_true rfl) tn_1043 tg_719 tg_16 tg_144 (by decide +kernel) ws H locs ls hR hsz (Nat.zero_le _) (Nat.zero_le _)) rfl (fun r9 w1 hpo => ?_)
          rw [q57] at hpo
          have hp1 : r55 = r9 := hpo.1.symm
          have hp2 := hpo.2
          clear hpo; subst hp1; subst hp2
          have hI58 := inv_X4_takeWay (sR 20 (upd (σ42.2.2.1 20) ((σ42.1 23)).toNatClampNeg (σ42.1 7)) σ42) hI44; rw [q57] at hI58
          have hF59 := fr_X4_takeWay (sR 20 (upd (σ42.2.2.1 20) ((σ42.1 23)).toNatClampNeg (σ42.1 7)) σ42); rw [q57] at hF59
          refine ex_if_eq (off := 13) (tgt := 84) (np := 74) C (by decide +kernel) (by decide) rfl (fun h60 => ?_) (fun h60 => ?_)
          · skip
            refine ex_iconst (n := 0) (v := 0) (np := 85) C (by decide +kernel) (by decide) rfl ?_
            have E9 : A_bkLine σ = ((0 : Int32), σ56) := by unfold A_bkLine; exact (ex_lt_eq q2).trans ((if_neg h5).trans ((if_pos h40).trans ((ex_bd_eq q43).trans ((if_neg h46).trans ((if_pos h47).trans ((ex_bd_eq q57).trans ((if_pos h60).trans (rfl))))))))
            exact ex_iret C hr hlk (by decide +kernel) rfl (Nat.le_refl _) (Nat.le_refl _) (by rw [E9]; exact ⟨rfl, rfl⟩)
          · skip
            refine ex_aload_n (q := 2) (x := 1) (np := 75) C (by decide +kernel) rfl rfl ?_
            refine ex_iconst (n := 1) (v := 1) (np := 76) C (by decide +kernel) (by decide) rfl ?_
            refine ex_bipush (n := 10) (v := 10) (np := 78) C (by decide +kernel) (by decide) rfl ?_
            obtain ⟨r61, σ62, q63⟩ : ∃ r x, A_takeNumber (1 : Int32) (10 : Int32) σ56 = (r, x) := ex_pair _
            refine ex_call_i (np := 81) (fun ws H locs ls hR hsz => ex_runVN C (m_X4_takeNumber_S d (by omega) (1 : Int32) (10 : Int32) σ56 hI58) hd1 hd2 (by decide) hy_X4_takeNumber tg_716 hc_X4 rfl (WS_1 _) rfl rfl (Nat.le_of_ble_eq_true rfl) tn_1044 tg_715 tg_15 tg_144 (by decide +kernel) ws H locs ls hR hsz (Nat.zero_le _) (Nat.zero_le _)) rfl (fun r9 w1 hpo => ?_)
            rw [q63] at hpo
            have hp1 : r61 = r9 := hpo.1.symm
            have hp2 := hpo.2
            clear hpo; subst hp1; subst hp2
            have hI64 := inv_X4_takeNumber (1 : Int32) (10 : Int32) σ56 hI58; rw [q63] at hI64
            have hF65 := fr_X4_takeNumber (1 : Int32) (10 : Int32) σ56; rw [q63] at hF65
            refine ex_if_ne (off := 5) (tgt := 86) (np := 84) C (by decide +kernel) (by decide) rfl (fun h66 => ?_) (fun h66 => ?_)
            · skip
              refine ex_aload_n (q := 0) (x := 10) (np := 87) C (by decide +kernel) rfl rfl ?_
              refine ex_getf (q := 2) (v := .ref 13) (np := 90) C hc_X0 hin_X0 (by decide) tg_480 (by decide +kernel) (WS_10 _) rfl rfl ?_
              refine ex_aload_n (q := 0) (x := 10) (np := 91) C (by decide +kernel) rfl rfl ?_
              refine ex_getf (q := 3) (v := .int (σ62.1 23)) (np := 94) C hc_X0 hin_X0 (by decide) tg_481 (by decide +kernel) (WS_10 _) rfl rfl ?_
              refine ex_aload_n (q := 2) (x := 1) (np := 95) C (by decide +kernel) rfl rfl ?_
              refine ex_getfN (q := 11) (v := .int (σ62.1 8)) (np := 98) C hc_X4 hin_X4 (by decide) tn_252 (by decide +kernel) (WS_1 _) rfl rfl ?_
              refine ex_aload_n (q := 2) (x := 1) (np := 99) C (by decide +kernel) rfl rfl ?_
              refine ex_getfN (q := 9) (v := .int (σ62.1 7)) (np := 102) C hc_X4 hin_X4 (by decide) tn_247 (by decide +kernel) (WS_1 _) rfl rfl ?_
              refine ex_imul (v := ((σ62.1 8) * (σ62.1 7))) (np := 103) C (by decide +kernel) rfl rfl ?_
              refine ex_iast (f := (σ62.2.2.1 21)) (kk := ((σ62.1 23)).toNatClampNeg) (w1 := (WS (sR 21 (upd (σ62.2.2.1 21) ((σ62.1 23)).toNatClampNeg ((σ62.1 8) * (σ62.1 7))) σ62))) (np := 104) C (by decide +kernel) (WS_13 _) (by have e9 : σ62.1 23 = σ.1 23 := ((((hF65.1 23 (by decide)).trans (hF59.1 23 (by decide))).trans (hF45.1 23 (by decide))).trans (hF4.1 23 (by decide))); have h9 := hI.2; rw [← e9] at h9; exact h9) rfl (WS_13_s _ _) rfl ?_
              refine ex_iload_n (q := 3) (x := (σ.1 6)) (np := 105) C (by decide +kernel) rfl rfl ?_
              refine ex_bipush (n := 12) (v := 12) (np := 107) C (by decide +kernel) (by decide) rfl ?_
              refine ex_icmp_ne (off := 28) (tgt := 135) (np := 110) C (by decide +kernel) (by decide) rfl (fun h67 => ?_) (fun h67 => ?_)
              · skip
                refine ex_iconst (n := 1) (v := 1) (np := 136) C (by decide +kernel) (by decide) rfl ?_
                have E9 : A_bkLine σ = ((1 : Int32), (sR 21 (upd (σ62.2.2.1 21) ((σ62.1 23)).toNatClampNeg ((σ62.1 8) * (σ62.1 7))) σ62)) := by unfold A_bkLine; exact (ex_lt_eq q2).trans ((if_neg h5).trans ((if_pos h40).trans ((ex_bd_eq q43).trans ((if_neg h46).trans ((if_pos h47).trans ((ex_bd_eq q57).trans ((if_neg h60).trans ((ex_bd_eq q63).trans ((if_neg h66).trans ((if_neg h67).trans (rfl)))))))))))
                exact ex_iret C hr hlk (by decide +kernel) rfl (Nat.le_refl _) (Nat.le_refl _) (by rw [E9]; exact ⟨rfl, rfl⟩)
              · skip
                refine ex_aload_n (q := 2) (x := 1) (np := 111) C (by decide +kernel) rfl rfl ?_
                refine ex_iconst (n := 1) (v := 1) (np := 112) C (by decide +kernel) (by decide) rfl ?_
                refine ex_bipush (n := 60) (v := 60) (np := 114) C (by decide +kernel) (by decide) rfl ?_
                obtain ⟨r68, σ69, q70⟩ : ∃ r x, A_takeNumber (1 : Int32) (60 : Int32) (sR 21 (upd (σ62.2.2.1 21) ((σ62.1 23)).toNatClampNeg ((σ62.1 8) * (σ62.1 7))) σ62) = (r, x) := ex_pair _
                refine ex_call_i (np := 117) (fun ws H locs ls hR hsz => ex_runVN C (m_X4_takeNumber_S d (by omega) (1 : Int32) (60 : Int32) (sR 21 (upd (σ62.2.2.1 21) ((σ62.1 23)).toNatClampNeg ((σ62.1 8) * (σ62.1 7))) σ62) hI64) hd1 hd2 (by decide) hy_X4_takeNumber tg_716 hc_X4 rfl (WS_1 _) rfl rfl (Nat.le_of_ble_eq_true rfl) tn_1044 tg_715 tg_15 tg_144 (by decide +kernel) ws H locs ls hR hsz (Nat.zero_le _) (Nat.zero_le _)) rfl (fun r9 w1 hpo => ?_)
                rw [q70] at hpo
                have hp1 : r68 = r9 := hpo.1.symm
                have hp2 := hpo.2
                clear hpo; subst hp1; subst hp2
                have hI71 := inv_X4_takeNumber (1 : Int32) (60 : Int32) (sR 21 (upd (σ62.2.2.1 21) ((σ62.1 23)).toNatClampNeg ((σ62.1 8) * (σ62.1 7))) σ62) hI64; rw [q70] at hI71
                have hF72 := fr_X4_takeNumber (1 : Int32) (60 : Int32) (sR 21 (upd (σ62.2.2.1 21) ((σ62.1 23)).toNatClampNeg ((σ62.1 8) * (σ62.1 7))) σ62); rw [q70] at hF72
                refine ex_if_ne (off := 5) (tgt := 122) (np := 120) C (by decide +kernel) (by decide) rfl (fun h73 => ?_) (fun h73 => ?_)
                · skip
                  refine ex_aload_n (q := 0) (x := 10) (np := 123) C (by decide +kernel) rfl rfl ?_
                  refine ex_getf (q := 2) (v := .ref 13) (np := 126) C hc_X0 hin_X0 (by decide) tg_480 (by decide +kernel) (WS_10 _) rfl rfl ?_
                  refine ex_aload_n (q := 0) (x := 10) (np := 127) C (by decide +kernel) rfl rfl ?_
                  refine ex_getf (q := 3) (v := .int (σ69.1 23)) (np := 130) C hc_X0 hin_X0 (by decide) tg_481 (by decide +kernel) (WS_10 _) rfl rfl ?_
                  refine ex_aload_n (q := 2) (x := 1) (np := 131) C (by decide +kernel) rfl rfl ?_
                  refine ex_getfN (q := 9) (v := .int (σ69.1 7)) (np := 134) C hc_X4 hin_X4 (by decide) tn_247 (by decide +kernel) (WS_1 _) rfl rfl ?_
                  refine ex_iast (f := (σ69.2.2.1 21)) (kk := ((σ69.1 23)).toNatClampNeg) (w1 := (WS (sR 21 (upd (σ69.2.2.1 21) ((σ69.1 23)).toNatClampNeg (σ69.1 7)) σ69))) (np := 135) C (by decide +kernel) (WS_13 _) (by have e9 : σ69.1 23 = σ.1 23 := (((((hF72.1 23 (by decide)).trans (hF65.1 23 (by decide))).trans (hF59.1 23 (by decide))).trans (hF45.1 23 (by decide))).trans (hF4.1 23 (by decide))); have h9 := hI.2; rw [← e9] at h9; exact h9) rfl (WS_13_s _ _) rfl ?_
                  refine ex_iconst (n := 1) (v := 1) (np := 136) C (by decide +kernel) (by decide) rfl ?_
                  have E9 : A_bkLine σ = ((1 : Int32), (sR 21 (upd (σ69.2.2.1 21) ((σ69.1 23)).toNatClampNeg (σ69.1 7)) σ69)) := by unfold A_bkLine; exact (ex_lt_eq q2).trans ((if_neg h5).trans ((if_pos h40).trans ((ex_bd_eq q43).trans ((if_neg h46).trans ((if_pos h47).trans ((ex_bd_eq q57).trans ((if_neg h60).trans ((ex_bd_eq q63).trans ((if_neg h66).trans ((if_pos h67).trans ((ex_bd_eq q70).trans ((if_neg h73).trans (rfl)))))))))))))
                  exact ex_iret C hr hlk (by decide +kernel) rfl (Nat.le_refl _) (Nat.le_refl _) (by rw [E9]; exact ⟨rfl, rfl⟩)
                · skip
                  refine ex_iconst (n := 0) (v := 0) (np := 121) C (by decide +kernel) (by decide) rfl ?_
                  have E9 : A_bkLine σ = ((0 : Int32), σ69) := by unfold A_bkLine; exact (ex_lt_eq q2).trans ((if_neg h5).trans ((if_pos h40).trans ((ex_bd_eq q43).trans ((if_neg h46).trans ((if_pos h47).trans ((ex_bd_eq q57).trans ((if_neg h60).trans ((ex_bd_eq q63).trans ((if_neg h66).trans ((if_pos h67).trans ((ex_bd_eq q70).trans ((if_pos h73).trans (rfl)))))))))))))
                  exact ex_iret C hr hlk (by decide +kernel) rfl (Nat.le_refl _) (Nat.le_refl _) (by rw [E9]; exact ⟨rfl, rfl⟩)
            · skip
              refine ex_iconst (n := 0) (v := 0) (np := 85) C (by decide +kernel) (by decide) rfl ?_
              have E9 : A_bkLine σ = ((0 : Int32), σ62) := by unfold A_bkLine; exact (ex_lt_eq q2).trans ((if_neg h5).trans ((if_pos h40).trans ((ex_bd_eq q43).trans ((if_neg h46).trans ((if_pos h47).trans ((ex_bd_eq q57).trans ((if_neg h60).trans ((ex_bd_eq q63).trans ((if_pos h66).trans (rfl))))))))))
              exact ex_iret C hr hlk (by decide +kernel) rfl (Nat.le_refl _) (Nat.le_refl _) (by rw [E9]; exact ⟨rfl, rfl⟩)
      · skip
        refine ex_iconst (n := 0) (v := 0) (np := 47) C (by decide +kernel) (by decide) rfl ?_
        have E9 : A_bkLine σ = ((0 : Int32), σ42) := by unfold A_bkLine; exact (ex_lt_eq q2).trans ((if_neg h5).trans ((if_pos h40).trans ((ex_bd_eq q43).trans ((if_pos h46).trans (rfl)))))
        exact ex_iret C hr hlk (by decide +kernel) rfl (Nat.le_refl _) (Nat.le_refl _) (by rw [E9]; exact ⟨rfl, rfl⟩)
    · skip
      refine ex_iload_n (q := 3) (x := (σ.1 6)) (np := 32) C (by decide +kernel) rfl rfl ?_
      refine ex_bipush (n := 10) (v := 10) (np := 34) C (by decide +kernel) (by decide) rfl ?_
      refine ex_icmp_ne (off := 27) (tgt := 61) (np := 37) C (by decide +kernel) (by decide) rfl (fun h74 => ?_) (fun h74 => ?_)
      · skip
        refine ex_iload_n (q := 3) (x := (σ.1 6)) (np := 62) C (by decide +kernel) rfl rfl ?_
        refine ex_bipush (n := 8) (v := 8) (np := 64) C (by decide +kernel) (by decide) rfl ?_
        refine ex_icmp_ne (off := 40) (tgt := 104) (np := 67) C (by decide +kernel) (by decide) rfl (fun h75 => ?_) (fun h75 => ?_)
        · skip
          refine ex_iload_n (q := 3) (x := (σ.1 6)) (np := 105) C (by decide +kernel) rfl rfl ?_
          refine ex_bipush (n := 12) (v := 12) (np := 107) C (by decide +kernel) (by decide) rfl ?_
          refine ex_icmp_ne (off := 28) (tgt := 135) (np := 110) C (by decide +kernel) (by decide) rfl (fun h76 => ?_) (fun h76 => ?_)
          · skip
            refine ex_iconst (n := 1) (v := 1) (np := 136) C (by decide +kernel) (by decide) rfl ?_
            have E9 : A_bkLine σ = ((1 : Int32), σ1) := by unfold A_bkLine; exact (ex_lt_eq q2).trans ((if_neg h5).trans ((if_neg h40).trans ((if_neg h74).trans ((if_neg h75).trans ((if_neg h76).trans (rfl))))))
            exact ex_iret C hr hlk (by decide +kernel) rfl (Nat.le_refl _) (Nat.le_refl _) (by rw [E9]; exact ⟨rfl, rfl⟩)
          · skip
            refine ex_aload_n (q := 2) (x := 1) (np := 111) C (by decide +kernel) rfl rfl ?_
            refine ex_iconst (n := 1) (v := 1) (np := 112) C (by decide +kernel) (by decide) rfl ?_
            refine ex_bipush (n := 60) (v := 60) (np := 114) C (by decide +kernel) (by decide) rfl ?_
            obtain ⟨r77, σ78, q79⟩ : ∃ r x, A_takeNumber (1 : Int32) (60 : Int32) σ1 = (r, x) := ex_pair _
            refine ex_call_i (np := 117) (fun ws H locs ls hR hsz => ex_runVN C (m_X4_takeNumber_S d (by omega) (1 : Int32) (60 : Int32) σ1 hI3) hd1 hd2 (by decide) hy_X4_takeNumber tg_716 hc_X4 rfl (WS_1 _) rfl rfl (Nat.le_of_ble_eq_true rfl) tn_1044 tg_715 tg_15 tg_144 (by decide +kernel) ws H locs ls hR hsz (Nat.zero_le _) (Nat.zero_le _)) rfl (fun r9 w1 hpo => ?_)
            rw [q79] at hpo
            have hp1 : r77 = r9 := hpo.1.symm
            have hp2 := hpo.2
            clear hpo; subst hp1; subst hp2
            have hI80 := inv_X4_takeNumber (1 : Int32) (60 : Int32) σ1 hI3; rw [q79] at hI80
            have hF81 := fr_X4_takeNumber (1 : Int32) (60 : Int32) σ1; rw [q79] at hF81
            refine ex_if_ne (off := 5) (tgt := 122) (np := 120) C (by decide +kernel) (by decide) rfl (fun h82 => ?_) (fun h82 => ?_)
            · skip
              refine ex_aload_n (q := 0) (x := 10) (np := 123) C (by decide +kernel) rfl rfl ?_
              refine ex_getf (q := 2) (v := .ref 13) (np := 126) C hc_X0 hin_X0 (by decide) tg_480 (by decide +kernel) (WS_10 _) rfl rfl ?_
              refine ex_aload_n (q := 0) (x := 10) (np := 127) C (by decide +kernel) rfl rfl ?_
              refine ex_getf (q := 3) (v := .int (σ78.1 23)) (np := 130) C hc_X0 hin_X0 (by decide) tg_481 (by decide +kernel) (WS_10 _) rfl rfl ?_
              refine ex_aload_n (q := 2) (x := 1) (np := 131) C (by decide +kernel) rfl rfl ?_
              refine ex_getfN (q := 9) (v := .int (σ78.1 7)) (np := 134) C hc_X4 hin_X4 (by decide) tn_247 (by decide +kernel) (WS_1 _) rfl rfl ?_
              refine ex_iast (f := (σ78.2.2.1 21)) (kk := ((σ78.1 23)).toNatClampNeg) (w1 := (WS (sR 21 (upd (σ78.2.2.1 21) ((σ78.1 23)).toNatClampNeg (σ78.1 7)) σ78))) (np := 135) C (by decide +kernel) (WS_13 _) (by have e9 : σ78.1 23 = σ.1 23 := ((hF81.1 23 (by decide)).trans (hF4.1 23 (by decide))); have h9 := hI.2; rw [← e9] at h9; exact h9) rfl (WS_13_s _ _) rfl ?_
              refine ex_iconst (n := 1) (v := 1) (np := 136) C (by decide +kernel) (by decide) rfl ?_
              have E9 : A_bkLine σ = ((1 : Int32), (sR 21 (upd (σ78.2.2.1 21) ((σ78.1 23)).toNatClampNeg (σ78.1 7)) σ78)) := by unfold A_bkLine; exact (ex_lt_eq q2).trans ((if_neg h5).trans ((if_neg h40).trans ((if_neg h74).trans ((if_neg h75).trans ((if_pos h76).trans ((ex_bd_eq q79).trans ((if_neg h82).trans (rfl))))))))
              exact ex_iret C hr hlk (by decide +kernel) rfl (Nat.le_refl _) (Nat.le_refl _) (by rw [E9]; exact ⟨rfl, rfl⟩)
            · skip
              refine ex_iconst (n := 0) (v := 0) (np := 121) C (by decide +kernel) (by decide) rfl ?_
              have E9 : A_bkLine σ = ((0 : Int32), σ78) := by unfold A_bkLine; exact (ex_lt_eq q2).trans ((if_neg h5).trans ((if_neg h40).trans ((if_neg h74).trans ((if_neg h75).trans ((if_pos h76).trans ((ex_bd_eq q79).trans ((if_pos h82).trans (rfl))))))))
              exact ex_iret C hr hlk (by decide +kernel) rfl (Nat.le_refl _) (Nat.le_refl _) (by rw [E9]; exact ⟨rfl, rfl⟩)
        · skip
          refine ex_aload_n (q := 2) (x := 1) (np := 68) C (by decide +kernel) rfl rfl ?_
          obtain ⟨r83, σ84, q85⟩ : ∃ r x, A_takeWay σ1 = (r, x) := ex_pair _
          refine ex_call_i (np := 71) (fun ws H locs ls hR hsz => ex_runVN C (m_X4_takeWay_S d (by omega) σ1 hI3) hd1 hd2 (by decide) hy_X4_takeWay tg_720 hc_X4 rfl (WS_1 _) rfl rfl (Nat.le_of_ble_eq_true rfl) tn_1043 tg_719 tg_16 tg_144 (by decide +kernel) ws H locs ls hR hsz (Nat.zero_le _) (Nat.zero_le _)) rfl (fun r9 w1 hpo => ?_)
          rw [q85] at hpo
          have hp1 : r83 = r9 := hpo.1.symm
          have hp2 := hpo.2
          clear hpo; subst hp1; subst hp2
          have hI86 := inv_X4_takeWay σ1 hI3; rw [q85] at hI86
          have hF87 := fr_X4_takeWay σ1; rw [q85] at hF87
          refine ex_if_eq (off := 13) (tgt := 84) (np := 74) C (by decide +kernel) (by decide) rfl (fun h88 => ?_) (fun h88 => ?_)
          · skip
            refine ex_iconst (n := 0) (v := 0) (np := 85) C (by decide +kernel) (by decide) rfl ?_
            have E9 : A_bkLine σ = ((0 : Int32), σ84) := by unfold A_bkLine; exact (ex_lt_eq q2).trans ((if_neg h5).trans ((if_neg h40).trans ((if_neg h74).trans ((if_pos h75).trans ((ex_bd_eq q85).trans ((if_pos h88).trans (rfl)))))))
            exact ex_iret C hr hlk (by decide +kernel) rfl (Nat.le_refl _) (Nat.le_refl _) (by rw [E9]; exact ⟨rfl, rfl⟩)
          · skip
            refine ex_aload_n (q := 2) (x := 1) (np := 75) C (by decide +kernel) rfl rfl ?_
            refine ex_iconst (n := 1) (v := 1) (np := 76) C (by decide +kernel) (by decide) rfl ?_
            refine ex_bipush (n := 10) (v := 10) (np := 78) C (by decide +kernel) (by decide) rfl ?_
            obtain ⟨r89, σ90, q91⟩ : ∃ r x, A_takeNumber (1 : Int32) (10 : Int32) σ84 = (r, x) := ex_pair _
            refine ex_call_i (np := 81) (fun ws H locs ls hR hsz => ex_runVN C (m_X4_takeNumber_S d (by omega) (1 : Int32) (10 : Int32) σ84 hI86) hd1 hd2 (by decide) hy_X4_takeNumber tg_716 hc_X4 rfl (WS_1 _) rfl rfl (Nat.le_of_ble_eq_true rfl) tn_1044 tg_715 tg_15 tg_144 (by decide +kernel) ws H locs ls hR hsz (Nat.zero_le _) (Nat.zero_le _)) rfl (fun r9 w1 hpo => ?_)
            rw [q91] at hpo
            have hp1 : r89 = r9 := hpo.1.symm
            have hp2 := hpo.2
            clear hpo; subst hp1; subst hp2
            have hI92 := inv_X4_takeNumber (1 : Int32) (10 : Int32) σ84 hI86; rw [q91] at hI92
            have hF93 := fr_X4_takeNumber (1 : Int32) (10 : Int32) σ84; rw [q91] at hF93
            refine ex_if_ne (off := 5) (tgt := 86) (np := 84) C (by decide +kernel) (by decide) rfl (fun h94 => ?_) (fun h94 => ?_)
            · skip
              refine ex_aload_n (q := 0) (x := 10) (np := 87) C (by decide +kernel) rfl rfl ?_
              refine ex_getf (q := 2) (v := .ref 13) (np := 90) C hc_X0 hin_X0 (by decide) tg_480 (by decide +kernel) (WS_10 _) rfl rfl ?_
              refine ex_aload_n (q := 0) (x := 10) (np := 91) C (by decide +kernel) rfl rfl ?_
              refine ex_getf (q := 3) (v := .int (σ90.1 23)) (np := 94) C hc_X0 hin_X0 (by decide) tg_481 (by decide +kernel) (WS_10 _) rfl rfl ?_
              refine ex_aload_n (q := 2) (x := 1) (np := 95) C (by decide +kernel) rfl rfl ?_
              refine ex_getfN (q := 11) (v := .int (σ90.1 8)) (np := 98) C hc_X4 hin_X4 (by decide) tn_252 (by decide +kernel) (WS_1 _) rfl rfl ?_
              refine ex_aload_n (q := 2) (x := 1) (np := 99) C (by decide +kernel) rfl rfl ?_
              refine ex_getfN (q := 9) (v := .int (σ90.1 7)) (np := 102) C hc_X4 hin_X4 (by decide) tn_247 (by decide +kernel) (WS_1 _) rfl rfl ?_
              refine ex_imul (v := ((σ90.1 8) * (σ90.1 7))) (np := 103) C (by decide +kernel) rfl rfl ?_
              refine ex_iast (f := (σ90.2.2.1 21)) (kk := ((σ90.1 23)).toNatClampNeg) (w1 := (WS (sR 21 (upd (σ90.2.2.1 21) ((σ90.1 23)).toNatClampNeg ((σ90.1 8) * (σ90.1 7))) σ90))) (np := 104) C (by decide +kernel) (WS_13 _) (by have e9 : σ90.1 23 = σ.1 23 := (((hF93.1 23 (by decide)).trans (hF87.1 23 (by decide))).trans (hF4.1 23 (by decide))); have h9 := hI.2; rw [← e9] at h9; exact h9) rfl (WS_13_s _ _) rfl ?_
              refine ex_iload_n (q := 3) (x := (σ.1 6)) (np := 105) C (by decide +kernel) rfl rfl ?_
              refine ex_bipush (n := 12) (v := 12) (np := 107) C (by decide +kernel) (by decide) rfl ?_
              refine ex_icmp_ne (off := 28) (tgt := 135) (np := 110) C (by decide +kernel) (by decide) rfl (fun h95 => ?_) (fun h95 => ?_)
              · skip
                refine ex_iconst (n := 1) (v := 1) (np := 136) C (by decide +kernel) (by decide) rfl ?_
                have E9 : A_bkLine σ = ((1 : Int32), (sR 21 (upd (σ90.2.2.1 21) ((σ90.1 23)).toNatClampNeg ((σ90.1 8) * (σ90.1 7))) σ90)) := by unfold A_bkLine; exact (ex_lt_eq q2).trans ((if_neg h5).trans ((if_neg h40).trans ((if_neg h74).trans ((if_pos h75).trans ((ex_bd_eq q85).trans ((if_neg h88).trans ((ex_bd_eq q91).trans ((if_neg h94).trans ((if_neg h95).trans (rfl))))))))))
                exact ex_iret C hr hlk (by decide +kernel) rfl (Nat.le_refl _) (Nat.le_refl _) (by rw [E9]; exact ⟨rfl, rfl⟩)
              · skip
                refine ex_aload_n (q := 2) (x := 1) (np := 111) C (by decide +kernel) rfl rfl ?_
                refine ex_iconst (n := 1) (v := 1) (np := 112) C (by decide +kernel) (by decide) rfl ?_
                refine ex_bipush (n := 60) (v := 60) (np := 114) C (by decide +kernel) (by decide) rfl ?_
                obtain ⟨r96, σ97, q98⟩ : ∃ r x, A_takeNumber (1 : Int32) (60 : Int32) (sR 21 (upd (σ90.2.2.1 21) ((σ90.1 23)).toNatClampNeg ((σ90.1 8) * (σ90.1 7))) σ90) = (r, x) := ex_pair _
                refine ex_call_i (np := 117) (fun ws H locs ls hR hsz => ex_runVN C (m_X4_takeNumber_S d (by omega) (1 : Int32) (60 : Int32) (sR 21 (upd (σ90.2.2.1 21) ((σ90.1 23)).toNatClampNeg ((σ90.1 8) * (σ90.1 7))) σ90) hI92) hd1 hd2 (by decide) hy_X4_takeNumber tg_716 hc_X4 rfl (WS_1 _) rfl rfl (Nat.le_of_ble_eq_true rfl) tn_1044 tg_715 tg_15 tg_144 (by decide +kernel) ws H locs ls hR hsz (Nat.zero_le _) (Nat.zero_le _)) rfl (fun r9 w1 hpo => ?_)
                rw [q98] at hpo
                have hp1 : r96 = r9 := hpo.1.symm
                have hp2 := hpo.2
                clear hpo; subst hp1; subst hp2
                have hI99 := inv_X4_takeNumber (1 : Int32) (60 : Int32) (sR 21 (upd (σ90.2.2.1 21) ((σ90.1 23)).toNatClampNeg ((σ90.1 8) * (σ90.1 7))) σ90) hI92; rw [q98] at hI99
                have hF100 := fr_X4_takeNumber (1 : Int32) (60 : Int32) (sR 21 (upd (σ90.2.2.1 21) ((σ90.1 23)).toNatClampNeg ((σ90.1 8) * (σ90.1 7))) σ90); rw [q98] at hF100
                refine ex_if_ne (off := 5) (tgt := 122) (np := 120) C (by decide +kernel) (by decide) rfl (fun h101 => ?_) (fun h101 => ?_)
                · skip
                  refine ex_aload_n (q := 0) (x := 10) (np := 123) C (by decide +kernel) rfl rfl ?_
                  refine ex_getf (q := 2) (v := .ref 13) (np := 126) C hc_X0 hin_X0 (by decide) tg_480 (by decide +kernel) (WS_10 _) rfl rfl ?_
                  refine ex_aload_n (q := 0) (x := 10) (np := 127) C (by decide +kernel) rfl rfl ?_
                  refine ex_getf (q := 3) (v := .int (σ97.1 23)) (np := 130) C hc_X0 hin_X0 (by decide) tg_481 (by decide +kernel) (WS_10 _) rfl rfl ?_
                  refine ex_aload_n (q := 2) (x := 1) (np := 131) C (by decide +kernel) rfl rfl ?_
                  refine ex_getfN (q := 9) (v := .int (σ97.1 7)) (np := 134) C hc_X4 hin_X4 (by decide) tn_247 (by decide +kernel) (WS_1 _) rfl rfl ?_
                  refine ex_iast (f := (σ97.2.2.1 21)) (kk := ((σ97.1 23)).toNatClampNeg) (w1 := (WS (sR 21 (upd (σ97.2.2.1 21) ((σ97.1 23)).toNatClampNeg (σ97.1 7)) σ97))) (np := 135) C (by decide +kernel) (WS_13 _) (by have e9 : σ97.1 23 = σ.1 23 := ((((hF100.1 23 (by decide)).trans (hF93.1 23 (by decide))).trans (hF87.1 23 (by decide))).trans (hF4.1 23 (by decide))); have h9 := hI.2; rw [← e9] at h9; exact h9) rfl (WS_13_s _ _) rfl ?_
                  refine ex_iconst (n := 1) (v := 1) (np := 136) C (by decide +kernel) (by decide) rfl ?_
                  have E9 : A_bkLine σ = ((1 : Int32), (sR 21 (upd (σ97.2.2.1 21) ((σ97.1 23)).toNatClampNeg (σ97.1 7)) σ97)) := by unfold A_bkLine; exact (ex_lt_eq q2).trans ((if_neg h5).trans ((if_neg h40).trans ((if_neg h74).trans ((if_pos h75).trans ((ex_bd_eq q85).trans ((if_neg h88).trans ((ex_bd_eq q91).trans ((if_neg h94).trans ((if_pos h95).trans ((ex_bd_eq q98).trans ((if_neg h101).trans (rfl))))))))))))
                  exact ex_iret C hr hlk (by decide +kernel) rfl (Nat.le_refl _) (Nat.le_refl _) (by rw [E9]; exact ⟨rfl, rfl⟩)
                · skip
                  refine ex_iconst (n := 0) (v := 0) (np := 121) C (by decide +kernel) (by decide) rfl ?_
                  have E9 : A_bkLine σ = ((0 : Int32), σ97) := by unfold A_bkLine; exact (ex_lt_eq q2).trans ((if_neg h5).trans ((if_neg h40).trans ((if_neg h74).trans ((if_pos h75).trans ((ex_bd_eq q85).trans ((if_neg h88).trans ((ex_bd_eq q91).trans ((if_neg h94).trans ((if_pos h95).trans ((ex_bd_eq q98).trans ((if_pos h101).trans (rfl))))))))))))
                  exact ex_iret C hr hlk (by decide +kernel) rfl (Nat.le_refl _) (Nat.le_refl _) (by rw [E9]; exact ⟨rfl, rfl⟩)
            · skip
              refine ex_iconst (n := 0) (v := 0) (np := 85) C (by decide +kernel) (by decide) rfl ?_
              have E9 : A_bkLine σ = ((0 : Int32), σ90) := by unfold A_bkLine; exact (ex_lt_eq q2).trans ((if_neg h5).trans ((if_neg h40).trans ((if_neg h74).trans ((if_pos h75).trans ((ex_bd_eq q85).trans ((if_neg h88).trans ((ex_bd_eq q91).trans ((if_pos h94).trans (rfl)))))))))
              exact ex_iret C hr hlk (by decide +kernel) rfl (Nat.le_refl _) (Nat.le_refl _) (by rw [E9]; exact ⟨rfl, rfl⟩)
      · skip
        refine ex_aload_n (q := 2) (x := 1) (np := 38) C (by decide +kernel) rfl rfl ?_
        refine ex_aload_n (q := 1) (x := 6) (np := 39) C (by decide +kernel) rfl rfl ?_
        refine ex_iconst (n := (-1)) (v := (-1)) (np := 40) C (by decide +kernel) (by decide) rfl ?_
        obtain ⟨r102, σ103, q104⟩ : ∃ r x, A_takeTown (-1 : Int32) σ1 = (r, x) := ex_pair _
        refine ex_call_i (np := 43) (fun ws H locs ls hR hsz => ex_runVN C (m_X4_takeTown_S d (by omega) (-1 : Int32) σ1 hI3) hd1 hd2 (by decide) hy_X4_takeTown tg_728 hc_X4 rfl (WS_1 _) rfl rfl (Nat.le_of_ble_eq_true rfl) tn_1042 tg_727 tg_18 tg_144 (by decide +kernel) ws H locs ls hR hsz (Nat.zero_le _) (Nat.zero_le _)) rfl (fun r9 w1 hpo => ?_)
        rw [q104] at hpo
        have hp1 : r102 = r9 := hpo.1.symm
        have hp2 := hpo.2
        clear hpo; subst hp1; subst hp2
        have hI105 := inv_X4_takeTown (-1 : Int32) σ1 hI3; rw [q104] at hI105
        have hF106 := fr_X4_takeTown (-1 : Int32) σ1; rw [q104] at hF106
        refine ex_if_ne (off := 5) (tgt := 48) (np := 46) C (by decide +kernel) (by decide) rfl (fun h107 => ?_) (fun h107 => ?_)
        · skip
          refine ex_aload_n (q := 0) (x := 10) (np := 49) C (by decide +kernel) rfl rfl ?_
          refine ex_getf (q := 1) (v := .ref 12) (np := 52) C hc_X0 hin_X0 (by decide) tg_479 (by decide +kernel) (WS_10 _) rfl rfl ?_
          refine ex_aload_n (q := 0) (x := 10) (np := 53) C (by decide +kernel) rfl rfl ?_
          refine ex_getf (q := 3) (v := .int (σ103.1 23)) (np := 56) C hc_X0 hin_X0 (by decide) tg_481 (by decide +kernel) (WS_10 _) rfl rfl ?_
          refine ex_aload_n (q := 2) (x := 1) (np := 57) C (by decide +kernel) rfl rfl ?_
          refine ex_getfN (q := 9) (v := .int (σ103.1 7)) (np := 60) C hc_X4 hin_X4 (by decide) tn_247 (by decide +kernel) (WS_1 _) rfl rfl ?_
          refine ex_iast (f := (σ103.2.2.1 20)) (kk := ((σ103.1 23)).toNatClampNeg) (w1 := (WS (sR 20 (upd (σ103.2.2.1 20) ((σ103.1 23)).toNatClampNeg (σ103.1 7)) σ103))) (np := 61) C (by decide +kernel) (WS_12 _) (by have e9 : σ103.1 23 = σ.1 23 := ((hF106.1 23 (by decide)).trans (hF4.1 23 (by decide))); have h9 := hI.2; rw [← e9] at h9; exact h9) rfl (WS_12_s _ _) rfl ?_
          refine ex_iload_n (q := 3) (x := (σ.1 6)) (np := 62) C (by decide +kernel) rfl rfl ?_
          refine ex_bipush (n := 8) (v := 8) (np := 64) C (by decide +kernel) (by decide) rfl ?_
          refine ex_icmp_ne (off := 40) (tgt := 104) (np := 67) C (by decide +kernel) (by decide) rfl (fun h108 => ?_) (fun h108 => ?_)
          · skip
            refine ex_iload_n (q := 3) (x := (σ.1 6)) (np := 105) C (by decide +kernel) rfl rfl ?_
            refine ex_bipush (n := 12) (v := 12) (np := 107) C (by decide +kernel) (by decide) rfl ?_
            refine ex_icmp_ne (off := 28) (tgt := 135) (np := 110) C (by decide +kernel) (by decide) rfl (fun h110 => ?_) (fun h110 => ?_)
            · skip
              refine ex_iconst (n := 1) (v := 1) (np := 136) C (by decide +kernel) (by decide) rfl ?_
              have E9 : A_bkLine σ = ((1 : Int32), (sR 20 (upd (σ103.2.2.1 20) ((σ103.1 23)).toNatClampNeg (σ103.1 7)) σ103)) := by unfold A_bkLine; exact (ex_lt_eq q2).trans ((if_neg h5).trans ((if_neg h40).trans ((if_pos h74).trans ((ex_bd_eq q104).trans ((if_neg h107).trans ((if_neg h108).trans ((if_neg h110).trans (rfl))))))))
              exact ex_iret C hr hlk (by decide +kernel) rfl (Nat.le_refl _) (Nat.le_refl _) (by rw [E9]; exact ⟨rfl, rfl⟩)
            · skip
              refine ex_aload_n (q := 2) (x := 1) (np := 111) C (by decide +kernel) rfl rfl ?_
              refine ex_iconst (n := 1) (v := 1) (np := 112) C (by decide +kernel) (by decide) rfl ?_
              refine ex_bipush (n := 60) (v := 60) (np := 114) C (by decide +kernel) (by decide) rfl ?_
              obtain ⟨r111, σ112, q113⟩ : ∃ r x, A_takeNumber (1 : Int32) (60 : Int32) (sR 20 (upd (σ103.2.2.1 20) ((σ103.1 23)).toNatClampNeg (σ103.1 7)) σ103) = (r, x) := ex_pair _
              refine ex_call_i (np := 117) (fun ws H locs ls hR hsz => ex_runVN C (m_X4_takeNumber_S d (by omega) (1 : Int32) (60 : Int32) (sR 20 (upd (σ103.2.2.1 20) ((σ103.1 23)).toNatClampNeg (σ103.1 7)) σ103) hI105) hd1 hd2 (by decide) hy_X4_takeNumber tg_716 hc_X4 rfl (WS_1 _) rfl rfl (Nat.le_of_ble_eq_true rfl) tn_1044 tg_715 tg_15 tg_144 (by decide +kernel) ws H locs ls hR hsz (Nat.zero_le _) (Nat.zero_le _)) rfl (fun r9 w1 hpo => ?_)
              rw [q113] at hpo
              have hp1 : r111 = r9 := hpo.1.symm
              have hp2 := hpo.2
              clear hpo; subst hp1; subst hp2
              have hI114 := inv_X4_takeNumber (1 : Int32) (60 : Int32) (sR 20 (upd (σ103.2.2.1 20) ((σ103.1 23)).toNatClampNeg (σ103.1 7)) σ103) hI105; rw [q113] at hI114
              have hF115 := fr_X4_takeNumber (1 : Int32) (60 : Int32) (sR 20 (upd (σ103.2.2.1 20) ((σ103.1 23)).toNatClampNeg (σ103.1 7)) σ103); rw [q113] at hF115
              refine ex_if_ne (off := 5) (tgt := 122) (np := 120) C (by decide +kernel) (by decide) rfl (fun h116 => ?_) (fun h116 => ?_)
              · skip
                refine ex_aload_n (q := 0) (x := 10) (np := 123) C (by decide +kernel) rfl rfl ?_
                refine ex_getf (q := 2) (v := .ref 13) (np := 126) C hc_X0 hin_X0 (by decide) tg_480 (by decide +kernel) (WS_10 _) rfl rfl ?_
                refine ex_aload_n (q := 0) (x := 10) (np := 127) C (by decide +kernel) rfl rfl ?_
                refine ex_getf (q := 3) (v := .int (σ112.1 23)) (np := 130) C hc_X0 hin_X0 (by decide) tg_481 (by decide +kernel) (WS_10 _) rfl rfl ?_
                refine ex_aload_n (q := 2) (x := 1) (np := 131) C (by decide +kernel) rfl rfl ?_
                refine ex_getfN (q := 9) (v := .int (σ112.1 7)) (np := 134) C hc_X4 hin_X4 (by decide) tn_247 (by decide +kernel) (WS_1 _) rfl rfl ?_
                refine ex_iast (f := (σ112.2.2.1 21)) (kk := ((σ112.1 23)).toNatClampNeg) (w1 := (WS (sR 21 (upd (σ112.2.2.1 21) ((σ112.1 23)).toNatClampNeg (σ112.1 7)) σ112))) (np := 135) C (by decide +kernel) (WS_13 _) (by have e9 : σ112.1 23 = σ.1 23 := (((hF115.1 23 (by decide)).trans (hF106.1 23 (by decide))).trans (hF4.1 23 (by decide))); have h9 := hI.2; rw [← e9] at h9; exact h9) rfl (WS_13_s _ _) rfl ?_
                refine ex_iconst (n := 1) (v := 1) (np := 136) C (by decide +kernel) (by decide) rfl ?_
                have E9 : A_bkLine σ = ((1 : Int32), (sR 21 (upd (σ112.2.2.1 21) ((σ112.1 23)).toNatClampNeg (σ112.1 7)) σ112)) := by unfold A_bkLine; exact (ex_lt_eq q2).trans ((if_neg h5).trans ((if_neg h40).trans ((if_pos h74).trans ((ex_bd_eq q104).trans ((if_neg h107).trans ((if_neg h108).trans ((if_pos h110).trans ((ex_bd_eq q113).trans ((if_neg h116).trans (rfl))))))))))
                exact ex_iret C hr hlk (by decide +kernel) rfl (Nat.le_refl _) (Nat.le_refl _) (by rw [E9]; exact ⟨rfl, rfl⟩)
              · skip
                refine ex_iconst (n := 0) (v := 0) (np := 121) C (by decide +kernel) (by decide) rfl ?_
                have E9 : A_bkLine σ = ((0 : Int32), σ112) := by unfold A_bkLine; exact (ex_lt_eq q2).trans ((if_neg h5).trans ((if_neg h40).trans ((if_pos h74).trans ((ex_bd_eq q104).trans ((if_neg h107).trans ((if_neg h108).trans ((if_pos h110).trans ((ex_bd_eq q113).trans ((if_pos h116).trans (rfl))))))))))
                exact ex_iret C hr hlk (by decide +kernel) rfl (Nat.le_refl _) (Nat.le_refl _) (by rw [E9]; exact ⟨rfl, rfl⟩)
          · skip
            refine ex_aload_n (q := 2) (x := 1) (np := 68) C (by decide +kernel) rfl rfl ?_
            obtain ⟨r117, σ118, q119⟩ : ∃ r x, A_takeWay (sR 20 (upd (σ103.2.2.1 20) ((σ103.1 23)).toNatClampNeg (σ103.1 7)) σ103) = (r, x) := ex_pair _
            refine ex_call_i (np := 71) (fun ws H locs ls hR hsz => ex_runVN C (m_X4_takeWay_S d (by omega) (sR 20 (upd (σ103.2.2.1 20) ((σ103.1 23)).toNatClampNeg (σ103.1 7)) σ103) hI105) hd1 hd2 (by decide) hy_X4_takeWay tg_720 hc_X4 rfl (WS_1 _) rfl rfl (Nat.le_of_ble_eq_true rfl) tn_1043 tg_719 tg_16 tg_144 (by decide +kernel) ws H locs ls hR hsz (Nat.zero_le _) (Nat.zero_le _)) rfl (fun r9 w1 hpo => ?_)
            rw [q119] at hpo
            have hp1 : r117 = r9 := hpo.1.symm
            have hp2 := hpo.2
            clear hpo; subst hp1; subst hp2
            have hI120 := inv_X4_takeWay (sR 20 (upd (σ103.2.2.1 20) ((σ103.1 23)).toNatClampNeg (σ103.1 7)) σ103) hI105; rw [q119] at hI120
            have hF121 := fr_X4_takeWay (sR 20 (upd (σ103.2.2.1 20) ((σ103.1 23)).toNatClampNeg (σ103.1 7)) σ103); rw [q119] at hF121
            refine ex_if_eq (off := 13) (tgt := 84) (np := 74) C (by decide +kernel) (by decide) rfl (fun h122 => ?_) (fun h122 => ?_)
            · skip
              refine ex_iconst (n := 0) (v := 0) (np := 85) C (by decide +kernel) (by decide) rfl ?_
              have E9 : A_bkLine σ = ((0 : Int32), σ118) := by unfold A_bkLine; exact (ex_lt_eq q2).trans ((if_neg h5).trans ((if_neg h40).trans ((if_pos h74).trans ((ex_bd_eq q104).trans ((if_neg h107).trans ((if_pos h108).trans ((ex_bd_eq q119).trans ((if_pos h122).trans (rfl)))))))))
              exact ex_iret C hr hlk (by decide +kernel) rfl (Nat.le_refl _) (Nat.le_refl _) (by rw [E9]; exact ⟨rfl, rfl⟩)
            · skip
              refine ex_aload_n (q := 2) (x := 1) (np := 75) C (by decide +kernel) rfl rfl ?_
              refine ex_iconst (n := 1) (v := 1) (np := 76) C (by decide +kernel) (by decide) rfl ?_
              refine ex_bipush (n := 10) (v := 10) (np := 78) C (by decide +kernel) (by decide) rfl ?_
              obtain ⟨r123, σ124, q125⟩ : ∃ r x, A_takeNumber (1 : Int32) (10 : Int32) σ118 = (r, x) := ex_pair _
              refine ex_call_i (np := 81) (fun ws H locs ls hR hsz => ex_runVN C (m_X4_takeNumber_S d (by omega) (1 : Int32) (10 : Int32) σ118 hI120) hd1 hd2 (by decide) hy_X4_takeNumber tg_716 hc_X4 rfl (WS_1 _) rfl rfl (Nat.le_of_ble_eq_true rfl) tn_1044 tg_715 tg_15 tg_144 (by decide +kernel) ws H locs ls hR hsz (Nat.zero_le _) (Nat.zero_le _)) rfl (fun r9 w1 hpo => ?_)
              rw [q125] at hpo
              have hp1 : r123 = r9 := hpo.1.symm
              have hp2 := hpo.2
              clear hpo; subst hp1; subst hp2
              have hI126 := inv_X4_takeNumber (1 : Int32) (10 : Int32) σ118 hI120; rw [q125] at hI126
              have hF127 := fr_X4_takeNumber (1 : Int32) (10 : Int32) σ118; rw [q125] at hF127
              refine ex_if_ne (off := 5) (tgt := 86) (np := 84) C (by decide +kernel) (by decide) rfl (fun h128 => ?_) (fun h128 => ?_)
              · skip
                refine ex_aload_n (q := 0) (x := 10) (np := 87) C (by decide +kernel) rfl rfl ?_
                refine ex_getf (q := 2) (v := .ref 13) (np := 90) C hc_X0 hin_X0 (by decide) tg_480 (by decide +kernel) (WS_10 _) rfl rfl ?_
                refine ex_aload_n (q := 0) (x := 10) (np := 91) C (by decide +kernel) rfl rfl ?_
                refine ex_getf (q := 3) (v := .int (σ124.1 23)) (np := 94) C hc_X0 hin_X0 (by decide) tg_481 (by decide +kernel) (WS_10 _) rfl rfl ?_
                refine ex_aload_n (q := 2) (x := 1) (np := 95) C (by decide +kernel) rfl rfl ?_
                refine ex_getfN (q := 11) (v := .int (σ124.1 8)) (np := 98) C hc_X4 hin_X4 (by decide) tn_252 (by decide +kernel) (WS_1 _) rfl rfl ?_
                refine ex_aload_n (q := 2) (x := 1) (np := 99) C (by decide +kernel) rfl rfl ?_
                refine ex_getfN (q := 9) (v := .int (σ124.1 7)) (np := 102) C hc_X4 hin_X4 (by decide) tn_247 (by decide +kernel) (WS_1 _) rfl rfl ?_
                refine ex_imul (v := ((σ124.1 8) * (σ124.1 7))) (np := 103) C (by decide +kernel) rfl rfl ?_
                refine ex_iast (f := (σ124.2.2.1 21)) (kk := ((σ124.1 23)).toNatClampNeg) (w1 := (WS (sR 21 (upd (σ124.2.2.1 21) ((σ124.1 23)).toNatClampNeg ((σ124.1 8) * (σ124.1 7))) σ124))) (np := 104) C (by decide +kernel) (WS_13 _) (by have e9 : σ124.1 23 = σ.1 23 := ((((hF127.1 23 (by decide)).trans (hF121.1 23 (by decide))).trans (hF106.1 23 (by decide))).trans (hF4.1 23 (by decide))); have h9 := hI.2; rw [← e9] at h9; exact h9) rfl (WS_13_s _ _) rfl ?_
                refine ex_iload_n (q := 3) (x := (σ.1 6)) (np := 105) C (by decide +kernel) rfl rfl ?_
                refine ex_bipush (n := 12) (v := 12) (np := 107) C (by decide +kernel) (by decide) rfl ?_
                refine ex_icmp_ne (off := 28) (tgt := 135) (np := 110) C (by decide +kernel) (by decide) rfl (fun h129 => ?_) (fun h129 => ?_)
                · skip
                  refine ex_iconst (n := 1) (v := 1) (np := 136) C (by decide +kernel) (by decide) rfl ?_
                  have E9 : A_bkLine σ = ((1 : Int32), (sR 21 (upd (σ124.2.2.1 21) ((σ124.1 23)).toNatClampNeg ((σ124.1 8) * (σ124.1 7))) σ124)) := by unfold A_bkLine; exact (ex_lt_eq q2).trans ((if_neg h5).trans ((if_neg h40).trans ((if_pos h74).trans ((ex_bd_eq q104).trans ((if_neg h107).trans ((if_pos h108).trans ((ex_bd_eq q119).trans ((if_neg h122).trans ((ex_bd_eq q125).trans ((if_neg h128).trans ((if_neg h129).trans (rfl))))))))))))
                  exact ex_iret C hr hlk (by decide +kernel) rfl (Nat.le_refl _) (Nat.le_refl _) (by rw [E9]; exact ⟨rfl, rfl⟩)
                · skip
                  refine ex_aload_n (q := 2) (x := 1) (np := 111) C (by decide +kernel) rfl rfl ?_
                  refine ex_iconst (n := 1) (v := 1) (np := 112) C (by decide +kernel) (by decide) rfl ?_
                  refine ex_bipush (n := 60) (v := 60) (np := 114) C (by decide +kernel) (by decide) rfl ?_
                  obtain ⟨r130, σ131, q132⟩ : ∃ r x, A_takeNumber (1 : Int32) (60 : Int32) (sR 21 (upd (σ124.2.2.1 21) ((σ124.1 23)).toNatClampNeg ((σ124.1 8) * (σ124.1 7))) σ124) = (r, x) := ex_pair _
                  refine ex_call_i (np := 117) (fun ws H locs ls hR hsz => ex_runVN C (m_X4_takeNumber_S d (by omega) (1 : Int32) (60 : Int32) (sR 21 (upd (σ124.2.2.1 21) ((σ124.1 23)).toNatClampNeg ((σ124.1 8) * (σ124.1 7))) σ124) hI126) hd1 hd2 (by decide) hy_X4_takeNumber tg_716 hc_X4 rfl (WS_1 _) rfl rfl (Nat.le_of_ble_eq_true rfl) tn_1044 tg_715 tg_15 tg_144 (by decide +kernel) ws H locs ls hR hsz (Nat.zero_le _) (Nat.zero_le _)) rfl (fun r9 w1 hpo => ?_)
                  rw [q132] at hpo
                  have hp1 : r130 = r9 := hpo.1.symm
                  have hp2 := hpo.2
                  clear hpo; subst hp1; subst hp2
                  have hI133 := inv_X4_takeNumber (1 : Int32) (60 : Int32) (sR 21 (upd (σ124.2.2.1 21) ((σ124.1 23)).toNatClampNeg ((σ124.1 8) * (σ124.1 7))) σ124) hI126; rw [q132] at hI133
                  have hF134 := fr_X4_takeNumber (1 : Int32) (60 : Int32) (sR 21 (upd (σ124.2.2.1 21) ((σ124.1 23)).toNatClampNeg ((σ124.1 8) * (σ124.1 7))) σ124); rw [q132] at hF134
                  refine ex_if_ne (off := 5) (tgt := 122) (np := 120) C (by decide +kernel) (by decide) rfl (fun h135 => ?_) (fun h135 => ?_)
                  · skip
                    refine ex_aload_n (q := 0) (x := 10) (np := 123) C (by decide +kernel) rfl rfl ?_
                    refine ex_getf (q := 2) (v := .ref 13) (np := 126) C hc_X0 hin_X0 (by decide) tg_480 (by decide +kernel) (WS_10 _) rfl rfl ?_
                    refine ex_aload_n (q := 0) (x := 10) (np := 127) C (by decide +kernel) rfl rfl ?_
                    refine ex_getf (q := 3) (v := .int (σ131.1 23)) (np := 130) C hc_X0 hin_X0 (by decide) tg_481 (by decide +kernel) (WS_10 _) rfl rfl ?_
                    refine ex_aload_n (q := 2) (x := 1) (np := 131) C (by decide +kernel) rfl rfl ?_
                    refine ex_getfN (q := 9) (v := .int (σ131.1 7)) (np := 134) C hc_X4 hin_X4 (by decide) tn_247 (by decide +kernel) (WS_1 _) rfl rfl ?_
                    refine ex_iast (f := (σ131.2.2.1 21)) (kk := ((σ131.1 23)).toNatClampNeg) (w1 := (WS (sR 21 (upd (σ131.2.2.1 21) ((σ131.1 23)).toNatClampNeg (σ131.1 7)) σ131))) (np := 135) C (by decide +kernel) (WS_13 _) (by have e9 : σ131.1 23 = σ.1 23 := (((((hF134.1 23 (by decide)).trans (hF127.1 23 (by decide))).trans (hF121.1 23 (by decide))).trans (hF106.1 23 (by decide))).trans (hF4.1 23 (by decide))); have h9 := hI.2; rw [← e9] at h9; exact h9) rfl (WS_13_s _ _) rfl ?_
                    refine ex_iconst (n := 1) (v := 1) (np := 136) C (by decide +kernel) (by decide) rfl ?_
                    have E9 : A_bkLine σ = ((1 : Int32), (sR 21 (upd (σ131.2.2.1 21) ((σ131.1 23)).toNatClampNeg (σ131.1 7)) σ131)) := by unfold A_bkLine; exact (ex_lt_eq q2).trans ((if_neg h5).trans ((if_neg h40).trans ((if_pos h74).trans ((ex_bd_eq q104).trans ((if_neg h107).trans ((if_pos h108).trans ((ex_bd_eq q119).trans ((if_neg h122).trans ((ex_bd_eq q125).trans ((if_neg h128).trans ((if_pos h129).trans ((ex_bd_eq q132).trans ((if_neg h135).trans (rfl))))))))))))))
                    exact ex_iret C hr hlk (by decide +kernel) rfl (Nat.le_refl _) (Nat.le_refl _) (by rw [E9]; exact ⟨rfl, rfl⟩)
                  · skip
                    refine ex_iconst (n := 0) (v := 0) (np := 121) C (by decide +kernel) (by decide) rfl ?_
                    have E9 : A_bkLine σ = ((0 : Int32), σ131) := by unfold A_bkLine; exact (ex_lt_eq q2).trans ((if_neg h5).trans ((if_neg h40).trans ((if_pos h74).trans ((ex_bd_eq q104).trans ((if_neg h107).trans ((if_pos h108).trans ((ex_bd_eq q119).trans ((if_neg h122).trans ((ex_bd_eq q125).trans ((if_neg h128).trans ((if_pos h129).trans ((ex_bd_eq q132).trans ((if_pos h135).trans (rfl))))))))))))))
                    exact ex_iret C hr hlk (by decide +kernel) rfl (Nat.le_refl _) (Nat.le_refl _) (by rw [E9]; exact ⟨rfl, rfl⟩)
              · skip
                refine ex_iconst (n := 0) (v := 0) (np := 85) C (by decide +kernel) (by decide) rfl ?_
                have E9 : A_bkLine σ = ((0 : Int32), σ124) := by unfold A_bkLine; exact (ex_lt_eq q2).trans ((if_neg h5).trans ((if_neg h40).trans ((if_pos h74).trans ((ex_bd_eq q104).trans ((if_neg h107).trans ((if_pos h108).trans ((ex_bd_eq q119).trans ((if_neg h122).trans ((ex_bd_eq q125).trans ((if_pos h128).trans (rfl)))))))))))
                exact ex_iret C hr hlk (by decide +kernel) rfl (Nat.le_refl _) (Nat.le_refl _) (by rw [E9]; exact ⟨rfl, rfl⟩)
        · skip
          refine ex_iconst (n := 0) (v := 0) (np := 47) C (by decide +kernel) (by decide) rfl ?_
          have E9 : A_bkLine σ = ((0 : Int32), σ103) := by unfold A_bkLine; exact (ex_lt_eq q2).trans ((if_neg h5).trans ((if_neg h40).trans ((if_pos h74).trans ((ex_bd_eq q104).trans ((if_pos h107).trans (rfl))))))
          exact ex_iret C hr hlk (by decide +kernel) rfl (Nat.le_refl _) (Nat.le_refl _) (by rw [E9]; exact ⟨rfl, rfl⟩)
set_option maxRecDepth 100000 in
set_option maxHeartbeats 4000000 in
theorem m_X0_read {l : Launch} {X : ab_X} {D : va_G} {A : ex_A} (d : Nat) (hd : 5 ≤ d) (σ : ex_S) (hI : A_IN0 σ) : ex_ctr l X D A d yX0_read cX0_read 3 (some .boolean) (WS σ) [.ref 10, .ref 6, .ref 1] (fun r w => r = (A_bkRead σ).1 ∧ w = WS (A_bkRead σ).2) := by
  obtain ⟨d, rfl⟩ : ∃ d9, d = d9 + 1 := ⟨d - 1, by omega⟩
  refine ex_meth (own := RX0) rfl (by decide) (Nat.le_of_ble_eq_true rfl) (fun p e R s m below meth c C hr hlk hd1 hd2 => ?_)
  show ex_ok p l e R s m _ below meth c 0 0 _ 3 X D A (WS σ) 0 [(0, .ref 10), (1, .ref 6), (2, .ref 1)] []
  have e40 : (40 : Int32).toInt = 40 := by decide
  have loop : ∀ (k : Nat) (τ : ex_S), BK_INV τ → 40 - (τ.1 23).toInt < (k : Int) → A_bkRead σ = A_bk k τ → ex_okP p l e R s m below meth c 3 X D A [.ref 10, .ref 6, .ref 1] (fun r w => r = (A_bkRead σ).1 ∧ w = WS (A_bkRead σ).2) (some .boolean) (WS τ) 12 [(0, .ref 10), (1, .ref 6), (2, .ref 1)] [] := by
    intro k
    induction k with
    | zero => intro τ hJ hk hs; exfalso; have h9 := hJ.2; omega
    | succ k ih =>
      intro τ hJ hk hs
      have h9 := hJ.2
      refine ex_aload_n (q := 2) (x := 1) (np := 13) C (by decide +kernel) rfl rfl ?_
      refine ex_call_i (np := 16) (fun ws H locs ls hR hsz => ex_runVN C (m_X4_atEnd_S d (by omega) τ) hd1 hd2 (by decide) hy_X4_atEnd tg_682 hc_X4 rfl (WS_1 _) rfl rfl (Nat.le_of_ble_eq_true rfl) tn_1032 tg_681 tg_7 tg_144 (by decide +kernel) ws H locs ls hR hsz (Nat.zero_le _) (Nat.zero_le _)) rfl (fun r1 w1 hpo => ?_)
      obtain ⟨q2, rfl⟩ := hpo
      refine ex_if_ne (off := 76) (tgt := 92) (np := 19) C (by decide +kernel) (by decide) rfl (fun h3 => ?_) (fun h3 => ?_)
      · skip
        refine ex_iconst (n := 1) (v := 1) (np := 93) C (by decide +kernel) (by decide) rfl ?_
        have E9 : A_bkRead σ = ((1 : Int32), τ) := (hs.trans (A_bk_s.trans ((ex_lt_eq q2).trans ((if_neg h3).trans (rfl)))))
        exact ex_iret C hr hlk (by decide +kernel) rfl (Nat.le_refl _) (Nat.le_refl _) (by rw [E9]; exact ⟨rfl, rfl⟩)
      · skip
        refine ex_aload_n (q := 0) (x := 10) (np := 20) C (by decide +kernel) rfl rfl ?_
        refine ex_getf (q := 3) (v := .int (τ.1 23)) (np := 23) C hc_X0 hin_X0 (by decide) tg_481 (by decide +kernel) (WS_10 _) rfl rfl ?_
        refine ex_bipush (n := 40) (v := 40) (np := 25) C (by decide +kernel) (by decide) rfl ?_
        refine ex_icmp_gt (off := 67) (tgt := 92) (np := 28) C (by decide +kernel) (by decide) rfl (fun h4 => ?_) (fun h4 => ?_)
        · skip
          exfalso; omega
        · skip
          refine ex_aload_n (q := 2) (x := 1) (np := 29) C (by decide +kernel) rfl rfl ?_
          refine ex_getfN (q := 8) (v := .int (τ.1 6)) (np := 32) C hc_X4 hin_X4 (by decide) tn_242 (by decide +kernel) (WS_1 _) rfl rfl ?_
          refine ex_call_i (np := 35) (fun ws H locs ls hR hsz => ex_runS C (m_X0_isAct d (by omega) (WS τ) (τ.1 6)) hd1 hd2 (by decide) hy_X0_isAct tg_1035 rfl rfl (Nat.le_of_ble_eq_true rfl) tg_1033 tg_1034 tg_154 (by decide +kernel) ws H locs ls hR hsz (Nat.zero_le _) (Nat.zero_le _)) rfl (fun r5 w1 hpo => ?_)
          obtain ⟨q6, rfl⟩ := hpo
          refine ex_if_ne (off := 9) (tgt := 44) (np := 38) C (by decide +kernel) (by decide) rfl (fun h7 => ?_) (fun h7 => ?_)
          · skip
            refine ex_aload_n (q := 0) (x := 10) (np := 45) C (by decide +kernel) rfl rfl ?_
            refine ex_getf (q := 3) (v := .int (τ.1 23)) (np := 48) C hc_X0 hin_X0 (by decide) tg_481 (by decide +kernel) (WS_10 _) rfl rfl ?_
            refine ex_bipush (n := 40) (v := 40) (np := 50) C (by decide +kernel) (by decide) rfl ?_
            refine ex_icmp_lt (off := 9) (tgt := 59) (np := 53) C (by decide +kernel) (by decide) rfl (fun h8 => ?_) (fun h8 => ?_)
            · skip
              refine ex_aload_n (q := 0) (x := 10) (np := 60) C (by decide +kernel) rfl rfl ?_
              refine ex_aload_n (q := 1) (x := 6) (np := 61) C (by decide +kernel) rfl rfl ?_
              refine ex_aload_n (q := 2) (x := 1) (np := 62) C (by decide +kernel) rfl rfl ?_
              obtain ⟨r10, σ11, q12⟩ : ∃ r x, A_bkLine τ = (r, x) := ex_pair _
              refine ex_call_i (np := 65) (fun ws H locs ls hR hsz => ex_runV (C1 := "") C (m_X0_readLine d (by omega) τ ⟨hJ.1, hJ.2.1, (by have h8 := h8; omega)⟩) hd1 hd2 (by decide) hy_X0_readLine tg_1040 hc_X0 rfl (WS_10 _) rfl rfl (Nat.le_of_ble_eq_true rfl) rfl tg_1037 tg_1039 tg_63 tg_154 (by decide +kernel) ws H locs ls hR hsz (Nat.zero_le _) (Nat.zero_le _)) rfl (fun r9 w1 hpo => ?_)
              rw [q12] at hpo
              have hp1 : r10 = r9 := hpo.1.symm
              have hp2 := hpo.2
              clear hpo; subst hp1; subst hp2
              have hI13 := inv_X0_readLine τ ⟨hJ.1, hJ.2.1, (by have h8 := h8; omega)⟩; rw [q12] at hI13
              have hF14 := fr_X0_readLine τ; rw [q12] at hF14
              refine ex_if_eq (off := 12) (tgt := 77) (np := 68) C (by decide +kernel) (by decide) rfl (fun h15 => ?_) (fun h15 => ?_)
              · skip
                refine ex_iconst (n := 0) (v := 0) (np := 78) C (by decide +kernel) (by decide) rfl ?_
                have E9 : A_bkRead σ = ((0 : Int32), σ11) := (hs.trans (A_bk_s.trans ((ex_lt_eq q2).trans ((if_pos h3).trans ((ex_lt_eq q6).trans ((if_neg h7).trans ((if_pos h8).trans ((ex_bd_eq q12).trans ((if_pos h15).trans (rfl))))))))))
                exact ex_iret C hr hlk (by decide +kernel) rfl (Nat.le_refl _) (Nat.le_refl _) (by rw [E9]; exact ⟨rfl, rfl⟩)
              · skip
                refine ex_aload_n (q := 2) (x := 1) (np := 69) C (by decide +kernel) rfl rfl ?_
                refine ex_bipush (n := 59) (v := 59) (np := 71) C (by decide +kernel) (by decide) rfl ?_
                obtain ⟨r16, σ17, q18⟩ : ∃ r x, A_takeSign (59 : Int32) σ11 = (r, x) := ex_pair _
                refine ex_call_i (np := 74) (fun ws H locs ls hR hsz => ex_runVN C (m_X4_takeSign_S d (by omega) (59 : Int32) σ11 hI13) hd1 hd2 (by decide) hy_X4_takeSign tg_743 hc_X4 rfl (WS_1 _) rfl rfl (Nat.le_of_ble_eq_true rfl) tn_1045 tg_742 tg_21 tg_144 (by decide +kernel) ws H locs ls hR hsz (Nat.zero_le _) (Nat.zero_le _)) rfl (fun r9 w1 hpo => ?_)
                rw [q18] at hpo
                have hp1 : r16 = r9 := hpo.1.symm
                have hp2 := hpo.2
                clear hpo; subst hp1; subst hp2
                have hI19 := inv_X4_takeSign (59 : Int32) σ11 hI13; rw [q18] at hI19
                have hF20 := fr_X4_takeSign (59 : Int32) σ11; rw [q18] at hF20
                refine ex_if_ne (off := 5) (tgt := 79) (np := 77) C (by decide +kernel) (by decide) rfl (fun h21 => ?_) (fun h21 => ?_)
                · skip
                  refine ex_aload_n (q := 0) (x := 10) (np := 80) C (by decide +kernel) rfl rfl ?_
                  refine ex_dup (np := 81) C rfl (by decide +kernel) rfl ?_
                  refine ex_getf (q := 3) (v := .int (σ17.1 23)) (np := 84) C hc_X0 hin_X0 (by decide) tg_481 (by decide +kernel) (WS_10 _) rfl rfl ?_
                  refine ex_iconst (n := 1) (v := 1) (np := 85) C (by decide +kernel) (by decide) rfl ?_
                  refine ex_iadd (v := ((σ17.1 23) + (1 : Int32))) (np := 86) C (by decide +kernel) rfl rfl ?_
                  refine ex_putf (q := 3) (w1 := (WS (sI 23 ((σ17.1 23) + (1 : Int32)) σ17))) (np := 89) C hc_X0 hin_X0 (by decide) tyX0_ok nmX0 tg_481 rfl (by decide +kernel) (WS_10 _) (Nat.le_of_ble_eq_true rfl) rfl rfl (WS_10_3 _ _) rfl ?_
                  refine ex_goto (off := (-77)) (tgt := 12) C (by decide +kernel) (by decide) ?_
                  refine ex_drop (lv1 := [(0, .ref 10), (1, .ref 6), (2, .ref 1)]) [0, 1, 2] rfl ?_
                  have e9 : σ17.1 23 = τ.1 23 := ((hF20.1 23 (by decide)).trans (hF14.1 23 (by decide)))
                  have i9 : ((σ17.1 23) + (1 : Int32)).toInt = (τ.1 23).toInt + 1 := by rw [e9]; exact ex_inc h8
                  have l9 := h8
                  exact ih (sI 23 ((σ17.1 23) + (1 : Int32)) σ17) ⟨hI19, (by show 0 ≤ ((σ17.1 23) + (1 : Int32)).toInt ∧ ((σ17.1 23) + (1 : Int32)).toInt ≤ 40; omega)⟩ (by show 40 - ((σ17.1 23) + (1 : Int32)).toInt < (k : Int); omega) (hs.trans (A_bk_s.trans ((ex_lt_eq q2).trans ((if_pos h3).trans ((ex_lt_eq q6).trans ((if_neg h7).trans ((if_pos h8).trans ((ex_bd_eq q12).trans ((if_neg h15).trans ((ex_bd_eq q18).trans ((if_neg h21).trans (rfl))))))))))))
                · skip
                  refine ex_iconst (n := 0) (v := 0) (np := 78) C (by decide +kernel) (by decide) rfl ?_
                  have E9 : A_bkRead σ = ((0 : Int32), σ17) := (hs.trans (A_bk_s.trans ((ex_lt_eq q2).trans ((if_pos h3).trans ((ex_lt_eq q6).trans ((if_neg h7).trans ((if_pos h8).trans ((ex_bd_eq q12).trans ((if_neg h15).trans ((ex_bd_eq q18).trans ((if_pos h21).trans (rfl))))))))))))
                  exact ex_iret C hr hlk (by decide +kernel) rfl (Nat.le_refl _) (Nat.le_refl _) (by rw [E9]; exact ⟨rfl, rfl⟩)
            · skip
              refine ex_aload_n (q := 2) (x := 1) (np := 54) C (by decide +kernel) rfl rfl ?_
              refine ex_iconst (n := 4) (v := 4) (np := 55) C (by decide +kernel) (by decide) rfl ?_
              obtain ⟨r22, σ23, q24⟩ : ∃ r x, A_failAs (4 : Int32) τ = (r, x) := ex_pair _
              refine ex_call_i (np := 58) (fun ws H locs ls hR hsz => ex_runVN C (m_X4_failAs_S d (by omega) (4 : Int32) τ) hd1 hd2 (by decide) hy_X4_failAs tg_694 hc_X4 rfl (WS_1 _) rfl rfl (Nat.le_of_ble_eq_true rfl) tn_1036 tg_693 tg_10 tg_144 (by decide +kernel) ws H locs ls hR hsz (Nat.zero_le _) (Nat.zero_le _)) rfl (fun r9 w1 hpo => ?_)
              rw [q24] at hpo
              have hp1 : r22 = r9 := hpo.1.symm
              have hp2 := hpo.2
              clear hpo; subst hp1; subst hp2
              have hI25 := inv_X4_failAs (4 : Int32) τ hJ.1; rw [q24] at hI25
              have hF26 := fr_X4_failAs (4 : Int32) τ; rw [q24] at hF26
              have E9 : A_bkRead σ = (r22, σ23) := (hs.trans (A_bk_s.trans ((ex_lt_eq q2).trans ((if_pos h3).trans ((ex_lt_eq q6).trans ((if_neg h7).trans ((if_neg h8).trans ((ex_bd_eq q24).trans (rfl)))))))))
              exact ex_iret C hr hlk (by decide +kernel) (ex_nar (by have b9 := bl_X4_failAs (4 : Int32) τ; rw [q24] at b9; exact b9)) (Nat.le_refl _) (Nat.le_refl _) (by rw [E9]; exact ⟨rfl, rfl⟩)
          · skip
            refine ex_aload_n (q := 2) (x := 1) (np := 39) C (by decide +kernel) rfl rfl ?_
            refine ex_iconst (n := 1) (v := 1) (np := 40) C (by decide +kernel) (by decide) rfl ?_
            obtain ⟨r27, σ28, q29⟩ : ∃ r x, A_failAs (1 : Int32) τ = (r, x) := ex_pair _
            refine ex_call_i (np := 43) (fun ws H locs ls hR hsz => ex_runVN C (m_X4_failAs_S d (by omega) (1 : Int32) τ) hd1 hd2 (by decide) hy_X4_failAs tg_694 hc_X4 rfl (WS_1 _) rfl rfl (Nat.le_of_ble_eq_true rfl) tn_1036 tg_693 tg_10 tg_144 (by decide +kernel) ws H locs ls hR hsz (Nat.zero_le _) (Nat.zero_le _)) rfl (fun r9 w1 hpo => ?_)
            rw [q29] at hpo
            have hp1 : r27 = r9 := hpo.1.symm
            have hp2 := hpo.2
            clear hpo; subst hp1; subst hp2
            have hI30 := inv_X4_failAs (1 : Int32) τ hJ.1; rw [q29] at hI30
            have hF31 := fr_X4_failAs (1 : Int32) τ; rw [q29] at hF31
            have E9 : A_bkRead σ = (r27, σ28) := (hs.trans (A_bk_s.trans ((ex_lt_eq q2).trans ((if_pos h3).trans ((ex_lt_eq q6).trans ((if_pos h7).trans ((ex_bd_eq q29).trans (rfl))))))))
            exact ex_iret C hr hlk (by decide +kernel) (ex_nar (by have b9 := bl_X4_failAs (1 : Int32) τ; rw [q29] at b9; exact b9)) (Nat.le_refl _) (Nat.le_refl _) (by rw [E9]; exact ⟨rfl, rfl⟩)
  refine ex_aload_n (q := 0) (x := 10) (np := 1) C (by decide +kernel) rfl rfl ?_
  refine ex_iconst (n := 0) (v := 0) (np := 2) C (by decide +kernel) (by decide) rfl ?_
  refine ex_putf (q := 3) (w1 := (WS (sI 23 (0 : Int32) σ))) (np := 5) C hc_X0 hin_X0 (by decide) tyX0_ok nmX0 tg_481 rfl (by decide +kernel) (WS_10 _) (Nat.le_of_ble_eq_true rfl) rfl rfl (WS_10_3 _ _) rfl ?_
  refine ex_aload_n (q := 2) (x := 1) (np := 6) C (by decide +kernel) rfl rfl ?_
  refine ex_sipush (n := 400) (v := 400) (np := 9) C (by decide +kernel) (by decide) rfl ?_
  obtain ⟨σ32, q33⟩ : ∃ x, x = A_begin (400 : Int32) (sI 23 (0 : Int32) σ) := ⟨_, rfl⟩
  refine ex_call_v (np := 12) (fun ws H locs ls hR hsz => ex_runVN C (m_X4_begin_S d (by omega) (400 : Int32) (sI 23 (0 : Int32) σ) hI) hd1 hd2 (by decide) hy_X4_begin tg_663 hc_X4 rfl (WS_1 _) rfl rfl (Nat.le_of_ble_eq_true rfl) tn_1031 tg_662 tg_3 tg_144 (by decide +kernel) ws H locs ls hR hsz (Nat.zero_le _) (Nat.zero_le _)) rfl (fun w1 hpo => ?_)
  rw [← q33] at hpo
  subst hpo
  have hI34 := inv_X4_begin (400 : Int32) (sI 23 (0 : Int32) σ) hI; rw [← q33] at hI34
  refine ex_drop (lv1 := [(0, .ref 10), (1, .ref 6), (2, .ref 1)]) [0, 1, 2] rfl ?_
  exact loop 42 σ32 (by rw [q33]; exact BK_bg hI) (by have g9 : BK_INV σ32 := (by rw [q33]; exact BK_bg hI); have g8 := g9.2; omega) (by unfold A_bkRead; exact (ex_lt_eq q33).trans (rfl))
set_option maxRecDepth 100000 in
set_option maxHeartbeats 4000000 in
theorem m_X10_fault {l : Launch} {X : ab_X} {D : va_G} {A : ex_A} (d : Nat) (hd : 1 ≤ d) (σ : ex_S) : ex_ctr l X D A d yX10_fault cX10_fault 1 (some .int) (WS σ) [.ref 0] (fun r w => r = A_fault σ ∧ w = WS σ) := by
  obtain ⟨d, rfl⟩ : ∃ d9, d = d9 + 1 := ⟨d - 1, by omega⟩
  refine ex_meth (own := RX10) rfl (by decide) (Nat.le_of_ble_eq_true rfl) (fun p e R s m below meth c C hr hlk hd1 hd2 => ?_)
  show ex_ok p l e R s m _ below meth c 0 0 _ 1 X D A (WS σ) 0 [(0, .ref 0)] []
  refine ex_aload_n (q := 0) (x := 0) (np := 1) C (by decide +kernel) rfl rfl ?_
  refine ex_getf (q := 0) (v := .ref 1) (np := 4) C hc_X10 hin_X10 (by decide) tg_584 (by decide +kernel) (WS_0 _) rfl rfl ?_
  refine ex_getfN (q := 12) (v := .int (σ.1 9)) (np := 7) C hc_X4 hin_X4 (by decide) tn_255 (by decide +kernel) (WS_1 _) rfl rfl ?_
  have E9 : A_fault σ = (σ.1 9) := by unfold A_fault; exact rfl
  exact ex_iret C hr hlk (by decide +kernel) rfl (Nat.le_refl _) (Nat.le_refl _) ⟨E9.symm, rfl⟩
