/-! The sentence: the class. -/
/-- the class within a sentence -/
noncomputable def SA_INV (σ : ex_S) : Prop := A_INV σ ∧ (0 ≤ (σ.1 20).toInt ∧ (σ.1 20).toInt ≤ 40) ∧ (0 ≤ (σ.1 21).toInt ∧ (σ.1 21).toInt ≤ 20)
theorem SA_fr {σ τ : ex_S} (h : SA_INV σ) (hi : A_INV τ) (hF : A_FR σ τ) : SA_INV τ := ⟨hi, by rw [hF.1 20 (by decide)]; exact h.2.1, by rw [hF.1 21 (by decide)]; exact h.2.2⟩
theorem SA_nx {σ : ex_S} (h : SA_INV σ) : SA_INV (A_next σ) := SA_fr h (inv_X4_next _ h.1) (fr_X4_next _)
theorem SA_fa {σ : ex_S} {w : Int32} (h : SA_INV σ) : SA_INV (A_failAs w σ).2 := SA_fr h (inv_X4_failAs _ _ h.1) (fr_X4_failAs _ _)
theorem SA_tt {σ : ex_S} {u : Int32} (h : SA_INV σ) : SA_INV (A_takeTown u σ).2 := SA_fr h (inv_X4_takeTown _ _ h.1) (fr_X4_takeTown _ _)
theorem SA_tn {σ : ex_S} {lo hi : Int32} (h : SA_INV σ) : SA_INV (A_takeNumber lo hi σ).2 := SA_fr h (inv_X4_takeNumber _ _ _ h.1) (fr_X4_takeNumber _ _ _)
theorem SA_ts {σ : ex_S} {ch : Int32} (h : SA_INV σ) : SA_INV (A_takeSign ch σ).2 := SA_fr h (inv_X4_takeSign _ _ h.1) (fr_X4_takeSign _ _)
theorem SA_on {σ : ex_S} (h : SA_INV σ) (h1 : ((σ.1 21)).toInt < ((20 : Int32)).toInt) : SA_INV (sI 21 ((σ.1 21) + (1 : Int32)) σ) := by
  have e20 : (20 : Int32).toInt = 20 := by decide
  have e := ex_inc h1
  refine ⟨h.1, h.2.1, ?_⟩
  have h9 := h.2.2
  show 0 ≤ ((σ.1 21) + (1 : Int32)).toInt ∧ ((σ.1 21) + (1 : Int32)).toInt ≤ 20
  omega
/-- how deep, and how much deeper it may go -/
noncomputable def S_dp (k : Nat) (dp : Int32) : Prop := 1 ≤ dp.toInt ∧ dp.toInt ≤ 9 ∧ 10 ≤ dp.toInt + k
theorem S_dp_1 {k : Nat} {dp : Int32} (h : S_dp (k + 1) dp) (h1 : ¬ ((8 : Int32)).toInt < (dp).toInt) : S_dp k (dp + (1 : Int32)) := by
  have e8 : (8 : Int32).toInt = 8 := by decide
  have e9 : (9 : Int32).toInt = 9 := by decide
  obtain ⟨a, b, c⟩ := h
  have e := ex_inc (p := dp) (n := 9) (by omega)
  have c' : 10 ≤ dp.toInt + ((k : Int) + 1) := by simpa using c
  refine ⟨by omega, by omega, by omega⟩
noncomputable def A_addStep (stp : Int32) (sgn : Int32) (num : Int32) (σ : ex_S) : ex_S :=
  if ((σ.1 20)).toInt < ((40 : Int32)).toInt then
    (sI 20 ((σ.1 20) + (1 : Int32)) (sR 18 (upd (σ.2.2.1 18) ((σ.1 20)).toNatClampNeg num) (sR 17 (upd (σ.2.2.1 17) ((σ.1 20)).toNatClampNeg sgn) (sR 16 (upd (σ.2.2.1 16) ((σ.1 20)).toNatClampNeg stp) σ))))
  else
    σ
theorem inv_X6_addStep (stp sgn num : Int32) (σ : ex_S) (h : 0 ≤ (σ.1 20).toInt ∧ (σ.1 20).toInt ≤ 40) : 0 ≤ ((A_addStep stp sgn num σ).1 20).toInt ∧ ((A_addStep stp sgn num σ).1 20).toInt ≤ 40 := by
  unfold A_addStep
  have e40 : (40 : Int32).toInt = 40 := by decide
  by_cases h1 : ((σ.1 20)).toInt < ((40 : Int32)).toInt
  · rw [if_pos h1]
    have e := ex_inc h1
    show 0 ≤ ((σ.1 20) + (1 : Int32)).toInt ∧ ((σ.1 20) + (1 : Int32)).toInt ≤ 40
    omega
  · rw [if_neg h1]
    exact h
theorem A_addStep_k {stp sgn num : Int32} {σ : ex_S} {k : Nat} (hk : ¬ k = 20) : (A_addStep stp sgn num σ).1 k = σ.1 k := by
  unfold A_addStep
  by_cases h1 : ((σ.1 20)).toInt < ((40 : Int32)).toInt
  · rw [if_pos h1]
    exact sI_1.trans (if_neg hk)
  · rw [if_neg h1]
theorem A_addStep_r {stp sgn num : Int32} {σ : ex_S} : (A_addStep stp sgn num σ).2.1 = σ.2.1 ∧ (A_addStep stp sgn num σ).2.2.1 0 = σ.2.2.1 0 ∧ (A_addStep stp sgn num σ).2.2.2 = σ.2.2.2 := by
  unfold A_addStep
  by_cases h1 : ((σ.1 20)).toInt < ((40 : Int32)).toInt
  · rw [if_pos h1]
    exact ⟨rfl, rfl, rfl⟩
  · rw [if_neg h1]
    exact ⟨rfl, rfl, rfl⟩
theorem A_INV_add {stp sgn num : Int32} {σ : ex_S} (h : A_INV σ) : A_INV (A_addStep stp sgn num σ) := by
  unfold A_addStep
  by_cases h1 : ((σ.1 20)).toInt < ((40 : Int32)).toInt
  · rw [if_pos h1]
    exact h
  · rw [if_neg h1]
    exact h
theorem SA_add {stp sgn num : Int32} {σ : ex_S} (h : SA_INV σ) : SA_INV (A_addStep stp sgn num σ) := ⟨A_INV_add h.1, inv_X6_addStep _ _ _ _ h.2.1, by rw [A_addStep_k (by decide)]; exact h.2.2⟩
noncomputable def A_beginsOne (wrd : Int32) : Int32 :=
  if wrd = (1 : Int32) then
    (1 : Int32)
  else
    if wrd = (2 : Int32) then
      (1 : Int32)
    else
      if (wrd).toInt < ((15 : Int32)).toInt then
        (0 : Int32)
      else
        if ((21 : Int32)).toInt < (wrd).toInt then
          (0 : Int32)
        else
          (1 : Int32)
noncomputable def A_readPlain (wrd : Int32) (σ : ex_S) : Int32 × ex_S :=
  if wrd = (16 : Int32) then
    ex_lt (A_addStep wrd (0 : Int32) (0 : Int32) σ) (fun σ2 =>
    ((1 : Int32), σ2))
  else
    if wrd = (17 : Int32) then
      ex_lt (A_addStep wrd (0 : Int32) (0 : Int32) σ) (fun σ6 =>
      ((1 : Int32), σ6))
    else
      if wrd = (18 : Int32) then
        ex_lt (A_addStep wrd (0 : Int32) (0 : Int32) σ) (fun σ68 =>
        ((1 : Int32), σ68))
      else
        if wrd = (19 : Int32) then
          ex_bd (A_takeTown (-1 : Int32) σ) (fun r59 σ60 =>
          if r59 = 0 then
            ((0 : Int32), σ60)
          else
            ex_lt (A_addStep wrd (0 : Int32) (σ60.1 7) σ60) (fun σ65 =>
            ((1 : Int32), σ65)))
        else
          if (σ.1 4) = (60 : Int32) then
            ex_lt (A_next σ) (fun σ13 =>
            ex_bd (A_takeNumber (0 : Int32) (999 : Int32) σ13) (fun r17 σ18 =>
            if r17 = 0 then
              ((0 : Int32), σ18)
            else
              ex_lt (A_addStep wrd (σ.1 4) (σ18.1 7) σ18) (fun σ23 =>
              ((1 : Int32), σ23))))
          else
            if (σ.1 4) = (61 : Int32) then
              ex_lt (A_next σ) (fun σ27 =>
              ex_bd (A_takeNumber (0 : Int32) (999 : Int32) σ27) (fun r31 σ32 =>
              if r31 = 0 then
                ((0 : Int32), σ32)
              else
                ex_lt (A_addStep wrd (σ.1 4) (σ32.1 7) σ32) (fun σ37 =>
                ((1 : Int32), σ37))))
            else
              if (σ.1 4) = (62 : Int32) then
                ex_lt (A_next σ) (fun σ41 =>
                ex_bd (A_takeNumber (0 : Int32) (999 : Int32) σ41) (fun r45 σ46 =>
                if r45 = 0 then
                  ((0 : Int32), σ46)
                else
                  ex_lt (A_addStep wrd (σ.1 4) (σ46.1 7) σ46) (fun σ51 =>
                  ((1 : Int32), σ51))))
              else
                ex_bd (A_failAs (1 : Int32) σ) (fun r54 σ55 =>
                (r54, σ55))
theorem inv_X6_readPlain (wrd : Int32) (σ : ex_S) (h : SA_INV σ) : SA_INV (A_readPlain wrd σ).2 := by
  unfold A_readPlain
  simp only [ex_bd, ex_lt]
  repeat' (with_reducible split)
  all_goals (repeat (first
    | with_reducible exact h
    | with_reducible refine SA_add ?_
    | with_reducible refine SA_nx ?_
    | with_reducible refine SA_fa ?_
    | with_reducible refine SA_tt ?_
    | with_reducible refine SA_tn ?_
    | with_reducible refine SA_ts ?_
    ))
theorem bl_X6_readPlain (wrd : Int32) (σ : ex_S) : (A_readPlain wrd σ).1 = 0 ∨ (A_readPlain wrd σ).1 = 1 := by
  unfold A_readPlain
  simp only [ex_bd, ex_lt]
  (repeat' (with_reducible split)) <;> first | with_reducible exact Or.inl rfl | with_reducible exact Or.inr rfl | with_reducible exact bl_X4_failAs _ _
/-- what stands behind the first of a list, each with its word ahead -/
noncomputable def A_cl (f : ex_S → Int32 × ex_S) (wd : Int32) : Nat → ex_S → Int32 × ex_S
  | 0, σ => ((1 : Int32), σ)
  | n + 1, σ => if (σ.1 6) = wd then ex_lt (A_next σ) (fun σ1 => ex_bd (f σ1) (fun r σ2 => if r = 0 then ((0 : Int32), σ2) else ex_lt (A_addStep wd (0 : Int32) (0 : Int32) σ2) (fun σ3 => A_cl f wd n σ3))) else ((1 : Int32), σ)
theorem A_cl_s {f : ex_S → Int32 × ex_S} {wd : Int32} {n : Nat} {σ : ex_S} : A_cl f wd (n + 1) σ = if (σ.1 6) = wd then ex_lt (A_next σ) (fun σ1 => ex_bd (f σ1) (fun r σ2 => if r = 0 then ((0 : Int32), σ2) else ex_lt (A_addStep wd (0 : Int32) (0 : Int32) σ2) (fun σ3 => A_cl f wd n σ3))) else ((1 : Int32), σ) := rfl
noncomputable def A_lst (f : ex_S → Int32 × ex_S) (wd : Int32) (σ : ex_S) : Int32 × ex_S := ex_bd (f σ) (fun r σ1 => if r = 0 then ((0 : Int32), σ1) else A_cl f wd 20 σ1)
noncomputable def A_all (f : Int32 → ex_S → Int32 × ex_S) (dp : Int32) (σ : ex_S) : Int32 × ex_S := A_lst (f dp) (14 : Int32) σ
noncomputable def A_cnd (f : Int32 → ex_S → Int32 × ex_S) (dp : Int32) (σ : ex_S) : Int32 × ex_S := A_lst (f dp) (13 : Int32) σ
theorem SA_cl {f : ex_S → Int32 × ex_S} {wd : Int32} (hf : ∀ σ, SA_INV σ → SA_INV (f σ).2) : ∀ (n : Nat) (σ : ex_S), SA_INV σ → SA_INV (A_cl f wd n σ).2 := by
  intro n
  induction n with
  | zero => intro σ h; exact h
  | succ n ih =>
    intro σ h
    rw [A_cl_s]
    by_cases h1 : (σ.1 6) = wd
    · rw [if_pos h1]
      have h2 := hf _ (SA_nx h)
      simp only [ex_lt, ex_bd]
      by_cases h3 : (f (A_next σ)).1 = 0
      · rw [if_pos h3]; exact h2
      · rw [if_neg h3]; exact ih _ (SA_add h2)
    · rw [if_neg h1]; exact h
theorem SA_lst {f : ex_S → Int32 × ex_S} {wd : Int32} (hf : ∀ σ, SA_INV σ → SA_INV (f σ).2) (σ : ex_S) (h : SA_INV σ) : SA_INV (A_lst f wd σ).2 := by
  unfold A_lst
  simp only [ex_bd]
  by_cases h3 : (f σ).1 = 0
  · rw [if_pos h3]; exact hf _ h
  · rw [if_neg h3]; exact SA_cl hf 20 _ (hf _ h)
theorem bl_cl {f : ex_S → Int32 × ex_S} {wd : Int32} : ∀ (n : Nat) (σ : ex_S), (A_cl f wd n σ).1 = 0 ∨ (A_cl f wd n σ).1 = 1 := by
  intro n
  induction n with
  | zero => intro σ; exact Or.inr rfl
  | succ n ih =>
    intro σ
    rw [A_cl_s]
    by_cases h1 : (σ.1 6) = wd
    · rw [if_pos h1]
      simp only [ex_lt, ex_bd]
      by_cases h3 : (f (A_next σ)).1 = 0
      · rw [if_pos h3]; exact Or.inl rfl
      · rw [if_neg h3]; exact ih _
    · rw [if_neg h1]; exact Or.inr rfl
theorem bl_lst {f : ex_S → Int32 × ex_S} {wd : Int32} (σ : ex_S) : (A_lst f wd σ).1 = 0 ∨ (A_lst f wd σ).1 = 1 := by
  unfold A_lst
  simp only [ex_bd]
  by_cases h3 : (f σ).1 = 0
  · rw [if_pos h3]; exact Or.inl rfl
  · rw [if_neg h3]; exact bl_cl 20 _
noncomputable def A_one : Nat → Int32 → ex_S → Int32 × ex_S
  | 0, _, σ => ((0 : Int32), σ)
  | k + 1, dp, σ =>
    if (σ.1 4) = (40 : Int32) then
      if ((σ.1 21)).toInt < ((20 : Int32)).toInt then
        if ((8 : Int32)).toInt < (dp).toInt then
          ex_bd (A_failAs (4 : Int32) σ) (fun r66 σ67 =>
          (r66, σ67))
        else
          ex_lt (A_next (sI 21 ((σ.1 21) + (1 : Int32)) σ)) (fun σ50 =>
          ex_bd (A_cnd (A_all (A_one k)) (dp + (1 : Int32)) σ50) (fun r55 σ56 =>
          if r55 = 0 then
            ((0 : Int32), σ56)
          else
            ex_bd (A_takeSign (41 : Int32) σ56) (fun r60 σ61 =>
            if r60 = 0 then
              ((0 : Int32), σ61)
            else
              ((1 : Int32), σ61))))
      else
        ex_bd (A_failAs (4 : Int32) σ) (fun r44 σ45 =>
        (r44, σ45))
    else
      ex_lt (A_beginsOne (σ.1 6)) (fun r3 =>
      if r3 = 0 then
        ex_bd (A_failAs (1 : Int32) σ) (fun r37 σ38 =>
        (r37, σ38))
      else
        if ((σ.1 21)).toInt < ((20 : Int32)).toInt then
          if ((8 : Int32)).toInt < (dp).toInt then
            ex_bd (A_failAs (4 : Int32) σ) (fun r32 σ33 =>
            (r32, σ33))
          else
            ex_lt (A_next (sI 21 ((σ.1 21) + (1 : Int32)) σ)) (fun σ14 =>
            if (σ.1 6) = (15 : Int32) then
              ex_bd (A_one k (dp + (1 : Int32)) σ14) (fun r24 σ25 =>
              if r24 = 0 then
                ((0 : Int32), σ25)
              else
                ex_lt (A_addStep (15 : Int32) (0 : Int32) (0 : Int32) σ25) (fun σ29 =>
                ((1 : Int32), σ29)))
            else
              ex_bd (A_readPlain (σ.1 6) σ14) (fun r20 σ21 =>
              (r20, σ21)))
        else
          ex_bd (A_failAs (4 : Int32) σ) (fun r7 σ8 =>
          (r7, σ8)))
theorem A_one_s {k : Nat} {dp : Int32} {σ : ex_S} : A_one (k + 1) dp σ =
    if (σ.1 4) = (40 : Int32) then
      if ((σ.1 21)).toInt < ((20 : Int32)).toInt then
        if ((8 : Int32)).toInt < (dp).toInt then
          ex_bd (A_failAs (4 : Int32) σ) (fun r66 σ67 =>
          (r66, σ67))
        else
          ex_lt (A_next (sI 21 ((σ.1 21) + (1 : Int32)) σ)) (fun σ50 =>
          ex_bd (A_cnd (A_all (A_one k)) (dp + (1 : Int32)) σ50) (fun r55 σ56 =>
          if r55 = 0 then
            ((0 : Int32), σ56)
          else
            ex_bd (A_takeSign (41 : Int32) σ56) (fun r60 σ61 =>
            if r60 = 0 then
              ((0 : Int32), σ61)
            else
              ((1 : Int32), σ61))))
      else
        ex_bd (A_failAs (4 : Int32) σ) (fun r44 σ45 =>
        (r44, σ45))
    else
      ex_lt (A_beginsOne (σ.1 6)) (fun r3 =>
      if r3 = 0 then
        ex_bd (A_failAs (1 : Int32) σ) (fun r37 σ38 =>
        (r37, σ38))
      else
        if ((σ.1 21)).toInt < ((20 : Int32)).toInt then
          if ((8 : Int32)).toInt < (dp).toInt then
            ex_bd (A_failAs (4 : Int32) σ) (fun r32 σ33 =>
            (r32, σ33))
          else
            ex_lt (A_next (sI 21 ((σ.1 21) + (1 : Int32)) σ)) (fun σ14 =>
            if (σ.1 6) = (15 : Int32) then
              ex_bd (A_one k (dp + (1 : Int32)) σ14) (fun r24 σ25 =>
              if r24 = 0 then
                ((0 : Int32), σ25)
              else
                ex_lt (A_addStep (15 : Int32) (0 : Int32) (0 : Int32) σ25) (fun σ29 =>
                ((1 : Int32), σ29)))
            else
              ex_bd (A_readPlain (σ.1 6) σ14) (fun r20 σ21 =>
              (r20, σ21)))
        else
          ex_bd (A_failAs (4 : Int32) σ) (fun r7 σ8 =>
          (r7, σ8))) := rfl
theorem inv_one : ∀ (k : Nat) (dp : Int32) (σ : ex_S), SA_INV σ → SA_INV (A_one k dp σ).2 := by
  intro k
  induction k with
  | zero => intro dp σ h; exact h
  | succ k ih =>
    intro dp σ h
    have hc : ∀ (dp : Int32) (σ : ex_S), SA_INV σ → SA_INV (A_cnd (A_all (A_one k)) dp σ).2 := fun dp σ h => SA_lst (fun σ => SA_lst (fun σ => ih dp σ) σ) σ h
    rw [A_one_s]
    simp only [ex_bd, ex_lt]
    repeat' (with_reducible split)
    all_goals (repeat (first
      | with_reducible exact h
      | with_reducible refine SA_add ?_
      | with_reducible refine SA_fa ?_
      | with_reducible refine SA_ts ?_
      | with_reducible refine hc _ _ ?_
      | with_reducible refine ih _ _ ?_
      | with_reducible refine inv_X6_readPlain _ _ ?_
      | with_reducible refine SA_nx ?_
      | with_reducible refine SA_on ?_ (by assumption)
      ))
theorem A_begin_k {mo : Int32} {σ : ex_S} {k : Nat} (hk : 11 ≤ k) : (A_begin mo σ).1 k = σ.1 k := by
  unfold A_begin
  show (A_next (sI 10 (0 : Int32) (sI 9 (0 : Int32) (sI 2 (0 : Int32) (sI 1 mo σ))))).1 k = σ.1 k
  rw [(fr_X4_next _).1 k hk, sI_1, if_neg (by omega), sI_1, if_neg (by omega), sI_1, if_neg (by omega), sI_1, if_neg (by omega)]
theorem SA_bg {σ : ex_S} (h : A_IN0 σ) : SA_INV (A_begin (200 : Int32) (sI 21 (0 : Int32) (sI 20 (0 : Int32) σ))) := by
  refine ⟨inv_X4_begin _ _ h, ?_, ?_⟩
  · rw [A_begin_k (by decide)]
    show 0 ≤ (0 : Int32).toInt ∧ (0 : Int32).toInt ≤ 40
    decide
  · rw [A_begin_k (by decide)]
    show 0 ≤ (0 : Int32).toInt ∧ (0 : Int32).toInt ≤ 20
    decide
noncomputable def A_txt (dp : Int32) (σ : ex_S) : Int32 × ex_S := A_cnd (A_all (A_one 9)) dp σ
theorem inv_txt (dp : Int32) (σ : ex_S) (h : SA_INV σ ∧ S_dp 9 dp) : SA_INV (A_txt dp σ).2 := SA_lst (fun σ => SA_lst (fun σ => inv_one 9 dp σ) σ) σ h.1
noncomputable def A_read (σ : ex_S) : Int32 × ex_S :=
  ex_lt (A_begin (200 : Int32) (sI 21 (0 : Int32) (sI 20 (0 : Int32) σ))) (fun σ1 =>
  ex_bd (A_txt (1 : Int32) σ1) (fun r4 σ5 =>
  if r4 = 0 then
    ((0 : Int32), σ5)
  else
    ex_lt (A_atEnd σ5) (fun r10 =>
    if r10 = 0 then
      ex_bd (A_failAs (1 : Int32) σ5) (fun r13 σ14 =>
      if r13 = 0 then
        ((0 : Int32), σ14)
      else
        ((1 : Int32), σ14))
    else
      ((1 : Int32), σ5))))
theorem inv_X6_read (σ : ex_S) (h : A_IN0 σ) : SA_INV (A_read σ).2 := by
  unfold A_read
  have h1 := SA_bg h
  have h2 := inv_txt (1 : Int32) _ ⟨h1, (by unfold S_dp; decide)⟩
  simp only [ex_bd, ex_lt]
  repeat' (with_reducible split)
  all_goals (repeat (first
    | with_reducible exact h2
    | with_reducible refine SA_fa ?_
    ))
noncomputable def A_sentence (σ : ex_S) : Int32 :=
  ex_bd (A_read σ) (fun r1 σ2 =>
  if r1 = 0 then
    ((-1 : Int32) - (σ2.1 10))
  else
    (σ2.1 21))
set_option maxRecDepth 100000 in
set_option maxHeartbeats 4000000 in
theorem m_X6_addStep {l : Launch} {X : ab_X} {D : va_G} {A : ex_A} (d : Nat) (hd : 1 ≤ d) (stp : Int32) (sgn : Int32) (num : Int32) (σ : ex_S) (hI : (0 ≤ (σ.1 20).toInt ∧ (σ.1 20).toInt ≤ 40)) : ex_ctr l X D A d yX6_addStep cX6_addStep 4 none (WS σ) [.ref 8, .int stp, .int sgn, .int num] (fun _ w => w = WS (A_addStep stp sgn num σ)) := by
  obtain ⟨d, rfl⟩ : ∃ d9, d = d9 + 1 := ⟨d - 1, by omega⟩
  refine ex_meth (own := RX6) rfl (by decide) (Nat.le_of_ble_eq_true rfl) (fun p e R s m below meth c C hr hlk hd1 hd2 => ?_)
  show ex_ok p l e R s m _ below meth c 0 0 _ 4 X D A (WS σ) 0 [(0, .ref 8), (1, .int stp), (2, .int sgn), (3, .int num)] []
  refine ex_aload_n (q := 0) (x := 8) (np := 1) C (by decide +kernel) rfl rfl ?_
  refine ex_getf (q := 3) (v := .int (σ.1 20)) (np := 4) C hc_X6 hin_X6 (by decide) tg_457 (by decide +kernel) (WS_8 _) rfl rfl ?_
  refine ex_bipush (n := 40) (v := 40) (np := 6) C (by decide +kernel) (by decide) rfl ?_
  refine ex_icmp_ge (off := 43) (tgt := 49) (np := 9) C (by decide +kernel) (by decide) rfl (fun h1 => ?_) (fun h1 => ?_)
  · skip
    refine ex_vret C hr hlk (by decide +kernel) (Nat.le_refl _) (Nat.le_refl _) ?_
    have E9 : A_addStep stp sgn num σ = σ := by unfold A_addStep; exact (if_neg h1).trans (rfl)
    rw [E9]
  · skip
    refine ex_aload_n (q := 0) (x := 8) (np := 10) C (by decide +kernel) rfl rfl ?_
    refine ex_getf (q := 0) (v := .ref 4) (np := 13) C hc_X6 hin_X6 (by decide) tg_454 (by decide +kernel) (WS_8 _) rfl rfl ?_
    refine ex_aload_n (q := 0) (x := 8) (np := 14) C (by decide +kernel) rfl rfl ?_
    refine ex_getf (q := 3) (v := .int (σ.1 20)) (np := 17) C hc_X6 hin_X6 (by decide) tg_457 (by decide +kernel) (WS_8 _) rfl rfl ?_
    refine ex_iload_n (q := 1) (x := stp) (np := 18) C (by decide +kernel) rfl rfl ?_
    refine ex_iast (f := (σ.2.2.1 16)) (kk := ((σ.1 20)).toNatClampNeg) (w1 := (WS (sR 16 (upd (σ.2.2.1 16) ((σ.1 20)).toNatClampNeg stp) σ))) (np := 19) C (by decide +kernel) (WS_4 _) (by have h8 := h1; have e9 : (40 : Int32).toInt = 40 := (by decide); omega) rfl (WS_4_s _ _) rfl ?_
    refine ex_aload_n (q := 0) (x := 8) (np := 20) C (by decide +kernel) rfl rfl ?_
    refine ex_getf (q := 1) (v := .ref 5) (np := 23) C hc_X6 hin_X6 (by decide) tg_455 (by decide +kernel) (WS_8 _) rfl rfl ?_
    refine ex_aload_n (q := 0) (x := 8) (np := 24) C (by decide +kernel) rfl rfl ?_
    refine ex_getf (q := 3) (v := .int (σ.1 20)) (np := 27) C hc_X6 hin_X6 (by decide) tg_457 (by decide +kernel) (WS_8 _) rfl rfl ?_
    refine ex_iload_n (q := 2) (x := sgn) (np := 28) C (by decide +kernel) rfl rfl ?_
    refine ex_iast (f := (σ.2.2.1 17)) (kk := ((σ.1 20)).toNatClampNeg) (w1 := (WS (sR 17 (upd (σ.2.2.1 17) ((σ.1 20)).toNatClampNeg sgn) (sR 16 (upd (σ.2.2.1 16) ((σ.1 20)).toNatClampNeg stp) σ)))) (np := 29) C (by decide +kernel) (WS_5 _) (by have h8 := h1; have e9 : (40 : Int32).toInt = 40 := (by decide); omega) rfl (WS_5_s _ _) rfl ?_
    refine ex_aload_n (q := 0) (x := 8) (np := 30) C (by decide +kernel) rfl rfl ?_
    refine ex_getf (q := 2) (v := .ref 9) (np := 33) C hc_X6 hin_X6 (by decide) tg_456 (by decide +kernel) (WS_8 _) rfl rfl ?_
    refine ex_aload_n (q := 0) (x := 8) (np := 34) C (by decide +kernel) rfl rfl ?_
    refine ex_getf (q := 3) (v := .int (σ.1 20)) (np := 37) C hc_X6 hin_X6 (by decide) tg_457 (by decide +kernel) (WS_8 _) rfl rfl ?_
    refine ex_iload_n (q := 3) (x := num) (np := 38) C (by decide +kernel) rfl rfl ?_
    refine ex_iast (f := (σ.2.2.1 18)) (kk := ((σ.1 20)).toNatClampNeg) (w1 := (WS (sR 18 (upd (σ.2.2.1 18) ((σ.1 20)).toNatClampNeg num) (sR 17 (upd (σ.2.2.1 17) ((σ.1 20)).toNatClampNeg sgn) (sR 16 (upd (σ.2.2.1 16) ((σ.1 20)).toNatClampNeg stp) σ))))) (np := 39) C (by decide +kernel) (WS_9 _) (by have h8 := h1; have e9 : (40 : Int32).toInt = 40 := (by decide); omega) rfl (WS_9_s _ _) rfl ?_
    refine ex_aload_n (q := 0) (x := 8) (np := 40) C (by decide +kernel) rfl rfl ?_
    refine ex_dup (np := 41) C rfl (by decide +kernel) rfl ?_
    refine ex_getf (q := 3) (v := .int (σ.1 20)) (np := 44) C hc_X6 hin_X6 (by decide) tg_457 (by decide +kernel) (WS_8 _) rfl rfl ?_
    refine ex_iconst (n := 1) (v := 1) (np := 45) C (by decide +kernel) (by decide) rfl ?_
    refine ex_iadd (v := ((σ.1 20) + (1 : Int32))) (np := 46) C (by decide +kernel) rfl rfl ?_
    refine ex_putf (q := 3) (w1 := (WS (sI 20 ((σ.1 20) + (1 : Int32)) (sR 18 (upd (σ.2.2.1 18) ((σ.1 20)).toNatClampNeg num) (sR 17 (upd (σ.2.2.1 17) ((σ.1 20)).toNatClampNeg sgn) (sR 16 (upd (σ.2.2.1 16) ((σ.1 20)).toNatClampNeg stp) σ)))))) (np := 49) C hc_X6 hin_X6 (by decide) tyX6_ok nmX6 tg_457 rfl (by decide +kernel) (WS_8 _) (Nat.le_of_ble_eq_true rfl) rfl rfl (WS_8_3 _ _) rfl ?_
    refine ex_vret C hr hlk (by decide +kernel) (Nat.le_refl _) (Nat.le_refl _) ?_
    have E9 : A_addStep stp sgn num σ = (sI 20 ((σ.1 20) + (1 : Int32)) (sR 18 (upd (σ.2.2.1 18) ((σ.1 20)).toNatClampNeg num) (sR 17 (upd (σ.2.2.1 17) ((σ.1 20)).toNatClampNeg sgn) (sR 16 (upd (σ.2.2.1 16) ((σ.1 20)).toNatClampNeg stp) σ)))) := by unfold A_addStep; exact (if_pos h1).trans (rfl)
    rw [E9]
set_option maxRecDepth 100000 in
set_option maxHeartbeats 4000000 in
theorem m_X6_beginsOne {l : Launch} {X : ab_X} {D : va_G} {A : ex_A} (d : Nat) (hd : 1 ≤ d) (w0 : List ex_E) (wrd : Int32) : ex_ctr l X D A d yX6_beginsOne cX6_beginsOne 1 (some .boolean) w0 [.int wrd] (fun r w => r = A_beginsOne wrd ∧ w = w0) := by
  obtain ⟨d, rfl⟩ : ∃ d9, d = d9 + 1 := ⟨d - 1, by omega⟩
  refine ex_meth (own := RX6) rfl (by decide) (Nat.le_of_ble_eq_true rfl) (fun p e R s m below meth c C hr hlk hd1 hd2 => ?_)
  show ex_ok p l e R s m _ below meth c 0 0 _ 1 X D A w0 0 [(0, .int wrd)] []
  refine ex_iload_n (q := 0) (x := wrd) (np := 1) C (by decide +kernel) rfl rfl ?_
  refine ex_iconst (n := 1) (v := 1) (np := 2) C (by decide +kernel) (by decide) rfl ?_
  refine ex_icmp_eq (off := 20) (tgt := 22) (np := 5) C (by decide +kernel) (by decide) rfl (fun h1 => ?_) (fun h1 => ?_)
  · skip
    refine ex_iconst (n := 1) (v := 1) (np := 23) C (by decide +kernel) (by decide) rfl ?_
    refine ex_goto (off := 4) (tgt := 27) C (by decide +kernel) (by decide) ?_
    have E9 : A_beginsOne wrd = (1 : Int32) := by unfold A_beginsOne; exact (if_pos h1).trans (rfl)
    exact ex_iret C hr hlk (by decide +kernel) rfl (Nat.le_refl _) (Nat.le_refl _) ⟨E9.symm, rfl⟩
  · skip
    refine ex_iload_n (q := 0) (x := wrd) (np := 6) C (by decide +kernel) rfl rfl ?_
    refine ex_iconst (n := 2) (v := 2) (np := 7) C (by decide +kernel) (by decide) rfl ?_
    refine ex_icmp_eq (off := 15) (tgt := 22) (np := 10) C (by decide +kernel) (by decide) rfl (fun h2 => ?_) (fun h2 => ?_)
    · skip
      refine ex_iconst (n := 1) (v := 1) (np := 23) C (by decide +kernel) (by decide) rfl ?_
      refine ex_goto (off := 4) (tgt := 27) C (by decide +kernel) (by decide) ?_
      have E9 : A_beginsOne wrd = (1 : Int32) := by unfold A_beginsOne; exact (if_neg h1).trans ((if_pos h2).trans (rfl))
      exact ex_iret C hr hlk (by decide +kernel) rfl (Nat.le_refl _) (Nat.le_refl _) ⟨E9.symm, rfl⟩
    · skip
      refine ex_iload_n (q := 0) (x := wrd) (np := 11) C (by decide +kernel) rfl rfl ?_
      refine ex_bipush (n := 15) (v := 15) (np := 13) C (by decide +kernel) (by decide) rfl ?_
      refine ex_icmp_lt (off := 13) (tgt := 26) (np := 16) C (by decide +kernel) (by decide) rfl (fun h3 => ?_) (fun h3 => ?_)
      · skip
        refine ex_iconst (n := 0) (v := 0) (np := 27) C (by decide +kernel) (by decide) rfl ?_
        have E9 : A_beginsOne wrd = (0 : Int32) := by unfold A_beginsOne; exact (if_neg h1).trans ((if_neg h2).trans ((if_pos h3).trans (rfl)))
        exact ex_iret C hr hlk (by decide +kernel) rfl (Nat.le_refl _) (Nat.le_refl _) ⟨E9.symm, rfl⟩
      · skip
        refine ex_iload_n (q := 0) (x := wrd) (np := 17) C (by decide +kernel) rfl rfl ?_
        refine ex_bipush (n := 21) (v := 21) (np := 19) C (by decide +kernel) (by decide) rfl ?_
        refine ex_icmp_gt (off := 7) (tgt := 26) (np := 22) C (by decide +kernel) (by decide) rfl (fun h4 => ?_) (fun h4 => ?_)
        · skip
          refine ex_iconst (n := 0) (v := 0) (np := 27) C (by decide +kernel) (by decide) rfl ?_
          have E9 : A_beginsOne wrd = (0 : Int32) := by unfold A_beginsOne; exact (if_neg h1).trans ((if_neg h2).trans ((if_neg h3).trans ((if_pos h4).trans (rfl))))
          exact ex_iret C hr hlk (by decide +kernel) rfl (Nat.le_refl _) (Nat.le_refl _) ⟨E9.symm, rfl⟩
        · skip
          refine ex_iconst (n := 1) (v := 1) (np := 23) C (by decide +kernel) (by decide) rfl ?_
          refine ex_goto (off := 4) (tgt := 27) C (by decide +kernel) (by decide) ?_
          have E9 : A_beginsOne wrd = (1 : Int32) := by unfold A_beginsOne; exact (if_neg h1).trans ((if_neg h2).trans ((if_neg h3).trans ((if_neg h4).trans (rfl))))
          exact ex_iret C hr hlk (by decide +kernel) rfl (Nat.le_refl _) (Nat.le_refl _) ⟨E9.symm, rfl⟩
set_option maxRecDepth 100000 in
set_option maxHeartbeats 4000000 in
theorem m_X6_readPlain {l : Launch} {X : ab_X} {D : va_G} {A : ex_A} (d : Nat) (hd : 4 ≤ d) (wrd : Int32) (σ : ex_S) (hI : SA_INV σ) : ex_ctr l X D A d yX6_readPlain cX6_readPlain 5 (some .boolean) (WS σ) [.ref 8, .ref 6, .ref 1, .int wrd] (fun r w => r = (A_readPlain wrd σ).1 ∧ w = WS (A_readPlain wrd σ).2) := by
  obtain ⟨d, rfl⟩ : ∃ d9, d = d9 + 1 := ⟨d - 1, by omega⟩
  refine ex_meth (own := RX6) rfl (by decide) (Nat.le_of_ble_eq_true rfl) (fun p e R s m below meth c C hr hlk hd1 hd2 => ?_)
  show ex_ok p l e R s m _ below meth c 0 0 _ 5 X D A (WS σ) 0 [(0, .ref 8), (1, .ref 6), (2, .ref 1), (3, .int wrd)] []
  refine ex_iload_n (q := 3) (x := wrd) (np := 1) C (by decide +kernel) rfl rfl ?_
  refine ex_bipush (n := 16) (v := 16) (np := 3) C (by decide +kernel) (by decide) rfl ?_
  refine ex_icmp_eq (off := 15) (tgt := 18) (np := 6) C (by decide +kernel) (by decide) rfl (fun h1 => ?_) (fun h1 => ?_)
  · skip
    refine ex_aload_n (q := 0) (x := 8) (np := 19) C (by decide +kernel) rfl rfl ?_
    refine ex_iload_n (q := 3) (x := wrd) (np := 20) C (by decide +kernel) rfl rfl ?_
    refine ex_iconst (n := 0) (v := 0) (np := 21) C (by decide +kernel) (by decide) rfl ?_
    refine ex_iconst (n := 0) (v := 0) (np := 22) C (by decide +kernel) (by decide) rfl ?_
    obtain ⟨σ2, q3⟩ : ∃ x, x = A_addStep wrd (0 : Int32) (0 : Int32) σ := ⟨_, rfl⟩
    refine ex_call_v (np := 25) (fun ws H locs ls hR hsz => ex_runV (C1 := "") C (m_X6_addStep d (by omega) wrd (0 : Int32) (0 : Int32) σ hI.2.1) hd1 hd2 (by decide) hy_X6_addStep tg_1107 hc_X6 rfl (WS_8 _) rfl rfl (Nat.le_of_ble_eq_true rfl) rfl tg_1104 tg_1106 tg_70 tg_153 (by decide +kernel) ws H locs ls hR hsz (Nat.zero_le _) (Nat.zero_le _)) rfl (fun w1 hpo => ?_)
    rw [← q3] at hpo
    subst hpo
    have hI4 := inv_X6_addStep wrd (0 : Int32) (0 : Int32) σ hI.2.1; rw [← q3] at hI4
    refine ex_iconst (n := 1) (v := 1) (np := 26) C (by decide +kernel) (by decide) rfl ?_
    have E9 : A_readPlain wrd σ = ((1 : Int32), σ2) := by unfold A_readPlain; exact (if_pos h1).trans ((ex_lt_eq q3).trans (rfl))
    exact ex_iret C hr hlk (by decide +kernel) rfl (Nat.le_refl _) (Nat.le_refl _) (by rw [E9]; exact ⟨rfl, rfl⟩)
  · skip
    refine ex_iload_n (q := 3) (x := wrd) (np := 7) C (by decide +kernel) rfl rfl ?_
    refine ex_bipush (n := 17) (v := 17) (np := 9) C (by decide +kernel) (by decide) rfl ?_
    refine ex_icmp_eq (off := 9) (tgt := 18) (np := 12) C (by decide +kernel) (by decide) rfl (fun h5 => ?_) (fun h5 => ?_)
    · skip
      refine ex_aload_n (q := 0) (x := 8) (np := 19) C (by decide +kernel) rfl rfl ?_
      refine ex_iload_n (q := 3) (x := wrd) (np := 20) C (by decide +kernel) rfl rfl ?_
      refine ex_iconst (n := 0) (v := 0) (np := 21) C (by decide +kernel) (by decide) rfl ?_
      refine ex_iconst (n := 0) (v := 0) (np := 22) C (by decide +kernel) (by decide) rfl ?_
      obtain ⟨σ6, q7⟩ : ∃ x, x = A_addStep wrd (0 : Int32) (0 : Int32) σ := ⟨_, rfl⟩
      refine ex_call_v (np := 25) (fun ws H locs ls hR hsz => ex_runV (C1 := "") C (m_X6_addStep d (by omega) wrd (0 : Int32) (0 : Int32) σ hI.2.1) hd1 hd2 (by decide) hy_X6_addStep tg_1107 hc_X6 rfl (WS_8 _) rfl rfl (Nat.le_of_ble_eq_true rfl) rfl tg_1104 tg_1106 tg_70 tg_153 (by decide +kernel) ws H locs ls hR hsz (Nat.zero_le _) (Nat.zero_le _)) rfl (fun w1 hpo => ?_)
      rw [← q7] at hpo
      subst hpo
      have hI8 := inv_X6_addStep wrd (0 : Int32) (0 : Int32) σ hI.2.1; rw [← q7] at hI8
      refine ex_iconst (n := 1) (v := 1) (np := 26) C (by decide +kernel) (by decide) rfl ?_
      have E9 : A_readPlain wrd σ = ((1 : Int32), σ6) := by unfold A_readPlain; exact (if_neg h1).trans ((if_pos h5).trans ((ex_lt_eq q7).trans (rfl)))
      exact ex_iret C hr hlk (by decide +kernel) rfl (Nat.le_refl _) (Nat.le_refl _) (by rw [E9]; exact ⟨rfl, rfl⟩)
    · skip
      refine ex_iload_n (q := 3) (x := wrd) (np := 13) C (by decide +kernel) rfl rfl ?_
      refine ex_bipush (n := 18) (v := 18) (np := 15) C (by decide +kernel) (by decide) rfl ?_
      refine ex_icmp_ne (off := 12) (tgt := 27) (np := 18) C (by decide +kernel) (by decide) rfl (fun h10 => ?_) (fun h10 => ?_)
      · skip
        refine ex_iload_n (q := 3) (x := wrd) (np := 28) C (by decide +kernel) rfl rfl ?_
        refine ex_bipush (n := 19) (v := 19) (np := 30) C (by decide +kernel) (by decide) rfl ?_
        refine ex_icmp_ne (off := 26) (tgt := 56) (np := 33) C (by decide +kernel) (by decide) rfl (fun h11 => ?_) (fun h11 => ?_)
        · skip
          refine ex_aload_n (q := 2) (x := 1) (np := 57) C (by decide +kernel) rfl rfl ?_
          refine ex_getfN (q := 5) (v := .int (σ.1 4)) (np := 60) C hc_X4 hin_X4 (by decide) tn_238 (by decide +kernel) (WS_1 _) rfl rfl ?_
          refine ex_istore (i := 4) (np := 62) (lv1 := [(4, .int (σ.1 4)), (0, .ref 8), (1, .ref 6), (2, .ref 1), (3, .int wrd)]) C (by decide) (by decide +kernel) rfl rfl ?_
          refine ex_iload (i := 4) (x := (σ.1 4)) (np := 64) C (by decide +kernel) rfl rfl ?_
          refine ex_bipush (n := 60) (v := 60) (np := 66) C (by decide +kernel) (by decide) rfl ?_
          refine ex_icmp_eq (off := 23) (tgt := 89) (np := 69) C (by decide +kernel) (by decide) rfl (fun h12 => ?_) (fun h12 => ?_)
          · skip
            refine ex_aload_n (q := 2) (x := 1) (np := 90) C (by decide +kernel) rfl rfl ?_
            obtain ⟨σ13, q14⟩ : ∃ x, x = A_next σ := ⟨_, rfl⟩
            refine ex_call_v (np := 93) (fun ws H locs ls hR hsz => ex_runVN C (m_X4_next_S d (by omega) σ hI.1) hd1 hd2 (by decide) hy_X4_next tg_667 hc_X4 rfl (WS_1 _) rfl rfl (Nat.le_of_ble_eq_true rfl) tn_1102 tg_666 tg_4 tg_144 (by decide +kernel) ws H locs ls hR hsz (Nat.zero_le _) (Nat.zero_le _)) rfl (fun w1 hpo => ?_)
            rw [← q14] at hpo
            subst hpo
            have hI15 := inv_X4_next σ hI.1; rw [← q14] at hI15
            have hF16 := fr_X4_next σ; rw [← q14] at hF16
            refine ex_aload_n (q := 2) (x := 1) (np := 94) C (by decide +kernel) rfl rfl ?_
            refine ex_iconst (n := 0) (v := 0) (np := 95) C (by decide +kernel) (by decide) rfl ?_
            refine ex_sipush (n := 999) (v := 999) (np := 98) C (by decide +kernel) (by decide) rfl ?_
            obtain ⟨r17, σ18, q19⟩ : ∃ r x, A_takeNumber (0 : Int32) (999 : Int32) σ13 = (r, x) := ex_pair _
            refine ex_call_i (np := 101) (fun ws H locs ls hR hsz => ex_runVN C (m_X4_takeNumber_S d (by omega) (0 : Int32) (999 : Int32) σ13 hI15) hd1 hd2 (by decide) hy_X4_takeNumber tg_716 hc_X4 rfl (WS_1 _) rfl rfl (Nat.le_of_ble_eq_true rfl) tn_1113 tg_715 tg_15 tg_144 (by decide +kernel) ws H locs ls hR hsz (Nat.zero_le _) (Nat.zero_le _)) rfl (fun r9 w1 hpo => ?_)
            rw [q19] at hpo
            have hp1 : r17 = r9 := hpo.1.symm
            have hp2 := hpo.2
            clear hpo; subst hp1; subst hp2
            have hI20 := inv_X4_takeNumber (0 : Int32) (999 : Int32) σ13 hI15; rw [q19] at hI20
            have hF21 := fr_X4_takeNumber (0 : Int32) (999 : Int32) σ13; rw [q19] at hF21
            refine ex_if_ne (off := 5) (tgt := 106) (np := 104) C (by decide +kernel) (by decide) rfl (fun h22 => ?_) (fun h22 => ?_)
            · skip
              refine ex_aload_n (q := 0) (x := 8) (np := 107) C (by decide +kernel) rfl rfl ?_
              refine ex_iload_n (q := 3) (x := wrd) (np := 108) C (by decide +kernel) rfl rfl ?_
              refine ex_iload (i := 4) (x := (σ.1 4)) (np := 110) C (by decide +kernel) rfl rfl ?_
              refine ex_aload_n (q := 2) (x := 1) (np := 111) C (by decide +kernel) rfl rfl ?_
              refine ex_getfN (q := 9) (v := .int (σ18.1 7)) (np := 114) C hc_X4 hin_X4 (by decide) tn_248 (by decide +kernel) (WS_1 _) rfl rfl ?_
              obtain ⟨σ23, q24⟩ : ∃ x, x = A_addStep wrd (σ.1 4) (σ18.1 7) σ18 := ⟨_, rfl⟩
              refine ex_call_v (np := 117) (fun ws H locs ls hR hsz => ex_runV (C1 := "") C (m_X6_addStep d (by omega) wrd (σ.1 4) (σ18.1 7) σ18 (by have e9 : σ18.1 20 = σ.1 20 := ((hF21.1 20 (by decide)).trans (hF16.1 20 (by decide))); rw [e9]; exact hI.2.1)) hd1 hd2 (by decide) hy_X6_addStep tg_1107 hc_X6 rfl (WS_8 _) rfl rfl (Nat.le_of_ble_eq_true rfl) rfl tg_1104 tg_1106 tg_70 tg_153 (by decide +kernel) ws H locs ls hR hsz (Nat.zero_le _) (Nat.zero_le _)) rfl (fun w1 hpo => ?_)
              rw [← q24] at hpo
              subst hpo
              have hI25 := inv_X6_addStep wrd (σ.1 4) (σ18.1 7) σ18 (by have e9 : σ18.1 20 = σ.1 20 := ((hF21.1 20 (by decide)).trans (hF16.1 20 (by decide))); rw [e9]; exact hI.2.1); rw [← q24] at hI25
              refine ex_iconst (n := 1) (v := 1) (np := 118) C (by decide +kernel) (by decide) rfl ?_
              have E9 : A_readPlain wrd σ = ((1 : Int32), σ23) := by unfold A_readPlain; exact (if_neg h1).trans ((if_neg h5).trans ((if_neg h10).trans ((if_neg h11).trans ((if_pos h12).trans ((ex_lt_eq q14).trans ((ex_bd_eq q19).trans ((if_neg h22).trans ((ex_lt_eq q24).trans (rfl)))))))))
              exact ex_iret C hr hlk (by decide +kernel) rfl (Nat.le_refl _) (Nat.le_refl _) (by rw [E9]; exact ⟨rfl, rfl⟩)
            · skip
              refine ex_iconst (n := 0) (v := 0) (np := 105) C (by decide +kernel) (by decide) rfl ?_
              have E9 : A_readPlain wrd σ = ((0 : Int32), σ18) := by unfold A_readPlain; exact (if_neg h1).trans ((if_neg h5).trans ((if_neg h10).trans ((if_neg h11).trans ((if_pos h12).trans ((ex_lt_eq q14).trans ((ex_bd_eq q19).trans ((if_pos h22).trans (rfl))))))))
              exact ex_iret C hr hlk (by decide +kernel) rfl (Nat.le_refl _) (Nat.le_refl _) (by rw [E9]; exact ⟨rfl, rfl⟩)
          · skip
            refine ex_iload (i := 4) (x := (σ.1 4)) (np := 71) C (by decide +kernel) rfl rfl ?_
            refine ex_bipush (n := 61) (v := 61) (np := 73) C (by decide +kernel) (by decide) rfl ?_
            refine ex_icmp_eq (off := 16) (tgt := 89) (np := 76) C (by decide +kernel) (by decide) rfl (fun h26 => ?_) (fun h26 => ?_)
            · skip
              refine ex_aload_n (q := 2) (x := 1) (np := 90) C (by decide +kernel) rfl rfl ?_
              obtain ⟨σ27, q28⟩ : ∃ x, x = A_next σ := ⟨_, rfl⟩
              refine ex_call_v (np := 93) (fun ws H locs ls hR hsz => ex_runVN C (m_X4_next_S d (by omega) σ hI.1) hd1 hd2 (by decide) hy_X4_next tg_667 hc_X4 rfl (WS_1 _) rfl rfl (Nat.le_of_ble_eq_true rfl) tn_1102 tg_666 tg_4 tg_144 (by decide +kernel) ws H locs ls hR hsz (Nat.zero_le _) (Nat.zero_le _)) rfl (fun w1 hpo => ?_)
              rw [← q28] at hpo
              subst hpo
              have hI29 := inv_X4_next σ hI.1; rw [← q28] at hI29
              have hF30 := fr_X4_next σ; rw [← q28] at hF30
              refine ex_aload_n (q := 2) (x := 1) (np := 94) C (by decide +kernel) rfl rfl ?_
              refine ex_iconst (n := 0) (v := 0) (np := 95) C (by decide +kernel) (by decide) rfl ?_
              refine ex_sipush (n := 999) (v := 999) (np := 98) C (by decide +kernel) (by decide) rfl ?_
              obtain ⟨r31, σ32, q33⟩ : ∃ r x, A_takeNumber (0 : Int32) (999 : Int32) σ27 = (r, x) := ex_pair _
              refine ex_call_i (np := 101) (fun ws H locs ls hR hsz => ex_runVN C (m_X4_takeNumber_S d (by omega) (0 : Int32) (999 : Int32) σ27 hI29) hd1 hd2 (by decide) hy_X4_takeNumber tg_716 hc_X4 rfl (WS_1 _) rfl rfl (Nat.le_of_ble_eq_true rfl) tn_1113 tg_715 tg_15 tg_144 (by decide +kernel) ws H locs ls hR hsz (Nat.zero_le _) (Nat.zero_le _)) rfl (fun r9 w1 hpo => ?_)
              rw [q33] at hpo
              have hp1 : r31 = r9 := hpo.1.symm
              have hp2 := hpo.2
              clear hpo; subst hp1; subst hp2
              have hI34 := inv_X4_takeNumber (0 : Int32) (999 : Int32) σ27 hI29; rw [q33] at hI34
              have hF35 := fr_X4_takeNumber (0 : Int32) (999 : Int32) σ27; rw [q33] at hF35
              refine ex_if_ne (off := 5) (tgt := 106) (np := 104) C (by decide +kernel) (by decide) rfl (fun h36 => ?_) (fun h36 => ?_)
              · skip
                refine ex_aload_n (q := 0) (x := 8) (np := 107) C (by decide +kernel) rfl rfl ?_
                refine ex_iload_n (q := 3) (x := wrd) (np := 108) C (by decide +kernel) rfl rfl ?_
                refine ex_iload (i := 4) (x := (σ.1 4)) (np := 110) C (by decide +kernel) rfl rfl ?_
                refine ex_aload_n (q := 2) (x := 1) (np := 111) C (by decide +kernel) rfl rfl ?_
                refine ex_getfN (q := 9) (v := .int (σ32.1 7)) (np := 114) C hc_X4 hin_X4 (by decide) tn_248 (by decide +kernel) (WS_1 _) rfl rfl ?_
                obtain ⟨σ37, q38⟩ : ∃ x, x = A_addStep wrd (σ.1 4) (σ32.1 7) σ32 := ⟨_, rfl⟩
                refine ex_call_v (np := 117) (fun ws H locs ls hR hsz => ex_runV (C1 := "") C (m_X6_addStep d (by omega) wrd (σ.1 4) (σ32.1 7) σ32 (by have e9 : σ32.1 20 = σ.1 20 := ((hF35.1 20 (by decide)).trans (hF30.1 20 (by decide))); rw [e9]; exact hI.2.1)) hd1 hd2 (by decide) hy_X6_addStep tg_1107 hc_X6 rfl (WS_8 _) rfl rfl (Nat.le_of_ble_eq_true rfl) rfl tg_1104 tg_1106 tg_70 tg_153 (by decide +kernel) ws H locs ls hR hsz (Nat.zero_le _) (Nat.zero_le _)) rfl (fun w1 hpo => ?_)
                rw [← q38] at hpo
                subst hpo
                have hI39 := inv_X6_addStep wrd (σ.1 4) (σ32.1 7) σ32 (by have e9 : σ32.1 20 = σ.1 20 := ((hF35.1 20 (by decide)).trans (hF30.1 20 (by decide))); rw [e9]; exact hI.2.1); rw [← q38] at hI39
                refine ex_iconst (n := 1) (v := 1) (np := 118) C (by decide +kernel) (by decide) rfl ?_
                have E9 : A_readPlain wrd σ = ((1 : Int32), σ37) := by unfold A_readPlain; exact (if_neg h1).trans ((if_neg h5).trans ((if_neg h10).trans ((if_neg h11).trans ((if_neg h12).trans ((if_pos h26).trans ((ex_lt_eq q28).trans ((ex_bd_eq q33).trans ((if_neg h36).trans ((ex_lt_eq q38).trans (rfl))))))))))
                exact ex_iret C hr hlk (by decide +kernel) rfl (Nat.le_refl _) (Nat.le_refl _) (by rw [E9]; exact ⟨rfl, rfl⟩)
              · skip
                refine ex_iconst (n := 0) (v := 0) (np := 105) C (by decide +kernel) (by decide) rfl ?_
                have E9 : A_readPlain wrd σ = ((0 : Int32), σ32) := by unfold A_readPlain; exact (if_neg h1).trans ((if_neg h5).trans ((if_neg h10).trans ((if_neg h11).trans ((if_neg h12).trans ((if_pos h26).trans ((ex_lt_eq q28).trans ((ex_bd_eq q33).trans ((if_pos h36).trans (rfl)))))))))
                exact ex_iret C hr hlk (by decide +kernel) rfl (Nat.le_refl _) (Nat.le_refl _) (by rw [E9]; exact ⟨rfl, rfl⟩)
            · skip
              refine ex_iload (i := 4) (x := (σ.1 4)) (np := 78) C (by decide +kernel) rfl rfl ?_
              refine ex_bipush (n := 62) (v := 62) (np := 80) C (by decide +kernel) (by decide) rfl ?_
              refine ex_icmp_eq (off := 9) (tgt := 89) (np := 83) C (by decide +kernel) (by decide) rfl (fun h40 => ?_) (fun h40 => ?_)
              · skip
                refine ex_aload_n (q := 2) (x := 1) (np := 90) C (by decide +kernel) rfl rfl ?_
                obtain ⟨σ41, q42⟩ : ∃ x, x = A_next σ := ⟨_, rfl⟩
                refine ex_call_v (np := 93) (fun ws H locs ls hR hsz => ex_runVN C (m_X4_next_S d (by omega) σ hI.1) hd1 hd2 (by decide) hy_X4_next tg_667 hc_X4 rfl (WS_1 _) rfl rfl (Nat.le_of_ble_eq_true rfl) tn_1102 tg_666 tg_4 tg_144 (by decide +kernel) ws H locs ls hR hsz (Nat.zero_le _) (Nat.zero_le _)) rfl (fun w1 hpo => ?_)
                rw [← q42] at hpo
                subst hpo
                have hI43 := inv_X4_next σ hI.1; rw [← q42] at hI43
                have hF44 := fr_X4_next σ; rw [← q42] at hF44
                refine ex_aload_n (q := 2) (x := 1) (np := 94) C (by decide +kernel) rfl rfl ?_
                refine ex_iconst (n := 0) (v := 0) (np := 95) C (by decide +kernel) (by decide) rfl ?_
                refine ex_sipush (n := 999) (v := 999) (np := 98) C (by decide +kernel) (by decide) rfl ?_
                obtain ⟨r45, σ46, q47⟩ : ∃ r x, A_takeNumber (0 : Int32) (999 : Int32) σ41 = (r, x) := ex_pair _
                refine ex_call_i (np := 101) (fun ws H locs ls hR hsz => ex_runVN C (m_X4_takeNumber_S d (by omega) (0 : Int32) (999 : Int32) σ41 hI43) hd1 hd2 (by decide) hy_X4_takeNumber tg_716 hc_X4 rfl (WS_1 _) rfl rfl (Nat.le_of_ble_eq_true rfl) tn_1113 tg_715 tg_15 tg_144 (by decide +kernel) ws H locs ls hR hsz (Nat.zero_le _) (Nat.zero_le _)) rfl (fun r9 w1 hpo => ?_)
                rw [q47] at hpo
                have hp1 : r45 = r9 := hpo.1.symm
                have hp2 := hpo.2
                clear hpo; subst hp1; subst hp2
                have hI48 := inv_X4_takeNumber (0 : Int32) (999 : Int32) σ41 hI43; rw [q47] at hI48
                have hF49 := fr_X4_takeNumber (0 : Int32) (999 : Int32) σ41; rw [q47] at hF49
                refine ex_if_ne (off := 5) (tgt := 106) (np := 104) C (by decide +kernel) (by decide) rfl (fun h50 => ?_) (fun h50 => ?_)
                · skip
                  refine ex_aload_n (q := 0) (x := 8) (np := 107) C (by decide +kernel) rfl rfl ?_
                  refine ex_iload_n (q := 3) (x := wrd) (np := 108) C (by decide +kernel) rfl rfl ?_
                  refine ex_iload (i := 4) (x := (σ.1 4)) (np := 110) C (by decide +kernel) rfl rfl ?_
                  refine ex_aload_n (q := 2) (x := 1) (np := 111) C (by decide +kernel) rfl rfl ?_
                  refine ex_getfN (q := 9) (v := .int (σ46.1 7)) (np := 114) C hc_X4 hin_X4 (by decide) tn_248 (by decide +kernel) (WS_1 _) rfl rfl ?_
                  obtain ⟨σ51, q52⟩ : ∃ x, x = A_addStep wrd (σ.1 4) (σ46.1 7) σ46 := ⟨_, rfl⟩
                  refine ex_call_v (np := 117) (fun ws H locs ls hR hsz => ex_runV (C1 := "") C (m_X6_addStep d (by omega) wrd (σ.1 4) (σ46.1 7) σ46 (by have e9 : σ46.1 20 = σ.1 20 := ((hF49.1 20 (by decide)).trans (hF44.1 20 (by decide))); rw [e9]; exact hI.2.1)) hd1 hd2 (by decide) hy_X6_addStep tg_1107 hc_X6 rfl (WS_8 _) rfl rfl (Nat.le_of_ble_eq_true rfl) rfl tg_1104 tg_1106 tg_70 tg_153 (by decide +kernel) ws H locs ls hR hsz (Nat.zero_le _) (Nat.zero_le _)) rfl (fun w1 hpo => ?_)
                  rw [← q52] at hpo
                  subst hpo
                  have hI53 := inv_X6_addStep wrd (σ.1 4) (σ46.1 7) σ46 (by have e9 : σ46.1 20 = σ.1 20 := ((hF49.1 20 (by decide)).trans (hF44.1 20 (by decide))); rw [e9]; exact hI.2.1); rw [← q52] at hI53
                  refine ex_iconst (n := 1) (v := 1) (np := 118) C (by decide +kernel) (by decide) rfl ?_
                  have E9 : A_readPlain wrd σ = ((1 : Int32), σ51) := by unfold A_readPlain; exact (if_neg h1).trans ((if_neg h5).trans ((if_neg h10).trans ((if_neg h11).trans ((if_neg h12).trans ((if_neg h26).trans ((if_pos h40).trans ((ex_lt_eq q42).trans ((ex_bd_eq q47).trans ((if_neg h50).trans ((ex_lt_eq q52).trans (rfl)))))))))))
                  exact ex_iret C hr hlk (by decide +kernel) rfl (Nat.le_refl _) (Nat.le_refl _) (by rw [E9]; exact ⟨rfl, rfl⟩)
                · skip
                  refine ex_iconst (n := 0) (v := 0) (np := 105) C (by decide +kernel) (by decide) rfl ?_
                  have E9 : A_readPlain wrd σ = ((0 : Int32), σ46) := by unfold A_readPlain; exact (if_neg h1).trans ((if_neg h5).trans ((if_neg h10).trans ((if_neg h11).trans ((if_neg h12).trans ((if_neg h26).trans ((if_pos h40).trans ((ex_lt_eq q42).trans ((ex_bd_eq q47).trans ((if_pos h50).trans (rfl))))))))))
                  exact ex_iret C hr hlk (by decide +kernel) rfl (Nat.le_refl _) (Nat.le_refl _) (by rw [E9]; exact ⟨rfl, rfl⟩)
              · skip
                refine ex_aload_n (q := 2) (x := 1) (np := 84) C (by decide +kernel) rfl rfl ?_
                refine ex_iconst (n := 1) (v := 1) (np := 85) C (by decide +kernel) (by decide) rfl ?_
                obtain ⟨r54, σ55, q56⟩ : ∃ r x, A_failAs (1 : Int32) σ = (r, x) := ex_pair _
                refine ex_call_i (np := 88) (fun ws H locs ls hR hsz => ex_runVN C (m_X4_failAs_S d (by omega) (1 : Int32) σ) hd1 hd2 (by decide) hy_X4_failAs tg_694 hc_X4 rfl (WS_1 _) rfl rfl (Nat.le_of_ble_eq_true rfl) tn_1101 tg_693 tg_10 tg_144 (by decide +kernel) ws H locs ls hR hsz (Nat.zero_le _) (Nat.zero_le _)) rfl (fun r9 w1 hpo => ?_)
                rw [q56] at hpo
                have hp1 : r54 = r9 := hpo.1.symm
                have hp2 := hpo.2
                clear hpo; subst hp1; subst hp2
                have hI57 := inv_X4_failAs (1 : Int32) σ hI.1; rw [q56] at hI57
                have hF58 := fr_X4_failAs (1 : Int32) σ; rw [q56] at hF58
                have E9 : A_readPlain wrd σ = (r54, σ55) := by unfold A_readPlain; exact (if_neg h1).trans ((if_neg h5).trans ((if_neg h10).trans ((if_neg h11).trans ((if_neg h12).trans ((if_neg h26).trans ((if_neg h40).trans ((ex_bd_eq q56).trans (rfl))))))))
                exact ex_iret C hr hlk (by decide +kernel) (ex_nar (by have b9 := bl_X4_failAs (1 : Int32) σ; rw [q56] at b9; exact b9)) (Nat.le_refl _) (Nat.le_refl _) (by rw [E9]; exact ⟨rfl, rfl⟩)
        · skip
          refine ex_aload_n (q := 2) (x := 1) (np := 34) C (by decide +kernel) rfl rfl ?_
          refine ex_aload_n (q := 1) (x := 6) (np := 35) C (by decide +kernel) rfl rfl ?_
          refine ex_iconst (n := (-1)) (v := (-1)) (np := 36) C (by decide +kernel) (by decide) rfl ?_
          obtain ⟨r59, σ60, q61⟩ : ∃ r x, A_takeTown (-1 : Int32) σ = (r, x) := ex_pair _
          refine ex_call_i (np := 39) (fun ws H locs ls hR hsz => ex_runVN C (m_X4_takeTown_S d (by omega) (-1 : Int32) σ hI.1) hd1 hd2 (by decide) hy_X4_takeTown tg_728 hc_X4 rfl (WS_1 _) rfl rfl (Nat.le_of_ble_eq_true rfl) tn_1112 tg_727 tg_18 tg_144 (by decide +kernel) ws H locs ls hR hsz (Nat.zero_le _) (Nat.zero_le _)) rfl (fun r9 w1 hpo => ?_)
          rw [q61] at hpo
          have hp1 : r59 = r9 := hpo.1.symm
          have hp2 := hpo.2
          clear hpo; subst hp1; subst hp2
          have hI62 := inv_X4_takeTown (-1 : Int32) σ hI.1; rw [q61] at hI62
          have hF63 := fr_X4_takeTown (-1 : Int32) σ; rw [q61] at hF63
          refine ex_if_ne (off := 5) (tgt := 44) (np := 42) C (by decide +kernel) (by decide) rfl (fun h64 => ?_) (fun h64 => ?_)
          · skip
            refine ex_aload_n (q := 0) (x := 8) (np := 45) C (by decide +kernel) rfl rfl ?_
            refine ex_iload_n (q := 3) (x := wrd) (np := 46) C (by decide +kernel) rfl rfl ?_
            refine ex_iconst (n := 0) (v := 0) (np := 47) C (by decide +kernel) (by decide) rfl ?_
            refine ex_aload_n (q := 2) (x := 1) (np := 48) C (by decide +kernel) rfl rfl ?_
            refine ex_getfN (q := 9) (v := .int (σ60.1 7)) (np := 51) C hc_X4 hin_X4 (by decide) tn_248 (by decide +kernel) (WS_1 _) rfl rfl ?_
            obtain ⟨σ65, q66⟩ : ∃ x, x = A_addStep wrd (0 : Int32) (σ60.1 7) σ60 := ⟨_, rfl⟩
            refine ex_call_v (np := 54) (fun ws H locs ls hR hsz => ex_runV (C1 := "") C (m_X6_addStep d (by omega) wrd (0 : Int32) (σ60.1 7) σ60 (by have e9 : σ60.1 20 = σ.1 20 := (hF63.1 20 (by decide)); rw [e9]; exact hI.2.1)) hd1 hd2 (by decide) hy_X6_addStep tg_1107 hc_X6 rfl (WS_8 _) rfl rfl (Nat.le_of_ble_eq_true rfl) rfl tg_1104 tg_1106 tg_70 tg_153 (by decide +kernel) ws H locs ls hR hsz (Nat.zero_le _) (Nat.zero_le _)) rfl (fun w1 hpo => ?_)
            rw [← q66] at hpo
            subst hpo
            have hI67 := inv_X6_addStep wrd (0 : Int32) (σ60.1 7) σ60 (by have e9 : σ60.1 20 = σ.1 20 := (hF63.1 20 (by decide)); rw [e9]; exact hI.2.1); rw [← q66] at hI67
            refine ex_iconst (n := 1) (v := 1) (np := 55) C (by decide +kernel) (by decide) rfl ?_
            have E9 : A_readPlain wrd σ = ((1 : Int32), σ65) := by unfold A_readPlain; exact (if_neg h1).trans ((if_neg h5).trans ((if_neg h10).trans ((if_pos h11).trans ((ex_bd_eq q61).trans ((if_neg h64).trans ((ex_lt_eq q66).trans (rfl)))))))
            exact ex_iret C hr hlk (by decide +kernel) rfl (Nat.le_refl _) (Nat.le_refl _) (by rw [E9]; exact ⟨rfl, rfl⟩)
          · skip
            refine ex_iconst (n := 0) (v := 0) (np := 43) C (by decide +kernel) (by decide) rfl ?_
            have E9 : A_readPlain wrd σ = ((0 : Int32), σ60) := by unfold A_readPlain; exact (if_neg h1).trans ((if_neg h5).trans ((if_neg h10).trans ((if_pos h11).trans ((ex_bd_eq q61).trans ((if_pos h64).trans (rfl))))))
            exact ex_iret C hr hlk (by decide +kernel) rfl (Nat.le_refl _) (Nat.le_refl _) (by rw [E9]; exact ⟨rfl, rfl⟩)
      · skip
        refine ex_aload_n (q := 0) (x := 8) (np := 19) C (by decide +kernel) rfl rfl ?_
        refine ex_iload_n (q := 3) (x := wrd) (np := 20) C (by decide +kernel) rfl rfl ?_
        refine ex_iconst (n := 0) (v := 0) (np := 21) C (by decide +kernel) (by decide) rfl ?_
        refine ex_iconst (n := 0) (v := 0) (np := 22) C (by decide +kernel) (by decide) rfl ?_
        obtain ⟨σ68, q69⟩ : ∃ x, x = A_addStep wrd (0 : Int32) (0 : Int32) σ := ⟨_, rfl⟩
        refine ex_call_v (np := 25) (fun ws H locs ls hR hsz => ex_runV (C1 := "") C (m_X6_addStep d (by omega) wrd (0 : Int32) (0 : Int32) σ hI.2.1) hd1 hd2 (by decide) hy_X6_addStep tg_1107 hc_X6 rfl (WS_8 _) rfl rfl (Nat.le_of_ble_eq_true rfl) rfl tg_1104 tg_1106 tg_70 tg_153 (by decide +kernel) ws H locs ls hR hsz (Nat.zero_le _) (Nat.zero_le _)) rfl (fun w1 hpo => ?_)
        rw [← q69] at hpo
        subst hpo
        have hI70 := inv_X6_addStep wrd (0 : Int32) (0 : Int32) σ hI.2.1; rw [← q69] at hI70
        refine ex_iconst (n := 1) (v := 1) (np := 26) C (by decide +kernel) (by decide) rfl ?_
        have E9 : A_readPlain wrd σ = ((1 : Int32), σ68) := by unfold A_readPlain; exact (if_neg h1).trans ((if_neg h5).trans ((if_pos h10).trans ((ex_lt_eq q69).trans (rfl))))
        exact ex_iret C hr hlk (by decide +kernel) rfl (Nat.le_refl _) (Nat.le_refl _) (by rw [E9]; exact ⟨rfl, rfl⟩)
set_option maxRecDepth 100000 in
set_option maxHeartbeats 4000000 in
theorem m_X6_readAll_f {l : Launch} {X : ab_X} {D : va_G} {A : ex_A} (f : Int32 → ex_S → Int32 × ex_S) (c9 : Nat) (hc9 : 4 ≤ c9) (P : Int32 → Prop) (inv_X6_readOne : ∀ (dp : Int32) (σ : ex_S), SA_INV σ ∧ P dp → SA_INV (f dp σ).2) (m_X6_readOne : ∀ (d : Nat), c9 ≤ d → ∀ (dp : Int32) (σ : ex_S), SA_INV σ ∧ P dp → ex_ctr l X D A d yX6_readOne cX6_readOne 6 (some .boolean) (WS σ) [.ref 8, .ref 6, .ref 1, .int dp] (fun r w => r = (f dp σ).1 ∧ w = WS (f dp σ).2)) (d : Nat) (hd : c9 + 1 ≤ d) (dp : Int32) (σ : ex_S) (hI : SA_INV σ ∧ P dp) : ex_ctr l X D A d yX6_readAll cX6_readAll 5 (some .boolean) (WS σ) [.ref 8, .ref 6, .ref 1, .int dp] (fun r w => r = (A_all f dp σ).1 ∧ w = WS (A_all f dp σ).2) := by
  obtain ⟨d, rfl⟩ : ∃ d9, d = d9 + 1 := ⟨d - 1, by omega⟩
  refine ex_meth (own := RX6) rfl (by decide) (Nat.le_of_ble_eq_true rfl) (fun p e R s m below meth c C hr hlk hd1 hd2 => ?_)
  show ex_ok p l e R s m _ below meth c 0 0 _ 5 X D A (WS σ) 0 [(0, .ref 8), (1, .ref 6), (2, .ref 1), (3, .int dp)] []
  have h20 : (20 : Int32).toInt = 20 := by decide
  have loop : ∀ (n i : Nat) (τ : ex_S), i + n = 20 → SA_INV τ → A_all f dp σ = A_cl (f dp) (14 : Int32) n τ → ex_okP p l e R s m below meth c 5 X D A [.ref 8, .ref 6, .ref 1, .int dp] (fun r w => r = (A_all f dp σ).1 ∧ w = WS (A_all f dp σ).2) (some .boolean) (WS τ) 15 [(4, .int (nI i)), (0, .ref 8), (1, .ref 6), (2, .ref 1), (3, .int dp)] [] := by
    intro n
    induction n with
    | zero =>
      intro i τ hi hJ hs
      have hki : (nI i).toInt = (i : Int) := nI_toInt (by omega)
      refine ex_iload (i := 4) (x := (nI i)) (np := 17) C (by decide +kernel) rfl rfl ?_
      refine ex_bipush (n := 20) (v := 20) (np := 19) C (by decide +kernel) (by decide) rfl ?_
      refine ex_icmp_ge (off := 42) (tgt := 61) (np := 22) C (by decide +kernel) (by decide) rfl (fun h1 => ?_) (fun h1 => ?_)
      · skip
        refine ex_iconst (n := 1) (v := 1) (np := 62) C (by decide +kernel) (by decide) rfl ?_
        have E9 : A_all f dp σ = ((1 : Int32), τ) := hs
        exact ex_iret C hr hlk (by decide +kernel) rfl (Nat.le_refl _) (Nat.le_refl _) (by rw [E9]; exact ⟨rfl, rfl⟩)
      · skip
        exfalso; rw [hki, h20] at h1; omega
    | succ n ih =>
      intro i τ hi hJ hs
      have hki : (nI i).toInt = (i : Int) := nI_toInt (by omega)
      refine ex_iload (i := 4) (x := (nI i)) (np := 17) C (by decide +kernel) rfl rfl ?_
      refine ex_bipush (n := 20) (v := 20) (np := 19) C (by decide +kernel) (by decide) rfl ?_
      refine ex_icmp_ge (off := 42) (tgt := 61) (np := 22) C (by decide +kernel) (by decide) rfl (fun h2 => ?_) (fun h2 => ?_)
      · skip
        exfalso; rw [hki, h20] at h2; omega
      · skip
        refine ex_aload_n (q := 2) (x := 1) (np := 23) C (by decide +kernel) rfl rfl ?_
        refine ex_getfN (q := 8) (v := .int (τ.1 6)) (np := 26) C hc_X4 hin_X4 (by decide) tn_244 (by decide +kernel) (WS_1 _) rfl rfl ?_
        refine ex_bipush (n := 14) (v := 14) (np := 28) C (by decide +kernel) (by decide) rfl ?_
        refine ex_icmp_ne (off := 33) (tgt := 61) (np := 31) C (by decide +kernel) (by decide) rfl (fun h3 => ?_) (fun h3 => ?_)
        · skip
          refine ex_iconst (n := 1) (v := 1) (np := 62) C (by decide +kernel) (by decide) rfl ?_
          have E9 : A_all f dp σ = ((1 : Int32), τ) := (hs.trans (A_cl_s.trans ((if_neg h3).trans (rfl))))
          exact ex_iret C hr hlk (by decide +kernel) rfl (Nat.le_refl _) (Nat.le_refl _) (by rw [E9]; exact ⟨rfl, rfl⟩)
        · skip
          refine ex_aload_n (q := 2) (x := 1) (np := 32) C (by decide +kernel) rfl rfl ?_
          obtain ⟨σ4, q5⟩ : ∃ x, x = A_next τ := ⟨_, rfl⟩
          refine ex_call_v (np := 35) (fun ws H locs ls hR hsz => ex_runVN C (m_X4_next_S d (by omega) τ hJ.1) hd1 hd2 (by decide) hy_X4_next tg_667 hc_X4 rfl (WS_1 _) rfl rfl (Nat.le_of_ble_eq_true rfl) tn_1102 tg_666 tg_4 tg_144 (by decide +kernel) ws H locs ls hR hsz (Nat.zero_le _) (Nat.zero_le _)) rfl (fun w1 hpo => ?_)
          rw [← q5] at hpo
          subst hpo
          have hI6 := inv_X4_next τ hJ.1; rw [← q5] at hI6
          have hF7 := fr_X4_next τ; rw [← q5] at hF7
          refine ex_aload_n (q := 0) (x := 8) (np := 36) C (by decide +kernel) rfl rfl ?_
          refine ex_aload_n (q := 1) (x := 6) (np := 37) C (by decide +kernel) rfl rfl ?_
          refine ex_aload_n (q := 2) (x := 1) (np := 38) C (by decide +kernel) rfl rfl ?_
          refine ex_iload_n (q := 3) (x := dp) (np := 39) C (by decide +kernel) rfl rfl ?_
          obtain ⟨r8, σ10, q11⟩ : ∃ r x, f dp σ4 = (r, x) := ex_pair _
          refine ex_call_i (np := 42) (fun ws H locs ls hR hsz => ex_runV (C1 := "") C (m_X6_readOne d (by omega) dp σ4 ⟨by rw [q5]; exact SA_nx hJ, hI.2⟩) hd1 hd2 (by decide) hy_X6_readOne tg_1097 hc_X6 rfl (WS_8 _) rfl rfl (Nat.le_of_ble_eq_true rfl) rfl tg_1094 tg_1096 tg_69 tg_153 (by decide +kernel) ws H locs ls hR hsz (Nat.zero_le _) (Nat.zero_le _)) rfl (fun r9 w1 hpo => ?_)
          rw [q11] at hpo
          have hp1 : r8 = r9 := hpo.1.symm
          have hp2 := hpo.2
          clear hpo; subst hp1; subst hp2
          have hI12 := inv_X6_readOne dp σ4 ⟨by rw [q5]; exact SA_nx hJ, hI.2⟩; rw [q11] at hI12
          refine ex_if_ne (off := 5) (tgt := 47) (np := 45) C (by decide +kernel) (by decide) rfl (fun h13 => ?_) (fun h13 => ?_)
          · skip
            refine ex_aload_n (q := 0) (x := 8) (np := 48) C (by decide +kernel) rfl rfl ?_
            refine ex_bipush (n := 14) (v := 14) (np := 50) C (by decide +kernel) (by decide) rfl ?_
            refine ex_iconst (n := 0) (v := 0) (np := 51) C (by decide +kernel) (by decide) rfl ?_
            refine ex_iconst (n := 0) (v := 0) (np := 52) C (by decide +kernel) (by decide) rfl ?_
            obtain ⟨σ14, q15⟩ : ∃ x, x = A_addStep (14 : Int32) (0 : Int32) (0 : Int32) σ10 := ⟨_, rfl⟩
            refine ex_call_v (np := 55) (fun ws H locs ls hR hsz => ex_runV (C1 := "") C (m_X6_addStep d (by omega) (14 : Int32) (0 : Int32) (0 : Int32) σ10 (hI12).2.1) hd1 hd2 (by decide) hy_X6_addStep tg_1107 hc_X6 rfl (WS_8 _) rfl rfl (Nat.le_of_ble_eq_true rfl) rfl tg_1104 tg_1106 tg_70 tg_153 (by decide +kernel) ws H locs ls hR hsz (Nat.zero_le _) (Nat.zero_le _)) rfl (fun w1 hpo => ?_)
            rw [← q15] at hpo
            subst hpo
            have hI16 := inv_X6_addStep (14 : Int32) (0 : Int32) (0 : Int32) σ10 (hI12).2.1; rw [← q15] at hI16
            refine ex_iinc (i := 4) (n := 1) (x := (nI i)) (v := ((nI i) + 1)) (np := 58) (lv1 := [(4, .int ((nI i) + 1)), (0, .ref 8), (1, .ref 6), (2, .ref 1), (3, .int dp)]) C (by decide) (by decide +kernel) rfl (by rfl) rfl rfl ?_
            refine ex_goto (off := (-43)) (tgt := 15) C (by decide +kernel) (by decide) ?_
            refine ex_drop (lv1 := [(4, .int ((nI i) + 1)), (0, .ref 8), (1, .ref 6), (2, .ref 1), (3, .int dp)]) [0, 1, 2, 3, 4] rfl ?_
            rw [← nI_succ]
            exact ih (i + 1) σ14 (by omega) (by rw [q15]; exact SA_add hI12) (hs.trans (A_cl_s.trans ((if_pos h3).trans ((ex_lt_eq q5).trans ((ex_bd_eq q11).trans ((if_neg h13).trans ((ex_lt_eq q15).trans (rfl))))))))
          · skip
            refine ex_iconst (n := 0) (v := 0) (np := 46) C (by decide +kernel) (by decide) rfl ?_
            have E9 : A_all f dp σ = ((0 : Int32), σ10) := (hs.trans (A_cl_s.trans ((if_pos h3).trans ((ex_lt_eq q5).trans ((ex_bd_eq q11).trans ((if_pos h13).trans (rfl)))))))
            exact ex_iret C hr hlk (by decide +kernel) rfl (Nat.le_refl _) (Nat.le_refl _) (by rw [E9]; exact ⟨rfl, rfl⟩)
  refine ex_aload_n (q := 0) (x := 8) (np := 1) C (by decide +kernel) rfl rfl ?_
  refine ex_aload_n (q := 1) (x := 6) (np := 2) C (by decide +kernel) rfl rfl ?_
  refine ex_aload_n (q := 2) (x := 1) (np := 3) C (by decide +kernel) rfl rfl ?_
  refine ex_iload_n (q := 3) (x := dp) (np := 4) C (by decide +kernel) rfl rfl ?_
  obtain ⟨r17, σ18, q19⟩ : ∃ r x, f dp σ = (r, x) := ex_pair _
  refine ex_call_i (np := 7) (fun ws H locs ls hR hsz => ex_runV (C1 := "") C (m_X6_readOne d (by omega) dp σ hI) hd1 hd2 (by decide) hy_X6_readOne tg_1097 hc_X6 rfl (WS_8 _) rfl rfl (Nat.le_of_ble_eq_true rfl) rfl tg_1094 tg_1096 tg_69 tg_153 (by decide +kernel) ws H locs ls hR hsz (Nat.zero_le _) (Nat.zero_le _)) rfl (fun r9 w1 hpo => ?_)
  rw [q19] at hpo
  have hp1 : r17 = r9 := hpo.1.symm
  have hp2 := hpo.2
  clear hpo; subst hp1; subst hp2
  have hI20 := inv_X6_readOne dp σ hI; rw [q19] at hI20
  refine ex_if_ne (off := 5) (tgt := 12) (np := 10) C (by decide +kernel) (by decide) rfl (fun h21 => ?_) (fun h21 => ?_)
  · skip
    refine ex_iconst (n := 0) (v := 0) (np := 13) C (by decide +kernel) (by decide) rfl ?_
    refine ex_istore (i := 4) (np := 15) (lv1 := [(4, .int (0 : Int32)), (0, .ref 8), (1, .ref 6), (2, .ref 1), (3, .int dp)]) C (by decide) (by decide +kernel) rfl rfl ?_
    refine ex_drop (lv1 := [(4, .int (0 : Int32)), (0, .ref 8), (1, .ref 6), (2, .ref 1), (3, .int dp)]) [0, 1, 2, 3, 4] rfl ?_
    exact loop 20 0 σ18 rfl hI20 (by unfold A_all A_lst; exact (ex_bd_eq q19).trans ((if_neg h21).trans (rfl)))
  · skip
    refine ex_iconst (n := 0) (v := 0) (np := 11) C (by decide +kernel) (by decide) rfl ?_
    have E9 : A_all f dp σ = ((0 : Int32), σ18) := (by unfold A_all A_lst; exact (ex_bd_eq q19).trans ((if_pos h21).trans (rfl)))
    exact ex_iret C hr hlk (by decide +kernel) rfl (Nat.le_refl _) (Nat.le_refl _) (by rw [E9]; exact ⟨rfl, rfl⟩)
set_option maxRecDepth 100000 in
set_option maxHeartbeats 4000000 in
theorem m_X6_readCond_f {l : Launch} {X : ab_X} {D : va_G} {A : ex_A} (f : Int32 → ex_S → Int32 × ex_S) (c9 : Nat) (hc9 : 4 ≤ c9) (P : Int32 → Prop) (inv_X6_readAll : ∀ (dp : Int32) (σ : ex_S), SA_INV σ ∧ P dp → SA_INV (f dp σ).2) (m_X6_readAll : ∀ (d : Nat), c9 ≤ d → ∀ (dp : Int32) (σ : ex_S), SA_INV σ ∧ P dp → ex_ctr l X D A d yX6_readAll cX6_readAll 5 (some .boolean) (WS σ) [.ref 8, .ref 6, .ref 1, .int dp] (fun r w => r = (f dp σ).1 ∧ w = WS (f dp σ).2)) (d : Nat) (hd : c9 + 1 ≤ d) (dp : Int32) (σ : ex_S) (hI : SA_INV σ ∧ P dp) : ex_ctr l X D A d yX6_readCond cX6_readCond 5 (some .boolean) (WS σ) [.ref 8, .ref 6, .ref 1, .int dp] (fun r w => r = (A_cnd f dp σ).1 ∧ w = WS (A_cnd f dp σ).2) := by
  obtain ⟨d, rfl⟩ : ∃ d9, d = d9 + 1 := ⟨d - 1, by omega⟩
  refine ex_meth (own := RX6) rfl (by decide) (Nat.le_of_ble_eq_true rfl) (fun p e R s m below meth c C hr hlk hd1 hd2 => ?_)
  show ex_ok p l e R s m _ below meth c 0 0 _ 5 X D A (WS σ) 0 [(0, .ref 8), (1, .ref 6), (2, .ref 1), (3, .int dp)] []
  have h20 : (20 : Int32).toInt = 20 := by decide
  have loop : ∀ (n i : Nat) (τ : ex_S), i + n = 20 → SA_INV τ → A_cnd f dp σ = A_cl (f dp) (13 : Int32) n τ → ex_okP p l e R s m below meth c 5 X D A [.ref 8, .ref 6, .ref 1, .int dp] (fun r w => r = (A_cnd f dp σ).1 ∧ w = WS (A_cnd f dp σ).2) (some .boolean) (WS τ) 15 [(4, .int (nI i)), (0, .ref 8), (1, .ref 6), (2, .ref 1), (3, .int dp)] [] := by
    intro n
    induction n with
    | zero =>
      intro i τ hi hJ hs
      have hki : (nI i).toInt = (i : Int) := nI_toInt (by omega)
      refine ex_iload (i := 4) (x := (nI i)) (np := 17) C (by decide +kernel) rfl rfl ?_
      refine ex_bipush (n := 20) (v := 20) (np := 19) C (by decide +kernel) (by decide) rfl ?_
      refine ex_icmp_ge (off := 42) (tgt := 61) (np := 22) C (by decide +kernel) (by decide) rfl (fun h1 => ?_) (fun h1 => ?_)
      · skip
        refine ex_iconst (n := 1) (v := 1) (np := 62) C (by decide +kernel) (by decide) rfl ?_
        have E9 : A_cnd f dp σ = ((1 : Int32), τ) := hs
        exact ex_iret C hr hlk (by decide +kernel) rfl (Nat.le_refl _) (Nat.le_refl _) (by rw [E9]; exact ⟨rfl, rfl⟩)
      · skip
        exfalso; rw [hki, h20] at h1; omega
    | succ n ih =>
      intro i τ hi hJ hs
      have hki : (nI i).toInt = (i : Int) := nI_toInt (by omega)
      refine ex_iload (i := 4) (x := (nI i)) (np := 17) C (by decide +kernel) rfl rfl ?_
      refine ex_bipush (n := 20) (v := 20) (np := 19) C (by decide +kernel) (by decide) rfl ?_
      refine ex_icmp_ge (off := 42) (tgt := 61) (np := 22) C (by decide +kernel) (by decide) rfl (fun h2 => ?_) (fun h2 => ?_)
      · skip
        exfalso; rw [hki, h20] at h2; omega
      · skip
        refine ex_aload_n (q := 2) (x := 1) (np := 23) C (by decide +kernel) rfl rfl ?_
        refine ex_getfN (q := 8) (v := .int (τ.1 6)) (np := 26) C hc_X4 hin_X4 (by decide) tn_244 (by decide +kernel) (WS_1 _) rfl rfl ?_
        refine ex_bipush (n := 13) (v := 13) (np := 28) C (by decide +kernel) (by decide) rfl ?_
        refine ex_icmp_ne (off := 33) (tgt := 61) (np := 31) C (by decide +kernel) (by decide) rfl (fun h3 => ?_) (fun h3 => ?_)
        · skip
          refine ex_iconst (n := 1) (v := 1) (np := 62) C (by decide +kernel) (by decide) rfl ?_
          have E9 : A_cnd f dp σ = ((1 : Int32), τ) := (hs.trans (A_cl_s.trans ((if_neg h3).trans (rfl))))
          exact ex_iret C hr hlk (by decide +kernel) rfl (Nat.le_refl _) (Nat.le_refl _) (by rw [E9]; exact ⟨rfl, rfl⟩)
        · skip
          refine ex_aload_n (q := 2) (x := 1) (np := 32) C (by decide +kernel) rfl rfl ?_
          obtain ⟨σ4, q5⟩ : ∃ x, x = A_next τ := ⟨_, rfl⟩
          refine ex_call_v (np := 35) (fun ws H locs ls hR hsz => ex_runVN C (m_X4_next_S d (by omega) τ hJ.1) hd1 hd2 (by decide) hy_X4_next tg_667 hc_X4 rfl (WS_1 _) rfl rfl (Nat.le_of_ble_eq_true rfl) tn_1102 tg_666 tg_4 tg_144 (by decide +kernel) ws H locs ls hR hsz (Nat.zero_le _) (Nat.zero_le _)) rfl (fun w1 hpo => ?_)
          rw [← q5] at hpo
          subst hpo
          have hI6 := inv_X4_next τ hJ.1; rw [← q5] at hI6
          have hF7 := fr_X4_next τ; rw [← q5] at hF7
          refine ex_aload_n (q := 0) (x := 8) (np := 36) C (by decide +kernel) rfl rfl ?_
          refine ex_aload_n (q := 1) (x := 6) (np := 37) C (by decide +kernel) rfl rfl ?_
          refine ex_aload_n (q := 2) (x := 1) (np := 38) C (by decide +kernel) rfl rfl ?_
          refine ex_iload_n (q := 3) (x := dp) (np := 39) C (by decide +kernel) rfl rfl ?_
          obtain ⟨r8, σ10, q11⟩ : ∃ r x, f dp σ4 = (r, x) := ex_pair _
          refine ex_call_i (np := 42) (fun ws H locs ls hR hsz => ex_runV (C1 := "") C (m_X6_readAll d (by omega) dp σ4 ⟨by rw [q5]; exact SA_nx hJ, hI.2⟩) hd1 hd2 (by decide) hy_X6_readAll tg_1093 hc_X6 rfl (WS_8 _) rfl rfl (Nat.le_of_ble_eq_true rfl) rfl tg_1090 tg_1092 tg_68 tg_153 (by decide +kernel) ws H locs ls hR hsz (Nat.zero_le _) (Nat.zero_le _)) rfl (fun r9 w1 hpo => ?_)
          rw [q11] at hpo
          have hp1 : r8 = r9 := hpo.1.symm
          have hp2 := hpo.2
          clear hpo; subst hp1; subst hp2
          have hI12 := inv_X6_readAll dp σ4 ⟨by rw [q5]; exact SA_nx hJ, hI.2⟩; rw [q11] at hI12
          refine ex_if_ne (off := 5) (tgt := 47) (np := 45) C (by decide +kernel) (by decide) rfl (fun h13 => ?_) (fun h13 => ?_)
          · skip
            refine ex_aload_n (q := 0) (x := 8) (np := 48) C (by decide +kernel) rfl rfl ?_
            refine ex_bipush (n := 13) (v := 13) (np := 50) C (by decide +kernel) (by decide) rfl ?_
            refine ex_iconst (n := 0) (v := 0) (np := 51) C (by decide +kernel) (by decide) rfl ?_
            refine ex_iconst (n := 0) (v := 0) (np := 52) C (by decide +kernel) (by decide) rfl ?_
            obtain ⟨σ14, q15⟩ : ∃ x, x = A_addStep (13 : Int32) (0 : Int32) (0 : Int32) σ10 := ⟨_, rfl⟩
            refine ex_call_v (np := 55) (fun ws H locs ls hR hsz => ex_runV (C1 := "") C (m_X6_addStep d (by omega) (13 : Int32) (0 : Int32) (0 : Int32) σ10 (hI12).2.1) hd1 hd2 (by decide) hy_X6_addStep tg_1107 hc_X6 rfl (WS_8 _) rfl rfl (Nat.le_of_ble_eq_true rfl) rfl tg_1104 tg_1106 tg_70 tg_153 (by decide +kernel) ws H locs ls hR hsz (Nat.zero_le _) (Nat.zero_le _)) rfl (fun w1 hpo => ?_)
            rw [← q15] at hpo
            subst hpo
            have hI16 := inv_X6_addStep (13 : Int32) (0 : Int32) (0 : Int32) σ10 (hI12).2.1; rw [← q15] at hI16
            refine ex_iinc (i := 4) (n := 1) (x := (nI i)) (v := ((nI i) + 1)) (np := 58) (lv1 := [(4, .int ((nI i) + 1)), (0, .ref 8), (1, .ref 6), (2, .ref 1), (3, .int dp)]) C (by decide) (by decide +kernel) rfl (by rfl) rfl rfl ?_
            refine ex_goto (off := (-43)) (tgt := 15) C (by decide +kernel) (by decide) ?_
            refine ex_drop (lv1 := [(4, .int ((nI i) + 1)), (0, .ref 8), (1, .ref 6), (2, .ref 1), (3, .int dp)]) [0, 1, 2, 3, 4] rfl ?_
            rw [← nI_succ]
            exact ih (i + 1) σ14 (by omega) (by rw [q15]; exact SA_add hI12) (hs.trans (A_cl_s.trans ((if_pos h3).trans ((ex_lt_eq q5).trans ((ex_bd_eq q11).trans ((if_neg h13).trans ((ex_lt_eq q15).trans (rfl))))))))
          · skip
            refine ex_iconst (n := 0) (v := 0) (np := 46) C (by decide +kernel) (by decide) rfl ?_
            have E9 : A_cnd f dp σ = ((0 : Int32), σ10) := (hs.trans (A_cl_s.trans ((if_pos h3).trans ((ex_lt_eq q5).trans ((ex_bd_eq q11).trans ((if_pos h13).trans (rfl)))))))
            exact ex_iret C hr hlk (by decide +kernel) rfl (Nat.le_refl _) (Nat.le_refl _) (by rw [E9]; exact ⟨rfl, rfl⟩)
  refine ex_aload_n (q := 0) (x := 8) (np := 1) C (by decide +kernel) rfl rfl ?_
  refine ex_aload_n (q := 1) (x := 6) (np := 2) C (by decide +kernel) rfl rfl ?_
  refine ex_aload_n (q := 2) (x := 1) (np := 3) C (by decide +kernel) rfl rfl ?_
  refine ex_iload_n (q := 3) (x := dp) (np := 4) C (by decide +kernel) rfl rfl ?_
  obtain ⟨r17, σ18, q19⟩ : ∃ r x, f dp σ = (r, x) := ex_pair _
  refine ex_call_i (np := 7) (fun ws H locs ls hR hsz => ex_runV (C1 := "") C (m_X6_readAll d (by omega) dp σ hI) hd1 hd2 (by decide) hy_X6_readAll tg_1093 hc_X6 rfl (WS_8 _) rfl rfl (Nat.le_of_ble_eq_true rfl) rfl tg_1090 tg_1092 tg_68 tg_153 (by decide +kernel) ws H locs ls hR hsz (Nat.zero_le _) (Nat.zero_le _)) rfl (fun r9 w1 hpo => ?_)
  rw [q19] at hpo
  have hp1 : r17 = r9 := hpo.1.symm
  have hp2 := hpo.2
  clear hpo; subst hp1; subst hp2
  have hI20 := inv_X6_readAll dp σ hI; rw [q19] at hI20
  refine ex_if_ne (off := 5) (tgt := 12) (np := 10) C (by decide +kernel) (by decide) rfl (fun h21 => ?_) (fun h21 => ?_)
  · skip
    refine ex_iconst (n := 0) (v := 0) (np := 13) C (by decide +kernel) (by decide) rfl ?_
    refine ex_istore (i := 4) (np := 15) (lv1 := [(4, .int (0 : Int32)), (0, .ref 8), (1, .ref 6), (2, .ref 1), (3, .int dp)]) C (by decide) (by decide +kernel) rfl rfl ?_
    refine ex_drop (lv1 := [(4, .int (0 : Int32)), (0, .ref 8), (1, .ref 6), (2, .ref 1), (3, .int dp)]) [0, 1, 2, 3, 4] rfl ?_
    exact loop 20 0 σ18 rfl hI20 (by unfold A_cnd A_lst; exact (ex_bd_eq q19).trans ((if_neg h21).trans (rfl)))
  · skip
    refine ex_iconst (n := 0) (v := 0) (np := 11) C (by decide +kernel) (by decide) rfl ?_
    have E9 : A_cnd f dp σ = ((0 : Int32), σ18) := (by unfold A_cnd A_lst; exact (ex_bd_eq q19).trans ((if_pos h21).trans (rfl)))
    exact ex_iret C hr hlk (by decide +kernel) rfl (Nat.le_refl _) (Nat.le_refl _) (by rw [E9]; exact ⟨rfl, rfl⟩)
set_option maxRecDepth 100000 in
set_option maxHeartbeats 4000000 in
theorem m_X6_readOne_s {l : Launch} {X : ab_X} {D : va_G} {A : ex_A} (k : Nat) (m_X6_readOne : ∀ (d : Nat), 3 * k + 8 ≤ d → ∀ (dp : Int32) (σ : ex_S), SA_INV σ ∧ S_dp k dp → ex_ctr l X D A d yX6_readOne cX6_readOne 6 (some .boolean) (WS σ) [.ref 8, .ref 6, .ref 1, .int dp] (fun r w => r = (A_one k dp σ).1 ∧ w = WS (A_one k dp σ).2)) (m_X6_readCond : ∀ (d : Nat), 3 * k + 10 ≤ d → ∀ (dp : Int32) (σ : ex_S), SA_INV σ ∧ S_dp k dp → ex_ctr l X D A d yX6_readCond cX6_readCond 5 (some .boolean) (WS σ) [.ref 8, .ref 6, .ref 1, .int dp] (fun r w => r = (A_cnd (A_all (A_one k)) dp σ).1 ∧ w = WS (A_cnd (A_all (A_one k)) dp σ).2)) (d : Nat) (hd : 3 * (k + 1) + 8 ≤ d) (dp : Int32) (σ : ex_S) (hI : SA_INV σ ∧ S_dp (k + 1) dp) : ex_ctr l X D A d yX6_readOne cX6_readOne 6 (some .boolean) (WS σ) [.ref 8, .ref 6, .ref 1, .int dp] (fun r w => r = (A_one (k + 1) dp σ).1 ∧ w = WS (A_one (k + 1) dp σ).2) := by
  obtain ⟨d, rfl⟩ : ∃ d9, d = d9 + 1 := ⟨d - 1, by omega⟩
  refine ex_meth (own := RX6) rfl (by decide) (Nat.le_of_ble_eq_true rfl) (fun p e R s m below meth c C hr hlk hd1 hd2 => ?_)
  show ex_ok p l e R s m _ below meth c 0 0 _ 6 X D A (WS σ) 0 [(0, .ref 8), (1, .ref 6), (2, .ref 1), (3, .int dp)] []
  have inv_X6_readOne : ∀ (dp : Int32) (σ : ex_S), SA_INV σ ∧ S_dp k dp → SA_INV (A_one k dp σ).2 := fun dp σ h => inv_one k dp σ h.1
  have inv_X6_readCond : ∀ (dp : Int32) (σ : ex_S), SA_INV σ ∧ S_dp k dp → SA_INV (A_cnd (A_all (A_one k)) dp σ).2 := fun dp σ h => SA_lst (fun σ => SA_lst (fun σ => inv_one k dp σ) σ) σ h.1
  refine ex_aload_n (q := 2) (x := 1) (np := 1) C (by decide +kernel) rfl rfl ?_
  refine ex_getfN (q := 8) (v := .int (σ.1 6)) (np := 4) C hc_X4 hin_X4 (by decide) tn_244 (by decide +kernel) (WS_1 _) rfl rfl ?_
  refine ex_istore (i := 4) (np := 6) (lv1 := [(4, .int (σ.1 6)), (0, .ref 8), (1, .ref 6), (2, .ref 1), (3, .int dp)]) C (by decide) (by decide +kernel) rfl rfl ?_
  refine ex_aload_n (q := 2) (x := 1) (np := 7) C (by decide +kernel) rfl rfl ?_
  refine ex_getfN (q := 5) (v := .int (σ.1 4)) (np := 10) C hc_X4 hin_X4 (by decide) tn_238 (by decide +kernel) (WS_1 _) rfl rfl ?_
  refine ex_bipush (n := 40) (v := 40) (np := 12) C (by decide +kernel) (by decide) rfl ?_
  refine ex_icmp_ne (off := 7) (tgt := 19) (np := 15) C (by decide +kernel) (by decide) rfl (fun h1 => ?_) (fun h1 => ?_)
  · skip
    refine ex_iconst (n := 0) (v := 0) (np := 20) C (by decide +kernel) (by decide) rfl ?_
    refine ex_istore (i := 5) (np := 22) (lv1 := [(5, .int (0 : Int32)), (4, .int (σ.1 6)), (0, .ref 8), (1, .ref 6), (2, .ref 1), (3, .int dp)]) C (by decide) (by decide +kernel) rfl rfl ?_
    refine ex_iload (i := 5) (x := (0 : Int32)) (np := 24) C (by decide +kernel) rfl rfl ?_
    refine ex_if_ne (off := 17) (tgt := 41) (np := 27) C (by decide +kernel) (by decide) rfl (fun h2 => ?_) (fun h2 => ?_)
    · skip
      exact absurd (by decide) h2
    · skip
      refine ex_iload (i := 4) (x := (σ.1 6)) (np := 29) C (by decide +kernel) rfl rfl ?_
      refine ex_call_i (np := 32) (fun ws H locs ls hR hsz => ex_runS C (m_X6_beginsOne d (by omega) (WS σ) (σ.1 6)) hd1 hd2 (by decide) hy_X6_beginsOne tg_1100 rfl rfl (Nat.le_of_ble_eq_true rfl) tg_1098 tg_1099 tg_153 (by decide +kernel) ws H locs ls hR hsz (Nat.zero_le _) (Nat.zero_le _)) rfl (fun r3 w1 hpo => ?_)
      obtain ⟨q4, rfl⟩ := hpo
      refine ex_if_ne (off := 9) (tgt := 41) (np := 35) C (by decide +kernel) (by decide) rfl (fun h5 => ?_) (fun h5 => ?_)
      · skip
        refine ex_aload_n (q := 0) (x := 8) (np := 42) C (by decide +kernel) rfl rfl ?_
        refine ex_getf (q := 4) (v := .int (σ.1 21)) (np := 45) C hc_X6 hin_X6 (by decide) tg_459 (by decide +kernel) (WS_8 _) rfl rfl ?_
        refine ex_bipush (n := 20) (v := 20) (np := 47) C (by decide +kernel) (by decide) rfl ?_
        refine ex_icmp_ge (off := 9) (tgt := 56) (np := 50) C (by decide +kernel) (by decide) rfl (fun h6 => ?_) (fun h6 => ?_)
        · skip
          refine ex_aload_n (q := 2) (x := 1) (np := 57) C (by decide +kernel) rfl rfl ?_
          refine ex_iconst (n := 4) (v := 4) (np := 58) C (by decide +kernel) (by decide) rfl ?_
          obtain ⟨r7, σ8, q10⟩ : ∃ r x, A_failAs (4 : Int32) σ = (r, x) := ex_pair _
          refine ex_call_i (np := 61) (fun ws H locs ls hR hsz => ex_runVN C (m_X4_failAs_S d (by omega) (4 : Int32) σ) hd1 hd2 (by decide) hy_X4_failAs tg_694 hc_X4 rfl (WS_1 _) rfl rfl (Nat.le_of_ble_eq_true rfl) tn_1101 tg_693 tg_10 tg_144 (by decide +kernel) ws H locs ls hR hsz (Nat.zero_le _) (Nat.zero_le _)) rfl (fun r9 w1 hpo => ?_)
          rw [q10] at hpo
          have hp1 : r7 = r9 := hpo.1.symm
          have hp2 := hpo.2
          clear hpo; subst hp1; subst hp2
          have hI11 := inv_X4_failAs (4 : Int32) σ hI.1.1; rw [q10] at hI11
          have hF12 := fr_X4_failAs (4 : Int32) σ; rw [q10] at hF12
          have E9 : A_one (k + 1) dp σ = (r7, σ8) := by rw [A_one_s]; exact (if_neg h1).trans ((ex_lt_eq q4).trans ((if_neg h5).trans ((if_neg h6).trans ((ex_bd_eq q10).trans (rfl)))))
          exact ex_iret C hr hlk (by decide +kernel) (ex_nar (by have b9 := bl_X4_failAs (4 : Int32) σ; rw [q10] at b9; exact b9)) (Nat.le_refl _) (Nat.le_refl _) (by rw [E9]; exact ⟨rfl, rfl⟩)
        · skip
          refine ex_iload_n (q := 3) (x := dp) (np := 51) C (by decide +kernel) rfl rfl ?_
          refine ex_bipush (n := 8) (v := 8) (np := 53) C (by decide +kernel) (by decide) rfl ?_
          refine ex_icmp_le (off := 9) (tgt := 62) (np := 56) C (by decide +kernel) (by decide) rfl (fun h13 => ?_) (fun h13 => ?_)
          · skip
            refine ex_aload_n (q := 0) (x := 8) (np := 63) C (by decide +kernel) rfl rfl ?_
            refine ex_dup (np := 64) C rfl (by decide +kernel) rfl ?_
            refine ex_getf (q := 4) (v := .int (σ.1 21)) (np := 67) C hc_X6 hin_X6 (by decide) tg_459 (by decide +kernel) (WS_8 _) rfl rfl ?_
            refine ex_iconst (n := 1) (v := 1) (np := 68) C (by decide +kernel) (by decide) rfl ?_
            refine ex_iadd (v := ((σ.1 21) + (1 : Int32))) (np := 69) C (by decide +kernel) rfl rfl ?_
            refine ex_putf (q := 4) (w1 := (WS (sI 21 ((σ.1 21) + (1 : Int32)) σ))) (np := 72) C hc_X6 hin_X6 (by decide) tyX6_ok nmX6 tg_459 rfl (by decide +kernel) (WS_8 _) (Nat.le_of_ble_eq_true rfl) rfl rfl (WS_8_4 _ _) rfl ?_
            refine ex_aload_n (q := 2) (x := 1) (np := 73) C (by decide +kernel) rfl rfl ?_
            obtain ⟨σ14, q15⟩ : ∃ x, x = A_next (sI 21 ((σ.1 21) + (1 : Int32)) σ) := ⟨_, rfl⟩
            refine ex_call_v (np := 76) (fun ws H locs ls hR hsz => ex_runVN C (m_X4_next_S d (by omega) (sI 21 ((σ.1 21) + (1 : Int32)) σ) (SA_on hI.1 h6).1) hd1 hd2 (by decide) hy_X4_next tg_667 hc_X4 rfl (WS_1 _) rfl rfl (Nat.le_of_ble_eq_true rfl) tn_1102 tg_666 tg_4 tg_144 (by decide +kernel) ws H locs ls hR hsz (Nat.zero_le _) (Nat.zero_le _)) rfl (fun w1 hpo => ?_)
            rw [← q15] at hpo
            subst hpo
            have hI16 := inv_X4_next (sI 21 ((σ.1 21) + (1 : Int32)) σ) (SA_on hI.1 h6).1; rw [← q15] at hI16
            have hF17 := fr_X4_next (sI 21 ((σ.1 21) + (1 : Int32)) σ); rw [← q15] at hF17
            refine ex_iload (i := 5) (x := (0 : Int32)) (np := 78) C (by decide +kernel) rfl rfl ?_
            refine ex_if_eq (off := 30) (tgt := 108) (np := 81) C (by decide +kernel) (by decide) rfl (fun h18 => ?_) (fun h18 => ?_)
            · skip
              refine ex_iload (i := 4) (x := (σ.1 6)) (np := 110) C (by decide +kernel) rfl rfl ?_
              refine ex_bipush (n := 15) (v := 15) (np := 112) C (by decide +kernel) (by decide) rfl ?_
              refine ex_icmp_ne (off := 27) (tgt := 139) (np := 115) C (by decide +kernel) (by decide) rfl (fun h19 => ?_) (fun h19 => ?_)
              · skip
                refine ex_aload_n (q := 0) (x := 8) (np := 140) C (by decide +kernel) rfl rfl ?_
                refine ex_aload_n (q := 1) (x := 6) (np := 141) C (by decide +kernel) rfl rfl ?_
                refine ex_aload_n (q := 2) (x := 1) (np := 142) C (by decide +kernel) rfl rfl ?_
                refine ex_iload (i := 4) (x := (σ.1 6)) (np := 144) C (by decide +kernel) rfl rfl ?_
                obtain ⟨r20, σ21, q22⟩ : ∃ r x, A_readPlain (σ.1 6) σ14 = (r, x) := ex_pair _
                refine ex_call_i (np := 147) (fun ws H locs ls hR hsz => ex_runV (C1 := "") C (m_X6_readPlain d (by omega) (σ.1 6) σ14 (by rw [q15]; exact SA_nx (SA_on hI.1 h6))) hd1 hd2 (by decide) hy_X6_readPlain tg_1111 hc_X6 rfl (WS_8 _) rfl rfl (Nat.le_of_ble_eq_true rfl) rfl tg_1108 tg_1110 tg_71 tg_153 (by decide +kernel) ws H locs ls hR hsz (Nat.zero_le _) (Nat.zero_le _)) rfl (fun r9 w1 hpo => ?_)
                rw [q22] at hpo
                have hp1 : r20 = r9 := hpo.1.symm
                have hp2 := hpo.2
                clear hpo; subst hp1; subst hp2
                have hI23 := inv_X6_readPlain (σ.1 6) σ14 (by rw [q15]; exact SA_nx (SA_on hI.1 h6)); rw [q22] at hI23
                have E9 : A_one (k + 1) dp σ = (r20, σ21) := by rw [A_one_s]; exact (if_neg h1).trans ((ex_lt_eq q4).trans ((if_neg h5).trans ((if_pos h6).trans ((if_neg h13).trans ((ex_lt_eq q15).trans ((if_neg h19).trans ((ex_bd_eq q22).trans (rfl))))))))
                exact ex_iret C hr hlk (by decide +kernel) (ex_nar (by have b9 := bl_X6_readPlain (σ.1 6) σ14; rw [q22] at b9; exact b9)) (Nat.le_refl _) (Nat.le_refl _) (by rw [E9]; exact ⟨rfl, rfl⟩)
              · skip
                refine ex_aload_n (q := 0) (x := 8) (np := 116) C (by decide +kernel) rfl rfl ?_
                refine ex_aload_n (q := 1) (x := 6) (np := 117) C (by decide +kernel) rfl rfl ?_
                refine ex_aload_n (q := 2) (x := 1) (np := 118) C (by decide +kernel) rfl rfl ?_
                refine ex_iload_n (q := 3) (x := dp) (np := 119) C (by decide +kernel) rfl rfl ?_
                refine ex_iconst (n := 1) (v := 1) (np := 120) C (by decide +kernel) (by decide) rfl ?_
                refine ex_iadd (v := (dp + (1 : Int32))) (np := 121) C (by decide +kernel) rfl rfl ?_
                obtain ⟨r24, σ25, q26⟩ : ∃ r x, A_one k (dp + (1 : Int32)) σ14 = (r, x) := ex_pair _
                refine ex_call_i (np := 124) (fun ws H locs ls hR hsz => ex_runV (C1 := "") C (m_X6_readOne d (by omega) (dp + (1 : Int32)) σ14 ⟨by rw [q15]; exact SA_nx (SA_on hI.1 h6), S_dp_1 hI.2 h13⟩) hd1 hd2 (by decide) hy_X6_readOne tg_1097 hc_X6 rfl (WS_8 _) rfl rfl (Nat.le_of_ble_eq_true rfl) rfl tg_1094 tg_1096 tg_69 tg_153 (by decide +kernel) ws H locs ls hR hsz (Nat.zero_le _) (Nat.zero_le _)) rfl (fun r9 w1 hpo => ?_)
                rw [q26] at hpo
                have hp1 : r24 = r9 := hpo.1.symm
                have hp2 := hpo.2
                clear hpo; subst hp1; subst hp2
                have hI27 := inv_X6_readOne (dp + (1 : Int32)) σ14 ⟨by rw [q15]; exact SA_nx (SA_on hI.1 h6), S_dp_1 hI.2 h13⟩; rw [q26] at hI27
                refine ex_if_ne (off := 5) (tgt := 129) (np := 127) C (by decide +kernel) (by decide) rfl (fun h28 => ?_) (fun h28 => ?_)
                · skip
                  refine ex_aload_n (q := 0) (x := 8) (np := 130) C (by decide +kernel) rfl rfl ?_
                  refine ex_bipush (n := 15) (v := 15) (np := 132) C (by decide +kernel) (by decide) rfl ?_
                  refine ex_iconst (n := 0) (v := 0) (np := 133) C (by decide +kernel) (by decide) rfl ?_
                  refine ex_iconst (n := 0) (v := 0) (np := 134) C (by decide +kernel) (by decide) rfl ?_
                  obtain ⟨σ29, q30⟩ : ∃ x, x = A_addStep (15 : Int32) (0 : Int32) (0 : Int32) σ25 := ⟨_, rfl⟩
                  refine ex_call_v (np := 137) (fun ws H locs ls hR hsz => ex_runV (C1 := "") C (m_X6_addStep d (by omega) (15 : Int32) (0 : Int32) (0 : Int32) σ25 (hI27).2.1) hd1 hd2 (by decide) hy_X6_addStep tg_1107 hc_X6 rfl (WS_8 _) rfl rfl (Nat.le_of_ble_eq_true rfl) rfl tg_1104 tg_1106 tg_70 tg_153 (by decide +kernel) ws H locs ls hR hsz (Nat.zero_le _) (Nat.zero_le _)) rfl (fun w1 hpo => ?_)
                  rw [← q30] at hpo
                  subst hpo
                  have hI31 := inv_X6_addStep (15 : Int32) (0 : Int32) (0 : Int32) σ25 (hI27).2.1; rw [← q30] at hI31
                  refine ex_iconst (n := 1) (v := 1) (np := 138) C (by decide +kernel) (by decide) rfl ?_
                  have E9 : A_one (k + 1) dp σ = ((1 : Int32), σ29) := by rw [A_one_s]; exact (if_neg h1).trans ((ex_lt_eq q4).trans ((if_neg h5).trans ((if_pos h6).trans ((if_neg h13).trans ((ex_lt_eq q15).trans ((if_pos h19).trans ((ex_bd_eq q26).trans ((if_neg h28).trans ((ex_lt_eq q30).trans (rfl))))))))))
                  exact ex_iret C hr hlk (by decide +kernel) rfl (Nat.le_refl _) (Nat.le_refl _) (by rw [E9]; exact ⟨rfl, rfl⟩)
                · skip
                  refine ex_iconst (n := 0) (v := 0) (np := 128) C (by decide +kernel) (by decide) rfl ?_
                  have E9 : A_one (k + 1) dp σ = ((0 : Int32), σ25) := by rw [A_one_s]; exact (if_neg h1).trans ((ex_lt_eq q4).trans ((if_neg h5).trans ((if_pos h6).trans ((if_neg h13).trans ((ex_lt_eq q15).trans ((if_pos h19).trans ((ex_bd_eq q26).trans ((if_pos h28).trans (rfl)))))))))
                  exact ex_iret C hr hlk (by decide +kernel) rfl (Nat.le_refl _) (Nat.le_refl _) (by rw [E9]; exact ⟨rfl, rfl⟩)
            · skip
              exact absurd (by decide) h18
          · skip
            refine ex_aload_n (q := 2) (x := 1) (np := 57) C (by decide +kernel) rfl rfl ?_
            refine ex_iconst (n := 4) (v := 4) (np := 58) C (by decide +kernel) (by decide) rfl ?_
            obtain ⟨r32, σ33, q34⟩ : ∃ r x, A_failAs (4 : Int32) σ = (r, x) := ex_pair _
            refine ex_call_i (np := 61) (fun ws H locs ls hR hsz => ex_runVN C (m_X4_failAs_S d (by omega) (4 : Int32) σ) hd1 hd2 (by decide) hy_X4_failAs tg_694 hc_X4 rfl (WS_1 _) rfl rfl (Nat.le_of_ble_eq_true rfl) tn_1101 tg_693 tg_10 tg_144 (by decide +kernel) ws H locs ls hR hsz (Nat.zero_le _) (Nat.zero_le _)) rfl (fun r9 w1 hpo => ?_)
            rw [q34] at hpo
            have hp1 : r32 = r9 := hpo.1.symm
            have hp2 := hpo.2
            clear hpo; subst hp1; subst hp2
            have hI35 := inv_X4_failAs (4 : Int32) σ hI.1.1; rw [q34] at hI35
            have hF36 := fr_X4_failAs (4 : Int32) σ; rw [q34] at hF36
            have E9 : A_one (k + 1) dp σ = (r32, σ33) := by rw [A_one_s]; exact (if_neg h1).trans ((ex_lt_eq q4).trans ((if_neg h5).trans ((if_pos h6).trans ((if_pos h13).trans ((ex_bd_eq q34).trans (rfl))))))
            exact ex_iret C hr hlk (by decide +kernel) (ex_nar (by have b9 := bl_X4_failAs (4 : Int32) σ; rw [q34] at b9; exact b9)) (Nat.le_refl _) (Nat.le_refl _) (by rw [E9]; exact ⟨rfl, rfl⟩)
      · skip
        refine ex_aload_n (q := 2) (x := 1) (np := 36) C (by decide +kernel) rfl rfl ?_
        refine ex_iconst (n := 1) (v := 1) (np := 37) C (by decide +kernel) (by decide) rfl ?_
        obtain ⟨r37, σ38, q39⟩ : ∃ r x, A_failAs (1 : Int32) σ = (r, x) := ex_pair _
        refine ex_call_i (np := 40) (fun ws H locs ls hR hsz => ex_runVN C (m_X4_failAs_S d (by omega) (1 : Int32) σ) hd1 hd2 (by decide) hy_X4_failAs tg_694 hc_X4 rfl (WS_1 _) rfl rfl (Nat.le_of_ble_eq_true rfl) tn_1101 tg_693 tg_10 tg_144 (by decide +kernel) ws H locs ls hR hsz (Nat.zero_le _) (Nat.zero_le _)) rfl (fun r9 w1 hpo => ?_)
        rw [q39] at hpo
        have hp1 : r37 = r9 := hpo.1.symm
        have hp2 := hpo.2
        clear hpo; subst hp1; subst hp2
        have hI40 := inv_X4_failAs (1 : Int32) σ hI.1.1; rw [q39] at hI40
        have hF41 := fr_X4_failAs (1 : Int32) σ; rw [q39] at hF41
        have E9 : A_one (k + 1) dp σ = (r37, σ38) := by rw [A_one_s]; exact (if_neg h1).trans ((ex_lt_eq q4).trans ((if_pos h5).trans ((ex_bd_eq q39).trans (rfl))))
        exact ex_iret C hr hlk (by decide +kernel) (ex_nar (by have b9 := bl_X4_failAs (1 : Int32) σ; rw [q39] at b9; exact b9)) (Nat.le_refl _) (Nat.le_refl _) (by rw [E9]; exact ⟨rfl, rfl⟩)
  · skip
    refine ex_iconst (n := 1) (v := 1) (np := 16) C (by decide +kernel) (by decide) rfl ?_
    refine ex_goto (off := 4) (tgt := 20) C (by decide +kernel) (by decide) ?_
    refine ex_istore (i := 5) (np := 22) (lv1 := [(5, .int (1 : Int32)), (4, .int (σ.1 6)), (0, .ref 8), (1, .ref 6), (2, .ref 1), (3, .int dp)]) C (by decide) (by decide +kernel) rfl rfl ?_
    refine ex_iload (i := 5) (x := (1 : Int32)) (np := 24) C (by decide +kernel) rfl rfl ?_
    refine ex_if_ne (off := 17) (tgt := 41) (np := 27) C (by decide +kernel) (by decide) rfl (fun h42 => ?_) (fun h42 => ?_)
    · skip
      refine ex_aload_n (q := 0) (x := 8) (np := 42) C (by decide +kernel) rfl rfl ?_
      refine ex_getf (q := 4) (v := .int (σ.1 21)) (np := 45) C hc_X6 hin_X6 (by decide) tg_459 (by decide +kernel) (WS_8 _) rfl rfl ?_
      refine ex_bipush (n := 20) (v := 20) (np := 47) C (by decide +kernel) (by decide) rfl ?_
      refine ex_icmp_ge (off := 9) (tgt := 56) (np := 50) C (by decide +kernel) (by decide) rfl (fun h43 => ?_) (fun h43 => ?_)
      · skip
        refine ex_aload_n (q := 2) (x := 1) (np := 57) C (by decide +kernel) rfl rfl ?_
        refine ex_iconst (n := 4) (v := 4) (np := 58) C (by decide +kernel) (by decide) rfl ?_
        obtain ⟨r44, σ45, q46⟩ : ∃ r x, A_failAs (4 : Int32) σ = (r, x) := ex_pair _
        refine ex_call_i (np := 61) (fun ws H locs ls hR hsz => ex_runVN C (m_X4_failAs_S d (by omega) (4 : Int32) σ) hd1 hd2 (by decide) hy_X4_failAs tg_694 hc_X4 rfl (WS_1 _) rfl rfl (Nat.le_of_ble_eq_true rfl) tn_1101 tg_693 tg_10 tg_144 (by decide +kernel) ws H locs ls hR hsz (Nat.zero_le _) (Nat.zero_le _)) rfl (fun r9 w1 hpo => ?_)
        rw [q46] at hpo
        have hp1 : r44 = r9 := hpo.1.symm
        have hp2 := hpo.2
        clear hpo; subst hp1; subst hp2
        have hI47 := inv_X4_failAs (4 : Int32) σ hI.1.1; rw [q46] at hI47
        have hF48 := fr_X4_failAs (4 : Int32) σ; rw [q46] at hF48
        have E9 : A_one (k + 1) dp σ = (r44, σ45) := by rw [A_one_s]; exact (if_pos h1).trans ((if_neg h43).trans ((ex_bd_eq q46).trans (rfl)))
        exact ex_iret C hr hlk (by decide +kernel) (ex_nar (by have b9 := bl_X4_failAs (4 : Int32) σ; rw [q46] at b9; exact b9)) (Nat.le_refl _) (Nat.le_refl _) (by rw [E9]; exact ⟨rfl, rfl⟩)
      · skip
        refine ex_iload_n (q := 3) (x := dp) (np := 51) C (by decide +kernel) rfl rfl ?_
        refine ex_bipush (n := 8) (v := 8) (np := 53) C (by decide +kernel) (by decide) rfl ?_
        refine ex_icmp_le (off := 9) (tgt := 62) (np := 56) C (by decide +kernel) (by decide) rfl (fun h49 => ?_) (fun h49 => ?_)
        · skip
          refine ex_aload_n (q := 0) (x := 8) (np := 63) C (by decide +kernel) rfl rfl ?_
          refine ex_dup (np := 64) C rfl (by decide +kernel) rfl ?_
          refine ex_getf (q := 4) (v := .int (σ.1 21)) (np := 67) C hc_X6 hin_X6 (by decide) tg_459 (by decide +kernel) (WS_8 _) rfl rfl ?_
          refine ex_iconst (n := 1) (v := 1) (np := 68) C (by decide +kernel) (by decide) rfl ?_
          refine ex_iadd (v := ((σ.1 21) + (1 : Int32))) (np := 69) C (by decide +kernel) rfl rfl ?_
          refine ex_putf (q := 4) (w1 := (WS (sI 21 ((σ.1 21) + (1 : Int32)) σ))) (np := 72) C hc_X6 hin_X6 (by decide) tyX6_ok nmX6 tg_459 rfl (by decide +kernel) (WS_8 _) (Nat.le_of_ble_eq_true rfl) rfl rfl (WS_8_4 _ _) rfl ?_
          refine ex_aload_n (q := 2) (x := 1) (np := 73) C (by decide +kernel) rfl rfl ?_
          obtain ⟨σ50, q51⟩ : ∃ x, x = A_next (sI 21 ((σ.1 21) + (1 : Int32)) σ) := ⟨_, rfl⟩
          refine ex_call_v (np := 76) (fun ws H locs ls hR hsz => ex_runVN C (m_X4_next_S d (by omega) (sI 21 ((σ.1 21) + (1 : Int32)) σ) (SA_on hI.1 h43).1) hd1 hd2 (by decide) hy_X4_next tg_667 hc_X4 rfl (WS_1 _) rfl rfl (Nat.le_of_ble_eq_true rfl) tn_1102 tg_666 tg_4 tg_144 (by decide +kernel) ws H locs ls hR hsz (Nat.zero_le _) (Nat.zero_le _)) rfl (fun w1 hpo => ?_)
          rw [← q51] at hpo
          subst hpo
          have hI52 := inv_X4_next (sI 21 ((σ.1 21) + (1 : Int32)) σ) (SA_on hI.1 h43).1; rw [← q51] at hI52
          have hF53 := fr_X4_next (sI 21 ((σ.1 21) + (1 : Int32)) σ); rw [← q51] at hF53
          refine ex_iload (i := 5) (x := (1 : Int32)) (np := 78) C (by decide +kernel) rfl rfl ?_
          refine ex_if_eq (off := 30) (tgt := 108) (np := 81) C (by decide +kernel) (by decide) rfl (fun h54 => ?_) (fun h54 => ?_)
          · skip
            exact absurd h54 (by decide)
          · skip
            refine ex_aload_n (q := 0) (x := 8) (np := 82) C (by decide +kernel) rfl rfl ?_
            refine ex_aload_n (q := 1) (x := 6) (np := 83) C (by decide +kernel) rfl rfl ?_
            refine ex_aload_n (q := 2) (x := 1) (np := 84) C (by decide +kernel) rfl rfl ?_
            refine ex_iload_n (q := 3) (x := dp) (np := 85) C (by decide +kernel) rfl rfl ?_
            refine ex_iconst (n := 1) (v := 1) (np := 86) C (by decide +kernel) (by decide) rfl ?_
            refine ex_iadd (v := (dp + (1 : Int32))) (np := 87) C (by decide +kernel) rfl rfl ?_
            obtain ⟨r55, σ56, q57⟩ : ∃ r x, A_cnd (A_all (A_one k)) (dp + (1 : Int32)) σ50 = (r, x) := ex_pair _
            refine ex_call_i (np := 90) (fun ws H locs ls hR hsz => ex_runV (C1 := "") C (m_X6_readCond d (by omega) (dp + (1 : Int32)) σ50 ⟨by rw [q51]; exact SA_nx (SA_on hI.1 h43), S_dp_1 hI.2 h49⟩) hd1 hd2 (by decide) hy_X6_readCond tg_1089 hc_X6 rfl (WS_8 _) rfl rfl (Nat.le_of_ble_eq_true rfl) rfl tg_1086 tg_1088 tg_67 tg_153 (by decide +kernel) ws H locs ls hR hsz (Nat.zero_le _) (Nat.zero_le _)) rfl (fun r9 w1 hpo => ?_)
            rw [q57] at hpo
            have hp1 : r55 = r9 := hpo.1.symm
            have hp2 := hpo.2
            clear hpo; subst hp1; subst hp2
            have hI58 := inv_X6_readCond (dp + (1 : Int32)) σ50 ⟨by rw [q51]; exact SA_nx (SA_on hI.1 h43), S_dp_1 hI.2 h49⟩; rw [q57] at hI58
            refine ex_if_eq (off := 16) (tgt := 106) (np := 93) C (by decide +kernel) (by decide) rfl (fun h59 => ?_) (fun h59 => ?_)
            · skip
              refine ex_iconst (n := 0) (v := 0) (np := 107) C (by decide +kernel) (by decide) rfl ?_
              have E9 : A_one (k + 1) dp σ = ((0 : Int32), σ56) := by rw [A_one_s]; exact (if_pos h1).trans ((if_pos h43).trans ((if_neg h49).trans ((ex_lt_eq q51).trans ((ex_bd_eq q57).trans ((if_pos h59).trans (rfl))))))
              exact ex_iret C hr hlk (by decide +kernel) rfl (Nat.le_refl _) (Nat.le_refl _) (by rw [E9]; exact ⟨rfl, rfl⟩)
            · skip
              refine ex_aload_n (q := 2) (x := 1) (np := 94) C (by decide +kernel) rfl rfl ?_
              refine ex_bipush (n := 41) (v := 41) (np := 96) C (by decide +kernel) (by decide) rfl ?_
              obtain ⟨r60, σ61, q62⟩ : ∃ r x, A_takeSign (41 : Int32) σ56 = (r, x) := ex_pair _
              refine ex_call_i (np := 99) (fun ws H locs ls hR hsz => ex_runVN C (m_X4_takeSign_S d (by omega) (41 : Int32) σ56 (hI58).1) hd1 hd2 (by decide) hy_X4_takeSign tg_743 hc_X4 rfl (WS_1 _) rfl rfl (Nat.le_of_ble_eq_true rfl) tn_1103 tg_742 tg_21 tg_144 (by decide +kernel) ws H locs ls hR hsz (Nat.zero_le _) (Nat.zero_le _)) rfl (fun r9 w1 hpo => ?_)
              rw [q62] at hpo
              have hp1 : r60 = r9 := hpo.1.symm
              have hp2 := hpo.2
              clear hpo; subst hp1; subst hp2
              have hI63 := inv_X4_takeSign (41 : Int32) σ56 (hI58).1; rw [q62] at hI63
              have hF64 := fr_X4_takeSign (41 : Int32) σ56; rw [q62] at hF64
              refine ex_if_eq (off := 7) (tgt := 106) (np := 102) C (by decide +kernel) (by decide) rfl (fun h65 => ?_) (fun h65 => ?_)
              · skip
                refine ex_iconst (n := 0) (v := 0) (np := 107) C (by decide +kernel) (by decide) rfl ?_
                have E9 : A_one (k + 1) dp σ = ((0 : Int32), σ61) := by rw [A_one_s]; exact (if_pos h1).trans ((if_pos h43).trans ((if_neg h49).trans ((ex_lt_eq q51).trans ((ex_bd_eq q57).trans ((if_neg h59).trans ((ex_bd_eq q62).trans ((if_pos h65).trans (rfl))))))))
                exact ex_iret C hr hlk (by decide +kernel) rfl (Nat.le_refl _) (Nat.le_refl _) (by rw [E9]; exact ⟨rfl, rfl⟩)
              · skip
                refine ex_iconst (n := 1) (v := 1) (np := 103) C (by decide +kernel) (by decide) rfl ?_
                refine ex_goto (off := 4) (tgt := 107) C (by decide +kernel) (by decide) ?_
                have E9 : A_one (k + 1) dp σ = ((1 : Int32), σ61) := by rw [A_one_s]; exact (if_pos h1).trans ((if_pos h43).trans ((if_neg h49).trans ((ex_lt_eq q51).trans ((ex_bd_eq q57).trans ((if_neg h59).trans ((ex_bd_eq q62).trans ((if_neg h65).trans (rfl))))))))
                exact ex_iret C hr hlk (by decide +kernel) rfl (Nat.le_refl _) (Nat.le_refl _) (by rw [E9]; exact ⟨rfl, rfl⟩)
        · skip
          refine ex_aload_n (q := 2) (x := 1) (np := 57) C (by decide +kernel) rfl rfl ?_
          refine ex_iconst (n := 4) (v := 4) (np := 58) C (by decide +kernel) (by decide) rfl ?_
          obtain ⟨r66, σ67, q68⟩ : ∃ r x, A_failAs (4 : Int32) σ = (r, x) := ex_pair _
          refine ex_call_i (np := 61) (fun ws H locs ls hR hsz => ex_runVN C (m_X4_failAs_S d (by omega) (4 : Int32) σ) hd1 hd2 (by decide) hy_X4_failAs tg_694 hc_X4 rfl (WS_1 _) rfl rfl (Nat.le_of_ble_eq_true rfl) tn_1101 tg_693 tg_10 tg_144 (by decide +kernel) ws H locs ls hR hsz (Nat.zero_le _) (Nat.zero_le _)) rfl (fun r9 w1 hpo => ?_)
          rw [q68] at hpo
          have hp1 : r66 = r9 := hpo.1.symm
          have hp2 := hpo.2
          clear hpo; subst hp1; subst hp2
          have hI69 := inv_X4_failAs (4 : Int32) σ hI.1.1; rw [q68] at hI69
          have hF70 := fr_X4_failAs (4 : Int32) σ; rw [q68] at hF70
          have E9 : A_one (k + 1) dp σ = (r66, σ67) := by rw [A_one_s]; exact (if_pos h1).trans ((if_pos h43).trans ((if_pos h49).trans ((ex_bd_eq q68).trans (rfl))))
          exact ex_iret C hr hlk (by decide +kernel) (ex_nar (by have b9 := bl_X4_failAs (4 : Int32) σ; rw [q68] at b9; exact b9)) (Nat.le_refl _) (Nat.le_refl _) (by rw [E9]; exact ⟨rfl, rfl⟩)
    · skip
      exact absurd h42 (by decide)
theorem m_X6_readOne {l : Launch} {X : ab_X} {D : va_G} {A : ex_A} : ∀ (k d : Nat), 3 * k + 8 ≤ d → ∀ (dp : Int32) (σ : ex_S), SA_INV σ ∧ S_dp k dp → ex_ctr l X D A d yX6_readOne cX6_readOne 6 (some .boolean) (WS σ) [.ref 8, .ref 6, .ref 1, .int dp] (fun r w => r = (A_one k dp σ).1 ∧ w = WS (A_one k dp σ).2) := by
  intro k
  induction k with
  | zero =>
    intro d hd dp σ hI
    exfalso
    obtain ⟨-, h1, h2, h3⟩ := hI
    omega
  | succ k ih =>
    intro d hd dp σ hI
    refine m_X6_readOne_s k ih (fun d hd dp σ hI => ?_) d hd dp σ hI
    refine m_X6_readCond_f (A_all (A_one k)) (3 * k + 9) (by omega) (S_dp k) (fun dp σ h => SA_lst (fun σ => inv_one k dp σ) σ h.1) (fun d hd dp σ hI => ?_) d (by omega) dp σ hI
    exact m_X6_readAll_f (A_one k) (3 * k + 8) (by omega) (S_dp k) (fun dp σ h => inv_one k dp σ h.1) ih d (by omega) dp σ hI
theorem m_X6_readCond {l : Launch} {X : ab_X} {D : va_G} {A : ex_A} (k d : Nat) (hd : 3 * k + 10 ≤ d) (dp : Int32) (σ : ex_S) (hI : SA_INV σ ∧ S_dp k dp) : ex_ctr l X D A d yX6_readCond cX6_readCond 5 (some .boolean) (WS σ) [.ref 8, .ref 6, .ref 1, .int dp] (fun r w => r = (A_cnd (A_all (A_one k)) dp σ).1 ∧ w = WS (A_cnd (A_all (A_one k)) dp σ).2) :=
  m_X6_readCond_f (A_all (A_one k)) (3 * k + 9) (by omega) (S_dp k) (fun dp σ h => SA_lst (fun σ => inv_one k dp σ) σ h.1) (fun d hd dp σ hI => m_X6_readAll_f (A_one k) (3 * k + 8) (by omega) (S_dp k) (fun dp σ h => inv_one k dp σ h.1) (m_X6_readOne k) d (by omega) dp σ hI) d (by omega) dp σ hI
set_option maxRecDepth 100000 in
set_option maxHeartbeats 4000000 in
theorem m_X6_read {l : Launch} {X : ab_X} {D : va_G} {A : ex_A} (d : Nat) (hd : 38 ≤ d) (σ : ex_S) (hI : A_IN0 σ) : ex_ctr l X D A d yX6_read cX6_read 3 (some .boolean) (WS σ) [.ref 8, .ref 6, .ref 1] (fun r w => r = (A_read σ).1 ∧ w = WS (A_read σ).2) := by
  have m_X6_readCond : ∀ (d : Nat), 37 ≤ d → ∀ (dp : Int32) (σ : ex_S), SA_INV σ ∧ S_dp 9 dp → ex_ctr l X D A d yX6_readCond cX6_readCond 5 (some .boolean) (WS σ) [.ref 8, .ref 6, .ref 1, .int dp] (fun r w => r = (A_txt dp σ).1 ∧ w = WS (A_txt dp σ).2) := fun d hd dp σ h => m_X6_readCond 9 d (by omega) dp σ h
  have inv_X6_readCond := inv_txt
  obtain ⟨d, rfl⟩ : ∃ d9, d = d9 + 1 := ⟨d - 1, by omega⟩
  refine ex_meth (own := RX6) rfl (by decide) (Nat.le_of_ble_eq_true rfl) (fun p e R s m below meth c C hr hlk hd1 hd2 => ?_)
  show ex_ok p l e R s m _ below meth c 0 0 _ 3 X D A (WS σ) 0 [(0, .ref 8), (1, .ref 6), (2, .ref 1)] []
  refine ex_aload_n (q := 0) (x := 8) (np := 1) C (by decide +kernel) rfl rfl ?_
  refine ex_iconst (n := 0) (v := 0) (np := 2) C (by decide +kernel) (by decide) rfl ?_
  refine ex_putf (q := 3) (w1 := (WS (sI 20 (0 : Int32) σ))) (np := 5) C hc_X6 hin_X6 (by decide) tyX6_ok nmX6 tg_457 rfl (by decide +kernel) (WS_8 _) (Nat.le_of_ble_eq_true rfl) rfl rfl (WS_8_3 _ _) rfl ?_
  refine ex_aload_n (q := 0) (x := 8) (np := 6) C (by decide +kernel) rfl rfl ?_
  refine ex_iconst (n := 0) (v := 0) (np := 7) C (by decide +kernel) (by decide) rfl ?_
  refine ex_putf (q := 4) (w1 := (WS (sI 21 (0 : Int32) (sI 20 (0 : Int32) σ)))) (np := 10) C hc_X6 hin_X6 (by decide) tyX6_ok nmX6 tg_459 rfl (by decide +kernel) (WS_8 _) (Nat.le_of_ble_eq_true rfl) rfl rfl (WS_8_4 _ _) rfl ?_
  refine ex_aload_n (q := 2) (x := 1) (np := 11) C (by decide +kernel) rfl rfl ?_
  refine ex_sipush (n := 200) (v := 200) (np := 14) C (by decide +kernel) (by decide) rfl ?_
  obtain ⟨σ1, q2⟩ : ∃ x, x = A_begin (200 : Int32) (sI 21 (0 : Int32) (sI 20 (0 : Int32) σ)) := ⟨_, rfl⟩
  refine ex_call_v (np := 17) (fun ws H locs ls hR hsz => ex_runVN C (m_X4_begin_S d (by omega) (200 : Int32) (sI 21 (0 : Int32) (sI 20 (0 : Int32) σ)) hI) hd1 hd2 (by decide) hy_X4_begin tg_663 hc_X4 rfl (WS_1 _) rfl rfl (Nat.le_of_ble_eq_true rfl) tn_1085 tg_662 tg_3 tg_144 (by decide +kernel) ws H locs ls hR hsz (Nat.zero_le _) (Nat.zero_le _)) rfl (fun w1 hpo => ?_)
  rw [← q2] at hpo
  subst hpo
  have hI3 := inv_X4_begin (200 : Int32) (sI 21 (0 : Int32) (sI 20 (0 : Int32) σ)) hI; rw [← q2] at hI3
  refine ex_aload_n (q := 0) (x := 8) (np := 18) C (by decide +kernel) rfl rfl ?_
  refine ex_aload_n (q := 1) (x := 6) (np := 19) C (by decide +kernel) rfl rfl ?_
  refine ex_aload_n (q := 2) (x := 1) (np := 20) C (by decide +kernel) rfl rfl ?_
  refine ex_iconst (n := 1) (v := 1) (np := 21) C (by decide +kernel) (by decide) rfl ?_
  obtain ⟨r4, σ5, q6⟩ : ∃ r x, A_txt (1 : Int32) σ1 = (r, x) := ex_pair _
  refine ex_call_i (np := 24) (fun ws H locs ls hR hsz => ex_runV (C1 := "") C (m_X6_readCond d (by omega) (1 : Int32) σ1 ⟨by rw [q2]; exact SA_bg hI, by unfold S_dp; decide⟩) hd1 hd2 (by decide) hy_X6_readCond tg_1089 hc_X6 rfl (WS_8 _) rfl rfl (Nat.le_of_ble_eq_true rfl) rfl tg_1086 tg_1088 tg_67 tg_153 (by decide +kernel) ws H locs ls hR hsz (Nat.zero_le _) (Nat.zero_le _)) rfl (fun r9 w1 hpo => ?_)
  rw [q6] at hpo
  have hp1 : r4 = r9 := hpo.1.symm
  have hp2 := hpo.2
  clear hpo; subst hp1; subst hp2
  have hI7 := inv_X6_readCond (1 : Int32) σ1 ⟨by rw [q2]; exact SA_bg hI, by unfold S_dp; decide⟩; rw [q6] at hI7
  refine ex_if_eq (off := 22) (tgt := 46) (np := 27) C (by decide +kernel) (by decide) rfl (fun h8 => ?_) (fun h8 => ?_)
  · skip
    refine ex_iconst (n := 0) (v := 0) (np := 47) C (by decide +kernel) (by decide) rfl ?_
    have E9 : A_read σ = ((0 : Int32), σ5) := by unfold A_read; exact (ex_lt_eq q2).trans ((ex_bd_eq q6).trans ((if_pos h8).trans (rfl)))
    exact ex_iret C hr hlk (by decide +kernel) rfl (Nat.le_refl _) (Nat.le_refl _) (by rw [E9]; exact ⟨rfl, rfl⟩)
  · skip
    refine ex_aload_n (q := 2) (x := 1) (np := 28) C (by decide +kernel) rfl rfl ?_
    refine ex_call_i (np := 31) (fun ws H locs ls hR hsz => ex_runVN C (m_X4_atEnd_S d (by omega) σ5) hd1 hd2 (by decide) hy_X4_atEnd tg_682 hc_X4 rfl (WS_1 _) rfl rfl (Nat.le_of_ble_eq_true rfl) tn_1114 tg_681 tg_7 tg_144 (by decide +kernel) ws H locs ls hR hsz (Nat.zero_le _) (Nat.zero_le _)) rfl (fun r10 w1 hpo => ?_)
    obtain ⟨q11, rfl⟩ := hpo
    refine ex_if_ne (off := 11) (tgt := 42) (np := 34) C (by decide +kernel) (by decide) rfl (fun h12 => ?_) (fun h12 => ?_)
    · skip
      refine ex_iconst (n := 1) (v := 1) (np := 43) C (by decide +kernel) (by decide) rfl ?_
      refine ex_goto (off := 4) (tgt := 47) C (by decide +kernel) (by decide) ?_
      have E9 : A_read σ = ((1 : Int32), σ5) := by unfold A_read; exact (ex_lt_eq q2).trans ((ex_bd_eq q6).trans ((if_neg h8).trans ((ex_lt_eq q11).trans ((if_neg h12).trans (rfl)))))
      exact ex_iret C hr hlk (by decide +kernel) rfl (Nat.le_refl _) (Nat.le_refl _) (by rw [E9]; exact ⟨rfl, rfl⟩)
    · skip
      refine ex_aload_n (q := 2) (x := 1) (np := 35) C (by decide +kernel) rfl rfl ?_
      refine ex_iconst (n := 1) (v := 1) (np := 36) C (by decide +kernel) (by decide) rfl ?_
      obtain ⟨r13, σ14, q15⟩ : ∃ r x, A_failAs (1 : Int32) σ5 = (r, x) := ex_pair _
      refine ex_call_i (np := 39) (fun ws H locs ls hR hsz => ex_runVN C (m_X4_failAs_S d (by omega) (1 : Int32) σ5) hd1 hd2 (by decide) hy_X4_failAs tg_694 hc_X4 rfl (WS_1 _) rfl rfl (Nat.le_of_ble_eq_true rfl) tn_1101 tg_693 tg_10 tg_144 (by decide +kernel) ws H locs ls hR hsz (Nat.zero_le _) (Nat.zero_le _)) rfl (fun r9 w1 hpo => ?_)
      rw [q15] at hpo
      have hp1 : r13 = r9 := hpo.1.symm
      have hp2 := hpo.2
      clear hpo; subst hp1; subst hp2
      have hI16 := inv_X4_failAs (1 : Int32) σ5 (hI7).1; rw [q15] at hI16
      have hF17 := fr_X4_failAs (1 : Int32) σ5; rw [q15] at hF17
      refine ex_if_eq (off := 7) (tgt := 46) (np := 42) C (by decide +kernel) (by decide) rfl (fun h18 => ?_) (fun h18 => ?_)
      · skip
        refine ex_iconst (n := 0) (v := 0) (np := 47) C (by decide +kernel) (by decide) rfl ?_
        have E9 : A_read σ = ((0 : Int32), σ14) := by unfold A_read; exact (ex_lt_eq q2).trans ((ex_bd_eq q6).trans ((if_neg h8).trans ((ex_lt_eq q11).trans ((if_pos h12).trans ((ex_bd_eq q15).trans ((if_pos h18).trans (rfl)))))))
        exact ex_iret C hr hlk (by decide +kernel) rfl (Nat.le_refl _) (Nat.le_refl _) (by rw [E9]; exact ⟨rfl, rfl⟩)
      · skip
        refine ex_iconst (n := 1) (v := 1) (np := 43) C (by decide +kernel) (by decide) rfl ?_
        refine ex_goto (off := 4) (tgt := 47) C (by decide +kernel) (by decide) ?_
        have E9 : A_read σ = ((1 : Int32), σ14) := by unfold A_read; exact (ex_lt_eq q2).trans ((ex_bd_eq q6).trans ((if_neg h8).trans ((ex_lt_eq q11).trans ((if_pos h12).trans ((ex_bd_eq q15).trans ((if_neg h18).trans (rfl)))))))
        exact ex_iret C hr hlk (by decide +kernel) rfl (Nat.le_refl _) (Nat.le_refl _) (by rw [E9]; exact ⟨rfl, rfl⟩)
set_option maxRecDepth 100000 in
set_option maxHeartbeats 4000000 in
theorem m_X10_sentence {l : Launch} {X : ab_X} {D : va_G} {A : ex_A} (d : Nat) (hd : 39 ≤ d) (σ : ex_S) (hI : A_IN0 σ) : ex_ctr l X D A d yX10_sentence cX10_sentence 3 (some .int) (WS σ) [.ref 0] (fun r w => r = A_sentence σ ∧ (w = WS (sI 0 (0 : Int32) (A_read σ).2) ∨ w = WS3 (sI 0 (0 : Int32) (A_read σ).2))) := by
  obtain ⟨d, rfl⟩ : ∃ d9, d = d9 + 1 := ⟨d - 1, by omega⟩
  refine ex_meth (own := RX10) rfl (by decide) (Nat.le_of_ble_eq_true rfl) (fun p e R s m below meth c C hr hlk hd1 hd2 => ?_)
  show ex_ok p l e R s m _ below meth c 0 0 _ 3 X D A (WS σ) 0 [(0, .ref 0)] []
  refine ex_aload_n (q := 0) (x := 0) (np := 1) C (by decide +kernel) rfl rfl ?_
  refine ex_getf (q := 8) (v := .ref 8) (np := 4) C hc_X10 hin_X10 (by decide) tg_592 (by decide +kernel) (WS_0 _) rfl rfl ?_
  refine ex_aload_n (q := 0) (x := 0) (np := 5) C (by decide +kernel) rfl rfl ?_
  refine ex_getf (q := 2) (v := .ref 6) (np := 8) C hc_X10 hin_X10 (by decide) tg_586 (by decide +kernel) (WS_0 _) rfl rfl ?_
  refine ex_aload_n (q := 0) (x := 0) (np := 9) C (by decide +kernel) rfl rfl ?_
  refine ex_getf (q := 0) (v := .ref 1) (np := 12) C hc_X10 hin_X10 (by decide) tg_584 (by decide +kernel) (WS_0 _) rfl rfl ?_
  obtain ⟨r1, σ2, q3⟩ : ∃ r x, A_read σ = (r, x) := ex_pair _
  refine ex_call_i (np := 15) (fun ws H locs ls hR hsz => ex_runVN C (m_X6_read d (by omega) σ hI) hd1 hd2 (by decide) hy_X6_read tg_1084 hc_X6 rfl (WS_8 _) rfl rfl (Nat.le_of_ble_eq_true rfl) tn_1081 tg_1083 tg_66 tg_153 (by decide +kernel) ws H locs ls hR hsz (Nat.zero_le _) (Nat.zero_le _)) rfl (fun r9 w1 hpo => ?_)
  rw [q3] at hpo
  have hp1 : r1 = r9 := hpo.1.symm
  have hp2 := hpo.2
  clear hpo; subst hp1; subst hp2
  have hI4 := inv_X6_read σ hI; rw [q3] at hI4
  refine ex_istore_n (q := 1) (np := 16) (lv1 := [(1, .int r1), (0, .ref 0)]) C (by decide) (by decide +kernel) rfl rfl ?_
  refine ex_aload_n (q := 0) (x := 0) (np := 17) C (by decide +kernel) rfl rfl ?_
  refine ex_getf (q := 0) (v := .ref 1) (np := 20) C hc_X10 hin_X10 (by decide) tg_584 (by decide +kernel) (WS_0 _) rfl rfl ?_
  refine ex_iconst (n := 0) (v := 0) (np := 21) C (by decide +kernel) (by decide) rfl ?_
  refine ex_putfN (q := 1) (w1 := (WS (sI 0 (0 : Int32) σ2))) (np := 24) C hc_X4 hin_X4 (by decide) tyX4_ok nmX4 tn_232 rfl (by decide +kernel) (WS_1 _) (Nat.le_of_ble_eq_true rfl) rfl rfl (WS_1_1 _ _) rfl ?_
  refine ex_iload_n (q := 1) (x := r1) (np := 25) C (by decide +kernel) rfl rfl ?_
  refine ex_if_ne (off := 13) (tgt := 38) (np := 28) C (by decide +kernel) (by decide) rfl (fun h5 => ?_) (fun h5 => ?_)
  · skip
    refine ex_aload_n (q := 0) (x := 0) (np := 39) C (by decide +kernel) rfl rfl ?_
    refine ex_getf (q := 7) (v := .ref 2000005) (np := 42) C hc_X10 hin_X10 (by decide) tg_591 (by decide +kernel) (WS_0 _) rfl rfl ?_
    refine ex_astore_n (q := 2) (np := 43) (lv1 := [(2, .ref 2000005), (1, .int r1), (0, .ref 0)]) C (by decide) (by decide +kernel) rfl rfl ?_
    refine ex_aload_n (q := 0) (x := 0) (np := 44) C (by decide +kernel) rfl rfl ?_
    refine ex_aload_n (q := 0) (x := 0) (np := 45) C (by decide +kernel) rfl rfl ?_
    refine ex_getf (q := 8) (v := .ref 8) (np := 48) C hc_X10 hin_X10 (by decide) tg_592 (by decide +kernel) (WS_0 _) rfl rfl ?_
    refine ex_putf (q := 7) (w1 := (WS2 (sI 0 (0 : Int32) σ2))) (np := 51) C hc_X10 hin_X10 (by decide) tyX10_ok nmX10 tg_591 rfl (by decide +kernel) (WS_0 _) (Nat.le_of_ble_eq_true rfl) rfl rfl rfl rfl ?_
    refine ex_aload_n (q := 0) (x := 0) (np := 52) C (by decide +kernel) rfl rfl ?_
    refine ex_aload_n (q := 2) (x := 2000005) (np := 53) C (by decide +kernel) rfl rfl ?_
    refine ex_putf (q := 8) (w1 := (WS3 (sI 0 (0 : Int32) σ2))) (np := 56) C hc_X10 hin_X10 (by decide) tyX10_ok nmX10 tg_592 rfl (by decide +kernel) (WS2_0 _) (Nat.le_of_ble_eq_true rfl) rfl rfl rfl rfl ?_
    refine ex_aload_n (q := 0) (x := 0) (np := 57) C (by decide +kernel) rfl rfl ?_
    refine ex_getf (q := 7) (v := .ref 8) (np := 60) C hc_X10 hin_X10 (by decide) tg_591 (by decide +kernel) (WS3_0 _) rfl rfl ?_
    refine ex_getfN (q := 4) (v := .int (σ2.1 21)) (np := 63) C hc_X6 hin_X6 (by decide) tn_460 (by decide +kernel) (WS3_8 _) rfl rfl ?_
    exact ex_iret C hr hlk (by decide +kernel) rfl (Nat.le_refl _) (Nat.le_refl _) ⟨(by show _ = A_sentence σ; unfold A_sentence; exact Eq.symm ((ex_bd_eq q3).trans ((if_neg h5).trans (rfl)))), Or.inr (by rw [q3])⟩
  · skip
    refine ex_iconst (n := (-1)) (v := (-1)) (np := 29) C (by decide +kernel) (by decide) rfl ?_
    refine ex_aload_n (q := 0) (x := 0) (np := 30) C (by decide +kernel) rfl rfl ?_
    refine ex_getf (q := 0) (v := .ref 1) (np := 33) C hc_X10 hin_X10 (by decide) tg_584 (by decide +kernel) (WS_0 _) rfl rfl ?_
    refine ex_getfN (q := 13) (v := .int (σ2.1 10)) (np := 36) C hc_X4 hin_X4 (by decide) tn_257 (by decide +kernel) (WS_1 _) rfl rfl ?_
    refine ex_isub (v := ((-1 : Int32) - (σ2.1 10))) (np := 37) C (by decide +kernel) rfl rfl ?_
    exact ex_iret C hr hlk (by decide +kernel) rfl (Nat.le_refl _) (Nat.le_refl _) ⟨(by show _ = A_sentence σ; unfold A_sentence; exact Eq.symm ((ex_bd_eq q3).trans ((if_pos h5).trans (rfl)))), Or.inl (by rw [q3])⟩
