/-! The book: both sides read alike. -/
noncomputable def EB (a b : ex_S) : Prop := E_R a b ∧ E_Nm a b ∧ a.1 9 = b.1 9 ∧ a.1 23 = b.1 20
theorem EB_A {a b : ex_S} {k : Nat} {f : Nat → Int32} (hk : 19 ≤ k) (h : EB a b) : EB (sR k f a) b := by
  obtain ⟨⟨h1, h2, h3, h4⟩, h5, h6, h7⟩ := h
  refine ⟨⟨?_, h2, h3, h4⟩, h5, h6, h7⟩
  unfold E_ev at h1 ⊢
  rw [sR_1, if_neg (show ¬ 0 = k by omega)]
  exact h1
theorem EB_B {a b : ex_S} {f : Nat → Int32} (h : EB a b) : EB a (sR 3 f b) := h
theorem EB_k {a b a' b' : ex_S} (h : EB a b) (hR : E_R a' b') (hA : A_J a a') (hB : B_J b b') : EB a' b' := by
  obtain ⟨-, h5, h6, h7⟩ := h
  refine ⟨hR, ?_, ?_, ?_⟩
  · unfold E_Nm at h5 ⊢
    rw [hA.1 11 (by omega), hA.2, hB.2]; exact h5
  · rw [hA.1 9 (by omega), hB.1 9 (by omega)]; exact h6
  · rw [hA.1 23 (by omega), hB.1 20 (by omega)]; exact h7
theorem EB_nx {a b : ex_S} (h : EB a b) (hp : a.1 2 = b.1 3) : EB (A_next a) (B_next b) := EB_k h (E_nx h.1.1 h.1.2.1 h.1.2.2.1 hp) (A_K_J (kA_next a)) (B_K_J (kB_next b))
/-- a town that must be told: fails alike, or the same number -/
theorem E_lookB {a b : ex_S} (hR : E_R a b) (hN : E_Nm a b) : (A_takeTown (-1 : Int32) a = A_failAs (1 : Int32) a ∧ B_looksAt (0 : Int32) ((b.2.2.1 1) 0) b = B_bad (1 : Int32) b) ∨ (∃ t, A_takeTown (-1 : Int32) a = A_failAs (3 : Int32) a ∧ B_looksAt (0 : Int32) ((b.2.2.1 1) 0) b = B_bad (3 : Int32) (sI 11 t b)) ∨ (∃ t, A_takeTown (-1 : Int32) a = ((1 : Int32), A_next (sI 7 t a)) ∧ a.1 2 = b.1 3 ∧ B_looksAt (0 : Int32) ((b.2.2.1 1) 0) b = ((1 : Int32), sI 11 t b)) := by
  obtain ⟨h1, h2, h3, h4⟩ := hR
  have kt := h2.2.2.1
  rcases E_isName h1 h4 with t | t
  · refine Or.inl ⟨A_tt0 t.1, ?_⟩
    unfold B_looksAt
    simp only [ex_lt]
    rw [if_pos t.2]
    rfl
  · have f1 := E_townsN h2 hN (x := a.2.1 0) t.2.2.1.symm
    have g1 : (A_townNamed (a.2.1 0) a).toInt < 0 ↔ A_townNamed (a.2.1 0) a = -1 := ex_find_n (by omega)
    by_cases q : A_townNamed (a.2.1 0) a = -1
    · refine Or.inr (Or.inl ⟨A_townNamed (a.2.1 0) a, A_tt1 t.1 q, ?_⟩)
      unfold B_looksAt
      simp only [ex_lt]
      rw [if_neg (by rw [t.2.1]; exact C_n10), f1, if_pos (g1.mpr q)]
      unfold ex_bd
      exact if_pos (show (B_bad (3 : Int32) (sI 11 (A_townNamed (a.2.1 0) a) b)).1 = 0 from rfl)
    · refine Or.inr (Or.inr ⟨A_townNamed (a.2.1 0) a, A_tt3 t.1 q q, t.2.2.2, ?_⟩)
      unfold B_looksAt
      simp only [ex_lt]
      rw [if_neg (by rw [t.2.1]; exact C_n10), f1, if_neg (fun z => q (g1.mp z))]
theorem E_townB {a b : ex_S} (hR : E_R a b) (hN : E_Nm a b) : E_Q (fun a' b' => E_R a' b' ∧ A_J a a' ∧ B_J b b') (A_takeTown (-1 : Int32) a) (B_takesName (0 : Int32) ((b.2.2.1 1) 0) b) := by
  unfold B_takesName
  simp only [ex_bd]
  rcases E_lookB hR hN with ⟨t1, t2⟩ | ⟨t, t1, t2⟩ | ⟨t, t1, t2, t3⟩
  · rw [t1, t2, if_pos (show (B_bad (1 : Int32) b).1 = 0 from rfl)]
    exact Or.inl ⟨rfl, rfl, hR.2.2.2.1, rfl⟩
  · rw [t1, t2, if_pos (show (B_bad (3 : Int32) (sI 11 t b)).1 = 0 from rfl)]
    exact Or.inl ⟨rfl, rfl, hR.2.2.2.1, rfl⟩
  · rw [t1, t3, if_neg (show ¬ ((1 : Int32), sI 11 t b).1 = 0 from C_n10)]
    exact Or.inr ⟨rfl, rfl, E_nx (a := sI 7 t a) (b := sI 11 t b) hR.1 hR.2.1 hR.2.2.1 t2, A_J_t (A_K_J (kA_next _)) (A_J_I (by decide) (A_J_0 a)), B_J_t (B_K_J (kB_next _)) (B_J_I (by decide) (B_J_0 b))⟩
/-- a line of the class, what the loop asks ahead of it with it -/
noncomputable def A_bk1 (σ : ex_S) : Int32 × ex_S := if A_isAct (σ.1 6) = 0 then A_failAs (1 : Int32) σ else if (σ.1 23).toInt < ((40 : Int32)).toInt then A_bkLine σ else A_failAs (4 : Int32) σ
theorem E_act (w : Int32) : A_isAct w = 0 ∨ (A_isAct w = 1 ∧ (w = 8 ∨ w = 9 ∨ w = 10 ∨ w = 11 ∨ w = 12)) := by
  have e8 : (8 : Int32).toInt = 8 := by decide
  have e12 : (12 : Int32).toInt = 12 := by decide
  have n : ∀ {k : Int32} {i : Int}, k.toInt = i → w.toInt = i → w = k := fun hk hi => Int32.toInt_inj.mp (hi.trans hk.symm)
  unfold A_isAct
  by_cases c1 : (w).toInt < ((8 : Int32)).toInt
  · rw [if_pos c1]; exact Or.inl rfl
  · rw [if_neg c1]
    by_cases c2 : ((12 : Int32)).toInt < (w).toInt
    · rw [if_pos c2]; exact Or.inl rfl
    · rw [if_neg c2]
      refine Or.inr ⟨rfl, ?_⟩
      have h : w.toInt = 8 ∨ w.toInt = 9 ∨ w.toInt = 10 ∨ w.toInt = 11 ∨ w.toInt = 12 := by omega
      rcases h with h | h | h | h | h
      · exact Or.inl (n (by decide) h)
      · exact Or.inr (Or.inl (n (by decide) h))
      · exact Or.inr (Or.inr (Or.inl (n (by decide) h)))
      · exact Or.inr (Or.inr (Or.inr (Or.inl (n (by decide) h))))
      · exact Or.inr (Or.inr (Or.inr (Or.inr (n (by decide) h))))
noncomputable def bkA (σ : ex_S) : ex_S := sR 19 (upd (σ.2.2.1 19) ((σ.1 23)).toNatClampNeg (σ.1 6)) σ
noncomputable def bkT (σ : ex_S) : ex_S := sR 20 (upd (σ.2.2.1 20) ((σ.1 23)).toNatClampNeg (σ.1 7)) σ
theorem bkl_8 {σ : ex_S} (h : σ.1 6 = 8) : A_bkLine σ = ex_bd (A_takeTown (-1 : Int32) (A_next (bkA σ))) (fun r σ1 => if r = 0 then ((0 : Int32), σ1) else ex_bd (A_takeWay (bkT σ1)) (fun r σ2 => if r = 0 then ((0 : Int32), σ2) else ex_bd (A_takeNumber (1 : Int32) (10 : Int32) σ2) (fun r σ3 => if r = 0 then ((0 : Int32), σ3) else ((1 : Int32), sR 21 (upd (σ3.2.2.1 21) ((σ3.1 23)).toNatClampNeg ((σ3.1 8) * (σ3.1 7))) σ3)))) := by
  have n12 : ¬ σ.1 6 = 12 := by rw [h]; decide
  unfold A_bkLine
  simp only [ex_lt, if_pos h, if_neg n12]
  all_goals rfl
theorem bkl_9 {σ : ex_S} (h : σ.1 6 = 9 ∨ σ.1 6 = 10) : A_bkLine σ = ex_bd (A_takeTown (-1 : Int32) (A_next (bkA σ))) (fun r σ1 => if r = 0 then ((0 : Int32), σ1) else ((1 : Int32), bkT σ1)) := by
  have n8 : ¬ σ.1 6 = 8 := by rcases h with h | h <;> rw [h] <;> decide
  have n12 : ¬ σ.1 6 = 12 := by rcases h with h | h <;> rw [h] <;> decide
  unfold A_bkLine
  rcases h with h | h
  · simp only [ex_lt, if_neg n8, if_pos h, if_neg n12]
    all_goals rfl
  · have n9 : ¬ σ.1 6 = 9 := by rw [h]; decide
    simp only [ex_lt, if_neg n8, if_neg n9, if_pos h, if_neg n12]
    all_goals rfl
theorem bkl_11 {σ : ex_S} (h : σ.1 6 = 11) : A_bkLine σ = ((1 : Int32), A_next (bkA σ)) := by
  have n8 : ¬ σ.1 6 = 8 := by rw [h]; decide
  have n9 : ¬ σ.1 6 = 9 := by rw [h]; decide
  have n10 : ¬ σ.1 6 = 10 := by rw [h]; decide
  have n12 : ¬ σ.1 6 = 12 := by rw [h]; decide
  unfold A_bkLine
  simp only [ex_lt, if_neg n8, if_neg n9, if_neg n10, if_neg n12]
  all_goals rfl
theorem bkl_12 {σ : ex_S} (h : σ.1 6 = 12) : A_bkLine σ = ex_bd (A_takeNumber (1 : Int32) (60 : Int32) (A_next (bkA σ))) (fun r σ1 => if r = 0 then ((0 : Int32), σ1) else ((1 : Int32), sR 21 (upd (σ1.2.2.1 21) ((σ1.1 23)).toNatClampNeg (σ1.1 7)) σ1)) := by
  have n8 : ¬ σ.1 6 = 8 := by rw [h]; decide
  have n9 : ¬ σ.1 6 = 9 := by rw [h]; decide
  have n10 : ¬ σ.1 6 = 10 := by rw [h]; decide
  unfold A_bkLine
  simp only [ex_lt, if_neg n8, if_neg n9, if_neg n10, if_pos h]
  all_goals rfl
noncomputable def bkB (w : Int32) (σ : ex_S) : ex_S := sR 3 (upd ((B_next σ).2.2.1 3) (((3 : Int32) * (σ.1 20))).toNatClampNeg w) (B_next σ)
noncomputable def bkU (n : Int32) (σ : ex_S) : ex_S := sR 3 (upd (σ.2.2.1 3) ((((3 : Int32) * n) + (1 : Int32))).toNatClampNeg (σ.1 11)) σ
theorem bkr_8 {σ : ex_S} (h : B_isWord (1650814564 : Int64) σ = 1) : B_bkLine σ = if (σ.1 20) = (40 : Int32) then B_bad (4 : Int32) σ else ex_bd (B_takesName (0 : Int32) (((B_next σ).2.2.1 1) 0) (bkB (0 : Int32) σ)) (fun r σ1 => if r = 0 then ((0 : Int32), σ1) else ex_bd (B_takesWay (1 : Int32) (10 : Int32) (bkU (σ.1 20) σ1)) (fun r σ2 => if r = 0 then ((0 : Int32), σ2) else ((1 : Int32), sR 3 (upd (σ2.2.2.1 3) ((((3 : Int32) * (σ.1 20)) + (2 : Int32))).toNatClampNeg (σ2.1 11)) σ2))) := by
  have n : ¬ B_isWord (1650814564 : Int64) σ = 0 := by rw [h]; exact C_n10
  unfold B_bkLine
  simp only [ex_lt, ex_bdp, if_neg n]
  all_goals rfl
theorem bkr_9 {σ : ex_S} (h0 : B_isWord (1650814564 : Int64) σ = 0) (h : B_isWord (495672452197 : Int64) σ = 1) : B_bkLine σ = if (σ.1 20) = (40 : Int32) then B_bad (4 : Int32) σ else ex_bd (B_takesName (0 : Int32) (((B_next σ).2.2.1 1) 0) (bkB (1 : Int32) σ)) (fun r σ1 => if r = 0 then ((0 : Int32), σ1) else ((1 : Int32), bkU (σ.1 20) σ1)) := by
  have n : ¬ B_isWord (495672452197 : Int64) σ = 0 := by rw [h]; exact C_n10
  unfold B_bkLine
  simp only [ex_lt, ex_bdp, if_pos h0, if_neg n]
  all_goals rfl
theorem bkr_10 {σ : ex_S} (h0 : B_isWord (1650814564 : Int64) σ = 0) (h1 : B_isWord (495672452197 : Int64) σ = 0) (h : B_isWord (427020345714 : Int64) σ = 1) : B_bkLine σ = if (σ.1 20) = (40 : Int32) then B_bad (4 : Int32) σ else ex_bd (B_takesName (0 : Int32) (((B_next σ).2.2.1 1) 0) (bkB (2 : Int32) σ)) (fun r σ1 => if r = 0 then ((0 : Int32), σ1) else ((1 : Int32), bkU (σ.1 20) σ1)) := by
  have n : ¬ B_isWord (427020345714 : Int64) σ = 0 := by rw [h]; exact C_n10
  unfold B_bkLine
  simp only [ex_lt, ex_bdp, if_pos h0, if_pos h1, if_neg n]
  all_goals rfl
theorem bkr_11 {σ : ex_S} (h0 : B_isWord (1650814564 : Int64) σ = 0) (h1 : B_isWord (495672452197 : Int64) σ = 0) (h2 : B_isWord (427020345714 : Int64) σ = 0) (h : B_isWord (112641513454181 : Int64) σ = 1) : B_bkLine σ = if (σ.1 20) = (40 : Int32) then B_bad (4 : Int32) σ else ((1 : Int32), bkB (3 : Int32) σ) := by
  have n : ¬ B_isWord (112641513454181 : Int64) σ = 0 := by rw [h]; exact C_n10
  unfold B_bkLine
  simp only [ex_lt, ex_bdp, if_pos h0, if_pos h1, if_pos h2, if_neg n]
  all_goals rfl
theorem bkr_12 {σ : ex_S} (h0 : B_isWord (1650814564 : Int64) σ = 0) (h1 : B_isWord (495672452197 : Int64) σ = 0) (h2 : B_isWord (427020345714 : Int64) σ = 0) (h3 : B_isWord (112641513454181 : Int64) σ = 0) (h : B_isWord (6578553 : Int64) σ = 1) : B_bkLine σ = if (σ.1 20) = (40 : Int32) then B_bad (4 : Int32) σ else ex_bd (B_takes (1 : Int32) (60 : Int32) (bkB (4 : Int32) σ)) (fun r σ1 => if r = 0 then ((0 : Int32), σ1) else ((1 : Int32), bkU (σ.1 20) σ1)) := by
  have n : ¬ B_isWord (6578553 : Int64) σ = 0 := by rw [h]; exact C_n10
  unfold B_bkLine
  simp only [ex_lt, ex_bdp, if_pos h0, if_pos h1, if_pos h2, if_pos h3, if_neg n]
  all_goals rfl
theorem bkr_0 {σ : ex_S} (h0 : B_isWord (1650814564 : Int64) σ = 0) (h1 : B_isWord (495672452197 : Int64) σ = 0) (h2 : B_isWord (427020345714 : Int64) σ = 0) (h3 : B_isWord (112641513454181 : Int64) σ = 0) (h4 : B_isWord (6578553 : Int64) σ = 0) : B_bkLine σ = B_bad (1 : Int32) σ := by
  unfold B_bkLine
  simp only [ex_lt, ex_bdp, if_pos h0, if_pos h1, if_pos h2, if_pos h3, if_pos h4]
theorem E_bk1 {a b : ex_S} (h : EB a b) (h40 : (a.1 23).toInt ≤ 40) : E_Q EB (A_bk1 a) (B_bkLine b) := by
  have hT := h.1.2.2.2
  have e40 : (40 : Int32).toInt = 40 := by decide
  have w8 := E_w hT (k := 8) (n := 8) (w := (1650814564 : Int64)) (by decide) rfl (by decide +kernel)
  have w9 := E_w hT (k := 9) (n := 9) (w := (495672452197 : Int64)) (by decide) rfl (by decide +kernel)
  have w10 := E_w hT (k := 10) (n := 10) (w := (427020345714 : Int64)) (by decide) rfl (by decide +kernel)
  have w11 := E_w hT (k := 11) (n := 11) (w := (112641513454181 : Int64)) (by decide) rfl (by decide +kernel)
  have w12 := E_w hT (k := 12) (n := 12) (w := (6578553 : Int64)) (by decide) rfl (by decide +kernel)
  have many : ¬ (a.1 23).toInt < ((40 : Int32)).toInt → b.1 20 = (40 : Int32) := fun c => by
    rw [← h.2.2.2]
    exact Int32.toInt_inj.mp (by omega)
  have few : (a.1 23).toInt < ((40 : Int32)).toInt → ¬ b.1 20 = (40 : Int32) := fun c q => by
    rw [← h.2.2.2] at q
    rw [q] at c
    exact absurd c (Int.lt_irrefl _)
  have nx : a.1 2 = b.1 3 → ∀ w, EB (A_next (bkA a)) (bkB w b) := fun hp w => EB_B (EB_nx (a := bkA a) (EB_A (by decide) h) hp)
  have isa : A_isAct (a.1 6) = 1 → A_bk1 a = if (a.1 23).toInt < ((40 : Int32)).toInt then A_bkLine a else A_failAs (4 : Int32) a := fun q => by
    unfold A_bk1
    exact if_neg (by rw [q]; exact C_n10)
  rcases w8 with w | w8
  · rw [isa (by rw [w.1]; decide +kernel), bkr_8 w.2.1]
    by_cases c : (a.1 23).toInt < ((40 : Int32)).toInt
    · rw [if_pos c, if_neg (few c), bkl_8 w.1]
      have E1 := nx w.2.2 (0 : Int32)
      refine E_bind (E_townB E1.1 E1.2.1) (fun a2 b2 h2 => ?_)
      have E2 : EB (bkT a2) (bkU (b.1 20) b2) := EB_B (EB_A (by decide) (EB_k E1 h2.1 h2.2.1 h2.2.2))
      rw [ex_asc]
      refine E_bind (E_way E2.1) (fun a3 b3 h3 => Or.inr ⟨rfl, rfl, ?_⟩)
      exact EB_B (EB_A (by decide) (EB_k E2 h3.1 h3.2.1 h3.2.2.1))
    · rw [if_neg c, if_pos (many c)]
      exact E_fail hT
  rcases w9 with w | w9
  · rw [isa (by rw [w.1]; decide +kernel), bkr_9 w8.2 w.2.1]
    by_cases c : (a.1 23).toInt < ((40 : Int32)).toInt
    · rw [if_pos c, if_neg (few c), bkl_9 (Or.inl w.1)]
      have E1 := nx w.2.2 (1 : Int32)
      refine E_bind (E_townB E1.1 E1.2.1) (fun a2 b2 h2 => Or.inr ⟨rfl, rfl, ?_⟩)
      exact EB_B (EB_A (by decide) (EB_k E1 h2.1 h2.2.1 h2.2.2))
    · rw [if_neg c, if_pos (many c)]
      exact E_fail hT
  rcases w10 with w | w10
  · rw [isa (by rw [w.1]; decide +kernel), bkr_10 w8.2 w9.2 w.2.1]
    by_cases c : (a.1 23).toInt < ((40 : Int32)).toInt
    · rw [if_pos c, if_neg (few c), bkl_9 (Or.inr w.1)]
      have E1 := nx w.2.2 (2 : Int32)
      refine E_bind (E_townB E1.1 E1.2.1) (fun a2 b2 h2 => Or.inr ⟨rfl, rfl, ?_⟩)
      exact EB_B (EB_A (by decide) (EB_k E1 h2.1 h2.2.1 h2.2.2))
    · rw [if_neg c, if_pos (many c)]
      exact E_fail hT
  rcases w11 with w | w11
  · rw [isa (by rw [w.1]; decide +kernel), bkr_11 w8.2 w9.2 w10.2 w.2.1]
    by_cases c : (a.1 23).toInt < ((40 : Int32)).toInt
    · rw [if_pos c, if_neg (few c), bkl_11 w.1]
      exact Or.inr ⟨rfl, rfl, nx w.2.2 (3 : Int32)⟩
    · rw [if_neg c, if_pos (many c)]
      exact E_fail hT
  rcases w12 with w | w12
  · rw [isa (by rw [w.1]; decide +kernel), bkr_12 w8.2 w9.2 w10.2 w11.2 w.2.1]
    by_cases c : (a.1 23).toInt < ((40 : Int32)).toInt
    · rw [if_pos c, if_neg (few c), bkl_12 w.1]
      have E1 := nx w.2.2 (4 : Int32)
      refine E_bind (E_num E1.1) (fun a2 b2 h2 => Or.inr ⟨rfl, rfl, ?_⟩)
      exact EB_B (EB_A (by decide) (EB_k E1 h2.1 h2.2.2.1 h2.2.2.2.1))
    · rw [if_neg c, if_pos (many c)]
      exact E_fail hT
  · rcases E_act (a.1 6) with q | ⟨-, q⟩
    · unfold A_bk1
      rw [if_pos q, bkr_0 w8.2 w9.2 w10.2 w11.2 w12.2]
      exact E_fail hT
    · exfalso
      rcases q with q | q | q | q | q
      · exact w8.1 q
      · exact w9.1 q
      · exact w10.1 q
      · exact w11.1 q
      · exact w12.1 q
theorem A_bk_eq {k : Nat} {τ : ex_S} : A_bk (k + 1) τ = if A_atEnd τ = 0 then ex_bd (A_bk1 τ) (fun r σ => if r = 0 then ((0 : Int32), σ) else ex_bd (A_takeSign (59 : Int32) σ) (fun r χ => if r = 0 then ((0 : Int32), χ) else A_bk k (sI 23 ((χ.1 23) + (1 : Int32)) χ))) else ((1 : Int32), τ) := by
  rw [A_bk_s]
  unfold A_bk1
  simp only [ex_lt, ex_bdp]
  by_cases c1 : A_atEnd τ = 0
  · rw [if_pos c1, if_pos c1]
    by_cases c2 : A_isAct (τ.1 6) = 0
    · rw [if_pos c2, if_pos c2]
      rfl
    · rw [if_neg c2, if_neg c2]
      by_cases c3 : (τ.1 23).toInt < ((40 : Int32)).toInt
      · rw [if_pos c3, if_pos c3]
      · rw [if_neg c3, if_neg c3]
        rfl
  · rw [if_neg c1, if_neg c1]
noncomputable def B_bk : Nat → ex_S → Int32 × ex_S
  | 0, τ => ((1 : Int32), τ)
  | k + 1, τ => if (τ.1 5) = 0 then ((1 : Int32), τ) else ex_bd (B_bkLine τ) (fun r σ => if r = 0 then ((0 : Int32), σ) else ex_bd (B_sign (59 : Int32) σ) (fun r χ => if r = 0 then ((0 : Int32), χ) else B_bk k (sI 20 ((χ.1 20) + (1 : Int32)) χ)))
theorem B_bk_s {k : Nat} {τ : ex_S} : B_bk (k + 1) τ = if (τ.1 5) = 0 then ((1 : Int32), τ) else ex_bd (B_bkLine τ) (fun r σ => if r = 0 then ((0 : Int32), σ) else ex_bd (B_sign (59 : Int32) σ) (fun r χ => if r = 0 then ((0 : Int32), χ) else B_bk k (sI 20 ((χ.1 20) + (1 : Int32)) χ))) := rfl
theorem E_bk : ∀ (k : Nat) (a b : ex_S), EB a b → BK_INV a → 40 - (a.1 23).toInt < (k : Int) → (A_bk k a).1 = (B_bk k b).1 ∧ (A_bk k a).2.1 9 = (B_bk k b).2.1 9 := by
  intro k
  induction k with
  | zero => intro a b h hI hk; exfalso; have h9 := hI.2; omega
  | succ k ih =>
    intro a b h hI hk
    rw [A_bk_eq, B_bk_s]
    have he : (A_atEnd a = 1 ∧ b.1 5 = 0) ∨ (A_atEnd a = 0 ∧ ¬ b.1 5 = 0) := by
      unfold A_atEnd
      rcases h.1.2.2.2.2 with t | t | t | t | t
      · exact Or.inl ⟨if_pos t.1, t.2.1⟩
      · exact Or.inr ⟨if_neg (by rw [t.1]; decide), by rw [t.2.1]; decide⟩
      · exact Or.inr ⟨if_neg (by rw [t.1]; decide), by rw [t.2.1]; decide⟩
      · exact Or.inr ⟨if_neg (fun q => by have g := t.1; rw [q] at g; exact absurd g (by decide +kernel)), by rw [t.2.1]; decide⟩
      · exact Or.inr ⟨if_neg (by rw [t.1]; decide), by rw [t.2.1]; decide⟩
    rcases he with t | t
    · rw [if_neg (by rw [t.1]; exact C_n10), if_pos t.2]
      exact ⟨rfl, h.2.2.1⟩
    · rw [if_pos t.1, if_neg t.2, ex_asc, ex_asc]
      have r : E_Q EB (ex_bd (A_bk1 a) (fun r σ => if r = 0 then ((0 : Int32), σ) else A_takeSign (59 : Int32) σ)) (ex_bd (B_bkLine b) (fun r σ => if r = 0 then ((0 : Int32), σ) else B_sign (59 : Int32) σ)) := E_bind (E_bk1 h hI.2.2) (fun a' b' h' => E_Q_imp (E_sign h'.1) (fun _ _ g => EB_k h' g.1 g.2.1 g.2.2))
      have f1 : ∀ σ : ex_S, A_FR σ (A_bk1 σ).2 := fun σ => by
        unfold A_bk1
        split
        · exact fr_X4_failAs _ _
        · split
          · exact BL_FR σ
          · exact fr_X4_failAs _ _
      have f2 : (ex_bd (A_bk1 a) (fun r σ => if r = 0 then ((0 : Int32), σ) else A_takeSign (59 : Int32) σ)).2.1 23 = a.1 23 := by
        simp only [ex_bd]
        split
        · exact (f1 a).1 23 (by decide)
        · exact ((fr_X4_takeSign (59 : Int32) (A_bk1 a).2).1 23 (by decide)).trans ((f1 a).1 23 (by decide))
      have f3 : ¬ (ex_bd (A_bk1 a) (fun r σ => if r = 0 then ((0 : Int32), σ) else A_takeSign (59 : Int32) σ)).1 = 0 → (a.1 23).toInt < 40 := by
        intro q
        refine Classical.byContradiction (fun c => q ?_)
        have e40 : (40 : Int32).toInt = 40 := by decide
        have z : (A_bk1 a).1 = 0 := by
          unfold A_bk1
          split
          · rfl
          · rw [if_neg (by omega)]; rfl
        simp only [ex_bd]
        exact congrArg Prod.fst (if_pos z)
      have i1 : A_INV (ex_bd (A_bk1 a) (fun r σ => if r = 0 then ((0 : Int32), σ) else A_takeSign (59 : Int32) σ)).2 := by
        have g : A_INV (A_bk1 a).2 := by
          unfold A_bk1
          split
          · exact inv_X4_failAs _ _ hI.1
          · split
            · exact BL_INV a hI.1
            · exact inv_X4_failAs _ _ hI.1
        simp only [ex_bd]
        split
        · exact g
        · exact inv_X4_takeSign _ _ g
      generalize ex_bd (A_bk1 a) (fun r σ => if r = 0 then ((0 : Int32), σ) else A_takeSign (59 : Int32) σ) = x at r f2 f3 i1 ⊢
      generalize ex_bd (B_bkLine b) (fun r σ => if r = 0 then ((0 : Int32), σ) else B_sign (59 : Int32) σ) = y at r ⊢
      simp only [ex_bd]
      rcases r with r | r
      · rw [E_if0 r.1, E_if0 r.2.1]
        exact ⟨rfl, r.2.2.2⟩
      · rw [E_if1 r.1, E_if1 r.2.1]
        have l := f3 (by rw [r.1]; exact C_n10)
        have h9 := hI.2
        have e := ex_inc (p := x.2.1 23) (n := (40 : Int32)) (by rw [f2]; have e40 : (40 : Int32).toInt = 40 := (by decide); omega)
        rw [f2] at e
        refine ih _ _ ⟨r.2.2.1, r.2.2.2.1, r.2.2.2.2.1, ?_⟩ ⟨i1, ?_⟩ ?_
        · show (x.2.1 23) + (1 : Int32) = (y.2.1 20) + (1 : Int32)
          rw [r.2.2.2.2.2]
        · show 0 ≤ ((x.2.1 23) + (1 : Int32)).toInt ∧ ((x.2.1 23) + (1 : Int32)).toInt ≤ 40
          rw [f2]
          omega
        · show 40 - ((x.2.1 23) + (1 : Int32)).toInt < (k : Int)
          rw [f2]
          omega
