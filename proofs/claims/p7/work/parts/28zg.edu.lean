/-! due: both sides answer alike where the terms' rows are alike. -/
theorem E_isTown {t : Int32} {a b : ex_S} (hN : 0 ≤ (a.1 0).toInt ∧ (a.1 0).toInt ≤ 7) (e0 : b.2.2.1 0 0 = a.1 0) : (D_hasTown t a = 0 ∧ J_isTown t b = 0) ∨ (¬ D_hasTown t a = 0 ∧ ¬ J_isTown t b = 0) := by
  have e : J_isTown t b = B_isIn t (0 : Int32) (a.1 0 - (1 : Int32)) := by
    unfold J_isTown
    rw [e0]
    rfl
  have f0 : (0 : Int32).toInt = 0 := by decide
  have f1 : (1 : Int32).toInt = 1 := by decide
  have f2 : (a.1 0 - (1 : Int32)).toInt = (a.1 0).toInt - 1 := by
    rw [Int32.toInt_sub, f1]
    exact Int.bmod_eq_of_le (by omega) (by omega)
  rw [e]
  unfold D_hasTown B_isIn
  by_cases c1 : t.toInt < 0
  · exact Or.inl ⟨by rw [if_pos c1], by rw [if_pos (by omega)]⟩
  · by_cases c2 : t.toInt < (a.1 0).toInt
    · exact Or.inr ⟨by rw [if_neg c1, if_pos c2]; decide, by rw [if_neg (by omega), if_neg (by omega)]; decide⟩
    · exact Or.inl ⟨by rw [if_neg c1, if_neg c2], by rw [if_neg (by omega), if_pos (by omega)]⟩
abbrev ex_due_rows (a b : ex_S) : Prop := ∀ j : Nat, j < (a.1 1).toInt.toNat → a.2.2.1 2 j = b.2.2.1 0 (20 + j) ∧ a.2.2.1 3 j = b.2.2.1 0 (32 + j) ∧ a.2.2.1 4 j = b.2.2.1 0 (44 + j) ∧ a.2.2.1 5 j = b.2.2.1 0 (56 + j)
theorem E_dueOn {t day : Int32} {a b : ex_S} (e1 : b.2.2.1 0 1 = a.1 1) (er : ex_due_rows a b) (hb : ∀ j : Nat, j < (a.1 1).toInt.toNat → -60 ≤ (a.2.2.1 5 j).toInt ∧ (a.2.2.1 5 j).toInt ≤ 60) : (D_dueOn t day a = (10000 : Int32) ∧ J_dueOf t day b = (99 : Int32)) ∨ (¬ D_dueOn t day a = (10000 : Int32) ∧ ¬ J_dueOf t day b = (99 : Int32) ∧ J_dueOf t day b = D_dueOn t day a) := by
  have d2 : J_dueOf t day b = ex_dn (99 : Int32) (fun j => b.2.2.1 0 (20 + j)) (fun j => b.2.2.1 0 (32 + j)) (fun j => b.2.2.1 0 (44 + j)) (fun j => b.2.2.1 0 (56 + j)) t day (a.1 1).toInt.toNat 0 := by
    unfold J_dueOf
    rw [e1]
  have key := ex_dn_eq (nf := (10000 : Int32)) (nf' := (99 : Int32)) (tt := a.2.2.1 2) (tf := a.2.2.1 3) (tto := a.2.2.1 4) (tb := a.2.2.1 5) (tt' := fun j => b.2.2.1 0 (20 + j)) (tf' := fun j => b.2.2.1 0 (32 + j)) (tto' := fun j => b.2.2.1 0 (44 + j)) (tb' := fun j => b.2.2.1 0 (56 + j)) (t := t) (day := day) (a.1 1).toInt.toNat 0 (fun j _ g2 => er j (by omega))
  rw [← d2] at key
  have d1 : D_dueOn t day a = ex_dn (10000 : Int32) (a.2.2.1 2) (a.2.2.1 3) (a.2.2.1 4) (a.2.2.1 5) t day (a.1 1).toInt.toNat 0 := rfl
  rw [← d1] at key
  have f1 : (10000 : Int32).toInt = 10000 := by decide
  have f2 : (99 : Int32).toInt = 99 := by decide
  rcases key with h | ⟨j, g1, g2, g3, g4⟩
  · exact Or.inl h
  · have h9 := hb j (by omega)
    refine Or.inr ⟨fun h => ?_, fun h => ?_, g4.trans g3.symm⟩
    · rw [← g3, h, f1] at h9
      omega
    · rw [← g4, h, f2] at h9
      omega
noncomputable def J_due9 (t day : Int32) (q : Int32 × ex_S) : Int32 × ex_S := if q.1 = 0 then (J_dueOf t day q.2, q.2) else ((0 : Int32), q.2)
theorem J_due_eq (t day : Int32) (b : ex_S) : J_due t day b = if J_isTown t b = 0 then J_due9 t day (J_throwsIf (1 : Int32) b) else if B_isIn day (0 : Int32) (399 : Int32) = 0 then J_due9 t day (J_throwsIf (1 : Int32) b) else if J_dueOf t day b = (99 : Int32) then J_due9 t day (J_throwsIf (1 : Int32) b) else J_due9 t day (J_throwsIf (0 : Int32) b) := rfl
theorem J_due1 (t day : Int32) (b : ex_S) : J_due9 t day (J_throwsIf (1 : Int32) b) = ((0 : Int32), sI 0 (1 : Int32) b) := by
  rw [J_thr1]
  exact if_neg (show ¬ (1 : Int32) = 0 from by decide)
theorem J_due0 (t day : Int32) (b : ex_S) : J_due9 t day (J_throwsIf (0 : Int32) b) = (J_dueOf t day b, sI 0 (0 : Int32) b) := by
  rw [J_thr0]
  exact if_pos rfl
theorem D_due_eq (t day : Int32) (a : ex_S) : D_due t day a = if D_hasTown t a = 0 then none else if day.toInt < 0 then none else if day.toInt < (400 : Int32).toInt then (if D_dueOn t day a = (10000 : Int32) then none else some (D_dueOn t day a)) else none := rfl
theorem E_due {t day : Int32} {a b : ex_S} (hN : 0 ≤ (a.1 0).toInt ∧ (a.1 0).toInt ≤ 7) (e0 : b.2.2.1 0 0 = a.1 0) (e1 : b.2.2.1 0 1 = a.1 1) (er : ex_due_rows a b) (hb : ∀ j : Nat, j < (a.1 1).toInt.toNat → -60 ≤ (a.2.2.1 5 j).toInt ∧ (a.2.2.1 5 j).toInt ≤ 60) : (∃ v : Int32, D_due t day a = some v ∧ J_due t day b = (v, sI 0 (0 : Int32) b)) ∨ (D_due t day a = none ∧ J_due t day b = ((0 : Int32), sI 0 (1 : Int32) b)) := by
  have f0 : (0 : Int32).toInt = 0 := by decide
  have f1 : (399 : Int32).toInt = 399 := by decide
  have f2 : (400 : Int32).toInt = 400 := by decide
  rw [D_due_eq, J_due_eq, J_due1, J_due0]
  rcases E_isTown (t := t) hN e0 with ⟨h1, h2⟩ | ⟨h1, h2⟩
  · rw [if_pos h1, if_pos h2]
    exact Or.inr ⟨rfl, rfl⟩
  · rw [if_neg h1, if_neg h2]
    by_cases c1 : day.toInt < 0
    · have h3 : B_isIn day (0 : Int32) (399 : Int32) = 0 := by
        unfold B_isIn
        exact if_pos (by omega)
      rw [if_pos c1, if_pos h3]
      exact Or.inr ⟨rfl, rfl⟩
    · rw [if_neg c1]
      by_cases c2 : day.toInt < (400 : Int32).toInt
      · have h3 : ¬ B_isIn day (0 : Int32) (399 : Int32) = 0 := by
          unfold B_isIn
          rw [if_neg (by omega), if_neg (by omega)]
          decide
        rw [if_pos c2, if_neg h3]
        rcases E_dueOn (t := t) (day := day) e1 er hb with ⟨g1, g2⟩ | ⟨g1, g2, g3⟩
        · rw [if_pos g1, if_pos g2]
          exact Or.inr ⟨rfl, rfl⟩
        · rw [if_neg g1, if_neg g2, g3]
          exact Or.inl ⟨_, rfl, rfl⟩
      · have h3 : B_isIn day (0 : Int32) (399 : Int32) = 0 := by
          unfold B_isIn
          rw [if_neg (by omega), if_pos (by omega)]
        rw [if_neg c2, if_pos h3]
        exact Or.inr ⟨rfl, rfl⟩
