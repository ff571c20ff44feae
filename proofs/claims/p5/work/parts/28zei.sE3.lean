/-! The sentence: one, its pieces; all of it. -/
theorem E_Tc {a b : ex_S} (h : E_T a b) {c : Int32} (hc : A_isSign c = 1) : (a.1 4 = c ∧ b.1 5 = 3 ∧ b.1 8 = c ∧ a.1 2 = b.1 3) ∨ (¬ a.1 4 = c ∧ ¬ (b.1 5 = 3 ∧ b.1 8 = c)) := by
  have no : ∀ x : Int32, A_isSign x = 0 → ¬ x = c := fun x hx q => by
    rw [q, hc] at hx
    exact absurd hx (by decide)
  rcases h.2 with t | t | t | t | t
  · exact Or.inr ⟨by rw [t.1]; exact no 1 (by decide +kernel), by rw [t.2.1]; exact fun q => absurd q.1 (by decide)⟩
  · exact Or.inr ⟨by rw [t.1]; exact no 2 (by decide +kernel), by rw [t.2.1]; exact fun q => absurd q.1 (by decide)⟩
  · exact Or.inr ⟨by rw [t.1]; exact no 3 (by decide +kernel), by rw [t.2.1]; exact fun q => absurd q.1 (by decide)⟩
  · by_cases hk : a.1 4 = c
    · exact Or.inl ⟨hk, t.2.1, t.2.2.2.1.trans hk, t.2.2.2.2⟩
    · exact Or.inr ⟨hk, fun q => hk (t.2.2.2.1.symm.trans q.2)⟩
  · exact Or.inr ⟨by rw [t.1]; exact no 0 (by decide +kernel), by rw [t.2.1]; exact fun q => absurd q.1 (by decide)⟩
theorem B_sgn_1 {b : ex_S} {c : Int32} (h1 : b.1 5 = 3) (h2 : b.1 8 = c) : B_isSign c b = 1 := by
  unfold B_isSign
  exact (if_pos h1).trans (if_pos h2)
theorem B_sgn_0 {b : ex_S} {c : Int32} (h : ¬ (b.1 5 = 3 ∧ b.1 8 = c)) : B_isSign c b = 0 := by
  unfold B_isSign
  by_cases h1 : b.1 5 = 3
  · exact (if_pos h1).trans (if_neg (fun q => h ⟨h1, q⟩))
  · exact if_neg h1
theorem E_w {a b : ex_S} (h : E_T a b) {k : Nat} {n : Int32} {w : Int64} (hk : k < 22) (hn : nI k = n) (hw : ex_wd k = w) : (a.1 6 = n ∧ B_isWord w b = 1 ∧ a.1 2 = b.1 3) ∨ (¬ a.1 6 = n ∧ B_isWord w b = 0) := by
  have r := E_wd h hk
  rw [hn, hw] at r
  exact r
/-- leaves, by both sides' numbers -/
noncomputable def LF (w lf : Int32) : Prop := (w = 16 ∧ lf = 0) ∨ (w = 17 ∧ lf = 1) ∨ (w = 18 ∧ lf = 2) ∨ (w = 19 ∧ lf = 3) ∨ ((w = 1 ∧ lf = 4) ∨ (w = 2 ∧ lf = 5) ∨ (w = 20 ∧ lf = 6) ∨ (w = 21 ∧ lf = 7))
theorem E_leaf {a b : ex_S} (h : E_T a b) : (A_beginsOne (a.1 6) = 0 ∧ B_isWord (7237492 : Int64) b = 0 ∧ B_leafOf b = -1) ∨ (A_beginsOne (a.1 6) = 1 ∧ a.1 6 = 15 ∧ B_isWord (7237492 : Int64) b = 1 ∧ a.1 2 = b.1 3) ∨ (A_beginsOne (a.1 6) = 1 ∧ ¬ a.1 6 = 15 ∧ B_isWord (7237492 : Int64) b = 0 ∧ a.1 2 = b.1 3 ∧ LF (a.1 6) (B_leafOf b) ∧ ¬ (B_leafOf b).toInt < 0) := by
  have w15 := E_w h (k := 15) (n := 15) (w := (7237492 : Int64)) (by decide) rfl (by decide +kernel)
  have w16 := E_w h (k := 16) (n := 16) (w := (491394656372 : Int64)) (by decide) rfl (by decide +kernel)
  have w17 := E_w h (k := 17) (n := 17) (w := (126892147762532 : Int64)) (by decide) rfl (by decide +kernel)
  have w18 := E_w h (k := 18) (n := 18) (w := (108243466675048 : Int64)) (by decide) rfl (by decide +kernel)
  have w19 := E_w h (k := 19) (n := 19) (w := (418363302244 : Int64)) (by decide) rfl (by decide +kernel)
  have w1 := E_w h (k := 1) (n := 1) (w := (1717662580 : Int64)) (by decide) rfl (by decide +kernel)
  have w2 := E_w h (k := 2) (n := 2) (w := (1936486263 : Int64)) (by decide) rfl (by decide +kernel)
  have w20 := E_w h (k := 20) (n := 20) (w := (108243635103086 : Int64)) (by decide) rfl (by decide +kernel)
  have w21 := E_w h (k := 21) (n := 21) (w := (121450625394034 : Int64)) (by decide) rfl (by decide +kernel)
  rcases w15 with w15 | w15
  · exact Or.inr (Or.inl ⟨by rw [w15.1]; decide +kernel, w15.1, w15.2.1, w15.2.2⟩)
  have go : ∀ lf : Int32, A_beginsOne (a.1 6) = 1 → a.1 2 = b.1 3 → LF (a.1 6) lf → B_leafOf b = lf → ¬ lf.toInt < 0 → (A_beginsOne (a.1 6) = 0 ∧ B_isWord (7237492 : Int64) b = 0 ∧ B_leafOf b = -1) ∨ (A_beginsOne (a.1 6) = 1 ∧ a.1 6 = 15 ∧ B_isWord (7237492 : Int64) b = 1 ∧ a.1 2 = b.1 3) ∨ (A_beginsOne (a.1 6) = 1 ∧ ¬ a.1 6 = 15 ∧ B_isWord (7237492 : Int64) b = 0 ∧ a.1 2 = b.1 3 ∧ LF (a.1 6) (B_leafOf b) ∧ ¬ (B_leafOf b).toInt < 0) := fun lf h1 h2 h3 h4 h5 => Or.inr (Or.inr ⟨h1, w15.1, w15.2, h2, by rw [h4]; exact h3, by rw [h4]; exact h5⟩)
  rcases w16 with w | w16
  · exact go 0 (by rw [w.1]; decide +kernel) w.2.2 (Or.inl ⟨w.1, rfl⟩) (by unfold B_leafOf; simp only [ex_lt]; rw [E_if1 w.2.1]) (by decide)
  rcases w17 with w | w17
  · exact go 1 (by rw [w.1]; decide +kernel) w.2.2 (Or.inr (Or.inl ⟨w.1, rfl⟩)) (by unfold B_leafOf; simp only [ex_lt]; rw [E_if0 w16.2, E_if1 w.2.1]) (by decide)
  rcases w18 with w | w18
  · exact go 2 (by rw [w.1]; decide +kernel) w.2.2 (Or.inr (Or.inr (Or.inl ⟨w.1, rfl⟩))) (by unfold B_leafOf; simp only [ex_lt]; rw [E_if0 w16.2, E_if0 w17.2, E_if1 w.2.1]) (by decide)
  rcases w19 with w | w19
  · exact go 3 (by rw [w.1]; decide +kernel) w.2.2 (Or.inr (Or.inr (Or.inr (Or.inl ⟨w.1, rfl⟩)))) (by unfold B_leafOf; simp only [ex_lt]; rw [E_if0 w16.2, E_if0 w17.2, E_if0 w18.2, E_if1 w.2.1]) (by decide)
  rcases w1 with w | w1
  · exact go 4 (by rw [w.1]; decide +kernel) w.2.2 (Or.inr (Or.inr (Or.inr (Or.inr (Or.inl ⟨w.1, rfl⟩))))) (by unfold B_leafOf; simp only [ex_lt]; rw [E_if0 w16.2, E_if0 w17.2, E_if0 w18.2, E_if0 w19.2, E_if1 w.2.1]) (by decide)
  rcases w2 with w | w2
  · exact go 5 (by rw [w.1]; decide +kernel) w.2.2 (Or.inr (Or.inr (Or.inr (Or.inr (Or.inr (Or.inl ⟨w.1, rfl⟩)))))) (by unfold B_leafOf; simp only [ex_lt]; rw [E_if0 w16.2, E_if0 w17.2, E_if0 w18.2, E_if0 w19.2, E_if0 w1.2, E_if1 w.2.1]) (by decide)
  rcases w20 with w | w20
  · exact go 6 (by rw [w.1]; decide +kernel) w.2.2 (Or.inr (Or.inr (Or.inr (Or.inr (Or.inr (Or.inr (Or.inl ⟨w.1, rfl⟩))))))) (by unfold B_leafOf; simp only [ex_lt]; rw [E_if0 w16.2, E_if0 w17.2, E_if0 w18.2, E_if0 w19.2, E_if0 w1.2, E_if0 w2.2, E_if1 w.2.1]) (by decide)
  rcases w21 with w | w21
  · exact go 7 (by rw [w.1]; decide +kernel) w.2.2 (Or.inr (Or.inr (Or.inr (Or.inr (Or.inr (Or.inr (Or.inr ⟨w.1, rfl⟩))))))) (by unfold B_leafOf; simp only [ex_lt]; rw [E_if0 w16.2, E_if0 w17.2, E_if0 w18.2, E_if0 w19.2, E_if0 w1.2, E_if0 w2.2, E_if0 w20.2, E_if1 w.2.1]) (by decide)
  refine Or.inl ⟨?_, w15.2, by unfold B_leafOf; simp only [ex_lt]; rw [E_if0 w16.2, E_if0 w17.2, E_if0 w18.2, E_if0 w19.2, E_if0 w1.2, E_if0 w2.2, E_if0 w20.2, E_if0 w21.2]⟩
  have e15 : (15 : Int32).toInt = 15 := by decide
  have e21 : (21 : Int32).toInt = 21 := by decide
  have n : ∀ {k : Int32} {i : Int}, ¬ a.1 6 = k → k.toInt = i → ¬ (a.1 6).toInt = i := fun hk hi q => hk (Int32.toInt_inj.mp (q.trans hi.symm))
  have n15 := n w15.1 (i := 15) (by decide)
  have n16 := n w16.1 (i := 16) (by decide)
  have n17 := n w17.1 (i := 17) (by decide)
  have n18 := n w18.1 (i := 18) (by decide)
  have n19 := n w19.1 (i := 19) (by decide)
  have n20 := n w20.1 (i := 20) (by decide)
  have n21 := n w21.1 (i := 21) (by decide)
  unfold A_beginsOne
  rw [if_neg w1.1, if_neg w2.1]
  by_cases c : (a.1 6).toInt < ((15 : Int32)).toInt
  · exact if_pos c
  · rw [if_neg c]
    exact if_pos (by omega)
/-- a sign that compares -/
theorem K_sgn {a b : ex_S} (h : E_T a b) : ((a.1 4 = 60 ∨ a.1 4 = 61 ∨ a.1 4 = 62) ∧ b.1 5 = 3 ∧ ¬ (b.1 8).toInt < ((60 : Int32)).toInt ∧ ¬ ((62 : Int32)).toInt < (b.1 8).toInt ∧ a.1 2 = b.1 3) ∨ (¬ a.1 4 = 60 ∧ ¬ a.1 4 = 61 ∧ ¬ a.1 4 = 62 ∧ (b.1 5 = 3 → (b.1 8).toInt < ((60 : Int32)).toInt ∨ ((62 : Int32)).toInt < (b.1 8).toInt)) := by
  have e60 : (60 : Int32).toInt = 60 := by decide
  have e61 : (61 : Int32).toInt = 61 := by decide
  have e62 : (62 : Int32).toInt = 62 := by decide
  have s0 := E_Tc h (c := 60) (by decide +kernel)
  have s1 := E_Tc h (c := 61) (by decide +kernel)
  have s2 := E_Tc h (c := 62) (by decide +kernel)
  rcases s0 with s | s0
  · exact Or.inl ⟨Or.inl s.1, s.2.1, by rw [s.2.2.1]; decide, by rw [s.2.2.1]; decide, s.2.2.2⟩
  rcases s1 with s | s1
  · exact Or.inl ⟨Or.inr (Or.inl s.1), s.2.1, by rw [s.2.2.1]; decide, by rw [s.2.2.1]; decide, s.2.2.2⟩
  rcases s2 with s | s2
  · exact Or.inl ⟨Or.inr (Or.inr s.1), s.2.1, by rw [s.2.2.1]; decide, by rw [s.2.2.1]; decide, s.2.2.2⟩
  refine Or.inr ⟨s0.1, s1.1, s2.1, fun h5 => ?_⟩
  have n : ∀ {k : Int32} {i : Int}, ¬ (b.1 5 = 3 ∧ b.1 8 = k) → k.toInt = i → ¬ (b.1 8).toInt = i := fun hk hi q => hk ⟨h5, Int32.toInt_inj.mp (q.trans hi.symm)⟩
  have n0 := n s0.2 e60
  have n1 := n s1.2 e61
  have n2 := n s2.2 e62
  omega
/-- the stack is as it was -/
noncomputable def B_Z (b b' : ex_S) : Prop := b'.1 24 = b.1 24 ∧ b'.1 25 = b.1 25 ∧ b'.2.2.1 4 = b.2.2.1 4
theorem B_Z_0 (b : ex_S) : B_Z b b := ⟨rfl, rfl, rfl⟩
theorem B_Z_t {a b c : ex_S} (h1 : B_Z a b) (h2 : B_Z b c) : B_Z a c := ⟨h2.1.trans h1.1, h2.2.1.trans h1.2.1, h2.2.2.trans h1.2.2⟩
theorem B_Z_L {b b' : ex_S} (h : B_L b b') : B_Z b b' := ⟨h.1 24 (by decide), h.1 25 (by decide), by rw [h.2]⟩
theorem B_Z_c {x y z : Int32} {b : ex_S} : B_Z b (B_code x y z b) := ⟨B_code_k (by decide), B_code_k (by decide), (B_M_c (a := x) (b := y) (c := z) (σ := b)).2.2.1 4 (by decide)⟩
theorem B_Z_w {b : ex_S} : B_Z b (sI 26 (1 : Int32) b) := ⟨rfl, rfl, rfl⟩
theorem KS_Z {b b' : ex_S} {S : List Int32} (h : B_Z b b') (hS : KS b S) : KS b' S := by
  unfold KS at hS ⊢
  rw [h.1, h.2.2]; exact hS
noncomputable abbrev K_p0 : Int32 → Prop := fun _ => False
noncomputable abbrev K_w0 : Int32 → Prop := fun _ => True
theorem K_ok {a' b b' : ex_S} {x : Int32 × ex_S} {S : List Int32} {dp : Int32} (hb : SI b ∧ b.1 26 = 0 ∧ SN b) (q : B_operand b = ((1 : Int32), b')) (hx : x = ((1 : Int32), a')) (hE : E3 a' b') (hA : SA_INV a') (hz : B_Z b b') (h1 : b'.1 26 = 1) (hK : KS b S) (hD : (b.1 25).toInt = dp.toInt) : KG K_p0 K_w0 x b S dp := by
  subst hx
  have hon := inv_X11_operand b hb
  rw [q] at hon
  have ho : B_on b b' := hon.resolve_left (show ¬ (1 : Int32) = 0 from by decide)
  refine Or.inr ⟨rfl, b', 0, [], B_go_o hb.2.1 q (by decide), ⟨hE, hA, ho.1, ho.2.1⟩, by rw [h1]; decide, (fun v h => nomatch h), KS_Z hz hK, ?_, trivial⟩
  rw [hz.2.1, hD]
  omega
/-- with its sign -/
noncomputable def A_rpS (wrd g : Int32) (σ : ex_S) : Int32 × ex_S := ex_bd (A_takeNumber (0 : Int32) (999 : Int32) (A_next σ)) (fun r χ => if r = 0 then ((0 : Int32), χ) else ((1 : Int32), A_addStep wrd g (χ.1 7) χ))
theorem A_rp_s {w : Int32} {σ : ex_S} (h : (w = 1 ∨ w = 2 ∨ w = 20 ∨ w = 21) ∧ (σ.1 4 = 60 ∨ σ.1 4 = 61 ∨ σ.1 4 = 62)) : A_readPlain w σ = A_rpS w (σ.1 4) σ := by
  have n : ¬ w = 16 ∧ ¬ w = 17 ∧ ¬ w = 18 ∧ ¬ w = 19 := by
    rcases h.1 with h | h | h | h <;> subst h <;> decide
  unfold A_readPlain
  rw [if_neg n.1, if_neg n.2.1, if_neg n.2.2.1, if_neg n.2.2.2]
  rcases h.2 with h | h | h
  · rw [if_pos h]; rfl
  · rw [if_neg (by rw [h]; decide), if_pos h]; rfl
  · rw [if_neg (by rw [h]; decide), if_neg (by rw [h]; decide), if_pos h]; rfl
theorem A_rp_n {w : Int32} {σ : ex_S} (h : w = 1 ∨ w = 2 ∨ w = 20 ∨ w = 21) (h0 : ¬ σ.1 4 = 60) (h1 : ¬ σ.1 4 = 61) (h2 : ¬ σ.1 4 = 62) : A_readPlain w σ = A_failAs (1 : Int32) σ := by
  have n : ¬ w = 16 ∧ ¬ w = 17 ∧ ¬ w = 18 ∧ ¬ w = 19 := by
    rcases h with h | h | h | h <;> subst h <;> decide
  unfold A_readPlain
  rw [if_neg n.1, if_neg n.2.1, if_neg n.2.2.1, if_neg n.2.2.2, if_neg h0, if_neg h1, if_neg h2]
  rfl
theorem A_rp_3 {w : Int32} {σ : ex_S} (h : w = 16 ∨ w = 17 ∨ w = 18) : A_readPlain w σ = ((1 : Int32), A_addStep w (0 : Int32) (0 : Int32) σ) := by
  unfold A_readPlain
  rcases h with h | h | h
  · rw [if_pos h]; rfl
  · rw [if_neg (by rw [h]; decide), if_pos h]; rfl
  · rw [if_neg (by rw [h]; decide), if_neg (by rw [h]; decide), if_pos h]; rfl
theorem A_rp_t {σ : ex_S} : A_readPlain (19 : Int32) σ = ex_bd (A_takeTown (-1 : Int32) σ) (fun r χ => if r = 0 then ((0 : Int32), χ) else ((1 : Int32), A_addStep (19 : Int32) (0 : Int32) (χ.1 7) χ)) := rfl
theorem E_townsN {a b : ex_S} (hA : A_INV a) (hC : E_Nm a b) {x : Int64} (hx : b.2.1 0 = x) : B_find (0 : Int32) ((b.2.2.1 1) 0) b = A_townNamed x a := by
  subst hx
  have k := hA.2.2.1
  unfold B_find A_townNamed
  show ex_find (fun k => b.2.2.2 0 ((0 : Int32) + nI k).toNatClampNeg) (b.2.1 0) ((b.2.2.1 1) 0).toInt.toNat 0 = _
  rw [← hC.1]
  refine ex_find_c _ _ (fun j _ h2 => ?_)
  show b.2.2.2 0 ((0 : Int32) + nI j).toNatClampNeg = a.2.2.2 1 j
  rw [ex_ofs (m := 0) (by decide) (by decide) (by omega), Nat.zero_add]
  exact (hC.2 j (by omega)).symm
/-- a town that must be told: fails alike, or the same number -/
theorem E_lookN {a b : ex_S} (h : E3 a b) : (A_takeTown (-1 : Int32) a = A_failAs (1 : Int32) a ∧ B_looksAt (0 : Int32) ((b.2.2.1 1) 0) b = B_bad (1 : Int32) b) ∨ (∃ t, A_takeTown (-1 : Int32) a = A_failAs (3 : Int32) a ∧ B_looksAt (0 : Int32) ((b.2.2.1 1) 0) b = B_bad (3 : Int32) (sI 11 t b)) ∨ (∃ t, A_takeTown (-1 : Int32) a = ((1 : Int32), A_next (sI 7 t a)) ∧ a.1 2 = b.1 3 ∧ B_looksAt (0 : Int32) ((b.2.2.1 1) 0) b = ((1 : Int32), sI 11 t b)) := by
  obtain ⟨⟨h1, h2, h3, h4⟩, h5, h6, h7⟩ := h
  have kt := h2.2.2.1
  rcases E_isName h1 h4 with t | t
  · refine Or.inl ⟨A_tt0 t.1, ?_⟩
    unfold B_looksAt
    simp only [ex_lt]
    rw [if_pos t.2]
    rfl
  · have f1 := E_townsN h2 h5 (x := a.2.1 0) t.2.2.1.symm
    have g1 : (A_townNamed (a.2.1 0) a).toInt < 0 ↔ A_townNamed (a.2.1 0) a = -1 := ex_find_n (by omega)
    by_cases q : A_townNamed (a.2.1 0) a = -1
    · refine Or.inr (Or.inl ⟨A_townNamed (a.2.1 0) a, A_tt1 t.1 q, ?_⟩)
      unfold B_looksAt
      simp only [ex_lt]
      rw [if_neg (by rw [t.2.1]; exact C_n10), f1, if_pos (g1.mpr q)]
      unfold ex_bd
      exact if_pos (show (B_bad (3 : Int32) (sI 11 (A_townNamed (a.2.1 0) a) b)).1 = 0 from rfl)
    · refine Or.inr (Or.inr ⟨A_townNamed (a.2.1 0) a, A_tt3 t.1 q q, t.2.2.2, ?_⟩)
      unfold B_looksAt
      simp only [ex_lt]
      rw [if_neg (by rw [t.2.1]; exact C_n10), f1, if_neg (fun z => q (g1.mp z))]
theorem E3_7 {a b : ex_S} {t : Int32} (h : E3 a b) : E3 (sI 7 t a) (sI 11 t b) := h
theorem E3_7a {a b : ex_S} {t : Int32} (h : E3 a b) : E3 (sI 7 t a) b := h
theorem SA_7 {a : ex_S} {t : Int32} (h : SA_INV a) : SA_INV (sI 7 t a) := h
theorem E_num3 {a b : ex_S} (h : E_T a b) : (a.1 4 = 3 ∧ b.1 5 = 2 ∧ a.1 5 = b.1 8 ∧ a.1 2 = b.1 3) ∨ (¬ a.1 4 = 3 ∧ ¬ b.1 5 = 2) := by
  rcases h.2 with t | t | t | t | t
  · exact Or.inr ⟨by rw [t.1]; decide, by rw [t.2.1]; decide⟩
  · exact Or.inr ⟨by rw [t.1]; decide, by rw [t.2.1]; decide⟩
  · exact Or.inl ⟨t.1, t.2.1, t.2.2.2.1, t.2.2.2.2⟩
  · exact Or.inr ⟨fun q => by have g := t.1; rw [q] at g; exact absurd g (by decide +kernel), by rw [t.2.1]; decide⟩
  · exact Or.inr ⟨by rw [t.1]; decide, by rw [t.2.1]; decide⟩
theorem K_leaf {b α υ : ex_S} {S : List Int32} {dp w lf : Int32} (hb : SI b ∧ b.1 26 = 0 ∧ SN b) (q : B_operand b = B_opL lf υ) (hE : E3 α υ) (hA : SA_INV α) (hL : LF w lf) (hz : B_Z b υ) (hK : KS b S) (hD : (b.1 25).toInt = dp.toInt) : KG K_p0 K_w0 (A_readPlain w α) b S dp := by
  have hW : B_W υ (sI 26 (1 : Int32) υ) := B_W_I (by decide)
  have hE1 : E3 α (sI 26 (1 : Int32) υ) := E3_W hE hW
  have hz1 : B_Z b (sI 26 (1 : Int32) υ) := B_Z_t hz B_Z_w
  have sign : (w = 1 ∨ w = 2 ∨ w = 20 ∨ w = 21) → ¬ (lf).toInt < ((3 : Int32)).toInt → ¬ lf = 3 → KG K_p0 K_w0 (A_readPlain w α) b S dp := by
    intro hw l1 l2
    have q2 := q
    unfold B_opL at q2
    rw [if_neg l1, if_neg l2] at q2
    rcases K_sgn hE.1.2.2.2 with s | s
    · rw [if_pos s.2.1, if_neg s.2.2.1, if_neg s.2.2.2.1] at q2
      rw [A_rp_s ⟨hw, s.1⟩]
      have hE2 := E3_nx hE1 s.2.2.2.2
      unfold B_opM at q2
      unfold A_rpS
      simp only [ex_bd]
      rcases E_num3 hE2.1.2.2.2 with t | t
      · rw [if_pos t.2.1] at q2
        have dg := dg_next hA.1 t.1
        have e0 : (0 : Int32).toInt = 0 := by decide
        have e9 : (999 : Int32).toInt = 999 := by decide
        have en : A_takeNumber (0 : Int32) (999 : Int32) (A_next α) = ((1 : Int32), A_next (sI 7 ((A_next α).1 5) (A_next α))) := by
          unfold A_takeNumber
          rw [if_pos t.1, if_neg (by omega), if_neg (by omega)]
          rfl
        rw [en, if_neg (show ¬ (1 : Int32) = 0 from by decide)]
        have hE3 : E3 (sI 7 ((A_next α).1 5) (A_next α)) (B_code lf (υ.1 8) ((B_next (sI 26 (1 : Int32) υ)).1 8) (B_next (sI 26 (1 : Int32) υ))) := E3_7a (E3_W (b := B_next (sI 26 (1 : Int32) υ)) hE2 (B_W_M B_M_c))
        have hE4 := E3_nx hE3 t.2.2.2
        refine K_ok hb q2 rfl (E3_add hE4) (SA_add (SA_nx (SA_7 (SA_nx hA)))) (B_Z_t hz1 (B_Z_t (B_Z_L (lB_next _)) (B_Z_t B_Z_c (B_Z_L (lB_next _))))) ?_ hK hD
        rw [(lB_next _).1 26 (by decide), B_code_k (by decide), (lB_next _).1 26 (by decide)]
        rfl
      · rw [if_neg t.2] at q2
        have en : A_takeNumber (0 : Int32) (999 : Int32) (A_next α) = A_failAs (1 : Int32) (A_next α) := by
          unfold A_takeNumber
          rw [if_neg t.1]
          rfl
        rw [en]
        exact Or.inl (KF_o hb.2.1 q2 hE2.1.2.2.2.1)
    · rw [A_rp_n hw s.1 s.2.1 s.2.2.1]
      refine Or.inl (KF_o (w := (1 : Int32)) (c := sI 26 (1 : Int32) υ) hb.2.1 ?_ hE1.1.2.2.2.1)
      rw [q2]
      by_cases c5 : (υ.1 5) = (3 : Int32)
      · rw [if_pos c5]
        by_cases c8 : ((υ.1 8)).toInt < ((60 : Int32)).toInt
        · rw [if_pos c8]
        · rw [if_neg c8, if_pos ((s.2.2.2 c5).resolve_left c8)]
      · rw [if_neg c5]
  have plain : (w = 16 ∨ w = 17 ∨ w = 18) → (lf).toInt < ((3 : Int32)).toInt → KG K_p0 K_w0 (A_readPlain w α) b S dp := by
    intro hw l1
    have q2 := q
    unfold B_opL at q2
    rw [if_pos l1] at q2
    rw [A_rp_3 hw]
    refine K_ok hb q2 rfl (E3_add (E3_W hE1 (B_W_M B_M_c))) (SA_add hA) (B_Z_t hz1 B_Z_c) ?_ hK hD
    rw [B_code_k (by decide)]
    rfl
  rcases hL with ⟨h1, h2⟩ | ⟨h1, h2⟩ | ⟨h1, h2⟩ | ⟨h1, h2⟩ | ⟨h1, h2⟩ | ⟨h1, h2⟩ | ⟨h1, h2⟩ | ⟨h1, h2⟩
  · exact plain (Or.inl h1) (by rw [h2]; decide)
  · exact plain (Or.inr (Or.inl h1)) (by rw [h2]; decide)
  · exact plain (Or.inr (Or.inr h1)) (by rw [h2]; decide)
  · subst h1 h2
    have q2 := q
    unfold B_opL at q2
    rw [if_neg (by decide), if_pos rfl] at q2
    rw [A_rp_t]
    rcases E_lookN hE1 with t | ⟨t, t1, t2⟩ | ⟨t, t1, t2, t3⟩
    · have t2 : B_looksAt (0 : Int32) ((υ.2.2.1 1) 0) (sI 26 (1 : Int32) υ) = B_bad (1 : Int32) (sI 26 (1 : Int32) υ) := t.2
      rw [t2] at q2
      rw [t.1]
      exact Or.inl (KF_o (c := sI 26 (1 : Int32) υ) hb.2.1 q2 hE1.1.2.2.2.1)
    · have t2 : B_looksAt (0 : Int32) ((υ.2.2.1 1) 0) (sI 26 (1 : Int32) υ) = B_bad (3 : Int32) (sI 11 t (sI 26 (1 : Int32) υ)) := t2
      rw [t2] at q2
      rw [t1]
      exact Or.inl (KF_o (c := sI 11 t (sI 26 (1 : Int32) υ)) hb.2.1 q2 hE1.1.2.2.2.1)
    · have t3 : B_looksAt (0 : Int32) ((υ.2.2.1 1) 0) (sI 26 (1 : Int32) υ) = ((1 : Int32), sI 11 t (sI 26 (1 : Int32) υ)) := t3
      rw [t3] at q2
      have q2 : B_operand b = ((1 : Int32), B_next (B_code (3 : Int32) (0 : Int32) ((sI 11 t (sI 26 (1 : Int32) υ)).1 11) (sI 11 t (sI 26 (1 : Int32) υ)))) := q2
      rw [t1]
      have hE3 : E3 (sI 7 t α) (B_code (3 : Int32) (0 : Int32) ((sI 11 t (sI 26 (1 : Int32) υ)).1 11) (sI 11 t (sI 26 (1 : Int32) υ))) := E3_W (E3_7 (t := t) hE1) (B_W_M B_M_c)
      refine K_ok hb q2 rfl (E3_add (E3_nx hE3 t2)) (SA_add (SA_nx (SA_7 hA))) (B_Z_t hz1 (B_Z_t (b := sI 11 t (sI 26 (1 : Int32) υ)) ⟨rfl, rfl, rfl⟩ (B_Z_t B_Z_c (B_Z_L (lB_next _))))) ?_ hK hD
      rw [(lB_next _).1 26 (by decide), B_code_k (by decide)]
      rfl
  · exact sign (Or.inl h1) (by rw [h2]; decide) (by rw [h2]; decide)
  · exact sign (Or.inr (Or.inl h1)) (by rw [h2]; decide) (by rw [h2]; decide)
  · exact sign (Or.inr (Or.inr (Or.inl h1))) (by rw [h2]; decide) (by rw [h2]; decide)
  · exact sign (Or.inr (Or.inr (Or.inr h1))) (by rw [h2]; decide) (by rw [h2]; decide)
theorem bh_noc {a b : ex_S} (h : E_T a b) (hb : SB b) (h14 : ¬ a.1 6 = 14) (h13 : ¬ a.1 6 = 13) : B_behind b = B_bhC (B_joins (22 : Int32) (B_nots b)) := by
  have w14 := E_w h (k := 14) (n := 14) (w := (6385252 : Int64)) (by decide) rfl (by decide +kernel)
  have w13 := E_w h (k := 13) (n := 13) (w := (28530 : Int64)) (by decide) rfl (by decide +kernel)
  have e14 : B_isWord (6385252 : Int64) b = 0 := by
    rcases w14 with w | w
    · exact absurd w.1 h14
    · exact w.2
  have e13 : B_isWord (28530 : Int64) b = 0 := by
    rcases w13 with w | w
    · exact absurd w.1 h13
    · exact w.2
  exact bh_c hb e14 e13
/-- a bracket's end -/
theorem K_close {a b : ex_S} {S X : List Int32} {m : Nat} {dp : Int32} (h : ES a b) (hw : ¬ b.1 26 = 0) (hX : ∀ v ∈ X, pj 22 v) (hK : KS b (List.replicate m 20 ++ (X ++ (23 : Int32) :: S))) (hD : (b.1 25).toInt = dp.toInt + 1 + m) (hdp : 0 ≤ dp.toInt) (h14 : ¬ a.1 6 = 14) (h13 : ¬ a.1 6 = 13) : KG K_p0 K_w0 (A_takeSign (41 : Int32) a) b S dp := by
  obtain ⟨h1, h2, h3, h4⟩ := h
  have hb := h3.sb
  have hR : ∀ v, ((23 : Int32) :: S).head? = some v → ¬ pj 22 v ∧ ¬ v = 20 := by
    intro v hv
    have hv : some (23 : Int32) = some v := hv
    cases hv
    exact ⟨fun q => by rcases q with q | q; exact absurd q (by decide); exact absurd q.1 (by decide), by decide⟩
  obtain ⟨k1, k2, k3⟩ := K_nj hb hX hR hK (by omega)
  have hT := h1.1.2.2.2
  have e6 : a.1 3 = (B_joins (22 : Int32) (B_nots b)).1 6 := by rw [k3.1.1 6 (by decide)]; exact hT.1
  unfold KS at k1
  obtain ⟨m', n1, n2, n3⟩ := ex_stk_cons k1
  have t := ex_top n1
  have qb := bh_noc hT hb h14 h13
  unfold A_takeSign
  simp only [ex_lt, ex_bdp]
  rcases E_Tc hT (c := 41) (by decide +kernel) with s | s
  · rw [if_pos s.1]
    have h5 : ¬ b.1 5 = 0 := by rw [s.2.1]; decide
    have e1 : ¬ B_isSign (41 : Int32) (B_joins (22 : Int32) (B_nots b)) = 0 := by
      rw [B_isSign_M k3.1, B_sgn_1 s.2.1 s.2.2.1]; decide
    have e2 : ¬ ((B_joins (22 : Int32) (B_nots b)).1 24) = 0 := fun q => by
      have t1 := t.1
      rw [q] at t1
      exact absurd t1 (by decide)
    unfold B_bhC at qb
    rw [if_neg e1, if_neg e2] at qb
    have hon := inv_X11_behind b ⟨h3, hw, h4⟩
    rw [qb] at hon
    have ho := hon.resolve_left (show ¬ (1 : Int32) = 0 from by decide)
    have hW : B_W b (sI 25 (((B_joins (22 : Int32) (B_nots b)).1 25) - (1 : Int32)) (sI 24 (((B_joins (22 : Int32) (B_nots b)).1 24) - (1 : Int32)) (B_joins (22 : Int32) (B_nots b)))) := B_W_t (B_W_M k3.1) (B_W_t (B_W_I (k := 24) (v := ((B_joins (22 : Int32) (B_nots b)).1 24) - (1 : Int32)) (by decide)) (B_W_I (by decide)))
    have hE := E3_nx (E3_W h1 hW) (by rw [hW.1 3 (by decide)]; exact s.2.2.2)
    have hL := lB_next (sI 25 (((B_joins (22 : Int32) (B_nots b)).1 25) - (1 : Int32)) (sI 24 (((B_joins (22 : Int32) (B_nots b)).1 24) - (1 : Int32)) (B_joins (22 : Int32) (B_nots b))))
    refine Or.inr ⟨rfl, _, 0, [], B_go_b hw h5 qb (by decide), ⟨hE, SA_nx h2, ho.1, ho.2.1⟩, ?_, (fun v h => nomatch h), ?_, ?_, trivial⟩
    · rw [hL.1 26 (by decide)]
      show ¬ (B_joins (22 : Int32) (B_nots b)).1 26 = 0
      rw [k3.1.1 26 (by decide)]; exact hw
    · unfold KS
      rw [hL.1 24 (by decide), hL.2]
      show ex_stk ((B_joins (22 : Int32) (B_nots b)).2.2.1 4) (((B_joins (22 : Int32) (B_nots b)).1 24) - (1 : Int32)).toInt.toNat S
      rw [t.2.2]; exact n3
    · rw [hL.1 25 (by decide)]
      show (((B_joins (22 : Int32) (B_nots b)).1 25) - (1 : Int32)).toInt = _
      rw [ex_dec1 (by omega), k2, hD]
      omega
  · rw [if_neg s.1]
    refine Or.inl ?_
    by_cases h5 : b.1 5 = 0
    · exact KF_e hw h5 t.1 e6
    · have e1 : B_isSign (41 : Int32) (B_joins (22 : Int32) (B_nots b)) = 0 := by
        rw [B_isSign_M k3.1, B_sgn_0 s.2]
      unfold B_bhC at qb
      rw [if_pos e1] at qb
      exact KF_b hw h5 qb e6
theorem hbe_and (a b : ex_S) (h : ES a b) (h6 : a.1 6 = 14) : B_behind b = ((1 : Int32), B_next (B_psw (21 : Int32) (B_joins (21 : Int32) (B_nots b)))) ∧ a.1 2 = b.1 3 ∧ ¬ b.1 5 = 0 := by
  have hT := h.1.1.2.2.2
  rcases E_w hT (k := 14) (n := 14) (w := (6385252 : Int64)) (by decide) rfl (by decide +kernel) with w | w
  · exact ⟨bh_and h.2.2.1.sb w.2.1, w.2.2, E_T_5 hT (k := 14) (by decide) h6⟩
  · exact absurd h6 w.1
theorem hbe_or (a b : ex_S) (h : ES a b) (h6 : a.1 6 = 13) : B_behind b = ((1 : Int32), B_next (B_psw (22 : Int32) (B_joins (22 : Int32) (B_nots b)))) ∧ a.1 2 = b.1 3 ∧ ¬ b.1 5 = 0 := by
  have hT := h.1.1.2.2.2
  have e14 : B_isWord (6385252 : Int64) b = 0 := by
    rcases E_w hT (k := 14) (n := 14) (w := (6385252 : Int64)) (by decide) rfl (by decide +kernel) with w | w
    · rw [h6] at w; exact absurd w.1 (by decide)
    · exact w.2
  rcases E_w hT (k := 13) (n := 13) (w := (28530 : Int64)) (by decide) rfl (by decide +kernel) with w | w
  · exact ⟨bh_or h.2.2.1.sb e14 w.2.1, w.2.2, E_T_5 hT (k := 13) (by decide) h6⟩
  · exact absurd h6 w.1
theorem pj_21_22 {v : Int32} (h : pj 21 v) : pj 22 v := by
  rcases h with h | h
  · exact Or.inl h
  · exact absurd h.2 (by decide)
/-- a condition, of ones that are read alike -/
theorem K_cnd {k : Nat} {dp : Int32} (hdp : 0 ≤ dp.toInt) (H : ∀ (a b : ex_S) (S : List Int32), ES a b → b.1 26 = 0 → KS b S → (b.1 25).toInt = dp.toInt → KG K_p0 K_w0 (A_one k dp a) b S dp) {S : List Int32} (hS : ∀ v, S.head? = some v → ¬ pj 22 v ∧ ¬ v = 20) (a b : ex_S) (h : ES a b) (hw : b.1 26 = 0) (hK : KS b S) (hD : (b.1 25).toInt = dp.toInt) : KG (pj 22) (fun w => (K_w0 w ∧ ¬ w = 14) ∧ ¬ w = 13) (A_cnd (A_all (A_one k)) dp a) b S dp := by
  have all : ∀ (a b : ex_S) (T : List Int32), (∀ v, T.head? = some v → ¬ pj 21 v ∧ ¬ v = 20) → ES a b → b.1 26 = 0 → KS b T → (b.1 25).toInt = dp.toInt → KG (pj 21) (fun w => K_w0 w ∧ ¬ w = 14) (A_all (A_one k) dp a) b T dp := fun a b T hT h hw hK hD =>
    K_lst (f := A_one k dp) (tl := (21 : Int32)) (wd := (14 : Int32)) (pI := K_p0) (wI := K_w0) (okI := fun _ => True) hdp (fun a b T _ h hw hK hD => H a b T h hw hK hD) (on_one k dp) (fun v h => False.elim h) (Or.inl rfl) trivial hbe_and hT (fun _ _ => trivial) a b h hw hK hD
  refine K_lst (f := A_all (A_one k) dp) (tl := (22 : Int32)) (wd := (13 : Int32)) (pI := pj 21) (wI := fun w => K_w0 w ∧ ¬ w = 14) (okI := fun v => ¬ pj 21 v ∧ ¬ v = 20) hdp all (fun a h => on_lst (fun σ => inv_one k dp σ) (on_one k dp) a h) (fun v h => pj_21_22 h) (Or.inr ⟨rfl, rfl⟩) ⟨fun q => ?_, by decide⟩ hbe_or hS (fun v hv => ⟨fun q => (hS v hv).1 (pj_21_22 q), (hS v hv).2⟩) a b h hw hK hD
  rcases q with q | q
  · exact absurd q (by decide)
  · exact absurd q.2 (by decide)
theorem K_rep {m : Nat} {S : List Int32} : List.replicate (m + 1) (20 : Int32) ++ ([] ++ S) = List.replicate m 20 ++ ([] ++ (20 : Int32) :: S) := by
  rw [List.replicate_succ', List.append_assoc]
  rfl
theorem K_one : ∀ (k : Nat) (dp : Int32) (a b : ex_S) (S : List Int32), S_dp k dp → ES a b → b.1 26 = 0 → KS b S → (b.1 25).toInt = dp.toInt → KG K_p0 K_w0 (A_one k dp a) b S dp := by
  intro k
  induction k with
  | zero =>
    intro dp a b S hdp
    exfalso
    obtain ⟨d1, d2, d3⟩ := hdp
    omega
  | succ k ih =>
    intro dp a b S hdp h hw hK hD
    obtain ⟨h1, h2, h3, h4⟩ := h
    have hb : SI b ∧ b.1 26 = 0 ∧ SN b := ⟨h3, hw, h4⟩
    have hT := h1.1.2.2.2
    have e20 : (20 : Int32).toInt = 20 := by decide
    have d0 : 0 ≤ dp.toInt := by have := hdp.1; omega
    have b20 : ¬ (b.1 23) = (20 : Int32) ↔ ((a.1 21)).toInt < ((20 : Int32)).toInt := by
      rw [← h1.2.2.1]
      have h9 := h2.2.2
      constructor
      · intro q
        have q2 : ¬ (a.1 21).toInt = 20 := fun z => q (Int32.toInt_inj.mp (z.trans e20.symm))
        omega
      · intro q z
        rw [z] at q
        omega
    -- what both do with what is too many, too deep
    have few : ∀ r1 r3 r5, ¬ ((a.1 21)).toInt < ((20 : Int32)).toInt → B_opG r1 r3 r5 b = B_bad (4 : Int32) b := by
      intro r1 r3 r5 q
      unfold B_opG
      exact if_pos (Decidable.byContradiction (fun z => q (b20.mp z)))
    have deep : ∀ r1 r3 r5, ((a.1 21)).toInt < ((20 : Int32)).toInt → ((8 : Int32)).toInt < (dp).toInt → B_opG r1 r3 r5 b = B_bad (4 : Int32) b := by
      intro r1 r3 r5 q z
      unfold B_opG
      rw [if_neg (b20.mpr q), if_pos (by rw [hD]; exact z)]
    have good : ∀ r1 r3 r5, ((a.1 21)).toInt < ((20 : Int32)).toInt → ¬ ((8 : Int32)).toInt < (dp).toInt → B_opG r1 r3 r5 b = B_opT r1 r3 r5 (B_next (B_up b)) := by
      intro r1 r3 r5 q z
      unfold B_opG
      rw [if_neg (b20.mpr q), if_neg (by rw [hD]; exact z)]
    have zz : B_Z b (B_next (B_up b)) := B_Z_t (b := B_up b) ⟨rfl, rfl, rfl⟩ (B_Z_L (lB_next _))
    -- a not, a bracket: pushed
    have push : ∀ v : Int32, a.1 2 = b.1 3 → ((a.1 21)).toInt < ((20 : Int32)).toInt → ¬ ((8 : Int32)).toInt < (dp).toInt → B_operand b = ((1 : Int32), B_psh v (B_next (B_up b))) → B_go b (B_psh v (B_next (B_up b))) ∧ ES (A_next (sI 21 ((a.1 21) + (1 : Int32)) a)) (B_psh v (B_next (B_up b))) ∧ (B_psh v (B_next (B_up b))).1 26 = 0 ∧ KS (B_psh v (B_next (B_up b))) (v :: S) ∧ ((B_psh v (B_next (B_up b))).1 25).toInt = (dp + (1 : Int32)).toInt ∧ (dp + (1 : Int32)).toInt = dp.toInt + 1 := by
      intro v hp c2 c3 q
      have hon := inv_X11_operand b hb
      rw [q] at hon
      have ho := hon.resolve_left (show ¬ (1 : Int32) = 0 from by decide)
      have e8 : (8 : Int32).toInt = 8 := by decide
      have e9 : (9 : Int32).toInt = 9 := by decide
      have ed := ex_inc (p := dp) (n := 9) (by omega)
      have hW : B_W (B_next (B_up b)) (B_psh v (B_next (B_up b))) := B_W_t (B_W_R (k := 4) (f := upd ((B_next (B_up b)).2.2.1 4) (((B_next (B_up b)).1 24)).toNatClampNeg v) (by decide)) (B_W_t (B_W_I (k := 24) (v := ((B_next (B_up b)).1 24) + (1 : Int32)) (by decide)) (B_W_I (by decide)))
      refine ⟨B_go_o hw q (by decide), ⟨E3_W (E3_nx (E3_up h1) hp) hW, SA_nx (SA_on h2 c2), ho.1, ho.2.1⟩, ?_, ?_, ?_, ed⟩
      · show (B_next (B_up b)).1 26 = 0
        rw [(lB_next _).1 26 (by decide)]; exact hw
      · unfold KS
        show ex_stk (upd ((B_next (B_up b)).2.2.1 4) (((B_next (B_up b)).1 24)).toNatClampNeg v) (((B_next (B_up b)).1 24) + (1 : Int32)).toInt.toNat (v :: S)
        rw [zz.1, zz.2.2]
        have sb := h3.sb
        obtain ⟨q2, q3, q4⟩ := sb
        have e : ((b.1 24) + (1 : Int32)).toInt = (b.1 24).toInt + 1 := ex_inc (n := 100) (by have e9 : (100 : Int32).toInt = 100 := (by decide); omega)
        have c := ex_cl (x := b.1 24) q3
        have e2 : ((b.1 24) + (1 : Int32)).toInt.toNat = ((b.1 24)).toNatClampNeg + 1 := by omega
        have e3 : (b.1 24).toInt.toNat = ((b.1 24)).toNatClampNeg := by omega
        rw [e2]
        unfold KS at hK
        rw [e3] at hK
        exact ex_stk_push hK
      · show (((B_next (B_up b)).1 25) + (1 : Int32)).toInt = _
        rw [zz.2.1, show b.1 25 = dp from Int32.toInt_inj.mp hD]
    rw [A_one_s]
    simp only [ex_bd, ex_lt]
    rcases E_Tc hT (c := 40) (by decide +kernel) with s | s
    · -- a bracket
      rw [if_pos s.1]
      have r3 : ¬ B_isSign (40 : Int32) b = 0 := by rw [B_sgn_1 s.2.1 s.2.2.1]; decide
      have r1 : B_isWord (7237492 : Int64) b = 0 := B_isWord_0 (fun q => by rw [s.2.1] at q; exact absurd q.1 (by decide))
      have q0 : B_operand b = B_opG (B_isWord (7237492 : Int64) b) (B_isSign (40 : Int32) b) (B_leafOf b) b := by
        rw [B_op_eq]
        unfold B_opH
        rw [if_pos r1, if_neg r3]
      by_cases c2 : ((a.1 21)).toInt < ((20 : Int32)).toInt
      · rw [if_pos c2]
        by_cases c3 : ((8 : Int32)).toInt < (dp).toInt
        · rw [if_pos c3]
          exact Or.inl (KF_o hw (q0.trans (deep _ _ _ c2 c3)) hT.1)
        · rw [if_neg c3]
          have q1 : B_operand b = ((1 : Int32), B_psh (23 : Int32) (B_next (B_up b))) := by
            rw [q0, good _ _ _ c2 c3]
            unfold B_opT
            rw [if_pos r1, if_neg r3]
            unfold B_opP
            rw [if_pos r1]
          obtain ⟨g1, g2, g3, g4, g5, g6⟩ := push (23 : Int32) s.2.2.2 c2 c3 q1
          have hR : ∀ v, ((23 : Int32) :: S).head? = some v → ¬ pj 22 v ∧ ¬ v = 20 := by
            intro v hv
            have hv : some (23 : Int32) = some v := hv
            cases hv
            exact ⟨fun q => by rcases q with q | q; exact absurd q (by decide); exact absurd q.1 (by decide), by decide⟩
          refine KG_go g1 ?_
          rcases K_cnd (k := k) (dp := dp + (1 : Int32)) (by omega) (fun a b S h hw hK hD => ih (dp + (1 : Int32)) a b S (S_dp_1 hdp c3) h hw hK hD) hR _ _ g2 g3 g4 g5 with r | ⟨r1, b2, m2, X2, r2, r3, r4, r5, r6, r7, r8⟩
          · rw [if_pos r.1]
            exact Or.inl ⟨rfl, r.2⟩
          · rw [if_neg (show ¬ (A_cnd (A_all (A_one k)) (dp + (1 : Int32)) (A_next (sI 21 ((a.1 21) + (1 : Int32)) a))).1 = 0 from by rw [r1]; decide)]
            have cl := KG_go r2 (K_close (dp := dp) r3 r4 r5 r6 (by rw [r7, g6]) d0 r8.1.2 r8.2)
            rcases cl with cl | cl
            · rw [if_pos cl.1]
              exact Or.inl ⟨rfl, cl.2⟩
            · rw [if_neg (show ¬ (A_takeSign (41 : Int32) (A_cnd (A_all (A_one k)) (dp + (1 : Int32)) (A_next (sI 21 ((a.1 21) + (1 : Int32)) a))).2).1 = 0 from by rw [cl.1]; decide)]
              exact Or.inr ⟨rfl, cl.2⟩
      · rw [if_neg c2]
        exact Or.inl (KF_o hw (q0.trans (few _ _ _ c2)) hT.1)
    · rw [if_neg s.1]
      have r3 : B_isSign (40 : Int32) b = 0 := B_sgn_0 s.2
      rcases E_leaf hT with t | t | t
      · -- nothing that can come
        rw [if_pos t.1]
        have q0 : B_operand b = B_bad (1 : Int32) b := by
          rw [B_op_eq]
          unfold B_opH
          rw [if_pos t.2.1, if_pos r3, t.2.2]
          exact if_pos (by decide)
        exact Or.inl (KF_o hw q0 hT.1)
      · -- not
        rw [if_neg (show ¬ A_beginsOne (a.1 6) = 0 from by rw [t.1]; decide)]
        have n1 : ¬ B_isWord (7237492 : Int64) b = 0 := by rw [t.2.2.1]; decide
        have q0 : B_operand b = B_opG (B_isWord (7237492 : Int64) b) (B_isSign (40 : Int32) b) (B_leafOf b) b := by
          rw [B_op_eq]
          unfold B_opH
          rw [if_neg n1]
        by_cases c2 : ((a.1 21)).toInt < ((20 : Int32)).toInt
        · rw [if_pos c2]
          by_cases c3 : ((8 : Int32)).toInt < (dp).toInt
          · rw [if_pos c3]
            exact Or.inl (KF_o hw (q0.trans (deep _ _ _ c2 c3)) hT.1)
          · rw [if_neg c3, if_pos t.2.1]
            have q1 : B_operand b = ((1 : Int32), B_psh (20 : Int32) (B_next (B_up b))) := by
              rw [q0, good _ _ _ c2 c3]
              unfold B_opT
              rw [if_neg n1]
              unfold B_opP
              rw [if_neg n1]
            obtain ⟨g1, g2, g3, g4, g5, g6⟩ := push (20 : Int32) t.2.2.2 c2 c3 q1
            refine KG_go g1 ?_
            rcases ih (dp + (1 : Int32)) _ _ _ (S_dp_1 hdp c3) g2 g3 g4 g5 with r | ⟨r1, b2, m2, X2, r2, r3, r4, r5, r6, r7, r8⟩
            · rw [if_pos r.1]
              exact Or.inl ⟨rfl, r.2⟩
            · rw [if_neg (show ¬ (A_one k (dp + (1 : Int32)) (A_next (sI 21 ((a.1 21) + (1 : Int32)) a))).1 = 0 from by rw [r1]; decide)]
              have x0 : X2 = [] := by
                cases X2 with
                | nil => rfl
                | cons v X2 => exact False.elim (r5 v List.mem_cons_self)
              subst x0
              exact Or.inr ⟨rfl, b2, m2 + 1, [], r2, ES_add r3, r4, (fun v h => nomatch h), by rw [K_rep]; exact r6, by rw [r7, g6]; omega, trivial⟩
        · rw [if_neg c2]
          exact Or.inl (KF_o hw (q0.trans (few _ _ _ c2)) hT.1)
      · -- a leaf
        obtain ⟨t1, t2, t3, t4, t5, t6⟩ := t
        rw [if_neg (show ¬ A_beginsOne (a.1 6) = 0 from by rw [t1]; decide)]
        have q0 : B_operand b = B_opG (B_isWord (7237492 : Int64) b) (B_isSign (40 : Int32) b) (B_leafOf b) b := by
          rw [B_op_eq]
          unfold B_opH
          rw [if_pos t3, if_pos r3, if_neg t6]
        by_cases c2 : ((a.1 21)).toInt < ((20 : Int32)).toInt
        · rw [if_pos c2]
          by_cases c3 : ((8 : Int32)).toInt < (dp).toInt
          · rw [if_pos c3]
            exact Or.inl (KF_o hw (q0.trans (deep _ _ _ c2 c3)) hT.1)
          · rw [if_neg c3, if_neg t2]
            have q1 : B_operand b = B_opL (B_leafOf b) (B_next (B_up b)) := by
              rw [q0, good _ _ _ c2 c3]
              unfold B_opT
              rw [if_pos t3, if_pos r3]
            exact K_leaf hb q1 (E3_nx (E3_up h1) t4) (SA_nx (SA_on h2 c2)) t5 zz hK hD
        · rw [if_neg c2]
          exact Or.inl (KF_o hw (q0.trans (few _ _ _ c2)) hT.1)
theorem A_read_eq (a : ex_S) : A_read a = if (A_txt (1 : Int32) (A_begin (200 : Int32) (sI 21 (0 : Int32) (sI 20 (0 : Int32) a)))).1 = 0 then ((0 : Int32), (A_txt (1 : Int32) (A_begin (200 : Int32) (sI 21 (0 : Int32) (sI 20 (0 : Int32) a)))).2) else if A_atEnd (A_txt (1 : Int32) (A_begin (200 : Int32) (sI 21 (0 : Int32) (sI 20 (0 : Int32) a)))).2 = 0 then A_failAs (1 : Int32) (A_txt (1 : Int32) (A_begin (200 : Int32) (sI 21 (0 : Int32) (sI 20 (0 : Int32) a)))).2 else ((1 : Int32), (A_txt (1 : Int32) (A_begin (200 : Int32) (sI 21 (0 : Int32) (sI 20 (0 : Int32) a)))).2) := by
  unfold A_read
  simp only [ex_bd, ex_lt]
  by_cases h1 : (A_txt (1 : Int32) (A_begin (200 : Int32) (sI 21 (0 : Int32) (sI 20 (0 : Int32) a)))).1 = 0
  · rw [if_pos h1, if_pos h1]
  · rw [if_neg h1, if_neg h1]
    by_cases h2 : A_atEnd (A_txt (1 : Int32) (A_begin (200 : Int32) (sI 21 (0 : Int32) (sI 20 (0 : Int32) a)))).2 = 0
    · rw [if_pos h2, if_pos h2]
      exact if_pos rfl
    · rw [if_neg h2, if_neg h2]
theorem A_sen_0 {a : ex_S} (h : (A_read a).1 = 0) : A_sentence a = (-1 : Int32) - (A_read a).2.1 10 := by
  unfold A_sentence
  simp only [ex_bd]
  exact if_pos h
theorem A_sen_1 {a : ex_S} (h : ¬ (A_read a).1 = 0) : A_sentence a = (A_read a).2.1 21 := by
  unfold A_sentence
  simp only [ex_bd]
  exact if_neg h
/-- both sentences answer alike -/
theorem E_sentence {a b : ex_S} (hA : A_IN0 a) (hB : B_S0 b) (hs : a.1 0 = b.1 1) (hb : ∀ j : Nat, (j : Int) < (a.1 0).toInt → a.2.2.1 0 j = b.2.2.1 0 j &&& 255) (hwA : ∀ j, j < 22 → a.2.2.2 0 j = ex_wd j) (hwB : ∀ j, j < 22 → b.2.2.2 1 j = ex_wd j) (hN : E_Nm a b) : ∃ (N : Nat) (v : Int32 × ex_S), B_it N (B_s0 b) = some v ∧ v.1 = A_sentence a ∧ v.2.1 9 = (A_read a).2.1 9 := by
  have e0 : (0 : Int32).toInt = 0 := by decide
  have e1 : (1 : Int32).toInt = 1 := by decide
  obtain ⟨a0, ha0⟩ : ∃ a0, a0 = sI 10 (0 : Int32) (sI 9 (0 : Int32) (sI 2 (0 : Int32) (sI 1 (200 : Int32) (sI 21 (0 : Int32) (sI 20 (0 : Int32) a))))) := ⟨_, rfl⟩
  obtain ⟨b0, hb0⟩ : ∃ b0, b0 = sI 26 (0 : Int32) (sI 25 (1 : Int32) (sI 24 (0 : Int32) (sI 23 (0 : Int32) (sI 22 (0 : Int32) (sI 9 (0 : Int32) (B_taken (200 : Int32) (sI 0 (0 : Int32) b))))))) := ⟨_, rfl⟩
  have eA : A_begin (200 : Int32) (sI 21 (0 : Int32) (sI 20 (0 : Int32) a)) = A_next a0 := by rw [ha0]; rfl
  have eB : B_s0 b = B_next b0 := by rw [hb0]; rfl
  have hE : E_ev a0 b0 := by
    rw [ha0, hb0]
    exact And.intro hs (And.intro rfl (And.intro hb (And.intro hwA hwB)))
  have R := E_nx hE (by rw [ha0]; exact A_IN0_b (σ := sI 21 (0 : Int32) (sI 20 (0 : Int32) a)) hA) (by rw [hb0]; exact B_INV_s0 hB) (by rw [ha0, hb0]; rfl)
  have f := kA_next a0
  have g := kB_next b0
  have sa : SA_INV (A_next a0) := by rw [← eA]; exact SA_bg hA
  have sb := SI_s0 hB
  rw [eB] at sb
  have h3 : E3 (A_next a0) (B_next b0) := by
    refine ⟨R, ?_, ?_, ?_⟩
    · unfold E_Nm
      rw [f.1 11 (by omega), f.2.2, g.2, ha0, hb0]
      exact hN
    · rw [f.1 21 (by omega), g.1 23 (by omega), ha0, hb0]
      rfl
    · rw [f.1 9 (by omega), g.1 9 (by omega), ha0, hb0]
      rfl
  have hes : ES (A_next a0) (B_next b0) := ⟨h3, sa, sb.1, sb.2⟩
  have k26 : (B_next b0).1 26 = 0 := by rw [g.1 26 (by omega), hb0]; rfl
  have kD : ((B_next b0).1 25).toInt = (1 : Int32).toInt := by rw [g.1 25 (by omega), hb0]; rfl
  have kS : KS (B_next b0) [] := by
    unfold KS
    rw [g.1 24 (by omega), hb0]
    show ex_stk _ (0 : Int32).toInt.toNat []
    rw [e0]
    rfl
  have r := K_cnd (k := 9) (dp := (1 : Int32)) (by omega) (fun a b S h hw hK hD => K_one 9 (1 : Int32) a b S (by unfold S_dp; decide) h hw hK hD) (S := []) (fun v hv => by cases (show (none : Option Int32) = some v from hv)) _ _ hes k26 kS kD
  have r : KG (pj 22) (fun w => (K_w0 w ∧ ¬ w = 14) ∧ ¬ w = 13) (A_txt (1 : Int32) (A_next a0)) (B_next b0) [] (1 : Int32) := r
  have eR := A_read_eq a
  rw [eA] at eR
  rw [eB]
  rcases r with ⟨r0, j, v, r1, r2, r3⟩ | ⟨r1, b2, m2, X2, ⟨j, r2⟩, r3, r4, r5, r6, r7, r8⟩
  · rw [if_pos r0] at eR
    refine ⟨j, v, r1, ?_, ?_⟩
    · rw [A_sen_0 (by rw [eR]), eR]; exact r2
    · rw [eR]; exact r3
  · rw [if_neg (show ¬ (A_txt (1 : Int32) (A_next a0)).1 = 0 from by rw [r1]; decide)] at eR
    obtain ⟨g1, g2, g3, g4⟩ := r3
    have hT := g1.1.2.2.2
    obtain ⟨k1, k2, k3⟩ := K_nj g3.sb r5 (fun v hv => by cases (show (none : Option Int32) = some v from hv)) r6 (by omega)
    have top := ex_stk_nil k1
    have top0 := ex_top0 top
    have top1 : (B_joins (22 : Int32) (B_nots b2)).1 24 = 0 := by
      obtain ⟨q2, q3, q4⟩ := k3.2.1
      exact Int32.toInt_inj.mp (by rw [e0]; omega)
    have e6 : (A_txt (1 : Int32) (A_next a0)).2.1 3 = (B_joins (22 : Int32) (B_nots b2)).1 6 := by rw [k3.1.1 6 (by decide)]; exact hT.1
    by_cases c : (A_txt (1 : Int32) (A_next a0)).2.1 4 = 1
    · have h5 : b2.1 5 = 0 := by
        rcases hT.2 with t | t | t | t | t
        · exact t.2.1
        · rw [t.1] at c; exact absurd c (by decide)
        · rw [t.1] at c; exact absurd c (by decide)
        · have g := t.1
          rw [c] at g
          exact absurd g (by decide +kernel)
        · rw [t.1] at c; exact absurd c (by decide)
      have ec : A_atEnd (A_txt (1 : Int32) (A_next a0)).2 = 1 := by
        unfold A_atEnd
        exact if_pos c
      rw [if_neg (show ¬ A_atEnd (A_txt (1 : Int32) (A_next a0)).2 = 0 from by rw [ec]; decide)] at eR
      refine ⟨1 + j, ((B_joins (22 : Int32) (B_nots b2)).1 23, B_joins (22 : Int32) (B_nots b2)), ?_, ?_, ?_⟩
      · rw [r2, B_it_e r4 h5, if_neg top0]
      · rw [A_sen_1 (by rw [eR]; exact (show ¬ (1 : Int32) = 0 from by decide)), eR]
        show (B_joins (22 : Int32) (B_nots b2)).1 23 = (A_txt (1 : Int32) (A_next a0)).2.1 21
        rw [k3.1.1 23 (by decide)]
        exact g1.2.2.1.symm
      · rw [eR]
        show (B_joins (22 : Int32) (B_nots b2)).1 9 = (A_txt (1 : Int32) (A_next a0)).2.1 9
        rw [k3.1.1 9 (by decide)]
        exact g1.2.2.2.symm
    · have h5 : ¬ b2.1 5 = 0 := by
        intro q
        rcases hT.2 with t | t | t | t | t
        · exact c t.1
        · rw [t.2.1] at q; exact absurd q (by decide)
        · rw [t.2.1] at q; exact absurd q (by decide)
        · rw [t.2.1] at q; exact absurd q (by decide)
        · rw [t.2.1] at q; exact absurd q (by decide)
      have ec : A_atEnd (A_txt (1 : Int32) (A_next a0)).2 = 0 := by
        unfold A_atEnd
        exact if_neg c
      rw [if_pos ec] at eR
      have qb := bh_noc hT g3.sb r8.1.2 r8.2
      have qb2 : B_behind b2 = B_bad (1 : Int32) (B_joins (22 : Int32) (B_nots b2)) := by
        rw [qb]
        unfold B_bhC
        by_cases c1 : B_isSign (41 : Int32) (B_joins (22 : Int32) (B_nots b2)) = 0
        · rw [if_pos c1]
        · rw [if_neg c1, if_pos top1]
      obtain ⟨-, k, v, f1, f2, f3⟩ := KF_go ⟨j, r2⟩ (KF_b r4 h5 qb2 e6)
      refine ⟨k, v, f1, ?_, ?_⟩
      · rw [A_sen_0 (by rw [eR]; rfl), eR]; exact f2
      · rw [eR]; exact f3
