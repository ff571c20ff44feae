/-! While a sentence is read: pushes, codes. -/
/-- a known place of a row -/
noncomputable def ab_f1 (k : Nat) (i : ab_I) : List ab_Y → Option ab_I
  | [] => none
  | f :: r => (match f with
    | (1, [x, j, v]) => bif ab_eqI x (none, (k : Int)) && ab_eqI j i then some v else ab_f1 k i r
    | _ => ab_f1 k i r)
theorem ab_f1_mem {k : Nat} {i : ab_I} : ∀ {fx : List ab_Y} {v : ab_I}, ab_f1 k i fx = some v → (1, [(none, (k : Int)), i, v]) ∈ fx
  | [], v, h => by cases h
  | f :: r, v, h => by
    simp only [ab_f1] at h
    split at h
    · rename_i x j v'
      cases hb : (ab_eqI x (none, (k : Int)) && ab_eqI j i)
      · rw [hb, cond_false] at h
        exact List.mem_cons_of_mem _ (ab_f1_mem h)
      · rw [hb, cond_true] at h
        cases h
        rw [Bool.and_eq_true] at hb
        cases ab_eqI_eq hb.1
        cases ab_eqI_eq hb.2
        exact List.mem_cons_self
    · exact List.mem_cons_of_mem _ (ab_f1_mem h)
theorem ab_f1_ok {k : Nat} (b : k ≤ 2147483647) {i v : ab_I} {fx : List ab_Y} {z : ab_Z} {ws : va_W} (h : ab_f1 k i fx = some v) (hf : ∀ f ∈ fx, ab_fs z ws f) {n : Nat} {g : Nat → Int32} (hg : ab_arr ws k = some (n, g)) {y : Int32} (hy : ab_evI z.1 i = some y) : ab_evI z.1 v = some (g y.toInt.toNat) := by
  obtain ⟨xs, e, hm⟩ := hf _ (ab_f1_mem h)
  obtain ⟨x1, r1, rfl, e1, e⟩ := ab_m1 e
  obtain ⟨x2, r2, rfl, e2, e⟩ := ab_m1 e
  obtain ⟨x3, r3, rfl, e3, e⟩ := ab_m1 e
  cases ab_m0 e
  simp only [ab_evI, Option.some.injEq] at e1
  subst e1
  obtain ⟨k9, i9, v9, n9, f9, h1, h2, h3, h4, h5⟩ := hm
  simp only [List.cons.injEq, and_true] at h1
  obtain ⟨rfl, rfl, rfl⟩ := h1
  rw [ab_nI b, hg] at h2
  cases h2
  rw [hy] at e2
  cases e2
  rw [e3, ← h5]
  rfl
/-- one more on the stack -/
noncomputable def pr_sP (kr ks : Nat) : ab_PR := fun env aw _ _ => bif ab_k2 kr ks then (match ab_sfd kr ks aw.2 with
  | some (c, t, w) => (match ab_pl env t 1, ab_f1 ks t aw.2 with
    | some t', some v => ab_ivK env v (fun lo hi => bif ab_le (hi + 1) 21 || ab_le 23 lo then some [(env, ab_smk kr ks c t' w :: aw.2)] else bif ab_isN env 1 w then some [(env, ab_smk kr ks c t' (none, 0) :: aw.2)] else none)
    | _, _ => none)
  | none => none) else none
theorem pr_sP_ok {X : ab_X} {kr ks : Nat} : ab_prs X (pr_sP kr ks) := by
  intro env aw lv st l z ws s cst h h1 h2 h3 h4
  unfold pr_sP at h
  cases hb : ab_k2 kr ks
  · rw [hb] at h; cases h
  · rw [hb, cond_true] at h
    rw [ab_k2, Bool.and_eq_true] at hb
    have b1 := Nat.le_of_ble_eq_true hb.1
    have b2 := Nat.le_of_ble_eq_true hb.2
    split at h
    · rename_i c t w hf
      split at h
      · rename_i t' v ht hv
        obtain ⟨x, y, u, e1, e2, e3, nf, f, ng, g, d, hf1, hg1, t1, t2, t3, t4, t5⟩ := ab_s_to b1 b2 (h2.2 _ (ab_sfd_ok hf))
        obtain ⟨y', e4, e5, e6⟩ := ab_pl_ok h1 (Or.inl rfl) ht e2
        have e7 := ab_f1_ok b2 hv h2.2 hg1 e2
        have i7 := ab_iv_spec h1 e7
        have hy : y'.toInt.toNat = y.toInt.toNat + 1 := by omega
        rw [ab_ivK_eq] at h
        cases hc : (ab_le ((ab_iv env v).2 + 1) 21 || ab_le 23 (ab_iv env v).1)
        · rw [hc, cond_false] at h
          cases hw : ab_isN env 1 w
          · rw [hw] at h; cases h
          · rw [hw, cond_true] at h
            cases h
            have hu := ab_isN_ok h1 hw e3
            refine ⟨_, List.mem_cons_self, h1, fun q hq => ?_⟩
            rcases List.mem_cons.mp hq with rfl | hq
            · refine ab_s_of b1 b2 e1 e4 (u := 0) rfl ⟨nf, f, ng, g, d, hf1, hg1, t1, e6, by decide, t4, ?_⟩
              have h0 : (0 : Int32).toInt.toNat = 0 := by decide
              have h9 : u.toInt.toNat = 1 := by omega
              rw [h0, hy]
              simp only [fk_nb]
              rw [h9] at t5
              split <;> omega
            · exact h2.2 q hq
        · rw [hc, cond_true] at h
          cases h
          rw [Bool.or_eq_true, ab_le_iff, ab_le_iff] at hc
          refine ⟨_, List.mem_cons_self, h1, fun q hq => ?_⟩
          rcases List.mem_cons.mp hq with rfl | hq
          · refine ab_s_of b1 b2 e1 e4 e3 ⟨nf, f, ng, g, d, hf1, hg1, t1, e6, t3, t4, ?_⟩
            rw [hy]
            simp only [fk_nb]
            rw [if_neg (by omega)]
            exact t5
          · exact h2.2 q hq
      · cases h
    · cases h
/-- a place of a row, by its interval; it is there -/
noncomputable def ab_plb (env : ab_E) (cs : List ab_C) (k j : Nat) (p : Int → Int → Bool) : Bool := match ab_get cs k with
  | some (.inr (t, n, _, d, ov)) => Nat.beq t 0 && Nat.blt j n && ab_wivK env (ab_at d ov j) p false
  | _ => false
theorem ab_plb_ok {X : ab_X} {env : ab_E} {z : ab_Z} {s : State} {aw : ab_H} {ws : va_W} (hR : ab_eR env z.1) (hw : ab_wR X z s aw ws) {k j : Nat} {p : Int → Int → Bool} (h : ab_plb env aw.1 k j p = true) {n : Nat} {f : Nat → Int32} (hk : ab_arr ws k = some (n, f)) : ∃ x y, p x y = true ∧ x ≤ (f j).toInt ∧ (f j).toInt ≤ y := by
  unfold ab_plb at h
  rw [ab_get_eq] at h
  split at h
  · rename_i t n' fl d ov hc
    rw [Bool.and_eq_true, Bool.and_eq_true] at h
    cases Nat.eq_of_beq_eq_true h.1.1
    have hj : j < n' := Nat.le_of_ble_eq_true h.1.2
    obtain ⟨⟨ad, e⟩, h1, cA, xx, h2, ⟨ff, rfl⟩, h4, h5⟩ := hw.1.2 k _ hc
    dsimp only at h2
    subst h2
    unfold ab_arr at hk
    rw [h1] at hk
    cases hk
    obtain ⟨x, y, g1, g2⟩ := ab_wivB_ok (X := X) hR h.2
    obtain ⟨m, g3, g4, g5⟩ := g2 _ (h5 j hj)
    have : m = f j := by
      have : (Value.int (f j)) = Value.int m := g3
      cases this; rfl
    subst this
    exact ⟨x, y, g1, g4, g5⟩
  · cases h
/-- one more code -/
noncomputable def pr_sE (kr ks : Nat) : ab_PR := fun env aw _ _ => bif ab_k2 kr ks then (match ab_sfd kr ks aw.2 with
  | some (c, t, w) => ab_one env c (fun n =>
      bif ab_plb env aw.1 kr (3 * n) (fun lo hi => ab_le (hi + 1) 20 || ab_le 23 lo) && (ab_plb env aw.1 kr (3 * n) (fun lo hi => ab_le (hi + 1) 3 || ab_le 4 lo) || ab_plb env aw.1 kr (3 * n + 2) (fun lo hi => ab_le 0 lo && ab_le hi 6)) && ab_isN env 0 w then some [(env, ab_smk kr ks (none, ((n + 1 : Nat) : Int)) t (none, 1) :: aw.2)]
      else (match ab_pl env t (-1) with
      | some t' => bif ab_ivK env w (fun lo _ => ab_le 1 lo) && (ab_plb env aw.1 kr (3 * n) (fun lo hi => ab_ie lo 20 && ab_ie hi 20) || (ab_plb env aw.1 kr (3 * n) (fun lo hi => ab_le 21 lo && ab_le hi 22) && (match ab_f1 ks t' aw.2 with
        | some v => ab_ivK env v (fun lo hi => ab_le 21 lo && ab_le hi 22)
        | none => false))) then some [(env, ab_smk kr ks (none, ((n + 1 : Nat) : Int)) t' w :: aw.2)] else none
      | none => none))
  | none => none) else none
theorem pr_sE_ok {X : ab_X} {kr ks : Nat} : ab_prs X (pr_sE kr ks) := by
  intro env aw lv st l z ws s cst h h1 h2 h3 h4
  unfold pr_sE at h
  cases hb : ab_k2 kr ks
  · rw [hb] at h; cases h
  · rw [hb, cond_true] at h
    rw [ab_k2, Bool.and_eq_true] at hb
    have b1 := Nat.le_of_ble_eq_true hb.1
    have b2 := Nat.le_of_ble_eq_true hb.2
    split at h
    · rename_i c t w hf
      obtain ⟨n, hn, h, hx⟩ := ab_one_ok h1 h
      obtain ⟨x, y, u, e1, e2, e3, nf, f, ng, g, d, hf1, hg1, t1, t2, t3, t4, t5⟩ := ab_s_to b1 b2 (h2.2 _ (ab_sfd_ok hf))
      have hxn := hx x e1
      have hxt : x.toInt.toNat = n := by omega
      rw [hxt] at t4
      have hn1 := ab_nI2 (n := n + 1) (by omega)
      have hn2 : (Int32.ofInt ((n + 1 : Nat) : Int)).toInt.toNat = n + 1 := by rw [hn1]; rfl
      cases hc : (ab_plb env aw.1 kr (3 * n) (fun lo hi => ab_le (hi + 1) 20 || ab_le 23 lo) && (ab_plb env aw.1 kr (3 * n) (fun lo hi => ab_le (hi + 1) 3 || ab_le 4 lo) || ab_plb env aw.1 kr (3 * n + 2) (fun lo hi => ab_le 0 lo && ab_le hi 6)) && ab_isN env 0 w)
      · rw [hc, cond_false] at h
        split at h
        · rename_i t' ht
          obtain ⟨y', e4, e5, e6⟩ := ab_pl_ok h1 (Or.inr rfl) ht e2
          have hy : y.toInt.toNat = y'.toInt.toNat + 1 := by omega
          rw [hy] at t5
          cases hd : (ab_ivK env w (fun lo _ => ab_le 1 lo) && (ab_plb env aw.1 kr (3 * n) (fun lo hi => ab_ie lo 20 && ab_ie hi 20) || (ab_plb env aw.1 kr (3 * n) (fun lo hi => ab_le 21 lo && ab_le hi 22) && (match ab_f1 ks t' aw.2 with
            | some v => ab_ivK env v (fun lo hi => ab_le 21 lo && ab_le hi 22)
            | none => false))))
          · rw [hd] at h; cases h
          · rw [hd, cond_true] at h
            cases h
            rw [Bool.and_eq_true, ab_ivK_eq, ab_le_iff] at hd
            obtain ⟨d1, d2⟩ := hd
            have iu := ab_iv_spec h1 e3
            have hu : 1 ≤ u.toInt.toNat := by omega
            refine ⟨_, List.mem_cons_self, h1, fun q hq => ?_⟩
            rcases List.mem_cons.mp hq with rfl | hq
            · rw [Bool.or_eq_true] at d2
              rcases d2 with d2 | d2
              · obtain ⟨x1, x2, p1, p2, p3⟩ := ab_plb_ok h1 h2 d2 hf1
                rw [Bool.and_eq_true, ab_ie_iff, ab_ie_iff] at p1
                refine ab_s_of b1 b2 (x := Int32.ofInt ((n + 1 : Nat) : Int)) rfl e4 e3 ⟨nf, f, ng, g, d, hf1, hg1, by rw [hn1]; omega, e6, t3, ?_, ?_⟩
                · rw [hn2]
                  simp only [fk_rpn, t4]
                  rw [if_pos (by rw [Nat.zero_add]; omega), if_pos (by omega)]
                · have := fk_nb_mono (g := g) (t := y'.toInt.toNat)
                  omega
              · rw [Bool.and_eq_true] at d2
                obtain ⟨d2, d3⟩ := d2
                obtain ⟨x1, x2, p1, p2, p3⟩ := ab_plb_ok h1 h2 d2 hf1
                rw [Bool.and_eq_true, ab_le_iff, ab_le_iff] at p1
                split at d3
                · rename_i v hv
                  have e7 := ab_f1_ok b2 hv h2.2 hg1 e4
                  have i7 := ab_iv_spec h1 e7
                  rw [ab_ivK_eq, Bool.and_eq_true, ab_le_iff, ab_le_iff] at d3
                  have hnb : fk_nb g (y'.toInt.toNat + 1) = fk_nb g y'.toInt.toNat + 1 := by
                    simp only [fk_nb]
                    rw [if_pos (by omega)]
                  rw [hnb] at t5
                  refine ab_s_of b1 b2 (x := Int32.ofInt ((n + 1 : Nat) : Int)) rfl e4 e3 ⟨nf, f, ng, g, d - 1, hf1, hg1, by rw [hn1]; omega, e6, t3, ?_, by omega⟩
                  rw [hn2]
                  simp only [fk_rpn, t4]
                  rw [if_neg (by rw [Nat.zero_add]; omega), if_pos (by rw [Nat.zero_add]; omega), if_pos (by omega)]
                · cases d3
            · exact h2.2 q hq
        · cases h
      · rw [hc, cond_true] at h
        cases h
        rw [Bool.and_eq_true, Bool.and_eq_true] at hc
        obtain ⟨⟨c1, c2⟩, c3⟩ := hc
        obtain ⟨x1, x2, p1, p2, p3⟩ := ab_plb_ok h1 h2 c1 hf1
        rw [Bool.or_eq_true, ab_le_iff, ab_le_iff] at p1
        have hu := ab_isN_ok h1 c3 e3
        have hw1 : (Int32.ofInt 1).toInt = 1 := ab_of 1 (by omega) (by omega)
        refine ⟨_, List.mem_cons_self, h1, fun q hq => ?_⟩
        rcases List.mem_cons.mp hq with rfl | hq
        · refine ab_s_of b1 b2 (x := Int32.ofInt ((n + 1 : Nat) : Int)) (u := Int32.ofInt 1) rfl e2 rfl ⟨nf, f, ng, g, d + 1, hf1, hg1, by rw [hn1]; omega, t2, by rw [hw1]; omega, ?_, by rw [hw1]; omega⟩
          rw [hn2]
          simp only [fk_rpn, t4]
          rw [if_neg (by rw [Nat.zero_add]; omega), if_neg (by rw [Nat.zero_add]; omega)]
          by_cases h3v : (f (0 + 3 * n)).toInt = 3
          · rw [if_pos h3v]
            rw [Bool.or_eq_true] at c2
            rcases c2 with c2 | c2
            · obtain ⟨x3, x4, q1, q2, q3⟩ := ab_plb_ok h1 h2 c2 hf1
              rw [Bool.or_eq_true, ab_le_iff, ab_le_iff] at q1
              rw [Nat.zero_add] at h3v
              omega
            · obtain ⟨x3, x4, q1, q2, q3⟩ := ab_plb_ok h1 h2 c2 hf1
              rw [Bool.and_eq_true, ab_le_iff, ab_le_iff] at q1
              rw [if_pos (by rw [Nat.zero_add]; omega)]
          · rw [if_neg h3v]
        · exact h2.2 q hq
    · cases h
