/-! While a sentence is read: codes and stack. -/
noncomputable def ab_smk (kr ks : Nat) (c t w : ab_I) : ab_Y := (5, [(none, (kr : Int)), (none, (ks : Int)), c, t, w])
/-- what it says -/
noncomputable def ab_ssm (kr ks : Nat) (ws : va_W) (c t w : Int) : Prop := ∃ (nf : Nat) (f : Nat → Int32) (ng : Nat) (g : Nat → Int32) (d : Nat), ab_arr ws kr = some (nf, f) ∧ ab_arr ws ks = some (ng, g) ∧ 0 ≤ c ∧ 0 ≤ t ∧ 0 ≤ w ∧ fk_rpn f 0 c.toNat = some d ∧ fk_nb g t.toNat + w.toNat ≤ d
theorem ab_s_to {kr ks : Nat} (b1 : kr ≤ 2147483647) (b2 : ks ≤ 2147483647) {z : ab_Z} {ws : va_W} {c t w : ab_I} (h : ab_fs z ws (ab_smk kr ks c t w)) : ∃ x y u, ab_evI z.1 c = some x ∧ ab_evI z.1 t = some y ∧ ab_evI z.1 w = some u ∧ ab_ssm kr ks ws x.toInt y.toInt u.toInt := by
  obtain ⟨xs, e, hm⟩ := h
  obtain ⟨x1, r1, rfl, e1, e⟩ := ab_m1 e
  obtain ⟨x2, r2, rfl, e2, e⟩ := ab_m1 e
  obtain ⟨x3, r3, rfl, e3, e⟩ := ab_m1 e
  obtain ⟨x4, r4, rfl, e4, e⟩ := ab_m1 e
  obtain ⟨x5, r5, rfl, e5, e⟩ := ab_m1 e
  cases ab_m0 e
  simp only [ab_evI, Option.some.injEq] at e1 e2
  subst e1 e2
  obtain ⟨c9, t9, w9, nf, ff, ng, gg, d, hy9, hr9, t1, t2, t3, t4, t5⟩ := hm
  simp only [List.drop_succ_cons, List.drop_zero, List.cons.injEq, and_true] at hy9
  obtain ⟨rfl, rfl, rfl⟩ := hy9
  simp only [List.take_succ_cons, List.take_zero, List.map_cons, List.map_nil, List.cons.injEq, and_true, ab_nI b1, ab_nI b2] at hr9
  exact ⟨_, _, _, e3, e4, e5, nf, ff, ng, gg, d, hr9.1, hr9.2, t1, t2, t3, t4, t5⟩
theorem ab_s_of {kr ks : Nat} (b1 : kr ≤ 2147483647) (b2 : ks ≤ 2147483647) {z : ab_Z} {ws : va_W} {c t w : ab_I} {x y u : Int32} (h1 : ab_evI z.1 c = some x) (h2 : ab_evI z.1 t = some y) (h3 : ab_evI z.1 w = some u) (h : ab_ssm kr ks ws x.toInt y.toInt u.toInt) : ab_fs z ws (ab_smk kr ks c t w) := by
  obtain ⟨nf, f, ng, g, d, hf, hg, t1, t2, t3, t4, t5⟩ := h
  refine ⟨[Int32.ofInt kr, Int32.ofInt ks, x, y, u], by simp only [ab_smk, List.map_cons, List.map_nil, h1, h2, h3]; rfl, x, y, u, nf, f, ng, g, d, rfl, ?_, t1, t2, t3, t4, t5⟩
  simp only [List.take_succ_cons, List.take_zero, List.map_cons, List.map_nil, ab_nI b1, ab_nI b2, hf, hg]
/-- the first such fact -/
noncomputable def ab_sfd (kr ks : Nat) : List ab_Y → Option (ab_I × ab_I × ab_I)
  | [] => none
  | f :: r => (match f with
    | (5, [x, y, c, t, w]) => bif ab_eqI x (none, (kr : Int)) && ab_eqI y (none, (ks : Int)) then some (c, t, w) else ab_sfd kr ks r
    | _ => ab_sfd kr ks r)
theorem ab_sfd_ok {kr ks : Nat} : ∀ {fx : List ab_Y} {c t w : ab_I}, ab_sfd kr ks fx = some (c, t, w) → ab_smk kr ks c t w ∈ fx
  | [], c, t, w, h => by cases h
  | f :: r, c, t, w, h => by
    simp only [ab_sfd] at h
    split at h
    · rename_i x y c' t' w'
      cases hb : (ab_eqI x (none, (kr : Int)) && ab_eqI y (none, (ks : Int)))
      · rw [hb, cond_false] at h
        exact List.mem_cons_of_mem _ (ab_sfd_ok h)
      · rw [hb, cond_true] at h
        cases h
        rw [Bool.and_eq_true] at hb
        cases ab_eqI_eq hb.1
        cases ab_eqI_eq hb.2
        exact List.mem_cons_self
    · exact List.mem_cons_of_mem _ (ab_sfd_ok h)
noncomputable def ab_k2 (kr ks : Nat) : Bool := Nat.ble kr 2147483647 && Nat.ble ks 2147483647
/-- nothing is read yet -/
noncomputable def pr_s0 (kr ks : Nat) : ab_PR := fun env aw _ _ => bif ab_k2 kr ks && ab_row aw.1 kr && ab_row aw.1 ks then some [(env, ab_smk kr ks (none, 0) (none, 0) (none, 0) :: aw.2)] else none
theorem pr_s0_ok {X : ab_X} {kr ks : Nat} : ab_prs X (pr_s0 kr ks) := by
  intro env aw lv st l z ws s cst h h1 h2 h3 h4
  unfold pr_s0 at h
  cases hb : (ab_k2 kr ks && ab_row aw.1 kr && ab_row aw.1 ks)
  · rw [hb] at h; cases h
  · rw [hb, cond_true] at h
    cases h
    rw [ab_k2, Bool.and_eq_true, Bool.and_eq_true, Bool.and_eq_true] at hb
    obtain ⟨⟨⟨b1, b2⟩, b3⟩, b4⟩ := hb
    obtain ⟨nf, f, hf⟩ := ab_row_ok h2 b3
    obtain ⟨ng, g, hg⟩ := ab_row_ok h2 b4
    refine ⟨_, List.mem_cons_self, h1, fun q hq => ?_⟩
    rcases List.mem_cons.mp hq with rfl | hq
    · exact ab_s_of (Nat.le_of_ble_eq_true b1) (Nat.le_of_ble_eq_true b2) (x := 0) (y := 0) (u := 0) rfl rfl rfl ⟨nf, f, ng, g, 0, hf, hg, by decide, by decide, by decide, rfl, Nat.le_refl _⟩
    · exact h2.2 q hq
/-- an int, one more or less: no overflow -/
noncomputable def ab_pl (env : ab_E) (a : ab_I) (n : Int) : Option ab_I := ab_ivK env a (fun lo hi => bif ab_le 0 (lo + n) && ab_le 0 lo && ab_le hi 2147483000 then (bif ab_ie lo hi then ab_fi (lo + n) (fun m => some (none, m)) else some (a.1, a.2 + n)) else none)
theorem ab_pl_ok {env : ab_E} {rho : List Int32} (hR : ab_eR env rho) {a b : ab_I} {n : Int} (hn : n = 1 ∨ n = -1) (h : ab_pl env a n = some b) {x : Int32} (hx : ab_evI rho a = some x) : ∃ y, ab_evI rho b = some y ∧ y.toInt = x.toInt + n ∧ 0 ≤ y.toInt := by
  unfold ab_pl at h
  rw [ab_ivK_eq] at h
  cases hb : (ab_le 0 ((ab_iv env a).1 + n) && ab_le 0 (ab_iv env a).1 && ab_le (ab_iv env a).2 2147483000)
  · rw [hb] at h; cases h
  · rw [hb, cond_true] at h
    rw [Bool.and_eq_true, Bool.and_eq_true, ab_le_iff, ab_le_iff, ab_le_iff] at hb
    have hi := ab_iv_spec hR hx
    cases hs : ab_ie (ab_iv env a).1 (ab_iv env a).2
    case true =>
      rw [hs, cond_true, ab_fi_eq] at h
      cases h
      rw [ab_ie_iff] at hs
      have e9 := ab_of ((ab_iv env a).1 + n) (by omega) (by omega)
      exact ⟨_, rfl, by rw [e9]; omega, by rw [e9]; omega⟩
    rw [hs, cond_false] at h
    cases h
    have key : (x + Int32.ofInt n).toInt = x.toInt + n := by
      rw [Int32.toInt_add, ab_of n (by omega) (by omega)]
      exact Int.bmod_eq_of_le (by omega) (by omega)
    obtain ⟨v, c⟩ := a
    refine ⟨x + Int32.ofInt n, ?_, key, by omega⟩
    cases v with
    | none =>
      simp only [ab_evI, Option.some.injEq] at hx ⊢
      rw [← hx, ← Int32.ofInt_add]
    | some v =>
      simp only [ab_evI] at hx ⊢
      cases hv : rho[v]? with
      | none => rw [hv] at hx; cases hx
      | some u =>
        rw [hv] at hx
        simp only [Option.map_some, Option.some.injEq] at hx ⊢
        rw [← hx, Int32.ofInt_add, Int32.add_assoc]
/-- the stack is one lower -/
noncomputable def pr_sD (kr ks : Nat) : ab_PR := fun env aw _ _ => bif ab_k2 kr ks then (match ab_sfd kr ks aw.2 with
  | some (c, t, w) => (match ab_pl env t (-1) with
    | some t' => some [(env, ab_smk kr ks c t' w :: aw.2)]
    | none => none)
  | none => none) else none
theorem fk_nb_mono {g : Nat → Int32} {t : Nat} : fk_nb g t ≤ fk_nb g (t + 1) := by
  simp only [fk_nb]; omega
theorem pr_sD_ok {X : ab_X} {kr ks : Nat} : ab_prs X (pr_sD kr ks) := by
  intro env aw lv st l z ws s cst h h1 h2 h3 h4
  unfold pr_sD at h
  cases hb : ab_k2 kr ks
  · rw [hb] at h; cases h
  · rw [hb, cond_true] at h
    rw [ab_k2, Bool.and_eq_true] at hb
    have b1 := Nat.le_of_ble_eq_true hb.1
    have b2 := Nat.le_of_ble_eq_true hb.2
    split at h
    · rename_i c t w hf
      split at h
      · rename_i t' ht
        cases h
        obtain ⟨x, y, u, e1, e2, e3, nf, f, ng, g, d, hf1, hg1, t1, t2, t3, t4, t5⟩ := ab_s_to b1 b2 (h2.2 _ (ab_sfd_ok hf))
        obtain ⟨y', e4, e5, e6⟩ := ab_pl_ok h1 (Or.inr rfl) ht e2
        refine ⟨_, List.mem_cons_self, h1, fun q hq => ?_⟩
        rcases List.mem_cons.mp hq with rfl | hq
        · refine ab_s_of b1 b2 e1 e4 e3 ⟨nf, f, ng, g, d, hf1, hg1, t1, e6, t3, t4, ?_⟩
          have : y.toInt.toNat = y'.toInt.toNat + 1 := by omega
          rw [this] at t5
          exact Nat.le_trans (Nat.add_le_add_right fk_nb_mono _) t5
        · exact h2.2 q hq
      · cases h
    · cases h
