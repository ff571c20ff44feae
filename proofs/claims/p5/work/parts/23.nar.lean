/-! A prelude: facts of kind 0 narrow the intervals of their ints. -/
theorem ab_nar_ok {env : ab_E} {rho : List Int32} (hR : ab_eR env rho) {T : Int} : ∀ {l : List ab_I} {xs : List Int32} {u P : Int} {e : ab_E}, ab_eR e rho → l.map (ab_evI rho) = xs.map some → ab_lub env l = some u → P ≤ T - u → 0 ≤ P + ab_lin xs → ∃ e', ab_nar env T l e = some e' ∧ ab_eR e' rho
  | [], xs, u, P, e, he, _, _, _, _ => ⟨e, by simp [ab_nar], he⟩
  | [(none, c)], xs, u, P, e, he, _, _, _, _ => ⟨e, by simp [ab_nar], he⟩
  | [(some v, c)], xs, u, P, e, he, _, _, _, _ => ⟨e, by simp [ab_nar], he⟩
  | (some v, c) :: x :: r, xs, u, P, e, he, _, _, _, _ => ⟨e, by simp [ab_nar], he⟩
  | (none, c) :: x :: r, [], u, P, e, he, em, _, _, _ => by simp at em
  | (none, c) :: x :: r, [_], u, P, e, he, em, _, _, _ => by simp at em
  | (none, c) :: x :: r, y :: w :: ys, u, P, e, he, em, hu, hP, h0 => by
    simp only [List.map_cons, List.cons.injEq] at em
    obtain ⟨e1, e2, e3⟩ := em
    simp only [ab_lub] at hu
    split at hu
    · rename_i u0 c9 hu0 hc9
      cases hc9
      cases hb : (ab_le (-2147483648) c && ab_le c 2147483647)
      · rw [hb] at hu; cases hu
      · rw [hb, cond_true, Option.some.injEq] at hu
        rw [Bool.and_eq_true, ab_le_iff, ab_le_iff] at hb
        obtain ⟨i1, i2⟩ := ab_iv_spec hR e2
        simp only [ab_evI, Option.some.injEq] at e1
        have hc : y.toInt = c := by rw [← e1]; exact ab_of c hb.1 hb.2
        have hm := ab_mul_ub (c := c) i1 i2
        have hl := ab_lub_ok hR e3 hu0
        have hw := ab_i32 w
        simp only [ab_lin, hc] at h0
        have hrec : ∀ e9, ab_eR e9 rho → ∃ e', ab_nar env T r e9 = some e' ∧ ab_eR e' rho := fun e9 h9 => ab_nar_ok hR (P := P + c * w.toInt) h9 e3 hu0 (by omega) (by omega)
        simp only [ab_nar]
        cases h1 : ab_ie c 1
        · rw [cond_false]
          cases h2 : ab_ie c (-1)
          · rw [cond_false]; exact hrec e he
          · rw [cond_true]
            have hc1 := ab_ie_iff.mp h2
            subst hc1
            have hub : (bif ab_le 0 (-1) then (-1) * (ab_iv env x).2 else (-1) * (ab_iv env x).1) = -1 * (ab_iv env x).1 := by rfl
            rw [hub] at hu hm
            obtain ⟨e9, g1, g2⟩ := ab_rf_spec he e2 (lo := -2147483648) (hi := T + (ab_iv env x).1) (by omega) (by omega)
            rw [g1]
            exact hrec e9 g2
        · rw [cond_true]
          have hc1 := ab_ie_iff.mp h1
          subst hc1
          have hub : (bif ab_le 0 1 then 1 * (ab_iv env x).2 else 1 * (ab_iv env x).1) = 1 * (ab_iv env x).2 := by rfl
          rw [hub] at hu hm
          obtain ⟨e9, g1, g2⟩ := ab_rf_spec he e2 (lo := (ab_iv env x).2 - T) (hi := 2147483647) (by omega) (by omega)
          rw [g1]
          exact hrec e9 g2
    · cases hu
noncomputable def ab_usf (env : ab_E) : List ab_Y → ab_E → Option ab_E
  | [], e => some e
  | (kd, l) :: r, e => bif Nat.beq kd 0 then (match ab_lub env l with
    | some u => (match ab_nar env u l e with
      | some e' => ab_usf env r e'
      | none => none)
    | none => ab_usf env r e) else ab_usf env r e
theorem ab_usf_ok {env : ab_E} {z : ab_Z} {ws : va_W} (hR : ab_eR env z.1) : ∀ {fx : List ab_Y} {e : ab_E}, (∀ f ∈ fx, ab_fs z ws f) → ab_eR e z.1 → ∃ e', ab_usf env fx e = some e' ∧ ab_eR e' z.1
  | [], e, _, he => ⟨e, rfl, he⟩
  | (kd, l) :: r, e, hf, he => by
    have ih : ∀ e9, ab_eR e9 z.1 → ∃ e', ab_usf env r e9 = some e' ∧ ab_eR e' z.1 := fun e9 h9 => ab_usf_ok hR (fun f hf9 => hf f (List.mem_cons_of_mem _ hf9)) h9
    simp only [ab_usf]
    cases hk : Nat.beq kd 0
    · rw [cond_false]; exact ih e he
    · rw [cond_true]
      cases Nat.eq_of_beq_eq_true hk
      cases hu : ab_lub env l with
      | none => exact ih e he
      | some u =>
        obtain ⟨xs, h1, h2⟩ := hf _ List.mem_cons_self
        obtain ⟨e9, g1, g2⟩ := ab_nar_ok hR (T := u) (P := 0) he h1 hu (by omega) (by have h3 : (0 : Int) ≤ ab_lin xs := h2; omega)
        simp only [g1]
        exact ih e9 g2
noncomputable def pr_use : ab_PR := fun env aw _ _ => match ab_usf env aw.2 env with
  | some e => some [(e, aw.2)]
  | none => some []
theorem pr_use_ok {X : ab_X} : ab_prs X pr_use := by
  intro env aw lv st l z ws s cst h h1 h2 h3 h4
  obtain ⟨e, g1, g2⟩ := ab_usf_ok h1 h2.2 h1
  simp only [pr_use, g1, Option.some.injEq] at h
  subst h
  exact ⟨(e, aw.2), List.mem_cons_self, g2, fun f hf => h2.2 f hf⟩
