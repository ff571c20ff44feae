/-! Preludes: what stands at a locator, by its values; a sum that is not below 0 is added to the facts. -/
theorem ab_wf_ev {env : ab_E} {rho : List Int32} (hR : ab_eR env rho) {a : ab_I} (h : ab_wfI env.length a = true) : ∃ x, ab_evI rho a = some x := by
  obtain ⟨v, c⟩ := a
  cases v with
  | none => exact ⟨_, rfl⟩
  | some v =>
    have hv : v < rho.length := by
      rw [hR.1]
      exact Nat.le_of_ble_eq_true h
    exact ⟨rho[v] + Int32.ofInt c, by simp [ab_evI, List.getElem?_eq_getElem hv]⟩
noncomputable def pr_at (q : Nat × Nat × Nat) : ab_PR := fun env aw lv _ => match ab_lc aw lv q with
  | some a => bif ab_wfI env.length a then some (ab_splI env aw.2 a) else none
  | none => none
theorem pr_at_ok {X : ab_X} {q : Nat × Nat × Nat} : ab_prs X (pr_at q) := by
  intro env aw lv st l z ws s cst h h1 h2 h3 h4
  unfold pr_at at h
  split at h
  · rename_i a ha
    cases hb : ab_wfI env.length a
    · rw [hb] at h; cases h
    · rw [hb, cond_true] at h
      cases h
      obtain ⟨y, hy⟩ := ab_wf_ev h1 hb
      obtain ⟨q, hq, g1, g2⟩ := ab_splI_ok (fx := aw.2) h1 hy
      exact ⟨q, hq, g1, fun f hf => h2.2 f (g2 ▸ hf)⟩
  · cases h
noncomputable def ab_ilv : List Int → List ab_I → Int → List ab_I
  | c :: cs, x :: xs, k => (none, c) :: x :: ab_ilv cs xs k
  | _, _, k => [(none, k)]
noncomputable def ab_ilc : List Int → List ab_I → Bool
  | c :: cs, _ :: xs => ab_bd c && ab_ilc cs xs
  | [], [] => true
  | _, _ => false
theorem ab_ilv_ok {rho : List Int32} {k : Int} (hk : ab_bd k = true) : ∀ {cs : List Int} {xs : List ab_I} {vs : List Int32}, ab_ilc cs xs = true → xs.map (ab_evI rho) = vs.map some → ∃ ys, (ab_ilv cs xs k).map (ab_evI rho) = ys.map some ∧ ab_lin ys = k + ab_dot cs vs
  | [], [], vs, _, e => by
    cases vs with
    | nil => exact ⟨[Int32.ofInt k], by simp [ab_ilv, ab_evI], by simp [ab_lin, ab_dot, ab_bd_ok hk]⟩
    | cons _ _ => simp at e
  | [], _ :: _, _, h, _ => by simp [ab_ilc] at h
  | _ :: _, [], _, h, _ => by simp [ab_ilc] at h
  | c :: cs, x :: xs, [], _, e => by simp at e
  | c :: cs, x :: xs, v :: vs, h, e => by
    simp only [ab_ilc, Bool.and_eq_true] at h
    simp only [List.map_cons, List.cons.injEq] at e
    obtain ⟨ys, h1, h2⟩ := ab_ilv_ok hk h.2 e.2
    refine ⟨Int32.ofInt c :: v :: ys, ?_, ?_⟩
    · simp only [ab_ilv, List.map_cons, e.1, h1]; rfl
    · simp only [ab_lin, ab_dot, ab_bd_ok h.1, h2]; omega
noncomputable def pr_add (qs : List (Nat × Nat × Nat)) (cs : List Int) (k : Int) : ab_PR := fun env aw lv _ => match ab_sg aw lv qs with
  | some xs => bif xs.all (ab_wfI env.length) && ab_ilc cs xs && ab_bd k then (match ab_cmp env xs cs k [] with
    | some (k1, cs1) => bif ab_geq env k1 cs1 aw.2 then some [(env, (0, ab_ilv cs xs k) :: aw.2)] else none
    | none => none) else none
  | none => none
theorem ab_wf_evs {env : ab_E} {rho : List Int32} (hR : ab_eR env rho) : ∀ {xs : List ab_I}, xs.all (ab_wfI env.length) = true → ∃ vs : List Int32, xs.map (ab_evI rho) = vs.map some
  | [], _ => ⟨[], rfl⟩
  | x :: xs, h => by
    simp only [List.all_cons, Bool.and_eq_true] at h
    obtain ⟨y, hy⟩ := ab_wf_ev hR h.1
    obtain ⟨vs, hv⟩ := ab_wf_evs hR h.2
    exact ⟨y :: vs, by simp [hy, hv]⟩
theorem pr_add_ok {X : ab_X} {qs : List (Nat × Nat × Nat)} {cs : List Int} {k : Int} : ab_prs X (pr_add qs cs k) := by
  intro env aw lv st l z ws s cst h h1 h2 h3 h4
  unfold pr_add at h
  split at h
  · rename_i xs hxs
    cases hb : (xs.all (ab_wfI env.length) && ab_ilc cs xs && ab_bd k)
    · rw [hb] at h; cases h
    · rw [hb, cond_true] at h
      rw [Bool.and_eq_true, Bool.and_eq_true] at hb
      obtain ⟨⟨b1, b2⟩, b3⟩ := hb
      split at h
      · rename_i k1 cs1 hc
        cases hg : ab_geq env k1 cs1 aw.2
        · rw [hg] at h; cases h
        · rw [hg, cond_true] at h
          cases h
          obtain ⟨vs, hv⟩ := ab_wf_evs h1 b1
          have g3 := ab_cmp_ok h1 hc hv
          have g4 := ab_geq_ok h1 h2.2 hg
          obtain ⟨ys, y1, y2⟩ := ab_ilv_ok b3 b2 hv
          have h9 : ab_dot [] z.1 = 0 := by simp [ab_dot]
          refine ⟨_, List.mem_cons_self, h1, fun f hf => ?_⟩
          rcases List.mem_cons.mp hf with rfl | hf
          · exact ⟨ys, y1, by show (0 : Int) ≤ ab_lin ys; omega⟩
          · exact h2.2 f hf
      · cases h
  · cases h
