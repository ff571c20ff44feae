/-! Sums that two known facts give. -/
noncomputable def ab_gq2 (env : ab_E) (k1 : Int) (cs1 : List Int) (fx : List ab_Y) : List ab_Y → Bool
  | [] => ab_geq env k1 cs1 fx
  | (kd, l) :: r => (bif Nat.beq kd 0 then (match ab_unz l with
    | some (cs, xs, k) => (match ab_cmp env xs cs k [] with
      | some (k2, cs2) => ab_geq env (k1 - k2) (ab_subd cs1 cs2) fx
      | none => false)
    | none => false) else false) || ab_gq2 env k1 cs1 fx r
theorem ab_gq2_ok {env : ab_E} {z : ab_Z} {ws : va_W} (hR : ab_eR env z.1) {k1 : Int} {cs1 : List Int} {fx : List ab_Y} (hfx : ∀ f ∈ fx, ab_fs z ws f) : ∀ {l : List ab_Y}, (∀ f ∈ l, ab_fs z ws f) → ab_gq2 env k1 cs1 fx l = true → 0 ≤ k1 + ab_dot cs1 z.1
  | [], _, h => ab_geq_ok hR hfx h
  | (kd, l) :: r, hf, h => by
    simp only [ab_gq2, Bool.or_eq_true] at h
    rcases h with h | h
    · cases hk : Nat.beq kd 0
      · rw [hk] at h; cases h
      · rw [hk, cond_true] at h
        cases Nat.eq_of_beq_eq_true hk
        obtain ⟨ys, h1, h2⟩ := hf _ List.mem_cons_self
        split at h
        · rename_i cs xs k hu
          split at h
          · rename_i k2 cs2 hc
            obtain ⟨vs, g1, g2⟩ := ab_unz_ok hu h1
            have g3 := ab_cmp_ok hR hc g1
            have h4 : ab_dot [] z.1 = 0 := by simp [ab_dot]
            have h5 := ab_geq_ok hR hfx h
            rw [ab_dot_sub] at h5
            have h6 : (0 : Int) ≤ ab_lin ys := h2
            omega
          · cases h
        · cases h
    · exact ab_gq2_ok hR hfx (fun f hf9 => hf f (List.mem_cons_of_mem _ hf9)) h
noncomputable def pr_add2 (qs : List (Nat × Nat × Nat)) (cs : List Int) (k : Int) : ab_PR := fun env aw lv _ => match ab_sg aw lv qs with
  | some xs => bif xs.all (ab_wfI env.length) && ab_ilc cs xs && ab_bd k then (match ab_cmp env xs cs k [] with
    | some (k1, cs1) => bif ab_gq2 env k1 cs1 aw.2 aw.2 then some [(env, (0, ab_ilv cs xs k) :: aw.2)] else none
    | none => none) else none
  | none => none
theorem pr_add2_ok {X : ab_X} {qs : List (Nat × Nat × Nat)} {cs : List Int} {k : Int} : ab_prs X (pr_add2 qs cs k) := by
  intro env aw lv st l z ws s cst h h1 h2 h3 h4
  unfold pr_add2 at h
  split at h
  · rename_i xs hxs
    cases hb : (xs.all (ab_wfI env.length) && ab_ilc cs xs && ab_bd k)
    · rw [hb] at h; cases h
    · rw [hb, cond_true] at h
      rw [Bool.and_eq_true, Bool.and_eq_true] at hb
      obtain ⟨⟨b1, b2⟩, b3⟩ := hb
      split at h
      · rename_i k1 cs1 hc
        cases hg : ab_gq2 env k1 cs1 aw.2 aw.2
        · rw [hg] at h; cases h
        · rw [hg, cond_true] at h
          cases h
          obtain ⟨vs, hv⟩ := ab_wf_evs h1 b1
          have g3 := ab_cmp_ok h1 hc hv
          have g4 := ab_gq2_ok h1 h2.2 h2.2 hg
          obtain ⟨ys, y1, y2⟩ := ab_ilv_ok b3 b2 hv
          have h9 : ab_dot [] z.1 = 0 := by simp [ab_dot]
          refine ⟨_, List.mem_cons_self, h1, fun f hf => ?_⟩
          rcases List.mem_cons.mp hf with rfl | hf
          · exact ⟨ys, y1, by show (0 : Int) ≤ ab_lin ys; omega⟩
          · exact h2.2 f hf
      · cases h
  · cases h
/-- the same, if it can be had -/
noncomputable def pr_try (qs : List (Nat × Nat × Nat)) (cs : List Int) (k : Int) : ab_PR := fun env aw lv _ => match ab_sg aw lv qs with
  | some xs => bif xs.all (ab_wfI env.length) && ab_ilc cs xs && ab_bd k then (match ab_cmp env xs cs k [] with
    | some (k1, cs1) => bif ab_gq2 env k1 cs1 aw.2 aw.2 then some [(env, (0, ab_ilv cs xs k) :: aw.2)] else some [(env, aw.2)]
    | none => some [(env, aw.2)]) else some [(env, aw.2)]
  | none => some [(env, aw.2)]
theorem pr_try_ok {X : ab_X} {qs : List (Nat × Nat × Nat)} {cs : List Int} {k : Int} : ab_prs X (pr_try qs cs k) := by
  intro env aw lv st l z ws s cst h h1 h2 h3 h4
  unfold pr_try at h
  split at h
  · rename_i xs hxs
    cases hb : (xs.all (ab_wfI env.length) && ab_ilc cs xs && ab_bd k)
    · rw [hb, cond_false] at h; cases h; exact ⟨(env, aw.2), List.mem_cons_self, h1, h2.2⟩
    · rw [hb, cond_true] at h
      rw [Bool.and_eq_true, Bool.and_eq_true] at hb
      obtain ⟨⟨b1, b2⟩, b3⟩ := hb
      split at h
      · rename_i k1 cs1 hc
        cases hg : ab_gq2 env k1 cs1 aw.2 aw.2
        · rw [hg, cond_false] at h; cases h; exact ⟨(env, aw.2), List.mem_cons_self, h1, h2.2⟩
        · rw [hg, cond_true] at h
          cases h
          obtain ⟨vs, hv⟩ := ab_wf_evs h1 b1
          have g3 := ab_cmp_ok h1 hc hv
          have g4 := ab_gq2_ok h1 h2.2 h2.2 hg
          obtain ⟨ys, y1, y2⟩ := ab_ilv_ok b3 b2 hv
          have h9 : ab_dot [] z.1 = 0 := by simp [ab_dot]
          refine ⟨_, List.mem_cons_self, h1, fun f hf => ?_⟩
          rcases List.mem_cons.mp hf with rfl | hf
          · exact ⟨ys, y1, by show (0 : Int) ≤ ab_lin ys; omega⟩
          · exact h2.2 f hf
      · cases h; exact ⟨(env, aw.2), List.mem_cons_self, h1, h2.2⟩
  · cases h; exact ⟨(env, aw.2), List.mem_cons_self, h1, h2.2⟩
