/-! A sum with a constant more, if it can be had. -/
noncomputable def pr_tac (qs : List (Nat × Nat × Nat)) (cs : List Int) (k c : Int) : ab_PR := fun env aw lv _ => match ab_sg aw lv qs with
  | some xs => bif (xs ++ [(none, c)]).all (ab_wfI env.length) && ab_ilc cs (xs ++ [(none, c)]) && ab_bd k then (match ab_cmp env (xs ++ [(none, c)]) cs k [] with
    | some (k1, cs1) => bif ab_gq2 env k1 cs1 aw.2 aw.2 then some [(env, (0, ab_ilv cs (xs ++ [(none, c)]) k) :: aw.2)] else some [(env, aw.2)]
    | none => some [(env, aw.2)]) else some [(env, aw.2)]
  | none => some [(env, aw.2)]
theorem pr_tac_ok {X : ab_X} {qs : List (Nat × Nat × Nat)} {cs : List Int} {k c : Int} : ab_prs X (pr_tac qs cs k c) := by
  intro env aw lv st l z ws s cst h h1 h2 h3 h4
  unfold pr_tac at h
  split at h
  · rename_i xs hxs
    cases hb : ((xs ++ [(none, c)]).all (ab_wfI env.length) && ab_ilc cs (xs ++ [(none, c)]) && ab_bd k)
    · rw [hb, cond_false] at h; cases h; exact ⟨(env, aw.2), List.mem_cons_self, h1, h2.2⟩
    · rw [hb, cond_true] at h
      rw [Bool.and_eq_true, Bool.and_eq_true] at hb
      obtain ⟨⟨b1, b2⟩, b3⟩ := hb
      split at h
      · rename_i k1 cs1 hc
        cases hg : ab_gq2 env k1 cs1 aw.2 aw.2
        · rw [hg, cond_false] at h; cases h; exact ⟨(env, aw.2), List.mem_cons_self, h1, h2.2⟩
        · rw [hg, cond_true] at h
          cases h
          obtain ⟨vs, hv⟩ := ab_wf_evs h1 b1
          have g3 := ab_cmp_ok h1 hc hv
          have g4 := ab_gq2_ok h1 h2.2 h2.2 hg
          obtain ⟨ys, y1, y2⟩ := ab_ilv_ok b3 b2 hv
          have h9 : ab_dot [] z.1 = 0 := by simp [ab_dot]
          refine ⟨_, List.mem_cons_self, h1, fun f hf => ?_⟩
          rcases List.mem_cons.mp hf with rfl | hf
          · exact ⟨ys, y1, by show (0 : Int) ≤ ab_lin ys; omega⟩
          · exact h2.2 f hf
      · cases h; exact ⟨(env, aw.2), List.mem_cons_self, h1, h2.2⟩
  · cases h; exact ⟨(env, aw.2), List.mem_cons_self, h1, h2.2⟩
