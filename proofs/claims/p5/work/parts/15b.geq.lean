/-! Sums that follow from facts; measures that may use facts. -/
noncomputable def ab_bd (c : Int) : Bool := ab_le (-2147483648) c && ab_le c 2147483647
theorem ab_bd_ok {c : Int} (h : ab_bd c = true) : (Int32.ofInt c).toInt = c := by
  unfold ab_bd at h
  rw [Bool.and_eq_true, ab_le_iff, ab_le_iff] at h
  exact ab_of c h.1 h.2
noncomputable def ab_unz : List ab_I → Option (List Int × List ab_I × Int)
  | [(none, k)] => bif ab_bd k then some ([], [], k) else none
  | (none, c) :: x :: r => (match ab_unz r with
    | some (cs, xs, k) => bif ab_bd c then some (c :: cs, x :: xs, k) else none
    | none => none)
  | _ => none
theorem ab_unz_ok {rho : List Int32} : ∀ {l : List ab_I} {ys : List Int32} {cs : List Int} {xs : List ab_I} {k : Int}, ab_unz l = some (cs, xs, k) → l.map (ab_evI rho) = ys.map some → ∃ vs, xs.map (ab_evI rho) = vs.map some ∧ ab_lin ys = k + ab_dot cs vs
  | [], ys, cs, xs, k, h, e => by simp [ab_unz] at h
  | [(some v, c)], ys, cs, xs, k, h, e => by simp [ab_unz] at h
  | (some v, c) :: x :: r, ys, cs, xs, k, h, e => by simp [ab_unz] at h
  | [(none, k0)], ys, cs, xs, k, h, e => by
    simp only [ab_unz] at h
    cases hb : ab_bd k0
    · rw [hb] at h; cases h
    · rw [hb, cond_true] at h
      cases h
      match ys, e with
      | [y], e =>
        simp only [List.map_cons, List.map_nil, ab_evI, List.cons.injEq, Option.some.injEq, and_true] at e
        exact ⟨[], rfl, by simp only [ab_lin, ab_dot, ← e, ab_bd_ok hb]; omega⟩
  | (none, c) :: x :: r, [], cs, xs, k, h, e => by simp at e
  | (none, c) :: x :: r, [_], cs, xs, k, h, e => by simp at e
  | (none, c) :: x :: r, y :: w :: ys, cs, xs, k, h, e => by
    simp only [List.map_cons, List.cons.injEq] at e
    obtain ⟨e1, e2, e3⟩ := e
    rw [ab_unz] at h
    split at h
    · rename_i cs0 xs0 k0 h0
      cases hb : ab_bd c
      · rw [hb] at h; cases h
      · rw [hb, cond_true] at h
        cases h
        obtain ⟨vs, g1, g2⟩ := ab_unz_ok h0 e3
        simp only [ab_evI, Option.some.injEq] at e1
        refine ⟨w :: vs, by simp only [List.map_cons, e2, g1], ?_⟩
        simp only [ab_lin, ab_dot, g2, ← e1, ab_bd_ok hb]; omega
    · cases h
noncomputable def ab_geq (env : ab_E) (k1 : Int) (cs1 : List Int) : List ab_Y → Bool
  | [] => ab_le 0 (k1 + ab_lb cs1 env)
  | (kd, l) :: r => (bif Nat.beq kd 0 then (match ab_unz l with
    | some (cs, xs, k) => (match ab_cmp env xs cs k [] with
      | some (k2, cs2) => ab_le 0 (k1 - k2 + ab_lb (ab_subd cs1 cs2) env)
      | none => false)
    | none => false) else false) || ab_geq env k1 cs1 r
theorem ab_geq_ok {env : ab_E} {z : ab_Z} {ws : va_W} (hR : ab_eR env z.1) {k1 : Int} {cs1 : List Int} : ∀ {fx : List ab_Y}, (∀ f ∈ fx, ab_fs z ws f) → ab_geq env k1 cs1 fx = true → 0 ≤ k1 + ab_dot cs1 z.1
  | [], _, h => by
    simp only [ab_geq, ab_le_iff] at h
    have := (ab_dot_in (cs := cs1) hR).1
    omega
  | (kd, l) :: r, hf, h => by
    simp only [ab_geq, Bool.or_eq_true] at h
    rcases h with h | h
    · cases hk : Nat.beq kd 0
      · rw [hk] at h; cases h
      · rw [hk, cond_true] at h
        cases Nat.eq_of_beq_eq_true hk
        obtain ⟨ys, h1, h2⟩ := hf _ List.mem_cons_self
        split at h
        · rename_i cs xs k hu
          split at h
          · rename_i k2 cs2 hc
            rw [ab_le_iff] at h
            obtain ⟨vs, g1, g2⟩ := ab_unz_ok hu h1
            have g3 := ab_cmp_ok hR hc g1
            have h4 : ab_dot [] z.1 = 0 := by simp [ab_dot]
            have h5 := (ab_dot_in (cs := ab_subd cs1 cs2) hR).1
            rw [ab_dot_sub] at h5
            have h6 : (0 : Int) ≤ ab_lin ys := h2
            omega
          · cases h
        · cases h
    · exact ab_geq_ok hR (fun f hf9 => hf f (List.mem_cons_of_mem _ hf9)) h
noncomputable def ab_mch2 (env : ab_E) (fx : List ab_Y) (sg : List ab_I) (m' m : Int × List Int) : Bool := match ab_cmp env sg m'.2 m'.1 [] with
  | some (k, cs) => ab_le 0 (k + ab_lb cs env) && ab_geq env (m.1 - k - 1) (ab_subd m.2 cs) fx
  | none => false
theorem ab_mch2_ok {env : ab_E} {z : ab_Z} {ws : va_W} {fx : List ab_Y} {vs : List Int32} (hR : ab_eR env z.1) (hf : ∀ f ∈ fx, ab_fs z ws f) {sg : List ab_I} {m' m : Int × List Int} (h : ab_mch2 env fx sg m' m = true) (e : sg.map (ab_evI z.1) = vs.map some) : 0 ≤ m'.1 + ab_dot m'.2 vs ∧ m'.1 + ab_dot m'.2 vs < m.1 + ab_dot m.2 z.1 := by
  unfold ab_mch2 at h
  split at h
  · rename_i k cs hk
    rw [Bool.and_eq_true, ab_le_iff] at h
    have h1 := ab_cmp_ok hR hk e
    have h2 := ab_dot_in (cs := cs) hR
    have h3 := ab_geq_ok hR hf h.2
    rw [ab_dot_sub] at h3
    have h4 : ab_dot [] z.1 = 0 := by simp [ab_dot]
    rw [h4] at h1
    omega
  · cases h
