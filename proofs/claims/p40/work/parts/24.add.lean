/-! Preludes: what stands at a locator, by its values; a sum that is not below 0 is added to the facts. -/
theorem ab_wf_ev {env : ab_E} {rho : List Int32} (hR : ab_eR env rho) {a : ab_I} (h : ab_wfI env.length a = true) : ∃ x, ab_evI rho a = some x := by
  obtain ⟨v, c⟩ := a
  cases v with
  | none => exact ⟨_, rfl⟩
  | some v =>
    have hv : v < rho.length := by
      rw [hR.1]
      exact Nat.le_of_ble_eq_true h
    exact ⟨rho[v] + Int32.ofInt c, by simp [ab_evI, List.getElem?_eq_getElem hv]⟩
def pr_at (q : Nat × Nat × Nat) : ab_PR := fun env aw lv _ => match ab_lc aw lv q with
  | some a => bif ab_wfI env.length a then some (ab_splI env aw.2 a) else none
  | none => none
theorem pr_at_ok {X : ab_X} {q : Nat × Nat × Nat} : ab_prs X (pr_at q) := by
  intro env aw lv st l z ws s cst h h1 h2 h3 h4
  unfold pr_at at h
  split at h
  · rename_i a ha
    cases hb : ab_wfI env.length a
    · rw [hb] at h; cases h
    · rw [hb, cond_true] at h
      cases h
      obtain ⟨y, hy⟩ := ab_wf_ev h1 hb
      obtain ⟨q, hq, g1, g2⟩ := ab_splI_ok (fx := aw.2) h1 hy
      exact ⟨q, hq, g1, fun f hf => h2.2 f (g2 ▸ hf)⟩
  · cases h
def ab_bd (c : Int) : Bool := ab_le (-2147483648) c && ab_le c 2147483647
theorem ab_bd_ok {c : Int} (h : ab_bd c = true) : (Int32.ofInt c).toInt = c := by
  unfold ab_bd at h
  rw [Bool.and_eq_true, ab_le_iff, ab_le_iff] at h
  exact ab_of c h.1 h.2
def ab_ilv : List Int → List ab_I → Int → List ab_I
  | c :: cs, x :: xs, k => (none, c) :: x :: ab_ilv cs xs k
  | _, _, k => [(none, k)]
def ab_ilc : List Int → List ab_I → Bool
  | c :: cs, _ :: xs => ab_bd c && ab_ilc cs xs
  | [], [] => true
  | _, _ => false
theorem ab_ilv_ok {rho : List Int32} {k : Int} (hk : ab_bd k = true) : ∀ {cs : List Int} {xs : List ab_I} {vs : List Int32}, ab_ilc cs xs = true → xs.map (ab_evI rho) = vs.map some → ∃ ys, (ab_ilv cs xs k).map (ab_evI rho) = ys.map some ∧ ab_lin ys = k + ab_dot cs vs
  | [], [], vs, _, e => by
    cases vs with
    | nil => exact ⟨[Int32.ofInt k], by simp [ab_ilv, ab_evI], by simp [ab_lin, ab_dot, ab_bd_ok hk]⟩
    | cons _ _ => simp at e
  | [], _ :: _, _, h, _ => by simp [ab_ilc] at h
  | _ :: _, [], _, h, _ => by simp [ab_ilc] at h
  | c :: cs, x :: xs, [], _, e => by simp at e
  | c :: cs, x :: xs, v :: vs, h, e => by
    simp only [ab_ilc, Bool.and_eq_true] at h
    simp only [List.map_cons, List.cons.injEq] at e
    obtain ⟨ys, h1, h2⟩ := ab_ilv_ok hk h.2 e.2
    refine ⟨Int32.ofInt c :: v :: ys, ?_, ?_⟩
    · simp only [ab_ilv, List.map_cons, e.1, h1]; rfl
    · simp only [ab_lin, ab_dot, ab_bd_ok h.1, h2]; omega
def ab_unz : List ab_I → Option (List Int × List ab_I × Int)
  | [(none, k)] => bif ab_bd k then some ([], [], k) else none
  | (none, c) :: x :: r => (match ab_unz r with
    | some (cs, xs, k) => bif ab_bd c then some (c :: cs, x :: xs, k) else none
    | none => none)
  | _ => none
theorem ab_unz_ok {rho : List Int32} : ∀ {l : List ab_I} {ys : List Int32} {cs : List Int} {xs : List ab_I} {k : Int}, ab_unz l = some (cs, xs, k) → l.map (ab_evI rho) = ys.map some → ∃ vs, xs.map (ab_evI rho) = vs.map some ∧ ab_lin ys = k + ab_dot cs vs
  | [], ys, cs, xs, k, h, e => by simp [ab_unz] at h
  | [(some v, c)], ys, cs, xs, k, h, e => by simp [ab_unz] at h
  | (some v, c) :: x :: r, ys, cs, xs, k, h, e => by simp [ab_unz] at h
  | [(none, k0)], ys, cs, xs, k, h, e => by
    simp only [ab_unz] at h
    cases hb : ab_bd k0
    · rw [hb] at h; cases h
    · rw [hb, cond_true] at h
      cases h
      match ys, e with
      | [y], e =>
        simp only [List.map_cons, List.map_nil, ab_evI, List.cons.injEq, Option.some.injEq, and_true] at e
        exact ⟨[], rfl, by simp only [ab_lin, ab_dot, ← e, ab_bd_ok hb]; omega⟩
  | (none, c) :: x :: r, [], cs, xs, k, h, e => by simp at e
  | (none, c) :: x :: r, [_], cs, xs, k, h, e => by simp at e
  | (none, c) :: x :: r, y :: w :: ys, cs, xs, k, h, e => by
    simp only [List.map_cons, List.cons.injEq] at e
    obtain ⟨e1, e2, e3⟩ := e
    rw [ab_unz] at h
    split at h
    · rename_i cs0 xs0 k0 h0
      cases hb : ab_bd c
      · rw [hb] at h; cases h
      · rw [hb, cond_true] at h
        cases h
        obtain ⟨vs, g1, g2⟩ := ab_unz_ok h0 e3
        simp only [ab_evI, Option.some.injEq] at e1
        refine ⟨w :: vs, by simp only [List.map_cons, e2, g1], ?_⟩
        simp only [ab_lin, ab_dot, g2, ← e1, ab_bd_ok hb]; omega
    · cases h
def ab_geq (env : ab_E) (k1 : Int) (cs1 : List Int) : List ab_Y → Bool
  | [] => ab_le 0 (k1 + ab_lb cs1 env)
  | (kd, l) :: r => (bif Nat.beq kd 0 then (match ab_unz l with
    | some (cs, xs, k) => (match ab_cmp env xs cs k [] with
      | some (k2, cs2) => ab_le 0 (k1 - k2 + ab_lb (ab_subd cs1 cs2) env)
      | none => false)
    | none => false) else false) || ab_geq env k1 cs1 r
theorem ab_geq_ok {env : ab_E} {z : ab_Z} {ws : va_W} (hR : ab_eR env z.1) {k1 : Int} {cs1 : List Int} : ∀ {fx : List ab_Y}, (∀ f ∈ fx, ab_fs z ws f) → ab_geq env k1 cs1 fx = true → 0 ≤ k1 + ab_dot cs1 z.1
  | [], _, h => by
    simp only [ab_geq, ab_le_iff] at h
    have := (ab_dot_in (cs := cs1) hR).1
    omega
  | (kd, l) :: r, hf, h => by
    simp only [ab_geq, Bool.or_eq_true] at h
    rcases h with h | h
    · cases hk : Nat.beq kd 0
      · rw [hk] at h; cases h
      · rw [hk, cond_true] at h
        cases Nat.eq_of_beq_eq_true hk
        obtain ⟨ys, h1, h2⟩ := hf _ List.mem_cons_self
        split at h
        · rename_i cs xs k hu
          split at h
          · rename_i k2 cs2 hc
            rw [ab_le_iff] at h
            obtain ⟨vs, g1, g2⟩ := ab_unz_ok hu h1
            have g3 := ab_cmp_ok hR hc g1
            have h4 : ab_dot [] z.1 = 0 := by simp [ab_dot]
            have h5 := (ab_dot_in (cs := ab_subd cs1 cs2) hR).1
            rw [ab_dot_sub] at h5
            have h6 : (0 : Int) ≤ ab_lin ys := h2
            omega
          · cases h
        · cases h
    · exact ab_geq_ok hR (fun f hf9 => hf f (List.mem_cons_of_mem _ hf9)) h
def pr_add (qs : List (Nat × Nat × Nat)) (cs : List Int) (k : Int) : ab_PR := fun env aw lv _ => match ab_sg aw lv qs with
  | some xs => bif xs.all (ab_wfI env.length) && ab_ilc cs xs && ab_bd k then (match ab_cmp env xs cs k [] with
    | some (k1, cs1) => bif ab_geq env k1 cs1 aw.2 then some [(env, (0, ab_ilv cs xs k) :: aw.2)] else none
    | none => none) else none
  | none => none
theorem ab_wf_evs {env : ab_E} {rho : List Int32} (hR : ab_eR env rho) : ∀ {xs : List ab_I}, xs.all (ab_wfI env.length) = true → ∃ vs : List Int32, xs.map (ab_evI rho) = vs.map some
  | [], _ => ⟨[], rfl⟩
  | x :: xs, h => by
    simp only [List.all_cons, Bool.and_eq_true] at h
    obtain ⟨y, hy⟩ := ab_wf_ev hR h.1
    obtain ⟨vs, hv⟩ := ab_wf_evs hR h.2
    exact ⟨y :: vs, by simp [hy, hv]⟩
theorem pr_add_ok {X : ab_X} {qs : List (Nat × Nat × Nat)} {cs : List Int} {k : Int} : ab_prs X (pr_add qs cs k) := by
  intro env aw lv st l z ws s cst h h1 h2 h3 h4
  unfold pr_add at h
  split at h
  · rename_i xs hxs
    cases hb : (xs.all (ab_wfI env.length) && ab_ilc cs xs && ab_bd k)
    · rw [hb] at h; cases h
    · rw [hb, cond_true] at h
      rw [Bool.and_eq_true, Bool.and_eq_true] at hb
      obtain ⟨⟨b1, b2⟩, b3⟩ := hb
      split at h
      · rename_i k1 cs1 hc
        cases hg : ab_geq env k1 cs1 aw.2
        · rw [hg] at h; cases h
        · rw [hg, cond_true] at h
          cases h
          obtain ⟨vs, hv⟩ := ab_wf_evs h1 b1
          have g3 := ab_cmp_ok h1 hc hv
          have g4 := ab_geq_ok h1 h2.2 hg
          obtain ⟨ys, y1, y2⟩ := ab_ilv_ok b3 b2 hv
          have h9 : ab_dot [] z.1 = 0 := by simp [ab_dot]
          refine ⟨_, List.mem_cons_self, h1, fun f hf => ?_⟩
          rcases List.mem_cons.mp hf with rfl | hf
          · exact ⟨ys, y1, by show (0 : Int) ≤ ab_lin ys; omega⟩
          · exact h2.2 f hf
      · cases h
  · cases h
