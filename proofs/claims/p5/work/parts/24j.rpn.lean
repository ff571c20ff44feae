/-! Codes that are good. -/
noncomputable def ab_rmk (k off : Nat) (i n : ab_I) : ab_Y := (4, [(none, (k : Int)), (none, (k : Int)), (none, (off : Int)), i, n])
noncomputable def ab_rsm (k off : Nat) (ws : va_W) (i n : Int) : Prop := ∃ (nf : Nat) (f : Nat → Int32), ab_arr ws k = some (nf, f) ∧ 0 ≤ i ∧ i ≤ 45 ∧ 0 ≤ n ∧ fk_rpn f (off + 1) i.toNat = some n.toNat ∧ ∀ i' : Nat, i' ≤ 45 → (i' : Int) ≤ (f off).toInt → fk_rpn f (off + 1) i' ≠ none
theorem ab_r_to {k off : Nat} (b1 : k ≤ 2147483647) (b2 : off ≤ 2147483647) {z : ab_Z} {ws : va_W} {i n : ab_I} (h : ab_fs z ws (ab_rmk k off i n)) : ∃ x y, ab_evI z.1 i = some x ∧ ab_evI z.1 n = some y ∧ ab_rsm k off ws x.toInt y.toInt := by
  obtain ⟨xs, e, hm⟩ := h
  obtain ⟨x1, r1, rfl, e1, e⟩ := ab_m1 e
  obtain ⟨x2, r2, rfl, e2, e⟩ := ab_m1 e
  obtain ⟨x3, r3, rfl, e3, e⟩ := ab_m1 e
  obtain ⟨x4, r4, rfl, e4, e⟩ := ab_m1 e
  obtain ⟨x5, r5, rfl, e5, e⟩ := ab_m1 e
  cases ab_m0 e
  simp only [ab_evI, Option.some.injEq] at e1 e2 e3
  subst e1 e2 e3
  obtain ⟨off9, i9, n9, nf, ff, rr, hy9, hr9, t1, t2, t3, t4, t5⟩ := hm
  simp only [List.drop_succ_cons, List.drop_zero, List.cons.injEq, and_true] at hy9
  obtain ⟨rfl, rfl, rfl⟩ := hy9
  simp only [List.take_succ_cons, List.take_zero, List.map_cons, List.map_nil, List.cons.injEq, and_true, ab_nI b1] at hr9
  rw [ab_nI b2] at t4 t5
  exact ⟨_, _, e4, e5, nf, ff, hr9.1, t1, t2, t3, t4, t5⟩
theorem ab_r_of {k off : Nat} (b1 : k ≤ 2147483647) (b2 : off ≤ 2147483647) {z : ab_Z} {ws : va_W} {i n : ab_I} {x y : Int32} (h1 : ab_evI z.1 i = some x) (h2 : ab_evI z.1 n = some y) (h : ab_rsm k off ws x.toInt y.toInt) : ab_fs z ws (ab_rmk k off i n) := by
  obtain ⟨nf, f, hf, t1, t2, t3, t4, t5⟩ := h
  refine ⟨[Int32.ofInt k, Int32.ofInt k, Int32.ofInt off, x, y], by simp only [ab_rmk, List.map_cons, List.map_nil, h1, h2]; rfl, Int32.ofInt off, x, y, nf, f, some (nf, f), rfl, ?_, t1, t2, t3, ?_, ?_⟩
  · simp only [List.take_succ_cons, List.take_zero, List.map_cons, List.map_nil, ab_nI b1, hf]
  · rw [ab_nI b2]; exact t4
  · rw [ab_nI b2]; exact t5
noncomputable def ab_rex (k off : Nat) (p : ab_I → ab_I → Bool) (fx : List ab_Y) : Bool := fx.any (fun f => match f with
  | (4, [x, y, o, i, n]) => ab_eqI x (none, (k : Int)) && ab_eqI y (none, (k : Int)) && ab_eqI o (none, (off : Int)) && p i n
  | _ => false)
theorem ab_rex_ok {k off : Nat} (b1 : k ≤ 2147483647) (b2 : off ≤ 2147483647) {p : ab_I → ab_I → Bool} {fx : List ab_Y} {z : ab_Z} {ws : va_W} (h : ab_rex k off p fx = true) (hf : ∀ f ∈ fx, ab_fs z ws f) : ∃ i n x y, p i n = true ∧ ab_evI z.1 i = some x ∧ ab_evI z.1 n = some y ∧ ab_rsm k off ws x.toInt y.toInt := by
  obtain ⟨f, h1, h2⟩ := List.any_eq_true.mp h
  split at h2
  · rename_i x y o i n
    rw [Bool.and_eq_true, Bool.and_eq_true, Bool.and_eq_true] at h2
    obtain ⟨⟨⟨g1, g2⟩, g3⟩, g4⟩ := h2
    cases ab_eqI_eq g1
    cases ab_eqI_eq g2
    cases ab_eqI_eq g3
    obtain ⟨x', y', e1, e2, e3⟩ := ab_r_to b1 b2 (hf _ h1)
    exact ⟨i, n, x', y', g4, e1, e2, e3⟩
  · cases h2
/-- no codes at all -/
noncomputable def pr_r0 (k off : Nat) : ab_PR := fun env aw _ _ => bif ab_k2 k off && ab_row aw.1 k && ab_plb env aw.1 k off (fun _ hi => ab_le hi 0) then some [(env, ab_rmk k off (none, 0) (none, 0) :: aw.2)] else none
theorem pr_r0_ok {X : ab_X} {k off : Nat} : ab_prs X (pr_r0 k off) := by
  intro env aw lv st l z ws s cst h h1 h2 h3 h4
  unfold pr_r0 at h
  cases hb : (ab_k2 k off && ab_row aw.1 k && ab_plb env aw.1 k off (fun _ hi => ab_le hi 0))
  · rw [hb] at h; cases h
  · rw [hb, cond_true] at h
    cases h
    rw [ab_k2, Bool.and_eq_true, Bool.and_eq_true, Bool.and_eq_true] at hb
    obtain ⟨⟨⟨b1, b2⟩, b3⟩, b4⟩ := hb
    obtain ⟨nf, f, hf⟩ := ab_row_ok h2 b3
    obtain ⟨x, y, p1, p2, p3⟩ := ab_plb_ok h1 h2 b4 hf
    rw [ab_le_iff] at p1
    refine ⟨_, List.mem_cons_self, h1, fun q hq => ?_⟩
    rcases List.mem_cons.mp hq with rfl | hq
    · refine ab_r_of (Nat.le_of_ble_eq_true b1) (Nat.le_of_ble_eq_true b2) (x := 0) (y := 0) rfl rfl ⟨nf, f, hf, by decide, by decide, by decide, rfl, fun i' _ hi' => ?_⟩
      have : i' = 0 := by omega
      rw [this]
      simp [fk_rpn]
    · exact h2.2 q hq
theorem fk_rpn_congr {f g : Nat → Int32} {a b : Nat} : ∀ {i : Nat}, (∀ j : Nat, j < 3 * i → f (a + j) = g (b + j)) → fk_rpn f a i = fk_rpn g b i
  | 0, _ => rfl
  | i + 1, h => by
    have ih := fk_rpn_congr (f := f) (g := g) (a := a) (b := b) (i := i) (fun j hj => h j (by omega))
    have e1 := h (3 * i) (by omega)
    have e2 := h (3 * i + 2) (by omega)
    simp only [fk_rpn, ih]
    rw [Nat.add_assoc a, Nat.add_assoc b, e1, e2]
theorem fk_rpn_pre {f : Nat → Int32} {a : Nat} : ∀ {n i d : Nat}, fk_rpn f a n = some d → i ≤ n → fk_rpn f a i ≠ none
  | 0, i, d, h, hi => by
    have : i = 0 := by omega
    rw [this, h]; simp
  | n + 1, i, d, h, hi => by
    by_cases hin : i = n + 1
    · rw [hin, h]; simp
    · cases hn : fk_rpn f a n with
      | none => simp only [fk_rpn, hn] at h; cases h
      | some d' => exact fk_rpn_pre hn (by omega)
theorem fk_rpn_le {f : Nat → Int32} {a : Nat} : ∀ {i d : Nat}, fk_rpn f a i = some d → d ≤ i
  | 0, d, h => by simp only [fk_rpn, Option.some.injEq] at h; omega
  | i + 1, d, h => by
    cases hn : fk_rpn f a i with
    | none => simp only [fk_rpn, hn] at h; cases h
    | some d' =>
      have ih := fk_rpn_le hn
      simp only [fk_rpn, hn] at h
      split at h
      · split at h
        · cases h; omega
        · cases h
      · split at h
        · split at h
          · cases h; omega
          · cases h
        · split at h
          · split at h
            · cases h; omega
            · cases h
          · cases h; omega
/-- two stretches of rows hold the same ints -/
noncomputable def ab_same (cs : List ab_C) (k a k2 b : Nat) : Nat → Bool
  | 0 => true
  | n + 1 => (match ab_pla cs k (a + n), ab_pla cs k2 (b + n) with
    | some x, some y => ab_eqI x y
    | _, _ => false) && ab_same cs k a k2 b n
theorem ab_same_ok {X : ab_X} {z : ab_Z} {s : State} {aw : ab_H} {ws : va_W} (hw : ab_wR X z s aw ws) {k a k2 b : Nat} {nf : Nat} {f : Nat → Int32} {ng : Nat} {g : Nat → Int32} (hf : ab_arr ws k = some (nf, f)) (hg : ab_arr ws k2 = some (ng, g)) : ∀ {n : Nat}, ab_same aw.1 k a k2 b n = true → ∀ j : Nat, j < n → f (a + j) = g (b + j)
  | 0, _, j, hj => by omega
  | n + 1, h, j, hj => by
    simp only [ab_same, Bool.and_eq_true] at h
    by_cases hjn : j = n
    · subst hjn
      have h0 := h.1
      split at h0
      · rename_i x y hx hy
        cases ab_eqI_eq h0
        obtain ⟨n1, f1, k1, -, k3⟩ := ab_pla_ok hw hx
        obtain ⟨n2, f2, k4, -, k6⟩ := ab_pla_ok hw hy
        rw [hf] at k1
        rw [hg] at k4
        cases k1
        cases k4
        rw [k3] at k6
        exact Option.some.inj k6
      · cases h0
    · exact ab_same_ok hw hf hg h.2 j (by omega)
/-- a copy -/
noncomputable def pr_rC (k off k2 off2 : Nat) : ab_PR := fun env aw _ _ => bif ab_k2 k off && ab_k2 k2 off2 && ab_row aw.1 k && ab_rex k2 off2 (fun i n => ab_eqI i (none, 0) && ab_eqI n (none, 0)) aw.2 && ab_same aw.1 k off k2 off2 136 then some [(env, ab_rmk k off (none, 0) (none, 0) :: aw.2)] else none
theorem pr_rC_ok {X : ab_X} {k off k2 off2 : Nat} : ab_prs X (pr_rC k off k2 off2) := by
  intro env aw lv st l z ws s cst h h1 h2 h3 h4
  unfold pr_rC at h
  cases hb : (ab_k2 k off && ab_k2 k2 off2 && ab_row aw.1 k && ab_rex k2 off2 (fun i n => ab_eqI i (none, 0) && ab_eqI n (none, 0)) aw.2 && ab_same aw.1 k off k2 off2 136)
  · rw [hb] at h; cases h
  · rw [hb, cond_true] at h
    cases h
    rw [ab_k2, ab_k2, Bool.and_eq_true, Bool.and_eq_true, Bool.and_eq_true, Bool.and_eq_true, Bool.and_eq_true, Bool.and_eq_true] at hb
    obtain ⟨⟨⟨⟨⟨b1, b2⟩, b3, b4⟩, b5⟩, b6⟩, b7⟩ := hb
    obtain ⟨nf, f, hf⟩ := ab_row_ok h2 b5
    obtain ⟨i, n, x, y, -, -, -, ng, g, hg, t1, t2, t3, t4, t5⟩ := ab_rex_ok (Nat.le_of_ble_eq_true b3) (Nat.le_of_ble_eq_true b4) b6 h2.2
    have hs := ab_same_ok h2 hf hg b7
    have h0 := hs 0 (by omega)
    rw [Nat.add_zero, Nat.add_zero] at h0
    refine ⟨_, List.mem_cons_self, h1, fun q hq => ?_⟩
    rcases List.mem_cons.mp hq with rfl | hq
    · refine ab_r_of (Nat.le_of_ble_eq_true b1) (Nat.le_of_ble_eq_true b2) (x := 0) (y := 0) rfl rfl ⟨nf, f, hf, by decide, by decide, by decide, rfl, fun i' h45 hi' => ?_⟩
      rw [fk_rpn_congr (g := g) (b := off2 + 1) (fun j hj => by
        have := hs (1 + j) (by omega)
        rw [← Nat.add_assoc, ← Nat.add_assoc] at this
        exact this)]
      exact t5 i' h45 (by rw [← h0]; exact hi')
    · exact h2.2 q hq
/-- a copy, if it can be had -/
noncomputable def pr_rY (k off k2 off2 : Nat) : ab_PR := fun env aw _ _ => bif ab_k2 k off && ab_k2 k2 off2 && ab_row aw.1 k && ab_rex k2 off2 (fun i n => ab_eqI i (none, 0) && ab_eqI n (none, 0)) aw.2 && ab_same aw.1 k off k2 off2 136 then some [(env, ab_rmk k off (none, 0) (none, 0) :: aw.2)] else some [(env, aw.2)]
theorem pr_rY_ok {X : ab_X} {k off k2 off2 : Nat} : ab_prs X (pr_rY k off k2 off2) := by
  intro env aw lv st l z ws s cst h h1 h2 h3 h4
  unfold pr_rY at h
  cases hb : (ab_k2 k off && ab_k2 k2 off2 && ab_row aw.1 k && ab_rex k2 off2 (fun i n => ab_eqI i (none, 0) && ab_eqI n (none, 0)) aw.2 && ab_same aw.1 k off k2 off2 136)
  · rw [hb, cond_false] at h; cases h; exact ⟨(env, aw.2), List.mem_cons_self, h1, h2.2⟩
  · rw [hb, cond_true] at h
    cases h
    rw [ab_k2, ab_k2, Bool.and_eq_true, Bool.and_eq_true, Bool.and_eq_true, Bool.and_eq_true, Bool.and_eq_true, Bool.and_eq_true] at hb
    obtain ⟨⟨⟨⟨⟨b1, b2⟩, b3, b4⟩, b5⟩, b6⟩, b7⟩ := hb
    obtain ⟨nf, f, hf⟩ := ab_row_ok h2 b5
    obtain ⟨i, n, x, y, -, -, -, ng, g, hg, t1, t2, t3, t4, t5⟩ := ab_rex_ok (Nat.le_of_ble_eq_true b3) (Nat.le_of_ble_eq_true b4) b6 h2.2
    have hs := ab_same_ok h2 hf hg b7
    have h0 := hs 0 (by omega)
    rw [Nat.add_zero, Nat.add_zero] at h0
    refine ⟨_, List.mem_cons_self, h1, fun q hq => ?_⟩
    rcases List.mem_cons.mp hq with rfl | hq
    · refine ab_r_of (Nat.le_of_ble_eq_true b1) (Nat.le_of_ble_eq_true b2) (x := 0) (y := 0) rfl rfl ⟨nf, f, hf, by decide, by decide, by decide, rfl, fun i' h45 hi' => ?_⟩
      rw [fk_rpn_congr (g := g) (b := off2 + 1) (fun j hj => by
        have := hs (1 + j) (by omega)
        rw [← Nat.add_assoc, ← Nat.add_assoc] at this
        exact this)]
      exact t5 i' h45 (by rw [← h0]; exact hi')
    · exact h2.2 q hq
/-- out of what was read -/
noncomputable def pr_rF (kr ks k off : Nat) : ab_PR := fun env aw _ _ => bif ab_k2 kr ks && ab_k2 k off && ab_row aw.1 k then (match ab_sfd kr ks aw.2 with
  | some (c, _, _) => ab_one env c (fun n => bif ab_plb env aw.1 k off (fun _ hi => ab_le hi n) && ab_same aw.1 k (off + 1) kr 0 (3 * n) then some [(env, ab_rmk k off (none, 0) (none, 0) :: aw.2)] else none)
  | none => none) else none
theorem pr_rF_ok {X : ab_X} {kr ks k off : Nat} : ab_prs X (pr_rF kr ks k off) := by
  intro env aw lv st l z ws s cst h h1 h2 h3 h4
  unfold pr_rF at h
  cases hb : (ab_k2 kr ks && ab_k2 k off && ab_row aw.1 k)
  · rw [hb] at h; cases h
  · rw [hb, cond_true] at h
    rw [ab_k2, ab_k2, Bool.and_eq_true, Bool.and_eq_true, Bool.and_eq_true, Bool.and_eq_true] at hb
    obtain ⟨⟨⟨b1, b2⟩, b3, b4⟩, b5⟩ := hb
    split at h
    · rename_i c t w hf
      obtain ⟨n, hn, h, hx⟩ := ab_one_ok h1 h
      cases hc : (ab_plb env aw.1 k off (fun _ hi => ab_le hi n) && ab_same aw.1 k (off + 1) kr 0 (3 * n))
      · rw [hc] at h; cases h
      · rw [hc, cond_true] at h
        cases h
        rw [Bool.and_eq_true] at hc
        obtain ⟨x, y, u, e1, e2, e3, nf, f, ng, g, d, hf1, hg1, t1, t2, t3, t4, t5⟩ := ab_s_to (Nat.le_of_ble_eq_true b1) (Nat.le_of_ble_eq_true b2) (h2.2 _ (ab_sfd_ok hf))
        have hxn := hx x e1
        have hxt : x.toInt.toNat = n := by omega
        rw [hxt] at t4
        obtain ⟨nk, fk, hk⟩ := ab_row_ok h2 b5
        obtain ⟨x1, x2, p1, p2, p3⟩ := ab_plb_ok h1 h2 hc.1 hk
        rw [ab_le_iff] at p1
        have hs := ab_same_ok h2 hk hf1 hc.2
        refine ⟨_, List.mem_cons_self, h1, fun q hq => ?_⟩
        rcases List.mem_cons.mp hq with rfl | hq
        · refine ab_r_of (Nat.le_of_ble_eq_true b3) (Nat.le_of_ble_eq_true b4) (x := 0) (y := 0) rfl rfl ⟨nk, fk, hk, by decide, by decide, by decide, rfl, fun i' h45 hi' => ?_⟩
          have hle : i' ≤ n := by omega
          rw [fk_rpn_congr (g := f) (b := 0) (fun j hj => hs j (by omega))]
          exact fk_rpn_pre t4 hle
        · exact h2.2 q hq
    · cases h
