/-! Facts by steps: where a row has a number, another's lies in 0..hi. -/
/-- two rows; first places, step; the number, the bound -/
abbrev ab_TS : Type := Nat × Nat × Nat × Nat × Nat × Int × Int
noncomputable def ab_tmk (w : ab_TS) (a b : ab_I) : ab_Y := (2, [(none, (w.1 : Int)), (none, (w.2.1 : Int)), (none, (w.2.2.1 : Int)), (none, (w.2.2.2.1 : Int)), (none, (w.2.2.2.2.1 : Int)), (none, w.2.2.2.2.2.1), a, b, (none, w.2.2.2.2.2.2)])
noncomputable def ab_tbd (w : ab_TS) : Bool := Nat.ble w.1 2147483647 && Nat.ble w.2.1 2147483647 && Nat.ble w.2.2.1 2147483647 && Nat.ble w.2.2.2.1 2147483647 && Nat.ble w.2.2.2.2.1 2147483647 && ab_bd w.2.2.2.2.2.1 && ab_bd w.2.2.2.2.2.2
theorem ab_nI {n : Nat} (h : n ≤ 2147483647) : (Int32.ofInt (n : Int)).toNatClampNeg = n := by
  show (Int32.ofInt (n : Int)).toInt.toNat = n
  rw [ab_of (n : Int) (by omega) (by omega)]; rfl
theorem ab_tbd_ok {w : ab_TS} (h : ab_tbd w = true) : (Int32.ofInt (w.1 : Int)).toNatClampNeg = w.1 ∧ (Int32.ofInt (w.2.1 : Int)).toNatClampNeg = w.2.1 ∧ (Int32.ofInt (w.2.2.1 : Int)).toNatClampNeg = w.2.2.1 ∧ (Int32.ofInt (w.2.2.2.1 : Int)).toNatClampNeg = w.2.2.2.1 ∧ (Int32.ofInt (w.2.2.2.2.1 : Int)).toNatClampNeg = w.2.2.2.2.1 ∧ (Int32.ofInt w.2.2.2.2.2.1).toInt = w.2.2.2.2.2.1 ∧ (Int32.ofInt w.2.2.2.2.2.2).toInt = w.2.2.2.2.2.2 := by
  unfold ab_tbd at h
  simp only [Bool.and_eq_true] at h
  obtain ⟨⟨⟨⟨⟨⟨h1, h2⟩, h3⟩, h4⟩, h5⟩, h6⟩, h7⟩ := h
  exact ⟨ab_nI (Nat.le_of_ble_eq_true h1), ab_nI (Nat.le_of_ble_eq_true h2), ab_nI (Nat.le_of_ble_eq_true h3), ab_nI (Nat.le_of_ble_eq_true h4), ab_nI (Nat.le_of_ble_eq_true h5), ab_bd_ok h6, ab_bd_ok h7⟩
/-- what it says -/
noncomputable def ab_tsm (w : ab_TS) (ws : va_W) (a b : Int) : Prop := ∃ (nf : Nat) (f : Nat → Int32) (ng : Nat) (g : Nat → Int32), ab_arr ws w.1 = some (nf, f) ∧ ab_arr ws w.2.1 = some (ng, g) ∧ ∀ j : Nat, a ≤ (j : Int) → (j : Int) < b → w.2.2.1 + w.2.2.2.2.1 * j < nf → w.2.2.2.1 + w.2.2.2.2.1 * j < ng → (f (w.2.2.1 + w.2.2.2.2.1 * j)).toInt = w.2.2.2.2.2.1 → 0 ≤ (g (w.2.2.2.1 + w.2.2.2.2.1 * j)).toInt ∧ (g (w.2.2.2.1 + w.2.2.2.2.1 * j)).toInt ≤ w.2.2.2.2.2.2
theorem ab_t_to {w : ab_TS} (hb : ab_tbd w = true) {z : ab_Z} {ws : va_W} {a b : ab_I} (h : ab_fs z ws (ab_tmk w a b)) : ∃ x y, ab_evI z.1 a = some x ∧ ab_evI z.1 b = some y ∧ ab_tsm w ws x.toInt y.toInt := by
  obtain ⟨b1, b2, b3, b4, b5, b6, b7⟩ := ab_tbd_ok hb
  obtain ⟨xs, e, hm⟩ := h
  obtain ⟨x1, r1, rfl, e1, e⟩ := ab_m1 e
  obtain ⟨x2, r2, rfl, e2, e⟩ := ab_m1 e
  obtain ⟨x3, r3, rfl, e3, e⟩ := ab_m1 e
  obtain ⟨x4, r4, rfl, e4, e⟩ := ab_m1 e
  obtain ⟨x5, r5, rfl, e5, e⟩ := ab_m1 e
  obtain ⟨x6, r6, rfl, e6, e⟩ := ab_m1 e
  obtain ⟨x7, r7, rfl, e7, e⟩ := ab_m1 e
  obtain ⟨x8, r8, rfl, e8, e⟩ := ab_m1 e
  obtain ⟨x9, r9, rfl, e9, e⟩ := ab_m1 e
  cases ab_m0 e
  simp only [ab_evI, Option.some.injEq] at e1 e2 e3 e4 e5 e6 e9
  subst e1 e2 e3 e4 e5 e6 e9
  obtain ⟨off9, off9', st9, tag9, a9, b9, hi9, nf, ff, ng, gg, hy9, hr9, ht9⟩ := hm
  simp only [List.drop_succ_cons, List.drop_zero, List.cons.injEq, and_true] at hy9
  obtain ⟨rfl, rfl, rfl, rfl, rfl, rfl, rfl⟩ := hy9
  simp only [List.take_succ_cons, List.take_zero, List.map_cons, List.map_nil, List.cons.injEq, and_true] at hr9
  rw [b1, b2] at hr9
  refine ⟨_, _, e7, e8, nf, ff, ng, gg, hr9.1, hr9.2, fun j j1 j2 j3 j4 j5 => ?_⟩
  have := ht9 j j1 j2
  rw [b3, b4, b5] at this
  have h9 := this j3 j4 (Int32.toInt_inj.mp (by rw [b6]; exact j5))
  rw [b7] at h9
  exact h9
theorem ab_t_of {w : ab_TS} (hb : ab_tbd w = true) {z : ab_Z} {ws : va_W} {a b : ab_I} {x y : Int32} (h1 : ab_evI z.1 a = some x) (h2 : ab_evI z.1 b = some y) (h : ab_tsm w ws x.toInt y.toInt) : ab_fs z ws (ab_tmk w a b) := by
  obtain ⟨b1, b2, b3, b4, b5, b6, b7⟩ := ab_tbd_ok hb
  obtain ⟨nf, f, ng, g, hf, hg, hh⟩ := h
  refine ⟨[Int32.ofInt w.1, Int32.ofInt w.2.1, Int32.ofInt w.2.2.1, Int32.ofInt w.2.2.2.1, Int32.ofInt w.2.2.2.2.1, Int32.ofInt w.2.2.2.2.2.1, x, y, Int32.ofInt w.2.2.2.2.2.2], by simp only [ab_tmk, List.map_cons, List.map_nil, h1, h2]; rfl, ?_⟩
  refine ⟨_, _, _, _, x, y, _, nf, f, ng, g, rfl, ?_, fun j j1 j2 j3 j4 j5 => ?_⟩
  · simp only [List.take_succ_cons, List.take_zero, List.map_cons, List.map_nil, b1, b2, hf, hg]
  · rw [b3, b5] at j3 j5
    rw [b4, b5] at j4 ⊢
    rw [b7]
    exact hh j j1 j2 j3 j4 (by rw [j5, b6])
noncomputable def ab_tis (w : ab_TS) (p : ab_I → ab_I → Bool) (f : ab_Y) : Bool := match f with
  | (2, [x1, x2, x3, x4, x5, x6, a, b, x9]) => ab_eqI x1 (none, (w.1 : Int)) && ab_eqI x2 (none, (w.2.1 : Int)) && ab_eqI x3 (none, (w.2.2.1 : Int)) && ab_eqI x4 (none, (w.2.2.2.1 : Int)) && ab_eqI x5 (none, (w.2.2.2.2.1 : Int)) && ab_eqI x6 (none, w.2.2.2.2.2.1) && ab_eqI x9 (none, w.2.2.2.2.2.2) && p a b
  | _ => false
theorem ab_tis_ok {w : ab_TS} {p : ab_I → ab_I → Bool} {f : ab_Y} (h : ab_tis w p f = true) : ∃ a b, f = ab_tmk w a b ∧ p a b = true := by
  unfold ab_tis at h
  split at h
  · rename_i x1 x2 x3 x4 x5 x6 a b x9
    simp only [Bool.and_eq_true] at h
    obtain ⟨⟨⟨⟨⟨⟨⟨h1, h2⟩, h3⟩, h4⟩, h5⟩, h6⟩, h7⟩, h8⟩ := h
    cases ab_eqI_eq h1
    cases ab_eqI_eq h2
    cases ab_eqI_eq h3
    cases ab_eqI_eq h4
    cases ab_eqI_eq h5
    cases ab_eqI_eq h6
    cases ab_eqI_eq h7
    exact ⟨a, b, rfl, h8⟩
  · cases h
noncomputable def ab_tex (w : ab_TS) (p : ab_I → ab_I → Bool) (fx : List ab_Y) : Bool := fx.any (ab_tis w p)
theorem ab_tex_ok {w : ab_TS} (hb : ab_tbd w = true) {p : ab_I → ab_I → Bool} {fx : List ab_Y} {z : ab_Z} {ws : va_W} (h : ab_tex w p fx = true) (hf : ∀ f ∈ fx, ab_fs z ws f) : ∃ a b x y, p a b = true ∧ ab_evI z.1 a = some x ∧ ab_evI z.1 b = some y ∧ ab_tsm w ws x.toInt y.toInt := by
  obtain ⟨f, h1, h2⟩ := List.any_eq_true.mp h
  obtain ⟨a, b, rfl, h3⟩ := ab_tis_ok h2
  obtain ⟨x, y, h4, h5, h6⟩ := ab_t_to hb (hf _ h1)
  exact ⟨a, b, x, y, h3, h4, h5, h6⟩
/-- the content of a row of ints at a place, by its interval -/
noncomputable def ab_plc (env : ab_E) (cs : List ab_C) (k j : Nat) (p : Int → Int → Bool) : Bool := match ab_get cs k with
  | some (.inr (t, _, _, d, ov)) => Nat.beq t 0 && ab_wivK env (ab_at d ov j) p false
  | _ => false
theorem ab_plc_ok {X : ab_X} {env : ab_E} {z : ab_Z} {s : State} {aw : ab_H} {ws : va_W} (hR : ab_eR env z.1) (hw : ab_wR X z s aw ws) {k j : Nat} {p : Int → Int → Bool} (h : ab_plc env aw.1 k j p = true) {n : Nat} {f : Nat → Int32} (hk : ab_arr ws k = some (n, f)) (hj : j < n) : ∃ x y, p x y = true ∧ x ≤ (f j).toInt ∧ (f j).toInt ≤ y := by
  unfold ab_plc at h
  rw [ab_get_eq] at h
  split at h
  · rename_i t n' fl d ov hc
    rw [Bool.and_eq_true] at h
    cases Nat.eq_of_beq_eq_true h.1
    obtain ⟨⟨ad, e⟩, h1, cA, xx, h2, ⟨ff, rfl⟩, h4, h5⟩ := hw.1.2 k _ hc
    dsimp only at h2
    subst h2
    unfold ab_arr at hk
    rw [h1] at hk
    cases hk
    obtain ⟨x, y, g1, g2⟩ := ab_wivB_ok (X := X) hR h.2
    obtain ⟨m, g3, g4, g5⟩ := g2 _ (h5 j hj)
    have : m = f j := by
      have : (Value.int (f j)) = Value.int m := g3
      cases this; rfl
    subst this
    exact ⟨x, y, g1, g4, g5⟩
  · cases h
noncomputable def ab_tct (env : ab_E) (cs : List ab_C) (w : ab_TS) (c : Nat) : Bool := ab_plc env cs w.1 (w.2.2.1 + w.2.2.2.2.1 * c) (fun lo hi => ab_le (hi + 1) w.2.2.2.2.2.1 || ab_le (w.2.2.2.2.2.1 + 1) lo) || ab_plc env cs w.2.1 (w.2.2.2.1 + w.2.2.2.2.1 * c) (fun lo hi => ab_le 0 lo && ab_le hi w.2.2.2.2.2.2)
theorem ab_tct_ok {X : ab_X} {env : ab_E} {z : ab_Z} {s : State} {aw : ab_H} {ws : va_W} (hR : ab_eR env z.1) (hw : ab_wR X z s aw ws) {w : ab_TS} {c : Nat} (h : ab_tct env aw.1 w c = true) {nf : Nat} {f : Nat → Int32} {ng : Nat} {g : Nat → Int32} (hf : ab_arr ws w.1 = some (nf, f)) (hg : ab_arr ws w.2.1 = some (ng, g)) (j3 : w.2.2.1 + w.2.2.2.2.1 * c < nf) (j4 : w.2.2.2.1 + w.2.2.2.2.1 * c < ng) (j5 : (f (w.2.2.1 + w.2.2.2.2.1 * c)).toInt = w.2.2.2.2.2.1) : 0 ≤ (g (w.2.2.2.1 + w.2.2.2.2.1 * c)).toInt ∧ (g (w.2.2.2.1 + w.2.2.2.2.1 * c)).toInt ≤ w.2.2.2.2.2.2 := by
  unfold ab_tct at h
  rw [Bool.or_eq_true] at h
  rcases h with h | h
  · obtain ⟨x, y, h1, h2, h3⟩ := ab_plc_ok hR hw h hf j3
    rw [Bool.or_eq_true, ab_le_iff, ab_le_iff] at h1
    omega
  · obtain ⟨x, y, h1, h2, h3⟩ := ab_plc_ok hR hw h hg j4
    rw [Bool.and_eq_true, ab_le_iff, ab_le_iff] at h1
    omega
/-- a row of ints -/
noncomputable def ab_row (cs : List ab_C) (k : Nat) : Bool := match ab_get cs k with
  | some (.inr (t, _, _, _, _)) => Nat.beq t 0
  | _ => false
theorem ab_row_ok {X : ab_X} {z : ab_Z} {s : State} {aw : ab_H} {ws : va_W} (hw : ab_wR X z s aw ws) {k : Nat} (h : ab_row aw.1 k = true) : ∃ n f, ab_arr ws k = some (n, f) := by
  unfold ab_row at h
  rw [ab_get_eq] at h
  split at h
  · rename_i t n' fl d ov hc
    cases Nat.eq_of_beq_eq_true h
    obtain ⟨⟨ad, e⟩, h1, cA, xx, h2, ⟨ff, rfl⟩, h4, h5⟩ := hw.1.2 k _ hc
    dsimp only at h2
    subst h2
    exact ⟨n', ff, by unfold ab_arr; rw [h1]⟩
  · cases h
/-- nothing is said yet -/
noncomputable def pr_t0 (w : ab_TS) : ab_PR := fun env aw _ _ => bif ab_tbd w && ab_row aw.1 w.1 && ab_row aw.1 w.2.1 then some [(env, ab_tmk w (none, 0) (none, 0) :: aw.2)] else none
theorem pr_t0_ok {X : ab_X} {w : ab_TS} : ab_prs X (pr_t0 w) := by
  intro env aw lv st l z ws s cst h h1 h2 h3 h4
  unfold pr_t0 at h
  cases hb : (ab_tbd w && ab_row aw.1 w.1 && ab_row aw.1 w.2.1)
  · rw [hb] at h; cases h
  · rw [hb, cond_true] at h
    cases h
    rw [Bool.and_eq_true, Bool.and_eq_true] at hb
    obtain ⟨nf, f, hf⟩ := ab_row_ok h2 hb.1.2
    obtain ⟨ng, g, hg⟩ := ab_row_ok h2 hb.2
    refine ⟨_, List.mem_cons_self, h1, fun q hq => ?_⟩
    rcases List.mem_cons.mp hq with rfl | hq
    · refine ab_t_of hb.1.1 (x := 0) (y := 0) rfl rfl ⟨nf, f, ng, g, hf, hg, fun j j1 j2 => ?_⟩
      exact absurd j2 (by show ¬ ((j : Int) < 0); omega)
    · exact h2.2 q hq
/-- an int that is one number, not below 0 -/
noncomputable def ab_one (env : ab_E) (a : ab_I) (k : Nat → Option (List (ab_E × List ab_Y))) : Option (List (ab_E × List ab_Y)) := ab_ivK env a (fun lo hi => bif ab_ie lo hi && ab_le 0 lo && ab_le lo 2147483646 then ab_fn lo.toNat k else none)
theorem ab_one_ok {env : ab_E} {rho : List Int32} (hR : ab_eR env rho) {a : ab_I} {k : Nat → Option (List (ab_E × List ab_Y))} {l : List (ab_E × List ab_Y)} (h : ab_one env a k = some l) : ∃ c : Nat, c ≤ 2147483646 ∧ k c = some l ∧ ∀ x, ab_evI rho a = some x → x.toInt = c := by
  unfold ab_one at h
  rw [ab_ivK_eq] at h
  cases hb : (ab_ie (ab_iv env a).1 (ab_iv env a).2 && ab_le 0 (ab_iv env a).1 && ab_le (ab_iv env a).1 2147483646)
  · rw [hb] at h; cases h
  · rw [hb, cond_true, ab_fn_eq] at h
    rw [Bool.and_eq_true, Bool.and_eq_true, ab_ie_iff, ab_le_iff, ab_le_iff] at hb
    refine ⟨_, by omega, h, fun x hx => ?_⟩
    have := ab_iv_spec hR hx
    omega
noncomputable def ab_isN (env : ab_E) (c : Nat) (b : ab_I) : Bool := ab_ivK env b (fun lo hi => ab_ie lo c && ab_ie hi c)
theorem ab_isN_ok {env : ab_E} {rho : List Int32} (hR : ab_eR env rho) {c : Nat} {b : ab_I} (h : ab_isN env c b = true) {x : Int32} (hx : ab_evI rho b = some x) : x.toInt = c := by
  unfold ab_isN at h
  rw [ab_ivK_eq, Bool.and_eq_true, ab_ie_iff, ab_ie_iff] at h
  have := ab_iv_spec hR hx
  omega
theorem ab_nI2 {n : Nat} (h : n ≤ 2147483647) : (Int32.ofInt (n : Int)).toInt = n := ab_of (n : Int) (by omega) (by omega)
/-- one more: the place q tells which -/
noncomputable def pr_tS (w : ab_TS) (q : Nat × Nat × Nat) : ab_PR := fun env aw lv _ => match ab_lc aw lv q with
  | some a => ab_one env a (fun c => bif ab_tbd w && ab_tex w (fun a b => ab_eqI a (none, 0) && ab_isN env c b) aw.2 && ab_tct env aw.1 w c then some [(env, ab_tmk w (none, 0) (none, ((c + 1 : Nat) : Int)) :: aw.2)] else none)
  | none => none
theorem pr_tS_ok {X : ab_X} {w : ab_TS} {q : Nat × Nat × Nat} : ab_prs X (pr_tS w q) := by
  intro env aw lv st l z ws s cst h h1 h2 h3 h4
  unfold pr_tS at h
  split at h
  · rename_i a ha
    obtain ⟨c, hc, h, -⟩ := ab_one_ok h1 h
    cases hb : (ab_tbd w && ab_tex w (fun a b => ab_eqI a (none, 0) && ab_isN env c b) aw.2 && ab_tct env aw.1 w c)
    · rw [hb] at h; cases h
    · rw [hb, cond_true] at h
      cases h
      rw [Bool.and_eq_true, Bool.and_eq_true] at hb
      obtain ⟨⟨b1, b2⟩, b3⟩ := hb
      obtain ⟨a0, b0, x, y, hp, e1, e2, nf, f, ng, g, hf, hg, hh⟩ := ab_tex_ok b1 b2 h2.2
      rw [Bool.and_eq_true] at hp
      cases ab_eqI_eq hp.1
      have hy := ab_isN_ok h1 hp.2 e2
      refine ⟨_, List.mem_cons_self, h1, fun q' hq => ?_⟩
      rcases List.mem_cons.mp hq with rfl | hq
      · refine ab_t_of b1 (x := x) (y := Int32.ofInt ((c + 1 : Nat) : Int)) e1 rfl ⟨nf, f, ng, g, hf, hg, fun j j1 j2 j3 j4 j5 => ?_⟩
        rw [ab_nI2 (by omega)] at j2
        by_cases hj : j = c
        · subst hj
          exact ab_tct_ok h1 h2 b3 hf hg j3 j4 j5
        · exact hh j j1 (by omega) j3 j4 j5
      · exact h2.2 q' hq
  · cases h
/-- all but one: the place q tells which -/
noncomputable def pr_tW (w : ab_TS) (N : Nat) (q : Nat × Nat × Nat) : ab_PR := fun env aw lv _ => match ab_lc aw lv q with
  | some a => ab_one env a (fun c => bif ab_tbd w && Nat.ble N 2147483647 && ab_tex w (fun a b => ab_eqI a (none, 0) && ab_eqI b (none, (N : Int))) aw.2 && Nat.blt c N then some [(env, ab_tmk w (none, 0) (none, (c : Int)) :: ab_tmk w (none, ((c + 1 : Nat) : Int)) (none, (N : Int)) :: aw.2)] else none)
  | none => none
theorem pr_tW_ok {X : ab_X} {w : ab_TS} {N : Nat} {q : Nat × Nat × Nat} : ab_prs X (pr_tW w N q) := by
  intro env aw lv st l z ws s cst h h1 h2 h3 h4
  unfold pr_tW at h
  split at h
  · rename_i a ha
    obtain ⟨c, hc, h, -⟩ := ab_one_ok h1 h
    cases hb : (ab_tbd w && Nat.ble N 2147483647 && ab_tex w (fun a b => ab_eqI a (none, 0) && ab_eqI b (none, (N : Int))) aw.2 && Nat.blt c N)
    · rw [hb] at h; cases h
    · rw [hb, cond_true] at h
      cases h
      rw [Bool.and_eq_true, Bool.and_eq_true, Bool.and_eq_true] at hb
      obtain ⟨⟨⟨b1, b4⟩, b2⟩, b3⟩ := hb
      have hN := Nat.le_of_ble_eq_true b4
      have hcN : c < N := Nat.le_of_ble_eq_true b3
      obtain ⟨a0, b0, x, y, hp, e1, e2, nf, f, ng, g, hf, hg, hh⟩ := ab_tex_ok b1 b2 h2.2
      rw [Bool.and_eq_true] at hp
      cases ab_eqI_eq hp.1
      cases ab_eqI_eq hp.2
      simp only [ab_evI, Option.some.injEq] at e1 e2
      subst e1 e2
      rw [ab_nI2 hN] at hh
      refine ⟨_, List.mem_cons_self, h1, fun q' hq => ?_⟩
      rcases List.mem_cons.mp hq with rfl | hq
      · refine ab_t_of b1 (x := Int32.ofInt 0) (y := Int32.ofInt (c : Int)) rfl rfl ⟨nf, f, ng, g, hf, hg, fun j j1 j2 j3 j4 j5 => ?_⟩
        rw [ab_nI2 (by omega)] at j2
        exact hh j j1 (by omega) j3 j4 j5
      · rcases List.mem_cons.mp hq with rfl | hq
        · refine ab_t_of b1 (x := Int32.ofInt ((c + 1 : Nat) : Int)) (y := Int32.ofInt (N : Int)) rfl rfl ⟨nf, f, ng, g, hf, hg, fun j j1 j2 j3 j4 j5 => ?_⟩
          rw [ab_nI2 hN] at j2
          exact hh j (by show (Int32.ofInt 0).toInt ≤ _; rw [ab_of 0 (by decide) (by decide)]; omega) j2 j3 j4 j5
        · exact h2.2 q' hq
  · cases h
/-- and all again -/
noncomputable def pr_tJ (w : ab_TS) (N : Nat) (q : Nat × Nat × Nat) : ab_PR := fun env aw lv _ => match ab_lc aw lv q with
  | some a => ab_one env a (fun c => bif ab_tbd w && Nat.ble N 2147483647 && ab_tex w (fun a b => ab_eqI a (none, 0) && ab_isN env c b) aw.2 && ab_tex w (fun a b => ab_isN env (c + 1) a && ab_eqI b (none, (N : Int))) aw.2 && ab_tct env aw.1 w c then some [(env, ab_tmk w (none, 0) (none, (N : Int)) :: aw.2)] else none)
  | none => none
theorem pr_tJ_ok {X : ab_X} {w : ab_TS} {N : Nat} {q : Nat × Nat × Nat} : ab_prs X (pr_tJ w N q) := by
  intro env aw lv st l z ws s cst h h1 h2 h3 h4
  unfold pr_tJ at h
  split at h
  · rename_i a ha
    obtain ⟨c, hc, h, -⟩ := ab_one_ok h1 h
    cases hb : (ab_tbd w && Nat.ble N 2147483647 && ab_tex w (fun a b => ab_eqI a (none, 0) && ab_isN env c b) aw.2 && ab_tex w (fun a b => ab_isN env (c + 1) a && ab_eqI b (none, (N : Int))) aw.2 && ab_tct env aw.1 w c)
    · rw [hb] at h; cases h
    · rw [hb, cond_true] at h
      cases h
      rw [Bool.and_eq_true, Bool.and_eq_true, Bool.and_eq_true, Bool.and_eq_true] at hb
      obtain ⟨⟨⟨⟨b1, b4⟩, b2⟩, b5⟩, b3⟩ := hb
      have hN := Nat.le_of_ble_eq_true b4
      obtain ⟨a0, b0, x, y, hp, e1, e2, nf, f, ng, g, hf, hg, hh⟩ := ab_tex_ok b1 b2 h2.2
      obtain ⟨a1, b9, x1, y1, hp1, e3, e4, nf1, f1, ng1, g1, hf1, hg1, hh1⟩ := ab_tex_ok b1 b5 h2.2
      rw [hf] at hf1
      rw [hg] at hg1
      cases hf1
      cases hg1
      rw [Bool.and_eq_true] at hp hp1
      cases ab_eqI_eq hp.1
      cases ab_eqI_eq hp1.2
      have hy := ab_isN_ok h1 hp.2 e2
      have hx1 := ab_isN_ok h1 hp1.1 e3
      simp only [ab_evI, Option.some.injEq] at e1 e4
      subst e1 e4
      refine ⟨_, List.mem_cons_self, h1, fun q' hq => ?_⟩
      rcases List.mem_cons.mp hq with rfl | hq
      · refine ab_t_of b1 (x := Int32.ofInt 0) (y := Int32.ofInt (N : Int)) rfl rfl ⟨nf, f, ng, g, hf, hg, fun j j1 j2 j3 j4 j5 => ?_⟩
        by_cases hj : j = c
        · subst hj
          exact ab_tct_ok h1 h2 b3 hf hg j3 j4 j5
        · by_cases hj2 : j < c
          · exact hh j j1 (by omega) j3 j4 j5
          · exact hh1 j (by omega) j2 j3 j4 j5
      · exact h2.2 q' hq
  · cases h
/-- at a place where the number stands, the other row's int is known more narrowly -/
noncomputable def ab_pla (cs : List ab_C) (k j : Nat) : Option ab_I := match ab_get cs k with
  | some (.inr (t, n, _, d, ov)) => bif Nat.beq t 0 && Nat.blt j n then (match ab_at d ov j with
    | .inl (.inl a) => some a
    | _ => none) else none
  | _ => none
theorem ab_pla_ok {X : ab_X} {z : ab_Z} {s : State} {aw : ab_H} {ws : va_W} (hw : ab_wR X z s aw ws) {k j : Nat} {a : ab_I} (h : ab_pla aw.1 k j = some a) : ∃ n f, ab_arr ws k = some (n, f) ∧ j < n ∧ ab_evI z.1 a = some (f j) := by
  unfold ab_pla at h
  rw [ab_get_eq] at h
  split at h
  · rename_i t n' fl d ov hc
    cases hb : (Nat.beq t 0 && Nat.blt j n')
    · rw [hb] at h; cases h
    · rw [hb, cond_true] at h
      rw [Bool.and_eq_true] at hb
      cases Nat.eq_of_beq_eq_true hb.1
      have hj : j < n' := Nat.le_of_ble_eq_true hb.2
      split at h
      · rename_i a' ha
        cases h
        obtain ⟨⟨ad, e⟩, h1, cA, xx, h2, ⟨ff, rfl⟩, h4, h5⟩ := hw.1.2 k _ hc
        dsimp only at h2
        subst h2
        have h6 := h5 j hj
        dsimp only at h6
        rw [ha] at h6
        obtain ⟨x, hx, h7⟩ := ab_evi (show ab_ev X z (.inl a) = some (ab_cv (.inl ff) j) from h6)
        have : x = ff j := by
          have : Value.int (ff j) = Value.int x := hx
          cases this; rfl
        subst this
        exact ⟨n', ff, by unfold ab_arr; rw [h1], hj, h7⟩
      · cases h
  · cases h
noncomputable def pr_tU (w : ab_TS) (q : Nat × Nat × Nat) : ab_PR := fun env aw lv _ => match ab_lc aw lv q with
  | some a => ab_one env a (fun c => match ab_pla aw.1 w.1 (w.2.2.1 + w.2.2.2.2.1 * c), ab_pla aw.1 w.2.1 (w.2.2.2.1 + w.2.2.2.2.1 * c) with
    | some v, some u => bif ab_tbd w && ab_ivK env v (fun lo hi => ab_ie lo w.2.2.2.2.2.1 && ab_ie hi w.2.2.2.2.2.1) && ab_tex w (fun a b => ab_ivK env a (fun _ ah => ab_ivK env b (fun bl _ => ab_le ah c && ab_le ((c : Int) + 1) bl))) aw.2 then (match ab_rf env u 0 w.2.2.2.2.2.2 with
      | some e => some [(e, aw.2)]
      | none => some []) else some [(env, aw.2)]
    | _, _ => some [(env, aw.2)])
  | none => none
theorem pr_tU_ok {X : ab_X} {w : ab_TS} {q : Nat × Nat × Nat} : ab_prs X (pr_tU w q) := by
  intro env aw lv st l z ws s cst h h1 h2 h3 h4
  unfold pr_tU at h
  split at h
  · rename_i a ha
    obtain ⟨c, hc, h, -⟩ := ab_one_ok h1 h
    split at h
    · rename_i v u hv hu
      cases hb : (ab_tbd w && ab_ivK env v (fun lo hi => ab_ie lo w.2.2.2.2.2.1 && ab_ie hi w.2.2.2.2.2.1) && ab_tex w (fun a b => ab_ivK env a (fun _ ah => ab_ivK env b (fun bl _ => ab_le ah c && ab_le ((c : Int) + 1) bl))) aw.2)
      · rw [hb, cond_false] at h
        cases h
        exact ⟨(env, aw.2), List.mem_cons_self, h1, h2.2⟩
      · rw [hb, cond_true] at h
        rw [Bool.and_eq_true, Bool.and_eq_true, ab_ivK_eq, Bool.and_eq_true, ab_ie_iff, ab_ie_iff] at hb
        obtain ⟨⟨b1, b2, b4⟩, b3⟩ := hb
        obtain ⟨a0, b0, x, y, hp, e1, e2, nf, f, ng, g, hf, hg, hh⟩ := ab_tex_ok b1 b3 h2.2
        rw [ab_ivK_eq, ab_ivK_eq, Bool.and_eq_true, ab_le_iff, ab_le_iff] at hp
        have i1 := ab_iv_spec h1 e1
        have i2 := ab_iv_spec h1 e2
        obtain ⟨n1, f1, k1, k2, k3⟩ := ab_pla_ok h2 hv
        obtain ⟨n2, f2, k4, k5, k6⟩ := ab_pla_ok h2 hu
        rw [hf] at k1
        rw [hg] at k4
        cases k1
        cases k4
        have i3 := ab_iv_spec h1 k3
        obtain ⟨g1, g2⟩ := hh c (by omega) (by omega) k2 k5 (by omega)
        obtain ⟨e9, r1, r2⟩ := ab_rf_spec h1 k6 (lo := 0) (hi := w.2.2.2.2.2.2) g1 g2
        rw [r1] at h
        cases h
        exact ⟨(e9, aw.2), List.mem_cons_self, r2, h2.2⟩
    · cases h
      exact ⟨(env, aw.2), List.mem_cons_self, h1, h2.2⟩
  · cases h
