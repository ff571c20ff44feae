/-! What an abstract state means. X: the script's cell and length, where the new cells begin, the script's ints, the texts' cells and bytes, the tables' cells, a static's value. z: the variables' values and the cells' addresses. -/
abbrev ab_X : Type := (Nat × Nat × Nat) × (Nat → Int32) × (Nat → Nat) × (Nat → Nat) × (Nat → Nat) × Value
abbrev ab_Z : Type := List Int32 × List Int64 × List Nat
noncomputable def ab_Ar (X : ab_X) : Nat → Prop := fun q => X.1.2.2 ≤ q
noncomputable def ab_evI (rho : List Int32) (a : ab_I) : Option Int32 := match a with
  | (none, c) => some (Int32.ofInt c)
  | (some v, c) => (rho[v]?).map (fun x => x + Int32.ofInt c)
noncomputable def ab_evL (z : ab_Z) (a : ab_L) : Option Int64 := match a with
  | .inl (none, c) => some (Int64.ofInt c)
  | .inl (some v, c) => (ab_evI z.1 (some v, c)).map Int32.toInt64
  | .inr v => z.2.1[v]?
theorem ab_i64 (c : Int) (h1 : -2147483648 ≤ c) (h2 : c ≤ 2147483647) : (Int32.ofInt c).toInt64 = Int64.ofInt c := by
  apply Int64.toInt_inj.mp
  have hs : ((Int32.size : Nat) : Int) = 4294967296 := rfl
  rw [Int32.toInt_toInt64, Int32.toInt_ofInt, Int64.toInt_ofInt_of_le (by omega) (by omega)]
  exact Int.bmod_eq_of_le (by omega) (by omega)
theorem ab_i64o (y : Int64) : Int64.ofInt y.toInt = y := Int64.ofInt_toInt y
/-- a constant of an int's size, or a variable -/
noncomputable def ab_rng (a : ab_I) : Bool := match a with
  | (none, c) => ab_le (-2147483648) c && ab_le c 2147483647
  | (some _, _) => true
theorem ab_evL_in {z : ab_Z} {a : ab_I} (h : ab_rng a = true) {y : Int64} (e : ab_evL z (.inl a) = some y) : ∃ i, ab_evI z.1 a = some i ∧ i.toInt64 = y := by
  obtain ⟨v, c⟩ := a
  cases v with
  | none =>
    unfold ab_rng at h
    rw [Bool.and_eq_true, ab_le_iff, ab_le_iff] at h
    refine ⟨Int32.ofInt c, rfl, ?_⟩
    rw [ab_i64 c h.1 h.2]
    exact Option.some.inj e
  | some v =>
    simp only [ab_evL, Option.map_eq_some_iff] at e
    exact e
theorem ab_evL_of {z : ab_Z} {a : ab_I} (h : ab_rng a = true) {i : Int32} (e : ab_evI z.1 a = some i) : ab_evL z (.inl a) = some i.toInt64 := by
  obtain ⟨v, c⟩ := a
  cases v with
  | none =>
    unfold ab_rng at h
    rw [Bool.and_eq_true, ab_le_iff, ab_le_iff] at h
    have e2 := Option.some.inj e
    show some (Int64.ofInt c) = _
    rw [← e2, ab_i64 c h.1 h.2]
  | some v => simp only [ab_evL, e, Option.map_some]
noncomputable def ab_evR (X : ab_X) (z : ab_Z) (r : Nat × Nat) : Option Value := match r with
  | (0, _) => some .null
  | (1, _) => some (.ref X.1.1)
  | (2, k) => (z.2.2[k]?).map (fun a => Value.ref a)
  | (3, i) => some (.ref (X.2.2.1 i))
  | (4, i) => some (.ref (X.2.2.2.1 i))
  | (5, i) => some (.ref (X.2.2.2.2.1 i))
  | (_ + 6, _) => some X.2.2.2.2.2
noncomputable def ab_ev (X : ab_X) (z : ab_Z) (v : ab_V) : Option Value := match v with
  | .inl a => (ab_evI z.1 a).map (fun x => Value.int x)
  | .inr (.inl l) => (ab_evL z l).map (fun x => Value.long x)
  | .inr (.inr r) => ab_evR X z r
/-- more variables, more cells -/
noncomputable def ab_ext (z z' : ab_Z) : Prop := (∃ t, z'.1 = z.1 ++ t) ∧ (∃ t, z'.2.1 = z.2.1 ++ t) ∧ ∃ t, z'.2.2 = z.2.2 ++ t
theorem ab_ext.rf {z : ab_Z} : ab_ext z z := ⟨⟨[], by simp⟩, ⟨[], by simp⟩, ⟨[], by simp⟩⟩
theorem ab_ext.tr {z z1 z2 : ab_Z} (h : ab_ext z z1) (h2 : ab_ext z1 z2) : ab_ext z z2 := by
  obtain ⟨⟨a, ha⟩, ⟨b, hb⟩, ⟨c, hc⟩⟩ := h
  obtain ⟨⟨a2, ha2⟩, ⟨b2, hb2⟩, ⟨c2, hc2⟩⟩ := h2
  exact ⟨⟨a ++ a2, by rw [ha2, ha, List.append_assoc]⟩, ⟨b ++ b2, by rw [hb2, hb, List.append_assoc]⟩, ⟨c ++ c2, by rw [hc2, hc, List.append_assoc]⟩⟩
theorem ab_get_app {α : Type} {l t : List α} {n : Nat} {x : α} (h : l[n]? = some x) : (l ++ t)[n]? = some x := by
  rw [List.getElem?_append_left (List.getElem?_eq_some_iff.mp h).1]; exact h
theorem ab_evI.ext {z z' : ab_Z} (h : ab_ext z z') {a : ab_I} {x : Int32} (e : ab_evI z.1 a = some x) : ab_evI z'.1 a = some x := by
  obtain ⟨⟨t, ht⟩, -, -⟩ := h
  obtain ⟨v, c⟩ := a
  cases v with
  | none => exact e
  | some v =>
    simp only [ab_evI, Option.map_eq_some_iff] at e ⊢
    obtain ⟨y, h1, h2⟩ := e
    exact ⟨y, by rw [ht]; exact ab_get_app h1, h2⟩
theorem ab_ev.ext {X : ab_X} {z z' : ab_Z} (h : ab_ext z z') {v : ab_V} {x : Value} (e : ab_ev X z v = some x) : ab_ev X z' v = some x := by
  rcases v with a | l | ⟨t, k⟩
  · simp only [ab_ev, Option.map_eq_some_iff] at e ⊢
    obtain ⟨y, h1, h2⟩ := e
    exact ⟨y, ab_evI.ext h h1, h2⟩
  · rcases l with a | n
    · obtain ⟨v, c⟩ := a
      cases v with
      | none => exact e
      | some v =>
        simp only [ab_ev, ab_evL, Option.map_eq_some_iff] at e ⊢
        obtain ⟨y, ⟨w, h0, h1⟩, h2⟩ := e
        exact ⟨y, ⟨w, ab_evI.ext h h0, h1⟩, h2⟩
    · simp only [ab_ev, ab_evL, Option.map_eq_some_iff] at e ⊢
      obtain ⟨y, h1, h2⟩ := e
      obtain ⟨-, ⟨t, ht⟩, -⟩ := h
      exact ⟨y, by rw [ht]; exact ab_get_app h1, h2⟩
  · match t, e with
    | 0, e => exact e
    | 1, e => exact e
    | 2, e =>
      simp only [ab_ev, ab_evR, Option.map_eq_some_iff] at e ⊢
      obtain ⟨y, h1, h2⟩ := e
      obtain ⟨-, -, ⟨t, ht⟩⟩ := h
      exact ⟨y, by rw [ht]; exact ab_get_app h1, h2⟩
    | 3, e => exact e
    | 4, e => exact e
    | 5, e => exact e
    | _ + 6, e => exact e
theorem ab_evs.ext {X : ab_X} {z z' : ab_Z} (h : ab_ext z z') : ∀ {l : List ab_V} {c : List Value}, l.map (ab_ev X z) = c.map some → l.map (ab_ev X z') = c.map some
  | [], [], _ => rfl
  | [], _ :: _, e => by simp at e
  | _ :: _, [], e => by simp at e
  | a :: l, x :: c, e => by
    simp only [List.map_cons, List.cons.injEq] at e ⊢
    exact ⟨ab_ev.ext h e.1, ab_evs.ext h e.2⟩
/-- the variables lie in their intervals -/
noncomputable def ab_eR (env : ab_E) (rho : List Int32) : Prop := rho.length = env.length ∧ ∀ (v : Nat) (q : Int × Int), env[v]? = some q → ∃ x, rho[v]? = some x ∧ q.1 ≤ x.toInt ∧ x.toInt ≤ q.2
theorem ab_eR.push {env : ab_E} {rho : List Int32} (h : ab_eR env rho) {lo hi : Int} {x : Int32} (h1 : lo ≤ x.toInt) (h2 : x.toInt ≤ hi) : ab_eR (env ++ [(lo, hi)]) (rho ++ [x]) := by
  refine ⟨by simp [h.1], fun v q hq => ?_⟩
  by_cases hv : v < env.length
  · rw [List.getElem?_append_left hv] at hq
    obtain ⟨y, a, b⟩ := h.2 v q hq
    exact ⟨y, ab_get_app a, b⟩
  · rw [List.getElem?_append_right (by omega)] at hq
    have hz : v - env.length < 1 := (List.getElem?_eq_some_iff.mp hq).1
    have hv2 : v = env.length := by omega
    subst hv2
    rw [Nat.sub_self] at hq
    cases hq
    refine ⟨x, ?_, h1, h2⟩
    rw [List.getElem?_append_right (by rw [h.1]; exact Nat.le_refl _), h.1, Nat.sub_self]; rfl
theorem ab_i32 (x : Int32) : -2147483648 ≤ x.toInt ∧ x.toInt ≤ 2147483647 := by
  have h1 := Int32.minValue_le_toInt x
  have h2 := Int32.toInt_le x
  have e1 : Int32.minValue.toInt = -2147483648 := by decide +kernel
  have e2 : Int32.maxValue.toInt = 2147483647 := by decide +kernel
  omega
theorem ab_of (c : Int) (h1 : -2147483648 ≤ c) (h2 : c ≤ 2147483647) : (Int32.ofInt c).toInt = c := by
  have hs : ((Int32.size : Nat) : Int) = 4294967296 := rfl
  rw [Int32.toInt_ofInt]; exact Int.bmod_eq_of_le (by omega) (by omega)
theorem ab_ofbm (c : Int) : Int32.ofInt (Int.bmod c 4294967296) = Int32.ofInt c := by
  apply Int32.toInt_inj.mp
  rw [Int32.toInt_ofInt, Int32.toInt_ofInt]; exact Int.bmod_bmod
theorem ab_addI (x : Int32) (c : Int) (h1 : -2147483648 ≤ x.toInt + c) (h2 : x.toInt + c ≤ 2147483647) : (x + Int32.ofInt c).toInt = x.toInt + c := by
  have hs : ((Int32.size : Nat) : Int) = 4294967296 := rfl
  rw [Int32.toInt_add, Int32.toInt_ofInt]
  show ((x.toInt + c.bmod 4294967296).bmod 4294967296 : Int) = _
  rw [Int.add_bmod_bmod]; exact Int.bmod_eq_of_le (by omega) (by omega)
theorem ab_iv_spec {env : ab_E} {rho : List Int32} (h : ab_eR env rho) {a : ab_I} {x : Int32} (e : ab_evI rho a = some x) : (ab_iv env a).1 ≤ x.toInt ∧ x.toInt ≤ (ab_iv env a).2 := by
  have hx := ab_i32 x
  obtain ⟨v, c⟩ := a
  cases v with
  | none =>
    simp only [ab_evI, Option.some.injEq] at e
    simp only [ab_iv, ab_ivK]
    cases hc : (ab_le (-2147483648) c && ab_le c 2147483647)
    · exact hx
    · rw [Bool.and_eq_true, ab_le_iff, ab_le_iff] at hc
      rw [← e, ab_of c hc.1 hc.2]; exact ⟨Int.le_refl _, Int.le_refl _⟩
  | some v =>
    simp only [ab_evI, Option.map_eq_some_iff] at e
    obtain ⟨y, h1, h2⟩ := e
    simp only [ab_iv, ab_ivK, ab_get_eq]
    cases hq : env[v]? with
    | none => exact hx
    | some q =>
      obtain ⟨y', a1, a2, a3⟩ := h.2 v q hq
      cases Option.some.inj (a1.symm.trans h1)
      obtain ⟨lo, hi⟩ := q
      simp only [ab_fi_eq]
      cases hc : (ab_le (-2147483648) (lo + c) && ab_le (hi + c) 2147483647)
      · exact hx
      · rw [Bool.and_eq_true, ab_le_iff, ab_le_iff] at hc
        dsimp only at a2 a3
        rw [← h2, ab_addI y c (by omega) (by omega)]
        exact ⟨by simp only [cond_true]; omega, by simp only [cond_true]; omega⟩
theorem ab_rf_spec {env : ab_E} {rho : List Int32} (h : ab_eR env rho) {a : ab_I} {x : Int32} (e : ab_evI rho a = some x) {lo hi : Int} (h1 : lo ≤ x.toInt) (h2 : x.toInt ≤ hi) : ∃ e', ab_rf env a lo hi = some e' ∧ ab_eR e' rho := by
  obtain ⟨v, c⟩ := a
  cases v with
  | none =>
    simp only [ab_evI, Option.some.injEq] at e
    simp only [ab_rf, ab_rfK]
    cases hc : (ab_le (-2147483648) c && ab_le c 2147483647)
    · exact ⟨env, rfl, h⟩
    · rw [Bool.and_eq_true, ab_le_iff, ab_le_iff] at hc
      have e2 := ab_of c hc.1 hc.2
      rw [e] at e2
      have hd : (ab_le lo c && ab_le c hi) = true := by rw [Bool.and_eq_true, ab_le_iff, ab_le_iff]; omega
      rw [hd]; exact ⟨env, rfl, h⟩
  | some v =>
    simp only [ab_evI, Option.map_eq_some_iff] at e
    obtain ⟨y, g1, g2⟩ := e
    simp only [ab_rf, ab_rfK, ab_get_eq]
    cases hq : env[v]? with
    | none => exact ⟨env, rfl, h⟩
    | some q =>
      obtain ⟨y', a1, a2, a3⟩ := h.2 v q hq
      cases Option.some.inj (a1.symm.trans g1)
      obtain ⟨l0, h0⟩ := q
      dsimp only at a2 a3
      simp only [ab_fi_eq, ab_setK_eq]
      cases hc : (ab_le (-2147483648) (l0 + c) && ab_le (h0 + c) 2147483647)
      · exact ⟨env, rfl, h⟩
      · rw [Bool.and_eq_true, ab_le_iff, ab_le_iff] at hc
        have e2 := ab_addI y c (by omega) (by omega)
        rw [g2] at e2
        have k1 : ab_mx l0 (lo - c) ≤ y.toInt := ab_mx_le a2 (by omega)
        have k2 : y.toInt ≤ ab_mn h0 (hi - c) := ab_mn_le a3 (by omega)
        have hd : ab_le (ab_mx l0 (lo - c)) (ab_mn h0 (hi - c)) = true := by rw [ab_le_iff]; omega
        rw [hd]
        refine ⟨_, rfl, by simp [h.1], fun w q hw => ?_⟩
        by_cases hwv : w = v
        · subst hwv
          rw [List.getElem?_set_self (List.getElem?_eq_some_iff.mp hq).1] at hw
          cases hw
          exact ⟨y, a1, k1, k2⟩
        · rw [List.getElem?_set_ne (Ne.symm hwv)] at hw
          exact h.2 w q hw
theorem ab_both_eq {β : Type} (env : ab_E) (a : ab_I) (la ha : Int) (b : ab_I) (lb hb : Int) : ∃ L : List ab_E, (∀ k : List ab_E → β, ab_both env a la ha b lb hb k = k L) ∧ ∀ (rho : List Int32) (x y : Int32), ab_eR env rho → ab_evI rho a = some x → ab_evI rho b = some y → la ≤ x.toInt → x.toInt ≤ ha → lb ≤ y.toInt → y.toInt ≤ hb → ∃ e ∈ L, ab_eR e rho := by
  cases h1 : ab_rf env a la ha with
  | none =>
    refine ⟨[], fun k => by simp only [ab_both, ab_rfK_eq, h1], fun rho x y h hx hy g1 g2 _ _ => ?_⟩
    obtain ⟨e', q, -⟩ := ab_rf_spec h hx g1 g2
    rw [h1] at q; cases q
  | some e1 =>
    cases h2 : ab_rf e1 b lb hb with
    | none =>
      refine ⟨[], fun k => by simp only [ab_both, ab_rfK_eq, h1, h2, ab_o1], fun rho x y h hx hy g1 g2 g3 g4 => ?_⟩
      obtain ⟨e', q, hq⟩ := ab_rf_spec h hx g1 g2
      rw [h1] at q; cases q
      obtain ⟨e', q, -⟩ := ab_rf_spec hq hy g3 g4
      rw [h2] at q; cases q
    | some e2 =>
      refine ⟨[e2], fun k => by simp only [ab_both, ab_rfK_eq, h1, h2, ab_o1], fun rho x y h hx hy g1 g2 g3 g4 => ?_⟩
      obtain ⟨e', q, hq⟩ := ab_rf_spec h hx g1 g2
      rw [h1] at q; cases q
      obtain ⟨e', q, hq2⟩ := ab_rf_spec hq hy g3 g4
      rw [h2] at q; cases q
      exact ⟨e2, List.mem_singleton.mpr rfl, hq2⟩
/-- 'L holds every case in which P' -/
noncomputable def ab_cov (env : ab_E) (a b : ab_I) (P : Int → Int → Prop) (L : List ab_E) : Prop := ∀ (rho : List Int32) (x y : Int32), ab_eR env rho → ab_evI rho a = some x → ab_evI rho b = some y → P x.toInt y.toInt → ∃ e ∈ L, ab_eR e rho
theorem ab_ltK_eq {β : Type} (env : ab_E) (a b : ab_I) : ∃ L, (∀ k : List ab_E → β, ab_ltK env a b k = k L) ∧ ab_cov env a b (fun x y => x < y) L := by
  obtain ⟨L, h1, h2⟩ := ab_both_eq (β := β) env a (ab_iv env a).1 ((ab_iv env b).2 - 1) b ((ab_iv env a).1 + 1) (ab_iv env b).2
  refine ⟨L, fun k => by simp only [ab_ltK, ab_ivK_eq, h1], fun rho x y h hx hy hP => ?_⟩
  have i1 := ab_iv_spec h hx
  have i2 := ab_iv_spec h hy
  exact h2 rho x y h hx hy (by omega) (by omega) (by omega) (by omega)
theorem ab_geK_eq {β : Type} (env : ab_E) (a b : ab_I) : ∃ L, (∀ k : List ab_E → β, ab_geK env a b k = k L) ∧ ab_cov env a b (fun x y => ¬ x < y) L := by
  obtain ⟨L, h1, h2⟩ := ab_both_eq (β := β) env a (ab_iv env b).1 (ab_iv env a).2 b (ab_iv env b).1 (ab_iv env a).2
  refine ⟨L, fun k => by simp only [ab_geK, ab_ivK_eq, h1], fun rho x y h hx hy hP => ?_⟩
  have i1 := ab_iv_spec h hx
  have i2 := ab_iv_spec h hy
  exact h2 rho x y h hx hy (by omega) (by omega) (by omega) (by omega)
theorem ab_eqK_eq {β : Type} (env : ab_E) (a b : ab_I) : ∃ L, (∀ k : List ab_E → β, ab_eqK env a b k = k L) ∧ ab_cov env a b (fun x y => x = y) L := by
  cases hc : ab_eqI a b
  · obtain ⟨L, h1, h2⟩ := ab_both_eq (β := β) env a (ab_iv env b).1 (ab_iv env b).2 b (ab_iv env a).1 (ab_iv env a).2
    refine ⟨L, fun k => by simp only [ab_eqK, hc, cond_false, ab_ivK_eq, h1], fun rho x y h hx hy hP => ?_⟩
    have i1 := ab_iv_spec h hx
    have i2 := ab_iv_spec h hy
    exact h2 rho x y h hx hy (by omega) (by omega) (by omega) (by omega)
  · exact ⟨[env], fun k => by simp only [ab_eqK, hc, cond_true], fun rho x y h _ _ _ => ⟨env, List.mem_singleton.mpr rfl, h⟩⟩
theorem ab_twoK_eq {β : Type} (env : ab_E) (a : ab_I) (l y h : Int) : ∃ L, (∀ k : List ab_E → β, ab_twoK env a l y h k = k L) ∧ ∀ (rho : List Int32) (x : Int32), ab_eR env rho → ab_evI rho a = some x → l ≤ x.toInt → x.toInt ≤ h → ¬ x.toInt = y → ∃ e ∈ L, ab_eR e rho := by
  cases h1 : ab_rf env a l (y - 1) with
  | none =>
    cases h2 : ab_rf env a (y + 1) h with
    | none =>
      refine ⟨[], fun k => by simp only [ab_twoK, ab_rfK_eq, h1, h2, ab_o1], fun rho x hR hx g1 g2 g3 => ?_⟩
      by_cases hl : x.toInt < y
      · obtain ⟨e', q, -⟩ := ab_rf_spec (lo := l) (hi := y - 1) hR hx g1 (by omega)
        rw [h1] at q; cases q
      · obtain ⟨e', q, -⟩ := ab_rf_spec (lo := y + 1) (hi := h) hR hx (by omega) g2
        rw [h2] at q; cases q
    | some e2 =>
      refine ⟨[e2], fun k => by simp only [ab_twoK, ab_rfK_eq, h1, h2, ab_o1], fun rho x hR hx g1 g2 g3 => ?_⟩
      by_cases hl : x.toInt < y
      · obtain ⟨e', q, -⟩ := ab_rf_spec (lo := l) (hi := y - 1) hR hx g1 (by omega)
        rw [h1] at q; cases q
      · obtain ⟨e', q, hq⟩ := ab_rf_spec (lo := y + 1) (hi := h) hR hx (by omega) g2
        rw [h2] at q; cases q
        exact ⟨_, List.mem_singleton.mpr rfl, hq⟩
  | some e1 =>
    cases h2 : ab_rf env a (y + 1) h with
    | none =>
      refine ⟨[e1], fun k => by simp only [ab_twoK, ab_rfK_eq, h1, h2, ab_o1], fun rho x hR hx g1 g2 g3 => ?_⟩
      by_cases hl : x.toInt < y
      · obtain ⟨e', q, hq⟩ := ab_rf_spec (lo := l) (hi := y - 1) hR hx g1 (by omega)
        rw [h1] at q; cases q
        exact ⟨_, List.mem_singleton.mpr rfl, hq⟩
      · obtain ⟨e', q, -⟩ := ab_rf_spec (lo := y + 1) (hi := h) hR hx (by omega) g2
        rw [h2] at q; cases q
    | some e2 =>
      refine ⟨[e1, e2], fun k => by simp only [ab_twoK, ab_rfK_eq, h1, h2, ab_o1], fun rho x hR hx g1 g2 g3 => ?_⟩
      by_cases hl : x.toInt < y
      · obtain ⟨e', q, hq⟩ := ab_rf_spec (lo := l) (hi := y - 1) hR hx g1 (by omega)
        rw [h1] at q; cases q
        exact ⟨_, List.mem_cons_self, hq⟩
      · obtain ⟨e', q, hq⟩ := ab_rf_spec (lo := y + 1) (hi := h) hR hx (by omega) g2
        rw [h2] at q; cases q
        exact ⟨_, List.mem_cons_of_mem _ List.mem_cons_self, hq⟩
theorem ab_neK_eq {β : Type} (env : ab_E) (a b : ab_I) : ∃ L, (∀ k : List ab_E → β, ab_neK env a b k = k L) ∧ ab_cov env a b (fun x y => ¬ x = y) L := by
  cases hc : ab_eqI a b
  · cases h1 : ab_ie (ab_iv env b).1 (ab_iv env b).2
    · cases h2 : ab_ie (ab_iv env a).1 (ab_iv env a).2
      · exact ⟨[env], fun k => by simp only [ab_neK, hc, cond_false, ab_ivK_eq, h1, h2], fun rho x y h _ _ _ => ⟨env, List.mem_singleton.mpr rfl, h⟩⟩
      · obtain ⟨L, k1, k2⟩ := ab_twoK_eq (β := β) env b (ab_iv env b).1 (ab_iv env a).1 (ab_iv env b).2
        refine ⟨L, fun k => by simp only [ab_neK, hc, cond_false, ab_ivK_eq, h1, h2, cond_true, k1], fun rho x y h hx hy hP => ?_⟩
        have i1 := ab_iv_spec h hx
        have i2 := ab_iv_spec h hy
        rw [ab_ie_iff] at h2
        exact k2 rho y h hy i2.1 i2.2 (fun q => hP (by omega))
    · obtain ⟨L, k1, k2⟩ := ab_twoK_eq (β := β) env a (ab_iv env a).1 (ab_iv env b).1 (ab_iv env a).2
      refine ⟨L, fun k => by simp only [ab_neK, hc, cond_false, ab_ivK_eq, h1, cond_true, k1], fun rho x y h hx hy hP => ?_⟩
      have i1 := ab_iv_spec h hx
      have i2 := ab_iv_spec h hy
      rw [ab_ie_iff] at h1
      exact k2 rho x h hx i1.1 i1.2 (fun q => hP (by omega))
  · refine ⟨[], fun k => by simp only [ab_neK, hc, cond_true], fun rho x y h hx hy hP => ?_⟩
    cases ab_eqI_eq hc
    rw [hx] at hy
    cases hy
    exact absurd rfl hP
theorem ab_cov.sw {env : ab_E} {a b : ab_I} {P : Int → Int → Prop} {L : List ab_E} (h : ab_cov env b a P L) : ab_cov env a b (fun x y => P y x) L := fun rho x y hR hx hy hP => h rho y x hR hy hx hP
/-- which condition -/
noncomputable def ab_hd (n : Nat) (x y : Int) : Prop := match n with
  | 0 => x = y
  | 1 => ¬ x = y
  | 2 => x < y
  | 3 => ¬ x < y
  | 4 => y < x
  | _ => ¬ y < x
theorem ab_brK_eq {β : Type} (n : Nat) (env : ab_E) (a b : ab_I) : ∃ T F, (∀ k : List ab_E → List ab_E → β, ab_brK n env a b k = k T F) ∧ ab_cov env a b (ab_hd n) T ∧ ab_cov env a b (fun x y => ¬ ab_hd n x y) F := by
  have e0 := ab_eqK_eq (β := β) env a b
  have e1 := ab_neK_eq (β := β) env a b
  have e2 := ab_ltK_eq (β := β) env a b
  have e3 := ab_geK_eq (β := β) env a b
  have e4 := ab_ltK_eq (β := β) env b a
  have e5 := ab_geK_eq (β := β) env b a
  match n with
  | 0 =>
    obtain ⟨T, t1, t2⟩ := e0
    obtain ⟨F, f1, f2⟩ := e1
    exact ⟨T, F, fun k => by simp only [ab_brK, t1, f1], t2, f2⟩
  | 1 =>
    obtain ⟨T, t1, t2⟩ := e0
    obtain ⟨F, f1, f2⟩ := e1
    exact ⟨F, T, fun k => by simp only [ab_brK, t1, f1], f2, fun rho x y h hx hy hP => t2 rho x y h hx hy (Classical.not_not.mp hP)⟩
  | 2 =>
    obtain ⟨T, t1, t2⟩ := e2
    obtain ⟨F, f1, f2⟩ := e3
    exact ⟨T, F, fun k => by simp only [ab_brK, t1, f1], t2, f2⟩
  | 3 =>
    obtain ⟨T, t1, t2⟩ := e2
    obtain ⟨F, f1, f2⟩ := e3
    exact ⟨F, T, fun k => by simp only [ab_brK, t1, f1], f2, fun rho x y h hx hy hP => t2 rho x y h hx hy (Classical.not_not.mp hP)⟩
  | 4 =>
    obtain ⟨T, t1, t2⟩ := e4
    obtain ⟨F, f1, f2⟩ := e5
    exact ⟨T, F, fun k => by simp only [ab_brK, t1, f1], t2.sw, f2.sw⟩
  | n + 5 =>
    obtain ⟨T, t1, t2⟩ := e4
    obtain ⟨F, f1, f2⟩ := e5
    exact ⟨F, T, fun k => by simp only [ab_brK, t1, f1], f2.sw, fun rho x y h hx hy hP => t2.sw rho x y h hx hy (Classical.not_not.mp hP)⟩
theorem ab_cnK_eq {β : Type} (env : ab_E) (a : ab_I) : ∃ a', (∀ k : ab_I → β, ab_cnK env a k = k a') ∧ ∀ (rho : List Int32) (x : Int32), ab_eR env rho → ab_evI rho a = some x → ab_evI rho a' = some x := by
  cases hc : ab_ie (ab_iv env a).1 (ab_iv env a).2
  · exact ⟨a, fun k => by simp only [ab_cnK, ab_ivK_eq, hc, cond_false], fun _ _ _ h => h⟩
  · refine ⟨(none, (ab_iv env a).1), fun k => by simp only [ab_cnK, ab_ivK_eq, hc, cond_true], fun rho x h hx => ?_⟩
    have i1 := ab_iv_spec h hx
    rw [ab_ie_iff] at hc
    have e : x.toInt = (ab_iv env a).1 := by omega
    simp only [ab_evI]
    rw [← e, Int32.ofInt_toInt]
/-- a computed int: the same variables, or one more -/
noncomputable def ab_res (env : ab_E) (x y : ab_I) (f : Int32 → Int32 → Int32) (env' : ab_E) (a' : ab_I) : Prop := ∀ (rho : List Int32) (u v : Int32), ab_eR env rho → ab_evI rho x = some u → ab_evI rho y = some v → ∃ t, ab_eR env' (rho ++ t) ∧ ab_evI (rho ++ t) a' = some (f u v)
theorem ab_res_fr {env : ab_E} {x y : ab_I} {f : Int32 → Int32 → Int32} {lo hi : Int} (h : ∀ (rho : List Int32) (u v : Int32), ab_eR env rho → ab_evI rho x = some u → ab_evI rho y = some v → lo ≤ (f u v).toInt ∧ (f u v).toInt ≤ hi) : ab_res env x y f (env ++ [(lo, hi)]) (some env.length, 0) := by
  intro rho u v hR hu hv
  obtain ⟨h1, h2⟩ := h rho u v hR hu hv
  refine ⟨[f u v], hR.push h1 h2, ?_⟩
  simp only [ab_evI]
  rw [List.getElem?_append_right (by rw [hR.1]; exact Nat.le_refl _), hR.1, Nat.sub_self]
  simp
theorem ab_res_any {env : ab_E} {x y : ab_I} {f : Int32 → Int32 → Int32} : ab_res env x y f (env ++ [(-2147483648, 2147483647)]) (some env.length, 0) := ab_res_fr (fun _ u v _ _ _ => ab_i32 (f u v))
theorem ab_addK_eq {β : Type} (env : ab_E) (x y : ab_I) : ∃ env' a', (∀ k : ab_E → ab_I → β, ab_addK env x y k = k env' a') ∧ ab_res env x y (fun u v => u + v) env' a' := by
  obtain ⟨x', hx, hx2⟩ := ab_cnK_eq (β := β) env x
  obtain ⟨y', hy, hy2⟩ := ab_cnK_eq (β := β) env y
  obtain ⟨v, c⟩ := x'
  obtain ⟨w, d⟩ := y'
  cases w with
  | none =>
    refine ⟨env, (v, Int.bmod (c + d) 4294967296), fun k => by simp only [ab_addK, hx, hy, ab_nmK, ab_fi_eq], fun rho u t hR hu ht => ⟨[], by rw [List.append_nil]; exact hR, ?_⟩⟩
    have h1 := hx2 rho u hR hu
    have h2 := hy2 rho t hR ht
    rw [List.append_nil]
    simp only [ab_evI, Option.some.injEq] at h2
    cases v with
    | none =>
      simp only [ab_evI, Option.some.injEq] at h1 ⊢
      rw [ab_ofbm, Int32.ofInt_add, h1, h2]
    | some v =>
      simp only [ab_evI, Option.map_eq_some_iff] at h1 ⊢
      obtain ⟨q, a1, a2⟩ := h1
      exact ⟨q, a1, by rw [ab_ofbm, Int32.ofInt_add, ← a2, ← h2, Int32.add_assoc]⟩
  | some w =>
    cases v with
    | none =>
      refine ⟨env, (some w, Int.bmod (c + d) 4294967296), fun k => by simp only [ab_addK, hx, hy, ab_nmK, ab_fi_eq], fun rho u t hR hu ht => ⟨[], by rw [List.append_nil]; exact hR, ?_⟩⟩
      have h1 := hx2 rho u hR hu
      have h2 := hy2 rho t hR ht
      rw [List.append_nil]
      simp only [ab_evI, Option.some.injEq] at h1
      simp only [ab_evI, Option.map_eq_some_iff] at h2 ⊢
      obtain ⟨q, a1, a2⟩ := h2
      refine ⟨q, a1, ?_⟩
      rw [ab_ofbm, Int32.ofInt_add, ← a2, ← h1, ← Int32.add_assoc, Int32.add_comm q, Int32.add_assoc]
    | some v => exact ⟨_, _, fun k => by simp only [ab_addK, hx, hy, ab_frK_eq], ab_res_any⟩
theorem ab_subK_eq {β : Type} (env : ab_E) (x y : ab_I) : ∃ env' a', (∀ k : ab_E → ab_I → β, ab_subK env x y k = k env' a') ∧ ab_res env x y (fun u v => u - v) env' a' := by
  obtain ⟨x', hx, hx2⟩ := ab_cnK_eq (β := β) env x
  obtain ⟨y', hy, hy2⟩ := ab_cnK_eq (β := β) env y
  obtain ⟨v, c⟩ := x'
  obtain ⟨w, d⟩ := y'
  cases w with
  | none =>
    refine ⟨env, (v, Int.bmod (c - d) 4294967296), fun k => by simp only [ab_subK, hx, hy, ab_nmK, ab_fi_eq], fun rho u t hR hu ht => ⟨[], by rw [List.append_nil]; exact hR, ?_⟩⟩
    have h1 := hx2 rho u hR hu
    have h2 := hy2 rho t hR ht
    rw [List.append_nil]
    simp only [ab_evI, Option.some.injEq] at h2
    cases v with
    | none =>
      simp only [ab_evI, Option.some.injEq] at h1 ⊢
      rw [ab_ofbm, Int32.ofInt_sub, h1, h2]
    | some v =>
      simp only [ab_evI, Option.map_eq_some_iff] at h1 ⊢
      obtain ⟨q, a1, a2⟩ := h1
      exact ⟨q, a1, by rw [ab_ofbm, Int32.ofInt_sub, ← a2, ← h2, Int32.sub_eq_add_neg, Int32.sub_eq_add_neg, Int32.add_assoc]⟩
  | some w => exact ⟨_, _, fun k => by cases v <;> simp only [ab_subK, hx, hy, ab_frK_eq], ab_res_any⟩
theorem ab_binK_eq {β : Type} (f : Int32 → Int32 → Int32) (env : ab_E) (x y : ab_I) : ∃ env' a', (∀ k : ab_E → ab_I → β, ab_binK f env x y k = k env' a') ∧ ab_res env x y f env' a' := by
  obtain ⟨x', hx, hx2⟩ := ab_cnK_eq (β := β) env x
  obtain ⟨y', hy, hy2⟩ := ab_cnK_eq (β := β) env y
  obtain ⟨v, c⟩ := x'
  obtain ⟨w, d⟩ := y'
  cases v with
  | some v => exact ⟨_, _, fun k => by cases w <;> simp only [ab_binK, hx, hy, ab_frK_eq], ab_res_any⟩
  | none =>
    cases w with
    | some w => exact ⟨_, _, fun k => by simp only [ab_binK, hx, hy, ab_frK_eq], ab_res_any⟩
    | none =>
      refine ⟨env, (none, (f (Int32.ofInt c) (Int32.ofInt d)).toInt), fun k => by simp only [ab_binK, hx, hy, ab_fi_eq], fun rho u t hR hu ht => ⟨[], by rw [List.append_nil]; exact hR, ?_⟩⟩
      have h1 := hx2 rho u hR hu
      have h2 := hy2 rho t hR ht
      simp only [ab_evI, Option.some.injEq] at h1 h2 ⊢
      rw [Int32.ofInt_toInt, h1, h2]
theorem ab_and_in (u : Int32) (d : Int) (h0 : 0 ≤ d) (h1 : d ≤ 2147483647) : 0 ≤ (u &&& Int32.ofInt d).toInt ∧ (u &&& Int32.ofInt d).toInt ≤ d := by
  have e : (Int32.ofInt d) = nI d.toNat := by
    apply Int32.toInt_inj.mp
    rw [ab_of d (by omega) h1, nI_toInt (by omega)]; omega
  have hb : (u &&& Int32.ofInt d).toBitVec.toNat ≤ d.toNat := by
    rw [Int32.toBitVec_and, BitVec.toNat_and]
    refine Nat.le_trans Nat.and_le_right ?_
    rw [e, pk_tn (by omega)]; exact Nat.le_refl _
  have h2 : (u &&& Int32.ofInt d).toInt = ((u &&& Int32.ofInt d).toBitVec.toNat : Int) := by
    show (u &&& Int32.ofInt d).toBitVec.toInt = _
    rw [BitVec.toInt_eq_toNat_of_lt (by omega)]
  rw [h2]; omega
theorem ab_andK_eq {β : Type} (env : ab_E) (x y : ab_I) : ∃ env' a', (∀ k : ab_E → ab_I → β, ab_andK env x y k = k env' a') ∧ ab_res env x y (fun u v => u &&& v) env' a' := by
  obtain ⟨x', hx, hx2⟩ := ab_cnK_eq (β := β) env x
  obtain ⟨y', hy, hy2⟩ := ab_cnK_eq (β := β) env y
  obtain ⟨v, c⟩ := x'
  obtain ⟨w, d⟩ := y'
  cases v with
  | some v =>
    cases w with
    | some w => exact ⟨_, _, fun k => by simp only [ab_andK, hx, hy, ab_frK_eq], ab_res_any⟩
    | none =>
      cases hc : (ab_le 0 d && ab_le d 2147483647)
      · exact ⟨_, _, fun k => by simp only [ab_andK, hx, hy, ab_frK_eq, hc, cond_false], ab_res_any⟩
      · refine ⟨env ++ [(0, d)], (some env.length, 0), fun k => by simp only [ab_andK, hx, hy, ab_frK_eq, hc, cond_true], ab_res_fr (fun rho u t hR hu ht => ?_)⟩
        rw [Bool.and_eq_true, ab_le_iff, ab_le_iff] at hc
        have h2 := hy2 rho t hR ht
        simp only [ab_evI, Option.some.injEq] at h2
        rw [← h2]
        exact ab_and_in u d hc.1 hc.2
  | none =>
    cases w with
    | some w => exact ⟨_, _, fun k => by simp only [ab_andK, hx, hy, ab_frK_eq], ab_res_any⟩
    | none =>
      refine ⟨env, (none, (Int32.ofInt c &&& Int32.ofInt d).toInt), fun k => by simp only [ab_andK, hx, hy, ab_fi_eq], fun rho u t hR hu ht => ⟨[], by rw [List.append_nil]; exact hR, ?_⟩⟩
      have h1 := hx2 rho u hR hu
      have h2 := hy2 rho t hR ht
      simp only [ab_evI, Option.some.injEq] at h1 h2 ⊢
      rw [Int32.ofInt_toInt, h1, h2]
