/-! Codes that are good: their use. -/
noncomputable def ab_plz (env : ab_E) (a : ab_I) (n : Int) : Option ab_I := bif ab_ie n 0 then some a else bif ab_ie n 1 || ab_ie n (-1) then ab_pl env a n else none
theorem ab_plz_ok {env : ab_E} {rho : List Int32} (hR : ab_eR env rho) {a b : ab_I} {n : Int} (h : ab_plz env a n = some b) {x : Int32} (hx : ab_evI rho a = some x) : ∃ y, ab_evI rho b = some y ∧ y.toInt = x.toInt + n := by
  unfold ab_plz at h
  cases h0 : ab_ie n 0
  · rw [h0, cond_false] at h
    cases h1 : (ab_ie n 1 || ab_ie n (-1))
    · rw [h1] at h; cases h
    · rw [h1, cond_true] at h
      rw [Bool.or_eq_true, ab_ie_iff, ab_ie_iff] at h1
      obtain ⟨y, g1, g2, -⟩ := ab_pl_ok hR h1 h hx
      exact ⟨y, g1, g2⟩
  · rw [h0, cond_true] at h
    cases h
    rw [ab_ie_iff] at h0
    exact ⟨x, hx, by omega⟩
noncomputable def ab_ru (k off c : Nat) (env : ab_E) (fx : List ab_Y) (v N : ab_I) (lo hi nlo nhi dn : Int) : List (ab_E × List ab_Y) := match ab_rf env v lo hi with
  | none => []
  | some e => (match ab_rf e N nlo nhi with
    | none => []
    | some e2 => (match ab_plz e2 N dn with
      | some N' => [(e2, ab_rmk k off (none, ((c + 1 : Nat) : Int)) N' :: fx)]
      | none => [(e2, fx)]))
theorem ab_ru_ok {k off c : Nat} (b1 : k ≤ 2147483647) (b2 : off ≤ 2147483647) (hc : c < 45) {env : ab_E} {fx : List ab_Y} {v N : ab_I} {lo hi nlo nhi dn : Int} {z : ab_Z} {ws : va_W} (hR : ab_eR env z.1) (hf : ∀ f ∈ fx, ab_fs z ws f) {x y : Int32} (hx : ab_evI z.1 v = some x) (h1 : lo ≤ x.toInt) (h2 : x.toInt ≤ hi) (hy : ab_evI z.1 N = some y) (h3 : nlo ≤ y.toInt) (h4 : y.toInt ≤ nhi) (hs : ab_rsm k off ws ((c + 1 : Nat) : Int) (y.toInt + dn)) : ∃ q ∈ ab_ru k off c env fx v N lo hi nlo nhi dn, ab_eR q.1 z.1 ∧ ∀ f ∈ q.2, ab_fs z ws f := by
  obtain ⟨e, g1, g2⟩ := ab_rf_spec hR hx (lo := lo) (hi := hi) h1 h2
  obtain ⟨e2, g3, g4⟩ := ab_rf_spec g2 hy (lo := nlo) (hi := nhi) h3 h4
  unfold ab_ru
  rw [g1]
  dsimp only
  rw [g3]
  dsimp only
  cases hp : ab_plz e2 N dn with
  | none => exact ⟨_, List.mem_cons_self, g4, hf⟩
  | some N' =>
    obtain ⟨y', e1, e3⟩ := ab_plz_ok g4 hp hy
    refine ⟨_, List.mem_cons_self, g4, fun f hm => ?_⟩
    rcases List.mem_cons.mp hm with rfl | hm
    · exact ab_r_of b1 b2 (x := Int32.ofInt ((c + 1 : Nat) : Int)) rfl e1 (by rw [ab_nI2 (by omega), e3]; exact hs)
    · exact hf f hm
noncomputable def ab_ruc (k off : Nat) (env : ab_E) (aw : ab_H) (c : Nat) (p : ab_I → Bool) : Bool := ab_k2 k off && Nat.blt c 45 && ab_plb env aw.1 k off (fun lo _ => ab_le ((c : Int) + 1) lo) && ab_rex k off (fun i n => ab_isN env c i && p n) aw.2
theorem ab_ruc_ok {X : ab_X} {k off : Nat} {env : ab_E} {aw : ab_H} {c : Nat} {p : ab_I → Bool} {z : ab_Z} {s : State} {ws : va_W} (hR : ab_eR env z.1) (hw : ab_wR X z s aw ws) (h : ab_ruc k off env aw c p = true) : k ≤ 2147483647 ∧ off ≤ 2147483647 ∧ c < 45 ∧ ∃ (n : ab_I) (y : Int32) (nf : Nat) (f : Nat → Int32), p n = true ∧ ab_evI z.1 n = some y ∧ ab_arr ws k = some (nf, f) ∧ 0 ≤ y.toInt ∧ fk_rpn f (off + 1) c = some y.toInt.toNat ∧ fk_rpn f (off + 1) (c + 1) ≠ none ∧ ∀ i' : Nat, i' ≤ 45 → (i' : Int) ≤ (f off).toInt → fk_rpn f (off + 1) i' ≠ none := by
  rw [ab_ruc, ab_k2, Bool.and_eq_true, Bool.and_eq_true, Bool.and_eq_true, Bool.and_eq_true] at h
  obtain ⟨⟨⟨⟨b1, b2⟩, b3⟩, b4⟩, b5⟩ := h
  have hc : c < 45 := Nat.le_of_ble_eq_true b3
  obtain ⟨i, n, x, y, hp, e1, e2, nf, f, hf, t1, t2, t3, t4, t5⟩ := ab_rex_ok (Nat.le_of_ble_eq_true b1) (Nat.le_of_ble_eq_true b2) b5 hw.2
  rw [Bool.and_eq_true] at hp
  have hx := ab_isN_ok hR hp.1 e1
  have hxt : x.toInt.toNat = c := by omega
  rw [hxt] at t4
  obtain ⟨x1, x2, p1, p2, p3⟩ := ab_plb_ok hR hw b4 hf
  rw [ab_le_iff] at p1
  exact ⟨Nat.le_of_ble_eq_true b1, Nat.le_of_ble_eq_true b2, hc, n, y, nf, f, hp.2, e2, hf, t3, t4, t5 (c + 1) (by omega) (by omega), t5⟩
/-- a code is done: locals li (which), ln (how many truths) -/
noncomputable def pr_rU (k off li ln : Nat) : ab_PR := fun env aw lv _ => match ab_lk lv li, ab_lk lv ln with
  | some (.inl a), some (.inl N) => ab_one env a (fun c => match ab_pla aw.1 k (off + 1 + 3 * c) with
    | some v => bif ab_ruc k off env aw c (fun n => ab_eqI n N) then some (ab_ru k off c env aw.2 v N 20 20 1 2147483647 0 ++ (ab_ru k off c env aw.2 v N 21 22 2 2147483647 (-1) ++ (ab_ru k off c env aw.2 v N (-2147483648) 2 0 c 1 ++ (ab_ru k off c env aw.2 v N 3 3 0 c 1 ++ (ab_ru k off c env aw.2 v N 4 19 0 c 1 ++ ab_ru k off c env aw.2 v N 23 2147483647 0 c 1))))) else none
    | none => none)
  | _, _ => none
theorem pr_rU_ok {X : ab_X} {k off li ln : Nat} : ab_prs X (pr_rU k off li ln) := by
  intro env aw lv st l z ws s cst h h1 h2 h3 h4
  unfold pr_rU at h
  split at h
  · rename_i a N ha hN
    obtain ⟨c, -, h, -⟩ := ab_one_ok h1 h
    split at h
    · rename_i v hv
      cases hb : ab_ruc k off env aw c (fun n => ab_eqI n N)
      · rw [hb] at h; cases h
      · rw [hb, cond_true] at h
        cases h
        obtain ⟨b1, b2, hc, n, y, nf, f, hp, e2, hf, t3, t4, t6, t5⟩ := ab_ruc_ok h1 h2 hb
        cases ab_eqI_eq hp
        obtain ⟨n1, f1, k1, -, k3⟩ := ab_pla_ok h2 hv
        rw [hf] at k1
        cases k1
        have hd := fk_rpn_le t4
        have hl := Int32.le_toInt (f (off + 1 + 3 * c))
        have hu := Int32.toInt_lt (f (off + 1 + 3 * c))
        have hyl := Int32.toInt_lt y
        have mk : ∀ d : Nat, fk_rpn f (off + 1) (c + 1) = some d → ∀ dn : Int, (d : Int) = y.toInt + dn → ab_rsm k off ws ((c + 1 : Nat) : Int) (y.toInt + dn) := by
          intro d hd dn hdn
          refine ⟨nf, f, hf, by omega, by omega, by omega, ?_, t5⟩
          have e9 : (((c + 1 : Nat) : Int)).toNat = c + 1 := rfl
          have e8 : (y.toInt + dn).toNat = d := by omega
          rw [e9, e8]; exact hd
        have key := t6
        simp only [fk_rpn, t4] at key
        by_cases c1 : (f (off + 1 + 3 * c)).toInt = 20
        · rw [if_pos c1] at key
          have c2 : 1 ≤ y.toInt.toNat := by
            by_cases c2 : 1 ≤ y.toInt.toNat
            · exact c2
            · rw [if_neg c2] at key; exact absurd rfl key
          obtain ⟨q, q1, q2, q3⟩ := ab_ru_ok b1 b2 hc h1 h2.2 k3 (lo := 20) (hi := 20) (by omega) (by omega) e2 (nlo := 1) (nhi := 2147483647) (dn := 0) (by omega) (by omega) (mk y.toInt.toNat (by simp only [fk_rpn, t4]; rw [if_pos c1, if_pos c2]) 0 (by omega))
          exact ⟨q, List.mem_append_left _ q1, q2, q3⟩
        · rw [if_neg c1] at key
          by_cases c3 : (f (off + 1 + 3 * c)).toInt = 21 ∨ (f (off + 1 + 3 * c)).toInt = 22
          · rw [if_pos c3] at key
            have c2 : 2 ≤ y.toInt.toNat := by
              by_cases c2 : 2 ≤ y.toInt.toNat
              · exact c2
              · rw [if_neg c2] at key; exact absurd rfl key
            obtain ⟨q, q1, q2, q3⟩ := ab_ru_ok b1 b2 hc h1 h2.2 k3 (lo := 21) (hi := 22) (by omega) (by omega) e2 (nlo := 2) (nhi := 2147483647) (dn := -1) (by omega) (by omega) (mk (y.toInt.toNat - 1) (by simp only [fk_rpn, t4]; rw [if_neg c1, if_pos c3, if_pos c2]) (-1) (by omega))
            exact ⟨q, List.mem_append_right _ (List.mem_append_left _ q1), q2, q3⟩
          · rw [if_neg c3] at key
            have hleaf : fk_rpn f (off + 1) (c + 1) = some (y.toInt.toNat + 1) := by
              simp only [fk_rpn, t4]
              rw [if_neg c1, if_neg c3]
              by_cases c4 : (f (off + 1 + 3 * c)).toInt = 3
              · rw [if_pos c4] at key ⊢
                by_cases c5 : 0 ≤ (f (off + 1 + 3 * c + 2)).toInt ∧ (f (off + 1 + 3 * c + 2)).toInt ≤ 6
                · rw [if_pos c5]
                · rw [if_neg c5] at key; exact absurd rfl key
              · rw [if_neg c4]
            have hm := mk (y.toInt.toNat + 1) hleaf 1 (by omega)
            by_cases c6 : (f (off + 1 + 3 * c)).toInt ≤ 2
            · obtain ⟨q, q1, q2, q3⟩ := ab_ru_ok b1 b2 hc h1 h2.2 k3 (lo := -2147483648) (hi := 2) (by omega) (by omega) e2 (nlo := 0) (nhi := (c : Int)) (dn := 1) (by omega) (by omega) hm
              exact ⟨q, List.mem_append_right _ (List.mem_append_right _ (List.mem_append_left _ q1)), q2, q3⟩
            · by_cases c7 : (f (off + 1 + 3 * c)).toInt = 3
              · obtain ⟨q, q1, q2, q3⟩ := ab_ru_ok b1 b2 hc h1 h2.2 k3 (lo := 3) (hi := 3) (by omega) (by omega) e2 (nlo := 0) (nhi := (c : Int)) (dn := 1) (by omega) (by omega) hm
                exact ⟨q, List.mem_append_right _ (List.mem_append_right _ (List.mem_append_right _ (List.mem_append_left _ q1))), q2, q3⟩
              · by_cases c8 : (f (off + 1 + 3 * c)).toInt ≤ 19
                · obtain ⟨q, q1, q2, q3⟩ := ab_ru_ok b1 b2 hc h1 h2.2 k3 (lo := 4) (hi := 19) (by omega) (by omega) e2 (nlo := 0) (nhi := (c : Int)) (dn := 1) (by omega) (by omega) hm
                  exact ⟨q, List.mem_append_right _ (List.mem_append_right _ (List.mem_append_right _ (List.mem_append_right _ (List.mem_append_left _ q1)))), q2, q3⟩
                · obtain ⟨q, q1, q2, q3⟩ := ab_ru_ok b1 b2 hc h1 h2.2 k3 (lo := 23) (hi := 2147483647) (by omega) (by omega) e2 (nlo := 0) (nhi := (c : Int)) (dn := 1) (by omega) (by omega) hm
                  exact ⟨q, List.mem_append_right _ (List.mem_append_right _ (List.mem_append_right _ (List.mem_append_right _ (List.mem_append_right _ q1)))), q2, q3⟩
    · cases h
  · cases h
/-- code 3 has a town -/
noncomputable def pr_rT (k off li : Nat) : ab_PR := fun env aw lv _ => match ab_lk lv li with
  | some (.inl a) => ab_one env a (fun c => match ab_pla aw.1 k (off + 1 + 3 * c), ab_pla aw.1 k (off + 1 + 3 * c + 2) with
    | some v, some u => bif ab_ruc k off env aw c (fun _ => true) && ab_ivK env v (fun lo hi => ab_ie lo 3 && ab_ie hi 3) then (match ab_rf env u 0 6 with
      | some e => some [(e, aw.2)]
      | none => some []) else some [(env, aw.2)]
    | _, _ => some [(env, aw.2)])
  | _ => none
theorem pr_rT_ok {X : ab_X} {k off li : Nat} : ab_prs X (pr_rT k off li) := by
  intro env aw lv st l z ws s cst h h1 h2 h3 h4
  unfold pr_rT at h
  split at h
  · rename_i a ha
    obtain ⟨c, -, h, -⟩ := ab_one_ok h1 h
    split at h
    · rename_i v u hv hu
      cases hb : (ab_ruc k off env aw c (fun _ => true) && ab_ivK env v (fun lo hi => ab_ie lo 3 && ab_ie hi 3))
      · rw [hb, cond_false] at h
        cases h
        exact ⟨(env, aw.2), List.mem_cons_self, h1, h2.2⟩
      · rw [hb, cond_true] at h
        rw [Bool.and_eq_true, ab_ivK_eq, Bool.and_eq_true, ab_ie_iff, ab_ie_iff] at hb
        obtain ⟨b0, b6, b7⟩ := hb
        obtain ⟨b1, b2, hc, n, y, nf, f, hp, e2, hf, t3, t4, t6, t5⟩ := ab_ruc_ok h1 h2 b0
        obtain ⟨n1, f1, k1, -, k3⟩ := ab_pla_ok h2 hv
        obtain ⟨n2, f2, k4, -, k6⟩ := ab_pla_ok h2 hu
        rw [hf] at k1 k4
        cases k1
        cases k4
        have i3 := ab_iv_spec h1 k3
        simp only [fk_rpn, t4] at t6
        rw [if_neg (by omega), if_neg (by omega), if_pos (by omega)] at t6
        by_cases c5 : 0 ≤ (f (off + 1 + 3 * c + 2)).toInt ∧ (f (off + 1 + 3 * c + 2)).toInt ≤ 6
        · obtain ⟨e9, r1, r2⟩ := ab_rf_spec h1 k6 (lo := 0) (hi := 6) c5.1 c5.2
          rw [r1] at h
          cases h
          exact ⟨(e9, aw.2), List.mem_cons_self, r2, h2.2⟩
        · rw [if_neg c5] at t6
          exact absurd rfl t6
    · cases h
      exact ⟨(env, aw.2), List.mem_cons_self, h1, h2.2⟩
  · cases h
