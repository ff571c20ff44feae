/-! The cells in another order, told as the loop tells them. -/
noncomputable def ab_pmk (pm : List Nat) (j : Nat) (k : Nat) : Bool := match ab_get pm k with
  | some o => Nat.beq o j
  | none => false
noncomputable def ab_pmw (mz : Nat) (pm : List Nat) (w g : ab_w) : Bool := match w, g with
  | .inl (.inl (none, n)), .inl (.inl (some v, c)) => ab_ie n 0 && ab_ie c 0 && Nat.ble 1 v && Nat.ble v mz
  | .inl (.inl (none, n)), .inl (.inl (none, m)) => ab_ie n m
  | .inl (.inl (none, n)), .inr (.inl (lo, hi)) => ab_le lo n && ab_le n hi && ab_le (-2147483648) n && ab_le n 2147483647
  | .inl (.inr (.inl _)), .inr (.inr none) => true
  | .inr (.inr none), .inr (.inr none) => true
  | .inl (.inr (.inr (2, j))), .inr (.inr (some ks)) => ks.any (ab_pmk pm j)
  | .inl (.inr (.inr (2, j))), .inl (.inr (.inr (2, k))) => ab_pmk pm j k
  | _, _ => false
theorem ab_pmk_ok {pm : List Nat} {j k : Nat} (h : ab_pmk pm j k = true) : pm[k]? = some j := by
  unfold ab_pmk at h
  rw [ab_get_eq] at h
  split at h
  · rename_i o ho
    rw [ho, Nat.eq_of_beq_eq_true h]
  · cases h
theorem ab_pmw_ok {X : ab_X} {z z' : ab_Z} {pm : List Nat} {mz : Nat} (h0 : ∀ v : Nat, 1 ≤ v → v ≤ mz → z'.1[v]? = some 0) (hz : ∀ k o : Nat, pm[k]? = some o → z'.2.2[k]? = z.2.2[o]?) {w g : ab_w} {x : Value} (h : ab_pmw mz pm w g = true) (e : ab_ho X z w x) : ab_ho X z' g x := by
  unfold ab_pmw at h
  split at h
  · rename_i n v c
    rw [Bool.and_eq_true, Bool.and_eq_true, Bool.and_eq_true, ab_ie_iff, ab_ie_iff] at h
    obtain ⟨⟨⟨rfl, rfl⟩, h3⟩, h4⟩ := h
    have e1 : x = .int (Int32.ofInt 0) := by
      simp only [ab_ho, ab_ev, ab_evI, Option.map_some, Option.some.injEq] at e
      exact e.symm
    subst e1
    simp only [ab_ho, ab_ev, ab_evI, h0 v (Nat.le_of_ble_eq_true h3) (Nat.le_of_ble_eq_true h4), Option.map_some]
    rfl
  · rw [ab_ie_iff] at h
    subst h
    exact e
  · rename_i n lo hi
    rw [Bool.and_eq_true, Bool.and_eq_true, Bool.and_eq_true, ab_le_iff, ab_le_iff, ab_le_iff, ab_le_iff] at h
    obtain ⟨⟨⟨h1, h2⟩, h3⟩, h4⟩ := h
    have e1 : x = .int (Int32.ofInt n) := by
      simp only [ab_ho, ab_ev, ab_evI, Option.map_some, Option.some.injEq] at e
      exact e.symm
    exact ⟨Int32.ofInt n, e1, by rw [ab_of n h3 h4]; exact h1, by rw [ab_of n h3 h4]; exact h2⟩
  · obtain ⟨y, rfl, -⟩ := ab_evl e
    exact ⟨y, rfl⟩
  · exact e
  · rename_i j ks
    obtain ⟨k, hk, h1⟩ := List.any_eq_true.mp h
    simp only [ab_ho, ab_ev, ab_evR, Option.map_eq_some_iff] at e
    obtain ⟨a, ha, rfl⟩ := e
    exact ⟨k, hk, a, by rw [hz k j (ab_pmk_ok h1)]; exact ha, rfl⟩
  · rename_i j k
    have h1 := ab_pmk_ok h
    simp only [ab_ho, ab_ev, ab_evR] at e ⊢
    rw [hz k j h1]; exact e
  · cases h
noncomputable def ab_pmF (mz : Nat) (pm : List Nat) : List ab_F → List ab_F → Bool
  | [], [] => true
  | f :: r, g :: t => ab_pmw mz pm f.2 g.2 && ab_pmF mz pm r t
  | _, _ => false
theorem ab_pmF_ok {X : ab_X} {z z' : ab_Z} {pm : List Nat} {mz : Nat} (h0 : ∀ v : Nat, 1 ≤ v → v ≤ mz → z'.1[v]? = some 0) (hz : ∀ k o : Nat, pm[k]? = some o → z'.2.2[k]? = z.2.2[o]?) : ∀ {fs gs : List ab_F}, ab_pmF mz pm fs gs = true → gs.length = fs.length ∧ ∀ (j : Nat) (g : ab_F), gs[j]? = some g → ∃ f, fs[j]? = some f ∧ ∀ x, ab_ho X z f.2 x → ab_ho X z' g.2 x
  | [], [], _ => ⟨rfl, fun j g h => by simp at h⟩
  | [], _ :: _, h => by simp [ab_pmF] at h
  | _ :: _, [], h => by simp [ab_pmF] at h
  | f :: r, g :: t, h => by
    simp only [ab_pmF, Bool.and_eq_true] at h
    obtain ⟨i1, i2⟩ := ab_pmF_ok h0 hz h.2
    refine ⟨by simp [i1], fun j g' hj => ?_⟩
    cases j with
    | zero =>
      simp only [List.getElem?_cons_zero, Option.some.injEq] at hj
      subst hj
      exact ⟨f, rfl, fun x hx => ab_pmw_ok h0 hz h.1 hx⟩
    | succ j =>
      simp only [List.getElem?_cons_succ] at hj ⊢
      exact i2 j g' hj
noncomputable def ab_pmA (mz : Nat) (pm : List Nat) (d : ab_w) (ov : List (Nat × Nat × ab_w)) (d' : ab_w) (ov' : List (Nat × Nat × ab_w)) : Nat → Bool
  | 0 => true
  | n + 1 => ab_pmw mz pm (ab_at d ov n) (ab_at d' ov' n) && ab_pmA mz pm d ov d' ov' n
theorem ab_pmA_ok {mz : Nat} {pm : List Nat} {d : ab_w} {ov : List (Nat × Nat × ab_w)} {d' : ab_w} {ov' : List (Nat × Nat × ab_w)} : ∀ {n : Nat}, ab_pmA mz pm d ov d' ov' n = true → ∀ j, j < n → ab_pmw mz pm (ab_at d ov j) (ab_at d' ov' j) = true
  | 0, _, j, hj => by omega
  | n + 1, h, j, hj => by
    simp only [ab_pmA, Bool.and_eq_true] at h
    by_cases e : j = n
    · subst e; exact h.1
    · exact ab_pmA_ok h.2 j (by omega)
noncomputable def ab_pmC (mz : Nat) (pm : List Nat) (c g : ab_C) : Bool := match c, g with
  | .inl (i, fs), .inl (j, gs) => Nat.beq i j && ab_pmF mz pm fs gs
  | .inr (t, n, _, d, ov), .inr (t', n', _, d', ov') => Nat.beq t t' && Nat.beq n n' && ab_pmA mz pm d ov d' ov' n
  | _, _ => false
theorem ab_pmC_ok {X : ab_X} {z z' : ab_Z} {s : State} {pm : List Nat} {mz : Nat} (h0 : ∀ v : Nat, 1 ≤ v → v ≤ mz → z'.1[v]? = some 0) (hz : ∀ k o : Nat, pm[k]? = some o → z'.2.2[k]? = z.2.2[o]?) {c g : ab_C} {e : va_E} (h : ab_pmC mz pm c g = true) (hc : ab_cR X z s c e) : ab_cR X z' s g e := by
  unfold ab_pmC at h
  split at h
  · rename_i i fs j gs
    rw [Bool.and_eq_true] at h
    obtain ⟨h1, h2⟩ := h
    have e1 := Nat.eq_of_beq_eq_true h1
    subst e1
    obtain ⟨vs, g1, g2, g3⟩ := hc
    obtain ⟨i1, i2⟩ := ab_pmF_ok (X := X) h0 hz h2
    refine ⟨vs, g1, i1.trans g2, fun j f v hf hv => ?_⟩
    obtain ⟨f0, k1, k2⟩ := i2 j f hf
    exact k2 v (g3 j f0 v k1 hv)
  · rename_i t n b1 d ov t' n' b2 d' ov'
    rw [Bool.and_eq_true, Bool.and_eq_true] at h
    obtain ⟨⟨h1, h2⟩, h3⟩ := h
    have e1 := Nat.eq_of_beq_eq_true h1
    have e2 := Nat.eq_of_beq_eq_true h2
    subst e1 e2
    obtain ⟨cA, x, g1, g2, g3, g4⟩ := hc
    exact ⟨cA, x, g1, g2, g3, fun j hj => ab_pmw_ok h0 hz (ab_pmA_ok h3 j hj) (g4 j hj)⟩
  · cases h
/-- new numbers to old ones; the other way round -/
noncomputable def ab_pmL (mz : Nat) (pm nw : List Nat) (cs : List ab_C) : Nat → List ab_C → Bool
  | k, [] => (match ab_get pm k with
    | none => true
    | some _ => false)
  | k, g :: r => (match ab_get pm k with
    | some o => (match ab_get nw o, ab_get cs o with
      | some k', some c => Nat.beq k' k && ab_pmC mz pm c g
      | _, _ => false)
    | none => false) && ab_pmL mz pm nw cs (k + 1) r
theorem ab_pmL_ok {mz : Nat} {pm nw : List Nat} {cs : List ab_C} : ∀ {G : List ab_C} {k : Nat}, ab_pmL mz pm nw cs k G = true → pm.length ≤ k + G.length ∧ ∀ (j : Nat) (g : ab_C), G[j]? = some g → ∃ o c, pm[k + j]? = some o ∧ nw[o]? = some (k + j) ∧ cs[o]? = some c ∧ ab_pmC mz pm c g = true
  | [], k, h => by
    simp only [ab_pmL, ab_get_eq] at h
    split at h
    · rename_i hn
      exact ⟨by simpa using List.getElem?_eq_none_iff.mp hn, fun j g hj => by simp at hj⟩
    · cases h
  | g :: r, k, h => by
    simp only [ab_pmL, ab_get_eq, Bool.and_eq_true] at h
    obtain ⟨h1, h2⟩ := h
    obtain ⟨i1, i2⟩ := ab_pmL_ok h2
    split at h1
    · rename_i o ho
      split at h1
      · rename_i k' c hk hc
        rw [Bool.and_eq_true] at h1
        refine ⟨by rw [List.length_cons]; omega, fun j g' hj => ?_⟩
        cases j with
        | zero =>
          simp only [List.getElem?_cons_zero, Option.some.injEq] at hj
          subst hj
          exact ⟨o, c, ho, by rw [hk, Nat.eq_of_beq_eq_true h1.1]; rfl, hc, h1.2⟩
        | succ j =>
          simp only [List.getElem?_cons_succ] at hj
          obtain ⟨o', c', a1, a2, a3, a4⟩ := i2 j g' hj
          have e : k + 1 + j = k + (j + 1) := by omega
          rw [e] at a1 a2
          exact ⟨o', c', a1, a2, a3, a4⟩
      · cases h1
    · cases h1
noncomputable def ab_z0w (q : Nat × Nat × ab_w) : Bool := match q.2.2 with
  | .inl (.inl (none, c)) => ab_ie c 0
  | _ => false
theorem ab_z0w_ok {X : ab_X} {z : ab_Z} {q : Nat × Nat × ab_w} (h : ab_z0w q = true) {x : Value} (hx : ab_ho X z q.2.2 x) : x = .int 0 := by
  obtain ⟨a, b, w⟩ := q
  unfold ab_z0w at h
  split at h
  · rename_i c hc
    dsimp only at hc hx
    subst hc
    rw [ab_ie_iff] at h
    subst h
    have h4 : ab_ev X z (.inl (none, 0)) = some x := hx
    simp only [ab_ev, ab_evI, Option.map_some, Option.some.injEq] at h4
    exact h4.symm
  · cases h
/-- a row of zeros, longer than m -/
noncomputable def ab_zr (pm : List Nat) (cs : List ab_C) (m k : Int) : Bool := bif ab_le 0 k && ab_le k 2147483647 then (match ab_get pm k.toNat with
  | some o => (match ab_get cs o with
    | some (.inr (0, n, _, .inl (.inl (none, c)), ov)) => ab_ie c 0 && ab_le (m + 1) n && ov.all ab_z0w
    | _ => false)
  | none => false) else false
theorem ab_zr_ok {X : ab_X} {z : ab_Z} {s : State} {pm : List Nat} {cs : List ab_C} {fx : List ab_Y} {ws ws' : va_W} (hw : ab_wR X z s (cs, fx) ws) (hws : ∀ k o : Nat, pm[k]? = some o → ws'[k]? = ws[o]?) {m k : Int} (h : ab_zr pm cs m k = true) : 0 ≤ k ∧ k ≤ 2147483647 ∧ ∃ (n : Nat) (f : Nat → Int32), ab_arr ws' (Int32.ofInt k).toNatClampNeg = some (n, f) ∧ m + 1 ≤ (n : Int) ∧ ∀ j, j < n → f j = 0 := by
  unfold ab_zr at h
  cases hb : (ab_le 0 k && ab_le k 2147483647)
  · rw [hb] at h; cases h
  · rw [hb, cond_true, ab_get_eq] at h
    rw [Bool.and_eq_true, ab_le_iff, ab_le_iff] at hb
    split at h
    · rename_i o ho
      rw [ab_get_eq] at h
      split at h
      · rename_i n fl c ov hc
        rw [Bool.and_eq_true, Bool.and_eq_true, ab_ie_iff, ab_le_iff] at h
        obtain ⟨⟨rfl, h2⟩, h8⟩ := h
        obtain ⟨q, q1, cA, x, e1, ⟨f, rfl⟩, -, e4⟩ := hw.1.2 o _ hc
        have ek : (Int32.ofInt k).toNatClampNeg = k.toNat := by
          rw [Int32.toNatClampNeg, ab_of k (by omega) hb.2]
        refine ⟨hb.1, hb.2, n, f, ?_, h2, fun j hj => ?_⟩
        · rw [ek]
          unfold ab_arr
          rw [hws _ _ ho, q1]
          obtain ⟨a, e⟩ := q
          dsimp only at e1
          subst e1
          rfl
        · have h3 := e4 j hj
          have h4 := ab_at_cases (P := fun w => ∀ x, ab_ho X z w x → x = .int 0) (d := .inl (.inl (none, 0))) (ov := ov) (lo := 0) (hi := j) (fun x hx => ab_z0w_ok (X := X) (z := z) (q := (0, 0, .inl (.inl (none, 0)))) rfl hx) (fun q hq _ _ x hx => ab_z0w_ok (List.all_eq_true.mp h8 q hq) hx) (j := j) (Nat.zero_le _) (Nat.le_refl _) _ h3
          have h5 : Value.int (f j) = .int 0 := h4
          exact Value.int.inj h5
      · cases h
    · cases h
/-- a place of a row that is zero -/
noncomputable def ab_zp (pm : List Nat) (cs : List ab_C) (m k : Int) : Bool := bif ab_le 0 k && ab_le k 2147483647 && ab_le 0 m then (match ab_get pm k.toNat with
  | some o => (match ab_get cs o with
    | some (.inr (0, n, _, d, ov)) => ab_le (m + 1) n && ab_z0w (0, 0, ab_at d ov m.toNat)
    | _ => false)
  | none => false) else false
theorem ab_zp_ok {X : ab_X} {z : ab_Z} {s : State} {pm : List Nat} {cs : List ab_C} {fx : List ab_Y} {ws ws' : va_W} (hw : ab_wR X z s (cs, fx) ws) (hws : ∀ k o : Nat, pm[k]? = some o → ws'[k]? = ws[o]?) {m k : Int} (h : ab_zp pm cs m k = true) : 0 ≤ k ∧ k ≤ 2147483647 ∧ ∃ (n : Nat) (f : Nat → Int32), ab_arr ws' (Int32.ofInt k).toNatClampNeg = some (n, f) ∧ f m.toNat = 0 := by
  unfold ab_zp at h
  cases hb : (ab_le 0 k && ab_le k 2147483647 && ab_le 0 m)
  · rw [hb] at h; cases h
  · rw [hb, cond_true, ab_get_eq] at h
    rw [Bool.and_eq_true, Bool.and_eq_true, ab_le_iff, ab_le_iff, ab_le_iff] at hb
    split at h
    · rename_i o ho
      rw [ab_get_eq] at h
      split at h
      · rename_i n fl d ov hc
        rw [Bool.and_eq_true, ab_le_iff] at h
        obtain ⟨h2, h8⟩ := h
        obtain ⟨q, q1, cA, x, e1, ⟨f, rfl⟩, -, e4⟩ := hw.1.2 o _ hc
        have ek : (Int32.ofInt k).toNatClampNeg = k.toNat := by
          rw [Int32.toNatClampNeg, ab_of k (by omega) hb.1.2]
        refine ⟨hb.1.1, hb.1.2, n, f, ?_, ?_⟩
        · rw [ek]
          unfold ab_arr
          rw [hws _ _ ho, q1]
          obtain ⟨a, e⟩ := q
          dsimp only at e1
          subst e1
          rfl
        · have h3 := e4 m.toNat (show m.toNat < n by omega)
          have h5 : Value.int (f m.toNat) = .int 0 := ab_z0w_ok (X := X) (z := z) h8 h3
          exact Value.int.inj h5
      · cases h
    · cases h
/-- facts of rows of zeros -/
noncomputable def ab_zt (mz : Nat) (a : ab_I) : Bool := match a with
  | (some v, c) => ab_ie c 0 && Nat.ble 1 v && Nat.ble v mz
  | _ => false
noncomputable def ab_zf (mz : Nat) (pm : List Nat) (cs : List ab_C) (f : ab_Y) : Bool := match f with
  | (0, [(none, _), a, (none, _), b, (none, k)]) => ab_zt mz a && ab_zt mz b && ab_ie k 0
  | (2, [(none, k), (none, k'), (none, _), (none, _), (none, _), (none, tag), (none, _), (none, _), (none, _)]) => ab_zr pm cs (-1) k && ab_zr pm cs (-1) k' && ab_le 1 tag && ab_le tag 1000
  | (4, [(none, k), (none, k'), (none, off), (none, i), (none, n)]) => ab_zp pm cs off k && ab_ie k k' && ab_ie i 0 && ab_ie n 0 && ab_le 0 off && ab_le off 2147483647
  | _ => false
theorem ab_zf_ok {X : ab_X} {z z' : ab_Z} {s : State} {pm : List Nat} {cs : List ab_C} {fx : List ab_Y} {ws ws' : va_W} {mz : Nat} (h0 : ∀ v : Nat, 1 ≤ v → v ≤ mz → z'.1[v]? = some 0) (hw : ab_wR X z s (cs, fx) ws) (hws : ∀ k o : Nat, pm[k]? = some o → ws'[k]? = ws[o]?) {f : ab_Y} (h : ab_zf mz pm cs f = true) : ab_fs z' ws' f := by
  unfold ab_zf at h
  split at h
  · rename_i c1 a c2 b k
    rw [Bool.and_eq_true, Bool.and_eq_true, ab_ie_iff] at h
    obtain ⟨⟨h1, h2⟩, rfl⟩ := h
    have hz : ∀ a, ab_zt mz a = true → ab_evI z'.1 a = some 0 := by
      intro a ha
      unfold ab_zt at ha
      split at ha
      · rename_i v c
        rw [Bool.and_eq_true, Bool.and_eq_true, ab_ie_iff] at ha
        obtain ⟨⟨rfl, h3⟩, h4⟩ := ha
        simp only [ab_evI, h0 v (Nat.le_of_ble_eq_true h3) (Nat.le_of_ble_eq_true h4), Option.map_some]
        rfl
      · cases ha
    refine ⟨[Int32.ofInt c1, 0, Int32.ofInt c2, 0, Int32.ofInt 0], by simp only [List.map_cons, List.map_nil, hz a h1, hz b h2]; rfl, ?_⟩
    show (0 : Int) ≤ ab_lin _
    have k3 : (Int32.ofInt 0).toInt = 0 := ab_of 0 (by omega) (by omega)
    have k4 : (0 : Int32).toInt = 0 := rfl
    simp only [ab_lin, k3, k4, Int.mul_zero]
    omega
  · rename_i k k' o1 o2 st tag a b hi
    rw [Bool.and_eq_true, Bool.and_eq_true, Bool.and_eq_true, ab_le_iff, ab_le_iff] at h
    obtain ⟨⟨⟨h1, h2⟩, h3⟩, h4⟩ := h
    obtain ⟨-, -, n, g, g1, -, g2⟩ := ab_zr_ok hw hws h1
    obtain ⟨-, -, n', g', g1', -, -⟩ := ab_zr_ok hw hws h2
    refine ⟨[Int32.ofInt k, Int32.ofInt k', Int32.ofInt o1, Int32.ofInt o2, Int32.ofInt st, Int32.ofInt tag, Int32.ofInt a, Int32.ofInt b, Int32.ofInt hi], rfl, ?_⟩
    refine ⟨Int32.ofInt o1, Int32.ofInt o2, Int32.ofInt st, Int32.ofInt tag, Int32.ofInt a, Int32.ofInt b, Int32.ofInt hi, n, g, n', g', rfl, ?_, ?_⟩
    · simp only [List.take_succ_cons, List.take_zero, List.map_cons, List.map_nil, g1, g1']
    · intro j _ _ h5 _ h7
      rw [g2 _ h5] at h7
      have e1 := congrArg Int32.toInt h7
      rw [ab_of tag (by omega) (by omega)] at e1
      have : (0 : Int32).toInt = 0 := rfl
      omega
  · rename_i k k' off i n
    rw [Bool.and_eq_true, Bool.and_eq_true, Bool.and_eq_true, Bool.and_eq_true, Bool.and_eq_true, ab_ie_iff, ab_ie_iff, ab_ie_iff, ab_le_iff, ab_le_iff] at h
    obtain ⟨⟨⟨⟨⟨h1, rfl⟩, rfl⟩, rfl⟩, h5⟩, h6⟩ := h
    obtain ⟨-, -, n, g, g1, g2⟩ := ab_zp_ok hw hws h1
    refine ⟨[Int32.ofInt k, Int32.ofInt k, Int32.ofInt off, Int32.ofInt 0, Int32.ofInt 0], rfl, ?_⟩
    refine ⟨Int32.ofInt off, Int32.ofInt 0, Int32.ofInt 0, n, g, some (n, g), rfl, ?_, by decide, by decide, by decide, rfl, ?_⟩
    · simp only [List.take_succ_cons, List.take_zero, List.map_cons, List.map_nil, g1]
    · intro i' _ h7
      have e0 : (Int32.ofInt off).toNatClampNeg = off.toNat := by
        rw [Int32.toNatClampNeg, ab_of off (by omega) h6]
      rw [e0, g2] at h7
      have : (0 : Int32).toInt = 0 := rfl
      have e1 : i' = 0 := by omega
      subst e1
      simp [fk_rpn]
  · cases h
noncomputable def ab_pmV (pm : List Nat) (v v' : ab_V) : Bool := match v, v' with
  | .inr (.inr (1, _)), .inr (.inr (1, _)) => true
  | .inr (.inr (2, j)), .inr (.inr (2, k)) => ab_pmk pm j k
  | .inl (none, c), .inl (some 0, c') => ab_ie c 0 && ab_ie c' 0
  | _, _ => false
noncomputable def ab_pmVs (pm : List Nat) (lv : List (Nat × ab_V)) : List (Nat × ab_V) → Bool
  | [] => true
  | (i, v') :: r => (match ab_lk lv i with
    | some v => ab_pmV pm v v'
    | none => false) && ab_pmVs pm lv r
theorem ab_pmVs_ok {X : ab_X} {z z' : ab_Z} {nL : Nat} {ls : Array Slot} {pm : List Nat} (hz : ∀ k o : Nat, pm[k]? = some o → z'.2.2[k]? = z.2.2[o]?) (h0 : z'.1[0]? = some (Int32.ofInt 0)) {lv : List (Nat × ab_V)} (hl : ab_lR X z nL ls lv) : ∀ {lv' : List (Nat × ab_V)}, ab_pmVs pm lv lv' = true → ∀ q ∈ lv', ∃ v, ab_ev X z' q.2 = some v ∧ ls[q.1]? = some (.val v)
  | [], _, q, hq => by cases hq
  | (i, v') :: r, h, q, hq => by
    simp only [ab_pmVs, Bool.and_eq_true] at h
    rcases List.mem_cons.mp hq with rfl | hq
    · have h1 := h.1
      split at h1
      · rename_i v hv
        obtain ⟨x, a1, a2⟩ := hl.at hv
        refine ⟨x, ?_, a2⟩
        unfold ab_pmV at h1
        dsimp only at h1 ⊢
        split at h1
        · exact a1
        · rename_i j k
          have := ab_pmk_ok h1
          simp only [ab_ev, ab_evR] at a1 ⊢
          rw [hz k j this]; exact a1
        · rename_i c c'
          rw [Bool.and_eq_true, ab_ie_iff, ab_ie_iff] at h1
          obtain ⟨rfl, rfl⟩ := h1
          simp only [ab_ev, ab_evI, h0, Option.map_some] at a1 ⊢
          rw [← a1]; rfl
        · cases h1
      · cases h1
    · exact ab_pmVs_ok hz h0 hl h.2 q hq
theorem ab_perm {X : ab_X} {D : va_G} {s : State} {z0 : ab_Z0} {env envT : ab_E} {nl : Nat} {cs G : List ab_C} {fx FX : List ab_Y} {z : ab_Z} {ws : va_W} {H : Heap} {locs : List Loc} {pm nw : List Nat} {mz : Nat} {rho : List Int32} (h0 : ∀ v : Nat, 1 ≤ v → v ≤ mz → rho[v]? = some 0) (hR : ab_R X D s z0 env nl (cs, fx) z ws H locs) (hpm : ab_pmL mz pm nw cs 0 G = true) (hf : FX.all (ab_zf mz pm cs) = true) (he : ab_eR envT rho) :
    ∃ (z' : ab_Z) (ws' : va_W), z'.1 = rho ∧ (∀ k o : Nat, pm[k]? = some o → z'.2.2[k]? = z.2.2[o]?) ∧ ab_R X D s (z', [], []) envT 0 (G, FX) z' ws' H locs := by
  obtain ⟨r1, r2, r3, r4, r5, r6, r7, r8, r9⟩ := hR
  obtain ⟨p1, p2⟩ := ab_pmL_ok hpm
  rw [Nat.zero_add] at p1
  have hpk : ∀ k o : Nat, pm[k]? = some o → k < G.length ∧ nw[o]? = some k ∧ o < ws.length ∧ ∃ c g, cs[o]? = some c ∧ G[k]? = some g ∧ ab_pmC mz pm c g = true := by
    intro k o hk
    have hkl : k < pm.length := (List.getElem?_eq_some_iff.mp hk).1
    have hkG : k < G.length := Nat.lt_of_lt_of_le hkl p1
    obtain ⟨o', c, a1, a2, a3, a4⟩ := p2 k G[k] (List.getElem?_eq_getElem hkG)
    rw [Nat.zero_add, hk] at a1
    cases a1
    rw [Nat.zero_add] at a2
    have hol : o < cs.length := (List.getElem?_eq_some_iff.mp a3).1
    have hl0 : cs.length = ws.length := r4.1.1
    exact ⟨hkG, a2, by rw [← hl0]; exact hol, c, G[k], a3, List.getElem?_eq_getElem hkG, a4⟩
  have hGp : ∀ (k : Nat) (g : ab_C), G[k]? = some g → ∃ o, pm[k]? = some o := by
    intro k g hg
    obtain ⟨o, c, a1, -⟩ := p2 k g hg
    rw [Nat.zero_add] at a1
    exact ⟨o, a1⟩
  have hws : ∀ k o : Nat, pm[k]? = some o → (pm.map (fun o => ws.getD o (0, .inr (0, []))))[k]? = ws[o]? := by
    intro k o hk
    have hl := (hpk k o hk).2.2.1
    rw [List.getElem?_map, hk, Option.map_some, List.getD_eq_getElem?_getD, List.getElem?_eq_getElem hl]; rfl
  have hzl : z.2.2.length = ws.length := by rw [← r3, List.length_map]
  have hz : ∀ k o : Nat, pm[k]? = some o → (pm.map (fun o => z.2.2.getD o 0))[k]? = z.2.2[o]? := by
    intro k o hk
    have hl : o < z.2.2.length := by rw [hzl]; exact (hpk k o hk).2.2.1
    rw [List.getElem?_map, hk, Option.map_some, List.getD_eq_getElem?_getD, List.getElem?_eq_getElem hl]; rfl
  have hback : ∀ (k : Nat) (q : Nat × va_E), (pm.map (fun o => ws.getD o (0, .inr (0, []))))[k]? = some q → ∃ o, pm[k]? = some o ∧ ws[o]? = some q := by
    intro k q hq
    cases hk : pm[k]? with
    | none => rw [List.getElem?_map, hk] at hq; cases hq
    | some o => exact ⟨o, rfl, by rw [← hws k o hk]; exact hq⟩
  refine ⟨(rho, [], pm.map (fun o => z.2.2.getD o 0)), pm.map (fun o => ws.getD o (0, .inr (0, []))), rfl, hz, he, rfl, ?_, ⟨⟨?_, fun k g hg => ?_⟩, fun f hfm => ?_⟩, fun k q hq => ?_, ⟨fun i j p q hi hj hpq => ?_, fun k q hq => ?_⟩, r7, trivial, ab_ext.rf, ⟨_, rfl⟩, fun k q0 h => by simp at h⟩
  · apply List.ext_getElem?
    intro k
    cases hk : pm[k]? with
    | none =>
      rw [List.getElem?_map, List.getElem?_map, List.getElem?_map, hk]; rfl
    | some o =>
      have e1 := hws k o hk
      have e2 := hz k o hk
      rw [List.getElem?_map, e1]
      show _ = (pm.map (fun o => z.2.2.getD o 0))[k]?
      rw [e2, ← r3, List.getElem?_map]
  · rw [List.length_map]
    show G.length = pm.length
    apply Nat.le_antisymm
    · by_cases hc : pm.length < G.length
      · obtain ⟨o, ho⟩ := hGp pm.length G[pm.length] (List.getElem?_eq_getElem hc)
        rw [List.getElem?_eq_none (Nat.le_refl _)] at ho
        cases ho
      · omega
    · exact p1
  · obtain ⟨o, ho⟩ := hGp k g hg
    obtain ⟨-, -, hl, c, g', a1, a2, a3⟩ := hpk k o ho
    rw [hg] at a2
    cases a2
    obtain ⟨q, q1, q2⟩ := r4.1.2 o c a1
    refine ⟨q, by rw [hws k o ho]; exact q1, ?_⟩
    exact ab_pmC_ok (z' := (rho, [], pm.map (fun o => z.2.2.getD o 0))) h0 hz a3 q2
  · exact ab_zf_ok (z' := (rho, [], pm.map (fun o => z.2.2.getD o 0))) h0 r4 hws (List.all_eq_true.mp hf f hfm)
  · obtain ⟨o, -, h2⟩ := hback k q hq
    exact r5 o q h2
  · obtain ⟨o, h1, h2⟩ := hback i p hi
    obtain ⟨o', h1', h2'⟩ := hback j q hj
    have e1 := r6.1 o o' p q h2 h2' hpq
    subst e1
    have e2 := (hpk i o h1).2.1
    have e3 := (hpk j o h1').2.1
    rw [e2] at e3
    exact Option.some.inj e3
  · obtain ⟨o, -, h2⟩ := hback k q hq
    exact r6.2 o q h2
