/-! Fields, rows, new cells, switches, texts and statics. -/
theorem ab_b8in (x : Int32) : -128 ≤ (x.toInt8.toInt32).toInt ∧ (x.toInt8.toInt32).toInt ≤ 127 := by
  rw [Int8.toInt_toInt32]
  have h1 := Int8.minValue_le_toInt x.toInt8
  have h2 := Int8.toInt_le x.toInt8
  have e1 : Int8.minValue.toInt = -128 := by decide +kernel
  have e2 : Int8.maxValue.toInt = 127 := by decide +kernel
  omega
theorem ab_b8 (x : Int32) (h1 : -128 ≤ x.toInt) (h2 : x.toInt ≤ 127) : x.toInt8.toInt32 = x := by
  apply Int32.toInt_inj.mp
  rw [Int8.toInt_toInt32, Int32.toInt_toInt8]
  exact Int.bmod_eq_of_le (by omega) (by omega)
theorem ab_nn32 (x : Int32) (h1 : 0 ≤ x.toInt) : x = nI x.toInt.toNat := by
  have h := ab_i32 x
  apply Int32.toInt_inj.mp
  rw [nI_toInt (by omega)]; omega
theorem ab_c16 (x : Int32) (h1 : 0 ≤ x.toInt) (h2 : x.toInt ≤ 65535) : (x.toUInt32 % 65536).toInt32 = x := by
  rw [pk_char]
  have e := ab_nn32 x h1
  have e2 : x.toBitVec.toNat = x.toInt.toNat := by
    conv => lhs; rw [e]
    exact pk_tn (by omega)
  rw [e2, Nat.mod_eq_of_lt (by omega)]; exact e.symm
theorem ab_c16in (x : Int32) : 0 ≤ ((x.toUInt32 % 65536).toInt32).toInt ∧ ((x.toUInt32 % 65536).toInt32).toInt ≤ 65535 := by
  rw [pk_char, nI_toInt (by omega)]; omega
/-- may a field or a row of this type hold it -/
noncomputable def ab_fit (ty : FieldType) (env : ab_E) (v : ab_V) : Bool := match ty, v with
  | .int, .inl _ => true
  | .boolean, .inl a => ab_ivK env a (fun lo hi => ab_le 0 lo && ab_le hi 1)
  | .byte, .inl a => ab_ivK env a (fun lo hi => ab_le (-128) lo && ab_le hi 127)
  | .char, .inl a => ab_ivK env a (fun lo hi => ab_le 0 lo && ab_le hi 65535)
  | .long, .inr (.inl _) => true
  | .object _, .inr (.inr r) => ab_nn r
  | .array _, .inr (.inr r) => ab_nn r
  | _, _ => false
theorem ab_fit_ok {ty : FieldType} {env : ab_E} {v : ab_V} {X : ab_X} {z : ab_Z} {x : Value} (hR : ab_eR env z.1) (h : ab_fit ty env v = true) (hv : ab_ev X z v = some x) : narrow ty x = x ∧ fits ty x = true := by
  unfold ab_fit at h
  split at h
  · obtain ⟨y, rfl, -⟩ := ab_evi hv
    exact ⟨rfl, rfl⟩
  · obtain ⟨y, rfl, h3⟩ := ab_evi hv
    have hi := ab_iv_spec hR h3
    rw [ab_ivK_eq, Bool.and_eq_true, ab_le_iff, ab_le_iff] at h
    have e := ab_nn32 y (by omega)
    have e2 : y.toInt.toNat = 0 ∨ y.toInt.toNat = 1 := by omega
    rcases e2 with e2 | e2
    · rw [e, e2]; exact ⟨rfl, by decide +kernel⟩
    · rw [e, e2]; exact ⟨rfl, by decide +kernel⟩
  · obtain ⟨y, rfl, h3⟩ := ab_evi hv
    have hi := ab_iv_spec hR h3
    rw [ab_ivK_eq, Bool.and_eq_true, ab_le_iff, ab_le_iff] at h
    refine ⟨?_, ?_⟩
    · show Value.int y.toInt8.toInt32 = _
      rw [ab_b8 y (by omega) (by omega)]
    · have h1 : (-128 : Int32) ≤ y := Int32.le_iff_toInt_le.mpr (by rw [show (-128 : Int32).toInt = -128 from by decide +kernel]; omega)
      have h2 : y ≤ (127 : Int32) := Int32.le_iff_toInt_le.mpr (by rw [show (127 : Int32).toInt = 127 from by decide +kernel]; omega)
      show (decide ((-128 : Int32) ≤ y) && decide (y ≤ 127)) = true
      rw [decide_eq_true h1, decide_eq_true h2]; rfl
  · obtain ⟨y, rfl, h3⟩ := ab_evi hv
    have hi := ab_iv_spec hR h3
    rw [ab_ivK_eq, Bool.and_eq_true, ab_le_iff, ab_le_iff] at h
    rw [ab_nn32 y (by omega)]
    exact pk_charN (by omega)
  · obtain ⟨y, rfl, -⟩ := ab_evl hv
    exact ⟨rfl, rfl⟩
  · obtain ⟨a, rfl⟩ := ab_nn_ref h hv
    exact ⟨rfl, rfl⟩
  · obtain ⟨a, rfl⟩ := ab_nn_ref h hv
    exact ⟨rfl, rfl⟩
  · cases h
theorem ab_map_get {X : ab_X} {z : ab_Z} : ∀ {l : List ab_V} {c : List Value} {k : Nat} {a : ab_V}, l.map (ab_ev X z) = c.map some → l[k]? = some a → ∃ x, c[k]? = some x ∧ ab_ev X z a = some x
  | [], c, k, a, _, h => by simp at h
  | b :: l, [], k, a, e, h => by simp at e
  | b :: l, x :: c, 0, a, e, h => by
    simp only [List.map_cons, List.cons.injEq] at e
    rw [List.getElem?_cons_zero] at h
    cases h
    exact ⟨x, rfl, e.1⟩
  | b :: l, x :: c, k + 1, a, e, h => by
    simp only [List.map_cons, List.cons.injEq] at e
    rw [List.getElem?_cons_succ] at h ⊢
    exact ab_map_get e.2 h
theorem ab_map_set {X : ab_X} {z : ab_Z} : ∀ {l : List ab_V} {c : List Value} {k : Nat} {a : ab_V} {x : Value}, l.map (ab_ev X z) = c.map some → ab_ev X z a = some x → (l.set k a).map (ab_ev X z) = (c.set k x).map some
  | [], [], k, a, x, _, _ => rfl
  | [], _ :: _, k, a, x, e, h => by simp at e
  | b :: l, [], k, a, x, e, h => by simp at e
  | b :: l, y :: c, 0, a, x, e, h => by
    simp only [List.map_cons, List.cons.injEq] at e
    simp only [List.set, List.map_cons, h, e.2]
  | b :: l, y :: c, k + 1, a, x, e, h => by
    simp only [List.map_cons, List.cons.injEq] at e
    simp only [List.set, List.map_cons, e.1, ab_map_set e.2 h]
theorem ab_map_len {X : ab_X} {z : ab_Z} {l : List ab_V} {c : List Value} (e : l.map (ab_ev X z) = c.map some) : l.length = c.length := by
  have h := congrArg List.length e
  simpa using h
/-- a reference to a cell of the world -/
theorem ab_ref2 {X : ab_X} {z : ab_Z} {j : Nat} {x : Value} (h : ab_ev X z (.inr (.inr (2, j))) = some x) : ∃ a, x = .ref a ∧ z.2.2[j]? = some a := by
  simp only [ab_ev, ab_evR, Option.map_eq_some_iff] at h
  obtain ⟨y, h1, h2⟩ := h
  exact ⟨y, h2.symm, h1⟩
/-- an index that is one number, below n -/
noncomputable def ab_ixK (env : ab_E) (i : ab_I) (n : Nat) (k : Nat → ab_A) : ab_A := ab_ivK env i (fun lo hi => bif ab_ie lo hi then (match lo with
  | .ofNat q => bif Nat.blt q n then k q else none
  | .negSucc _ => none) else none)
theorem ab_ixK_ok {env : ab_E} {i : ab_I} {n : Nat} {k : Nat → ab_A} {r : List ab_S} (h : ab_ixK env i n k = some r) {rho : List Int32} {x : Int32} (hR : ab_eR env rho) (hx : ab_evI rho i = some x) (hn : n < 2 ^ 31) : k x.toNatClampNeg = some r ∧ x.toNatClampNeg < n ∧ vp_in x n := by
  unfold ab_ixK at h
  rw [ab_ivK_eq] at h
  have hi := ab_iv_spec hR hx
  cases hc : ab_ie (ab_iv env i).1 (ab_iv env i).2
  · rw [hc] at h; cases h
  · rw [hc, cond_true] at h
    rw [ab_ie_iff] at hc
    split at h
    · rename_i q hq
      cases hb : Nat.blt q n
      · rw [hb] at h; cases h
      · rw [hb, cond_true] at h
        have hb2 : q < n := Nat.le_of_ble_eq_true hb
        have e1 : x.toInt = (q : Int) := by have : (ab_iv env i).1 = (q : Int) := hq; omega
        have e : x = nI q := by
          have := ab_nn32 x (by omega)
          rw [this, e1]; rfl
        have e3 : x.toNatClampNeg = q := by rw [e]; exact nI_clamp (by omega)
        rw [e3]
        exact ⟨h, hb2, by rw [e]; exact vp_in_nI hb2 hn⟩
    · cases h
theorem ab_ixin {y : Int32} {n : Nat} (h0 : 0 ≤ y.toInt) (h1 : y.toInt < n) (hn : n < 2 ^ 31) : vp_in y n ∧ y.toNatClampNeg = y.toInt.toNat ∧ y.toNatClampNeg < n := by
  have e0 := ab_nn32 y h0
  have e1 : y.toNatClampNeg = y.toInt.toNat := by
    conv => lhs; rw [e0]
    exact nI_clamp (by omega)
  exact ⟨by rw [e0]; exact vp_in_nI (by omega) hn, e1, by omega⟩
/-- an int told by an interval lies in it -/
theorem ab_wivK_ok {X : ab_X} {z : ab_Z} {env : ab_E} {w : ab_w} {k : Int → Int → ab_A} {r : List ab_S} (hR : ab_eR env z.1) (h : ab_wivK env w k none = some r) : ∃ x y, k x y = some r ∧ ∀ v, ab_ho X z w v → ∃ n : Int32, v = .int n ∧ x ≤ n.toInt ∧ n.toInt ≤ y := by
  unfold ab_wivK at h
  split at h
  · rename_i a
    rw [ab_ivK_eq] at h
    refine ⟨_, _, h, fun v hv => ?_⟩
    obtain ⟨n, rfl, h2⟩ := ab_evi (X := X) hv
    exact ⟨n, rfl, ab_iv_spec hR h2⟩
  · rename_i lo hi
    exact ⟨_, _, h, fun v hv => hv⟩
  · cases h
theorem ab_hulK_ok {X : ab_X} {z : ab_Z} {env : ab_E} {lo hi : Nat} (hR : ab_eR env z.1) : ∀ {ov : List (Nat × Nat × ab_w)} {x y : Int} {k : Int → Int → ab_A} {r : List ab_S}, ab_hulK env lo hi ov x y k none = some r → ∃ x' y', k x' y' = some r ∧ x' ≤ x ∧ y ≤ y' ∧ ∀ q ∈ ov, q.1 ≤ hi → lo ≤ q.2.1 → ∀ v, ab_ho X z q.2.2 v → ∃ n : Int32, v = .int n ∧ x' ≤ n.toInt ∧ n.toInt ≤ y'
  | [], x, y, k, r, h => ⟨x, y, h, Int.le_refl _, Int.le_refl _, fun q hq => by cases hq⟩
  | (a, b, w) :: ov, x, y, k, r, h => by
    rw [ab_hulK_c] at h
    cases hb : (Nat.ble a hi && Nat.ble lo b)
    · rw [hb, cond_false] at h
      obtain ⟨x', y', h1, h2, h3, h4⟩ := ab_hulK_ok hR h
      refine ⟨x', y', h1, h2, h3, fun q hq g1 g2 => ?_⟩
      rcases List.mem_cons.mp hq with rfl | hq
      · dsimp only at g1 g2
        rw [Nat.ble_eq_true_of_le g1, Nat.ble_eq_true_of_le g2] at hb; cases hb
      · exact h4 q hq g1 g2
    · rw [hb, cond_true] at h
      obtain ⟨u, t, h1, h2⟩ := ab_wivK_ok (X := X) hR h
      rw [ab_fi_eq, ab_fi_eq] at h1
      obtain ⟨x', y', g1, g2, g3, g4⟩ := ab_hulK_ok hR h1
      have m1 : ab_mn x u ≤ x ∧ ab_mn x u ≤ u := by
        unfold ab_mn
        cases hc : ab_le x u
        · rw [ab_le_false] at hc; exact ⟨by simp only [cond_false]; omega, by simp only [cond_false]; omega⟩
        · rw [ab_le_iff] at hc; exact ⟨by simp only [cond_true]; omega, by simp only [cond_true]; omega⟩
      have m2 : y ≤ ab_mx y t ∧ t ≤ ab_mx y t := by
        unfold ab_mx
        cases hc : ab_le y t
        · rw [ab_le_false] at hc; exact ⟨by simp only [cond_false]; omega, by simp only [cond_false]; omega⟩
        · rw [ab_le_iff] at hc; exact ⟨by simp only [cond_true]; omega, by simp only [cond_true]; omega⟩
      refine ⟨x', y', g1, by omega, by omega, fun q hq f1 f2 v hv => ?_⟩
      rcases List.mem_cons.mp hq with rfl | hq
      · obtain ⟨n, rfl, e1, e2⟩ := h2 v hv
        exact ⟨n, rfl, by omega, by omega⟩
      · exact g4 q hq f1 f2 v hv
theorem ab_at_cases {P : ab_w → Prop} {d : ab_w} {lo hi : Nat} : ∀ {ov : List (Nat × Nat × ab_w)}, P d → (∀ q ∈ ov, q.1 ≤ hi → lo ≤ q.2.1 → P q.2.2) → ∀ {j : Nat}, lo ≤ j → j ≤ hi → P (ab_at d ov j)
  | [], hd, _, _, _, _ => hd
  | (a, b, w) :: ov, hd, h, j, h1, h2 => by
    simp only [ab_at]
    cases hb : (Nat.ble a j && Nat.ble j b)
    · exact ab_at_cases hd (fun q hq => h q (List.mem_cons_of_mem _ hq)) h1 h2
    · rw [Bool.and_eq_true] at hb
      have b1 := Nat.le_of_ble_eq_true hb.1
      have b2 := Nat.le_of_ble_eq_true hb.2
      exact h (a, b, w) List.mem_cons_self (Nat.le_trans b1 h2) (Nat.le_trans h1 b2)
/-- a cell is told otherwise -/
theorem ab_R.tell {X : ab_X} {D : va_G} {s : State} {z0 : ab_Z0} {env : ab_E} {nl : Nat} {aw : ab_H} {z : ab_Z} {ws : va_W} {H : Heap} {locs : List Loc} (h : ab_R X D s z0 env nl aw z ws H locs) {k : Nat} {c0 c : ab_C} (hk0 : aw.1[k]? = some c0) (hfl : ab_flg c = ab_flg c0) (hc : ∀ a e, ws[k]? = some (a, e) → ab_cR X z s c e) : ab_R X D s z0 env nl (aw.1.set k c, aw.2) z ws H locs := by
  obtain ⟨h1, h2, h3, h4, h5, h6, h7, h8, h9, ⟨t, ht⟩, h10⟩ := h
  refine ⟨h1, h2, h3, ⟨⟨by simp [h4.1.1], fun j d hj => ?_⟩, h4.2⟩, h5, h6, h7, h8, h9, ⟨t, by rw [← ht]; exact ab_map_set_same hk0 hfl⟩, h10⟩
  by_cases hjk : j = k
  · subst hjk
    rw [List.getElem?_set_self (List.getElem?_eq_some_iff.mp hk0).1] at hj
    cases hj
    obtain ⟨q, g1, g2⟩ := h4.1.2 j c0 hk0
    exact ⟨q, g1, hc q.1 q.2 g1⟩
  · rw [List.getElem?_set_ne (Ne.symm hjk)] at hj
    exact h4.1.2 j d hj
/-- each of some cells -/
noncomputable def ab_ksK (env : ab_E) (nl : Nat) (cs : List ab_C) (fx : List ab_Y) (cl sl np : Nat) (lv : List (Nat × ab_V)) (st : List ab_V) (j cj : Nat) (fs : List ab_F) (k : Nat) (fl : Bool) : List Nat → (List ab_S → ab_A) → ab_A
  | [], c => c []
  | q :: r, c => ab_setK fs k (fl, .inl (.inr (.inr (2, q)))) (fun fs' => ab_setK cs j (.inl (cj, fs')) (fun cs' => ab_ksK env nl cs fx cl sl np lv st j cj fs k fl r (fun L => c (((env, nl, (cs', fx), cl, sl), np, lv, .inr (.inr (2, q)) :: st) :: L))))
theorem ab_ksK_ok {env : ab_E} {nl : Nat} {cs : List ab_C} {fx : List ab_Y} {cl sl np : Nat} {lv : List (Nat × ab_V)} {st : List ab_V} {j cj : Nat} {fs : List ab_F} {k : Nat} {fl : Bool} : ∀ {ks : List Nat} {c : List ab_S → ab_A} {r : List ab_S}, ab_ksK env nl cs fx cl sl np lv st j cj fs k fl ks c = some r → ∃ L, c L = some r ∧ ∀ q ∈ ks, ((env, nl, (cs.set j (.inl (cj, fs.set k (fl, .inl (.inr (.inr (2, q)))))), fx), cl, sl), np, lv, .inr (.inr (2, q)) :: st) ∈ L
  | [], c, r, h => ⟨[], h, fun q hq => by cases hq⟩
  | q :: ks, c, r, h => by
    simp only [ab_ksK, ab_setK_eq] at h
    obtain ⟨L, h1, h2⟩ := ab_ksK_ok h
    refine ⟨_, h1, fun q' hq => ?_⟩
    rcases List.mem_cons.mp hq with rfl | hq
    · exact List.mem_cons_self
    · exact List.mem_cons_of_mem _ (h2 q' hq)
noncomputable def op_gf (ci k np : Nat) : ab_P := fun _ env nl aw cl sl lv st => match st with
  | .inr (.inr (2, j)) :: st => (match ab_get aw.1 j with
    | some (.inl (cj, fs)) => bif Nat.beq ci cj then (match ab_get fs k with
      | some (fl, w) => (match w with
        | .inl v => some [((env, nl, aw, cl, sl), np, lv, v :: st)]
        | .inr (.inl (lo, hi)) => ab_frK env lo hi (fun env a => ab_setK fs k (fl, .inl (.inl a)) (fun fs => ab_setK aw.1 j (.inl (cj, fs)) (fun cs => some [((env, nl, (cs, aw.2), cl, sl), np, lv, .inl a :: st)])))
        | .inr (.inr none) => ab_fn (nl + 1) (fun nl' => some [((env, nl', aw, cl, sl), np, lv, .inr (.inl (.inr nl)) :: st)])
        | .inr (.inr (some ks)) => ab_ksK env nl aw.1 aw.2 cl sl np lv st j cj fs k fl ks (fun L => some L))
      | none => none) else none
    | _ => none)
  | _ => none
/-- what is told of a value that is put -/
noncomputable def ab_vw (v : ab_V) : ab_w := match v with
  | .inr (.inl _) => .inr (.inr none)
  | v => .inl v
theorem ab_vw_ok {X : ab_X} {z : ab_Z} {v : ab_V} {x : Value} (h : ab_ev X z v = some x) : ab_ho X z (ab_vw v) x := by
  rcases v with a | l | r
  · exact h
  · obtain ⟨y, rfl, -⟩ := ab_evl h
    exact ⟨y, rfl⟩
  · exact h
noncomputable def op_pf (ty : FieldType) (ci k np : Nat) : ab_P := fun _ env nl aw cl sl lv st => match st with
  | v :: .inr (.inr (2, j)) :: st => bif ab_fit ty env v then (match ab_get aw.1 j with
    | some (.inl (cj, fs)) => bif Nat.beq ci cj then (match ab_get fs k with
      | some (true, _) => ab_setK fs k (true, ab_vw v) (fun fs => ab_setK aw.1 j (.inl (cj, fs)) (fun cs => some [((env, nl, (cs, aw.2), cl, sl), np, lv, st)]))
      | _ => none) else none
    | _ => none) else none
  | _ => none
/-- ints, bytes, booleans of a row -/
noncomputable def op_ald (t np : Nat) : ab_P := fun _ env nl aw cl sl lv st => match st with
  | .inl i :: .inr (.inr (2, j)) :: st => (match ab_get aw.1 j with
    | some (.inr (t', n, fl, d, ov)) => bif Nat.beq t t' && Nat.ble n 100000 then ab_ivK env i (fun lo hi => bif ab_le 0 lo && ab_le (hi + 1) n then
        ab_fn lo.toNat (fun q => bif ab_ie lo hi then ab_atK d ov q (fun w => match w with
          | .inl (.inl a) => some [((env, nl, aw, cl, sl), np, lv, .inl a :: st)]
          | .inr (.inl (x, y)) => ab_frK env x y (fun env a => ab_putK ov q (.inl (.inl a)) (fun ov => ab_setK aw.1 j (.inr (t', n, fl, d, ov)) (fun cs => some [((env, nl, (cs, aw.2), cl, sl), np, lv, .inl a :: st)])))
          | _ => none)
        else ab_fn hi.toNat (fun q' => ab_wivK env d (fun x y => ab_hulK env q q' ov x y (fun x y => ab_frK env x y (fun env a => some [((env, nl, aw, cl, sl), np, lv, .inl a :: st)])) none) none)) else none) else none
    | _ => none)
  | _ => none
/-- a long of a row -/
noncomputable def op_lald (np : Nat) : ab_P := fun _ env nl aw cl sl lv st => match st with
  | .inl i :: .inr (.inr (2, j)) :: st => (match ab_get aw.1 j with
    | some (.inr (t', n, _, _, _)) => bif Nat.beq 1 t' && Nat.ble n 100000 then ab_ivK env i (fun lo hi => bif ab_le 0 lo && ab_le (hi + 1) n then ab_fn (nl + 1) (fun nl' => some [((env, nl', aw, cl, sl), np, lv, .inr (.inl (.inr nl)) :: st)]) else none) else none
    | _ => none)
  | _ => none
noncomputable def op_ast (t np : Nat) : ab_P := fun _ env nl aw cl sl lv st => match st with
  | .inl v :: .inl i :: .inr (.inr (2, j)) :: st => (match ab_get aw.1 j with
    | some (.inr (t', n, true, d, ov)) => bif Nat.beq t t' && ab_b5 n && ab_fit (ab_ft t) env (.inl v) && Nat.ble j 2147483647 then ab_ivK env i (fun lo hi => bif ab_le 0 lo && ab_le (hi + 1) n then
        ab_fn lo.toNat (fun q => bif ab_ie lo hi then ab_putK ov q (.inl (.inl v)) (fun ov => ab_setK aw.1 j (.inr (t', n, true, d, ov)) (fun cs => ab_dropK j aw.2 (fun fx => some [((env, nl, (cs, fx), cl, sl), np, lv, st)])))
        else ab_fn hi.toNat (fun q' => ab_ivK env v (fun vl vh => ab_wivK env d (fun x y => ab_fi (ab_mn x vl) (fun x => ab_fi (ab_mx y vh) (fun y => ab_hulK env q q' ov x y (fun x y => ab_setK aw.1 j (.inr (t', n, true, d, (q, q', .inr (.inl (x, y))) :: ov)) (fun cs => ab_dropK j aw.2 (fun fx => some [((env, nl, (cs, fx), cl, sl), np, lv, st)]))) none))) none))) else none) else none
    | _ => none)
  | _ => none
noncomputable def op_last (np : Nat) : ab_P := fun _ env nl aw cl sl lv st => match st with
  | .inr (.inl _) :: .inl i :: .inr (.inr (2, j)) :: st => (match ab_get aw.1 j with
    | some (.inr (t', n, true, _, _)) => bif Nat.beq 1 t' && Nat.ble n 100000 && Nat.ble j 2147483647 then ab_ivK env i (fun lo hi => bif ab_le 0 lo && ab_le (hi + 1) n then ab_setK aw.1 j (.inr (t', n, true, .inr (.inr none), [])) (fun cs => ab_dropK j aw.2 (fun fx => some [((env, nl, (cs, fx), cl, sl), np, lv, st)])) else none) else none
    | _ => none)
  | _ => none
noncomputable def op_len (np : Nat) : ab_P := fun _ env nl aw cl sl lv st => match st with
  | .inr (.inr (2, j)) :: st => (match ab_get aw.1 j with
    | some (.inr (_, n, _, _, _)) => some [((env, nl, aw, cl, sl), np, lv, .inl (none, (n : Int)) :: st)]
    | _ => none)
  | _ => none
noncomputable def op_na (t : Nat) (d : ab_V) (mc ms np : Nat) : ab_P := fun _ env nl aw cl sl lv st => match st with
  | .inl i :: st => ab_ixK env i 100001 (fun q => bif Nat.ble (cl + 1) mc && Nat.ble (sl + q) ms then ab_lenK aw.1 0 (fun j => ab_appK aw.1 (.inr (t, q, true, .inl d, [])) (fun cs => ab_fn (cl + 1) (fun cl => ab_fn (sl + q) (fun sl => some [((env, nl, (cs, []), cl, sl), np, lv, .inr (.inr (2, j)) :: st)])))) else none)
  | _ => none
noncomputable def op_new (ci n : Nat) (fs : List ab_F) (mc ms np : Nat) : ab_P := fun _ env nl aw cl sl lv st =>
  bif Nat.ble (cl + 1) mc && Nat.ble (sl + n) ms then ab_lenK aw.1 0 (fun j => ab_appK aw.1 (.inl (ci, fs)) (fun cs => ab_fn (cl + 1) (fun cl => ab_fn (sl + n) (fun sl => some [((env, nl, (cs, []), cl, sl), np, lv, .inr (.inr (2, j)) :: st)])))) else none
section
variable {p : Program} {l : Launch} {e : Env} {R : Room} {s : State} {m : MethodId} {args : Array Value} {below : List Frame} {meth : Method} {c : Code} {Q : State → Prop} {cc : ByteArray} {own : String} {nL : Nat} {X : ab_X} {D : va_G} {z0 : ab_Z0} {cal : ab_K} {pc : Nat}
theorem ab_cxE (C : ab_cx p R s m args c cc own nL X D) : ab_EX X D s s.heap := C.2.2.2.2.2.1
theorem ab_fset {fs : List ab_F} {vs : List Value} {k : Nat} {f : ab_F} {x : Value} {z : ab_Z} (hlen : fs.length = vs.length) (h : ∀ (j : Nat) (f : ab_F) (v : Value), fs[j]? = some f → vs[j]? = some v → ab_ho X z f.2 v) (hf : ab_ho X z f.2 x) : ∀ (j : Nat) (g : ab_F) (v : Value), (fs.set k f)[j]? = some g → (vs.set k x)[j]? = some v → ab_ho X z g.2 v := by
  intro j g v hg hv
  by_cases hj : j = k
  · subst hj
    have hl : j < fs.length := by
      have := (List.getElem?_eq_some_iff.mp hg).1
      simpa using this
    rw [List.getElem?_set_self hl] at hg
    rw [List.getElem?_set_self (by omega)] at hv
    cases hg
    cases hv
    exact hf
  · rw [List.getElem?_set_ne (Ne.symm hj)] at hg hv
    exact h j g v hg hv
theorem ab_flg_set {fs : List ab_F} {k : Nat} {fl : Bool} {w w' : ab_w} (h : fs[k]? = some (fl, w)) : (fs.set k (fl, w')).map Prod.fst = fs.map Prod.fst := ab_map_set_same h rfl
theorem so_gf_k (C : ab_cx p R s m args c cc own nL X D) {ci k np : Nat} (hrow : ∀ (ws : va_W) (H : Heap) (locs : List Loc) (cl sl : Nat) (ls : Array Slot) (rest : List Value) (a j : Nat) (fs : List Value) (v : Value), ws[j]? = some (a, .inr (ci, fs)) → va_P D vwCl ws H → fs[k]? = some v → W p l e R s m args below meth c H locs cl sl Q (F0 m np ls (v :: rest)) → W p l e R s m args below meth c H locs cl sl Q (F0 m pc ls (.ref a :: rest))) : ab_so p l e R s m args below meth c Q nL X D z0 cal pc (op_gf ci k np) := by
  intro env nl aw cl sl lv st r hr hk z ws H locs ls cst hR hl hs
  dsimp only at hR hl hs
  unfold op_gf at hr
  split at hr
  · rename_i j st'
    rw [ab_get_eq] at hr
    split at hr
    · rename_i cj fs hj
      cases hb : Nat.beq ci cj
      · rw [hb] at hr; cases hr
      · rw [hb, cond_true, ab_get_eq] at hr
        cases Nat.eq_of_beq_eq_true hb
        split at hr
        · rename_i fl w hv
          obtain ⟨x, r0, rfl, h1, h2⟩ := ab_st1 hs
          obtain ⟨a, rfl, h3⟩ := ab_ref2 h1
          obtain ⟨a', e', c1, c2, vs, rfl, c3, c4⟩ := hR.cell hj
          cases Option.some.inj (c2.symm.trans h3)
          have hkv : k < vs.length := by rw [← c3]; exact (List.getElem?_eq_some_iff.mp hv).1
          have hy := c4 k _ _ hv (List.getElem?_eq_getElem hkv)
          refine hrow ws H locs cl sl ls r0 a j vs _ c1 hR.2.2.2.2.1 (List.getElem?_eq_getElem hkv) ?_
          generalize hyy : vs[k] = y at hy
          split at hr
          · rename_i v
            cases hr
            exact hk _ List.mem_cons_self z ws H locs ls (y :: r0) hR hl (by simp only [List.map_cons]; rw [h2]; exact congrArg (· :: _) hy)
          · rename_i lo hi
            obtain ⟨n, rfl, e1, e2⟩ := hy
            rw [ab_frK_eq] at hr
            simp only [ab_setK_eq, Option.some.injEq] at hr
            subst hr
            have hev : ab_evI (z.1 ++ [n]) (some env.length, 0) = some n := by
              simp only [ab_evI]
              rw [List.getElem?_append_right (by rw [hR.1.1]; exact Nat.le_refl _), hR.1.1, Nat.sub_self]
              simp
            have hR' := hR.vars (hR.1.push e1 e2)
            refine hk _ List.mem_cons_self (z.1 ++ [n], z.2) ws H locs ls (.int n :: r0) (hR'.tell hj (c := .inl (ci, fs.set k (fl, .inl (.inl (some env.length, 0))))) (ab_flg_set hv) (fun a9 e9 h9 => ?_)) (hl.ext ab_ext_v) ?_
            · cases Option.some.inj (h9.symm.trans c1)
              refine ⟨vs, rfl, by simp [c3], fun jj g v hg hv9 => ?_⟩
              by_cases hjk : jj = k
              · subst hjk
                rw [List.getElem?_set_self (List.getElem?_eq_some_iff.mp hv).1] at hg
                cases hg
                rw [List.getElem?_eq_getElem hkv, hyy] at hv9
                cases hv9
                exact ab_evc (z := (z.1 ++ [n], z.2)) hev
              · rw [List.getElem?_set_ne (Ne.symm hjk)] at hg
                exact (c4 jj g v hg hv9).ext ab_ext_v
            · simp only [List.map_cons]
              rw [ab_evs.ext (ab_ext_v (t := [n])) h2]
              exact congrArg (· :: _) (ab_evc (z := (z.1 ++ [n], z.2)) hev)
          · obtain ⟨n, rfl⟩ := hy
            exact so_lfr (np := np) (cal := cal) hr hk hR hl h2 n
          · rename_i ks
            obtain ⟨L, l1, l2⟩ := ab_ksK_ok hr
            cases l1
            obtain ⟨q, hq, b, b1, rfl⟩ := hy
            have hev : ab_ev X z (.inr (.inr (2, q))) = some (.ref b) := by simp only [ab_ev, ab_evR, b1]; rfl
            refine hk _ (l2 q hq) z ws H locs ls (.ref b :: r0) (hR.tell hj (c := .inl (ci, fs.set k (fl, .inl (.inr (.inr (2, q)))))) (ab_flg_set hv) (fun a9 e9 h9 => ?_)) hl ?_
            · cases Option.some.inj (h9.symm.trans c1)
              refine ⟨vs, rfl, by simp [c3], fun jj g v hg hv9 => ?_⟩
              by_cases hjk : jj = k
              · subst hjk
                rw [List.getElem?_set_self (List.getElem?_eq_some_iff.mp hv).1] at hg
                cases hg
                rw [List.getElem?_eq_getElem hkv, hyy] at hv9
                cases hv9
                exact hev
              · rw [List.getElem?_set_ne (Ne.symm hjk)] at hg
                exact c4 jj g v hg hv9
            · simp only [List.map_cons]; rw [h2]; exact congrArg (· :: _) hev
        · cases hr
    · cases hr
  · cases hr
theorem so_getf (C : ab_cx p R s m args c cc own nL X D) {ci k i N : Nat} {cn : String} {T : u_T} (hc : vwCl[ci]? = some (cn, T, N)) (hin : ∀ w ∈ u_ws cn T N, w ∈ ab_TG) (hkN : k < N) (hw : Cond.fieldLink own i (T k).1 (T k).2.1 (T k).2.2.1 ∈ ab_TG) (d : decode cc pc = .ok (.getfield i, 3)) : ab_so p l e R s m args below meth c Q nL X D z0 cal pc (op_gf ci k (pc + 3)) :=
  so_gf_k C (fun ws H locs cl sl ls rest a j fs v h1 h2 h3 kk => va_get (cl := vwCl) (D := D) C.1 C.2.1 C.2.2.2.2.1 hin C.2.2.2.1 (ab_cxE C).2.1 h2 j h1 hc k hkN (C.2.2.2.2.1 _ hw) (fun _ h => h) h3 d kk)
theorem so_getfN (C : ab_cx p R s m args c cc own nL X D) {ci k i N : Nat} {cn : String} {T : u_T} (hc : vwCl[ci]? = some (cn, T, N)) (hin : ∀ w ∈ u_ws cn T N, w ∈ ab_TG) (hkN : k < N) {host : String} (hw : Cond.fieldLinkNest own i (T k).1 (T k).2.1 (T k).2.2.1 host ∈ lw_tbl) (d : decode cc pc = .ok (.getfield i, 3)) : ab_so p l e R s m args below meth c Q nL X D z0 cal pc (op_gf ci k (pc + 3)) :=
  so_gf_k C (fun ws H locs cl sl ls rest a j fs v h1 h2 h3 kk => va_getN (cl := vwCl) (D := D) C.1 C.2.1 C.2.2.2.2.1 hin C.2.2.2.1 (ab_cxE C).2.1 h2 j h1 hc k hkN (va_Nw.use rfl ((ab_cxE C).2.2.1 _ hw rfl)) (fun _ h => h) h3 d kk)
theorem so_pf_k (C : ab_cx p R s m args c cc own nL X D) {ty : FieldType} {ci k np : Nat} (hrow : ∀ (ws : va_W) (H : Heap) (locs : List Loc) (cl sl : Nat) (ls : Array Slot) (rest : List Value) (a j : Nat) (fs : List Value) (v : Value), ws[j]? = some (a, .inr (ci, fs)) → va_P D vwCl ws H → va_D (ab_Ar X) ws → va_S (ab_Ar X) s.heap H locs → narrow ty v = v → fits ty v = true → k < fs.length → (∀ (H1 : Heap) (locs1 : List Loc), va_P D vwCl (ws.set j (a, .inr (ci, fs.set k v))) H1 → va_D (ab_Ar X) (ws.set j (a, .inr (ci, fs.set k v))) → va_S (ab_Ar X) s.heap H1 locs1 → W p l e R s m args below meth c H1 locs1 cl sl Q (F0 m np ls rest)) → W p l e R s m args below meth c H locs cl sl Q (F0 m pc ls (v :: .ref a :: rest))) : ab_so p l e R s m args below meth c Q nL X D z0 cal pc (op_pf ty ci k np) := by
  intro env nl aw cl sl lv st r hr hk z ws H locs ls cst hR hl hs
  dsimp only at hR hl hs
  unfold op_pf at hr
  split at hr
  · rename_i v j st'
    cases hf : ab_fit ty env v
    · rw [hf] at hr; cases hr
    · rw [hf, cond_true, ab_get_eq] at hr
      split at hr
      · rename_i cj fs hj
        cases hb : Nat.beq ci cj
        · rw [hb] at hr; cases hr
        · rw [hb, cond_true, ab_get_eq] at hr
          cases Nat.eq_of_beq_eq_true hb
          split at hr
          · rename_i w0 hv
            simp only [ab_setK_eq, Option.some.injEq] at hr
            subst hr
            obtain ⟨x, r0, rfl, h1, h2⟩ := ab_st1 hs
            obtain ⟨x2, r, rfl, h4, h5⟩ := ab_st1 h2
            obtain ⟨a, rfl, h3⟩ := ab_ref2 h4
            obtain ⟨a', e', c1, c2, vs, rfl, c3, c4⟩ := hR.cell hj
            cases Option.some.inj (c2.symm.trans h3)
            obtain ⟨n1, n2⟩ := ab_fit_ok hR.1 hf h1
            have hkl : k < vs.length := by rw [← c3]; exact (List.getElem?_eq_some_iff.mp hv).1
            refine hrow ws H locs cl sl ls r a j vs x c1 hR.2.2.2.2.1 hR.2.2.2.2.2.1 hR.2.2.2.2.2.2.1 n1 n2 hkl (fun H1 locs1 g1 g2 g3 => ?_)
            refine hk _ List.mem_cons_self z _ H1 locs1 ls r (hR.set hj c1 (c := .inl (ci, fs.set k (true, ab_vw v))) ⟨vs.set k x, rfl, by simp [c3], ab_fset c3 c4 (ab_vw_ok h1)⟩ (ab_flg_set hv) ⟨vs.set k x, rfl, fun jj hjj => ?_⟩ (fun f hf => (hR.2.2.2.1.2 f hf).obj c1) g1 g2 g3) hl h5
            have hne : jj ≠ k := by
              intro e0
              subst e0
              have h9 : (ab_flg (.inl (ci, fs)))[jj]? = some true := by simp only [ab_flg, List.getElem?_map, hv]; rfl
              rw [hjj] at h9
              cases h9
            rw [List.getElem?_set_ne (Ne.symm hne)]
          · cases hr
      · cases hr
  · cases hr
theorem so_putf (C : ab_cx p R s m args c cc own nL X D) {ci k i N : Nat} {cn : String} {T : u_T} (hc : vwCl[ci]? = some (cn, T, N)) (hin : ∀ w ∈ u_ws cn T N, w ∈ ab_TG) (hkN : k < N) {ty0 : Nat → FieldType} (hty : ∀ k, k < N → parseFieldDescriptor (T k).2.2.1 = some (ty0 k)) (hnm : ∀ a, a < N → ∀ b, b < N → a ≠ b → (T a).2.1 ≠ (T b).2.1) (hw : Cond.fieldLink own i (T k).1 (T k).2.1 (T k).2.2.1 ∈ ab_TG) (hfin : (T k).2.2.2 = false) (d : decode cc pc = .ok (.putfield i, 3)) : ab_so p l e R s m args below meth c Q nL X D z0 cal pc (op_pf (ty0 k) ci k (pc + 3)) :=
  so_pf_k C (fun ws H locs cl sl ls rest a j fs v h1 h2 h3 h4 h5 h6 h7 kk => va_put (cl := vwCl) (D := D) C.1 C.2.1 C.2.2.2.2.1 hin ty0 hty hnm C.2.2.2.1 (ab_cxE C).2.1 h2 h3 h4 j h1 hc k hkN (C.2.2.2.2.1 _ hw) (fun _ h => h) hfin (hty k hkN) h5 h6 h7 d kk)
theorem so_putfF (C : ab_cx p R s m args c cc own nL X D) {ci k i N : Nat} {cn : String} {T : u_T} (hc : vwCl[ci]? = some (cn, T, N)) (hin : ∀ w ∈ u_ws cn T N, w ∈ ab_TG) (hkN : k < N) {ty0 : Nat → FieldType} (hty : ∀ k, k < N → parseFieldDescriptor (T k).2.2.1 = some (ty0 k)) (hnm : ∀ a, a < N → ∀ b, b < N → a ≠ b → (T a).2.1 ≠ (T b).2.1) (hw : Cond.fieldLink own i (T k).1 (T k).2.1 (T k).2.2.1 ∈ ab_TG) (hfin : (T k).2.2.2 = true) (hini : meth.name = "<init>") (hdecl : (T k).1 = own) (d : decode cc pc = .ok (.putfield i, 3)) : ab_so p l e R s m args below meth c Q nL X D z0 cal pc (op_pf (ty0 k) ci k (pc + 3)) :=
  so_pf_k C (fun ws H locs cl sl ls rest a j fs v h1 h2 h3 h4 h5 h6 h7 kk => va_putF (cl := vwCl) (D := D) C.1 C.2.1 C.2.2.2.2.1 hin ty0 hty hnm C.2.2.2.1 (ab_cxE C).2.1 h2 h3 h4 j h1 hc k hkN (C.2.2.2.2.1 _ hw) (fun _ h => h) hfin hini hdecl (hty k hkN) h5 h6 h7 d kk)
theorem so_putfN (C : ab_cx p R s m args c cc own nL X D) {ci k i N : Nat} {cn : String} {T : u_T} (hc : vwCl[ci]? = some (cn, T, N)) (hin : ∀ w ∈ u_ws cn T N, w ∈ ab_TG) (hkN : k < N) {ty0 : Nat → FieldType} (hty : ∀ k, k < N → parseFieldDescriptor (T k).2.2.1 = some (ty0 k)) (hnm : ∀ a, a < N → ∀ b, b < N → a ≠ b → (T a).2.1 ≠ (T b).2.1) {host : String} (hw : Cond.fieldLinkNest own i (T k).1 (T k).2.1 (T k).2.2.1 host ∈ lw_tbl) (hfin : (T k).2.2.2 = false) (d : decode cc pc = .ok (.putfield i, 3)) : ab_so p l e R s m args below meth c Q nL X D z0 cal pc (op_pf (ty0 k) ci k (pc + 3)) :=
  so_pf_k C (fun ws H locs cl sl ls rest a j fs v h1 h2 h3 h4 h5 h6 h7 kk => va_putN (cl := vwCl) (D := D) C.1 C.2.1 C.2.2.2.2.1 hin ty0 hty hnm C.2.2.2.1 (ab_cxE C).2.1 h2 h3 h4 j h1 hc k hkN (va_Nw.use rfl ((ab_cxE C).2.2.1 _ hw rfl)) (fun _ h => h) hfin (hty k hkN) h5 h6 h7 d kk)
theorem so_iald (C : ab_cx p R s m args c cc own nL X D) (d : decode cc pc = .ok (.iaload, 1)) : ab_so p l e R s m args below meth c Q nL X D z0 cal pc (op_ald 0 (pc + 1)) := by
  intro env nl aw cl sl lv st r hr hk z ws H locs ls cst hR hl hs
  dsimp only at hR hl hs
  unfold op_ald at hr
  split at hr
  · rename_i i j st'
    rw [ab_get_eq] at hr
    split at hr
    · rename_i t' n fl dv ov hj
      cases hb : (Nat.beq 0 t' && Nat.ble n 100000)
      · rw [hb] at hr; cases hr
      · rw [hb, cond_true, ab_ivK_eq] at hr
        rw [Bool.and_eq_true] at hb
        have hn : n < 2 ^ 31 := Nat.lt_of_le_of_lt (Nat.le_of_ble_eq_true hb.2) (by decide)
        have ht := Nat.eq_of_beq_eq_true hb.1
        subst ht
        cases hb2 : (ab_le 0 (ab_iv env i).1 && ab_le ((ab_iv env i).2 + 1) n)
        · rw [hb2] at hr; cases hr
        · rw [hb2, cond_true, ab_fn_eq] at hr
          rw [Bool.and_eq_true, ab_le_iff, ab_le_iff] at hb2
          obtain ⟨x, r0, rfl, h1, h2⟩ := ab_st1 hs
          obtain ⟨y, rfl, h3⟩ := ab_evi h1
          obtain ⟨x2, r1, rfl, h4, h5⟩ := ab_st1 h2
          obtain ⟨a, rfl, h6⟩ := ab_ref2 h4
          obtain ⟨a', e', c1, c2, cA, xx, rfl, ⟨f, rfl⟩, c5, c6⟩ := hR.cell hj
          cases Option.some.inj (c2.symm.trans h6)
          have hi := ab_iv_spec hR.1 h3
          obtain ⟨k3, e1, k2⟩ := ab_ixin (y := y) (n := n) (by omega) (by omega) hn
          refine va_iald (cl := vwCl) (D := D) (tys := [(cA, .int)]) C.1 C.2.1 ((ab_cxE C).Kt c5) hR.2.2.2.2.1 j 0 c1 rfl k3 d ?_
          have c7 := c6 _ k2
          cases hb3 : ab_ie (ab_iv env i).1 (ab_iv env i).2
          · rw [hb3, cond_false, ab_fn_eq] at hr
            obtain ⟨x0, y0, w1, w2⟩ := ab_wivK_ok (X := X) hR.1 hr
            obtain ⟨x', y', g1, g2, g3, g4⟩ := ab_hulK_ok (X := X) hR.1 w1
            have hin := ab_at_cases (P := fun w => ∀ v, ab_ho X z w v → ∃ n : Int32, v = .int n ∧ x' ≤ n.toInt ∧ n.toInt ≤ y') (d := dv) (ov := ov) (lo := (ab_iv env i).1.toNat) (hi := (ab_iv env i).2.toNat) (fun v hv => by
              obtain ⟨n, rfl, q1, q2⟩ := w2 v hv
              exact ⟨n, rfl, by omega, by omega⟩) g4 (j := y.toNatClampNeg) (by omega) (by omega)
            obtain ⟨nn, hnn, q1, q2⟩ := hin _ c7
            simp only [ab_cv, Value.int.injEq] at hnn
            subst hnn
            exact so_ifr g1 hk hR hl h5 _ q1 q2
          · rw [hb3, cond_true, ab_atK_eq] at hr
            rw [ab_ie_iff] at hb3
            have e2 : (ab_iv env i).1.toNat = y.toNatClampNeg := by omega
            rw [e2] at hr
            generalize hww : ab_at dv ov y.toNatClampNeg = wv at hr c7
            split at hr
            · rename_i a9
              cases hr
              exact hk _ List.mem_cons_self z ws H locs ls (.int (f y.toNatClampNeg) :: r1) hR hl (by simp only [List.map_cons]; rw [h5]; exact congrArg (· :: _) c7)
            · rename_i lo hi9
              obtain ⟨n9, hn9, q1, q2⟩ := c7
              simp only [ab_cv, Value.int.injEq] at hn9
              rw [ab_frK_eq] at hr
              simp only [ab_putK_eq, ab_setK_eq, Option.some.injEq] at hr
              subst hr
              have hev : ab_evI (z.1 ++ [n9]) (some env.length, 0) = some n9 := by
                simp only [ab_evI]
                rw [List.getElem?_append_right (by rw [hR.1.1]; exact Nat.le_refl _), hR.1.1, Nat.sub_self]
                simp
              have hR' := hR.vars (hR.1.push q1 q2)
              refine hk _ List.mem_cons_self (z.1 ++ [n9], z.2) ws H locs ls (.int (f y.toNatClampNeg) :: r1) (hR'.tell hj (c := .inr (0, n, fl, dv, ab_put ov y.toNatClampNeg (.inl (.inl (some env.length, 0))))) rfl (fun a9 e9 h9 => ?_)) (hl.ext ab_ext_v) ?_
              · cases Option.some.inj (h9.symm.trans c1)
                refine ⟨cA, _, rfl, ⟨f, rfl⟩, c5, fun q hq => ?_⟩
                rw [ab_at_put]
                by_cases hqe : q = y.toNatClampNeg
                · rw [if_pos hqe, hqe]
                  show ab_ev X (z.1 ++ [n9], z.2) (.inl (some env.length, 0)) = some (.int (f y.toNatClampNeg))
                  rw [hn9]
                  exact ab_evc (z := (z.1 ++ [n9], z.2)) hev
                · rw [if_neg hqe]; exact (c6 q hq).ext ab_ext_v
              · simp only [List.map_cons]
                rw [ab_evs.ext (ab_ext_v (t := [n9])) h5, hn9]
                exact congrArg (· :: _) (ab_evc (z := (z.1 ++ [n9], z.2)) hev)
            · cases hr
    · cases hr
  · cases hr
theorem so_bald (C : ab_cx p R s m args c cc own nL X D) (d : decode cc pc = .ok (.baload, 1)) : ab_so p l e R s m args below meth c Q nL X D z0 cal pc (op_ald 2 (pc + 1)) := by
  intro env nl aw cl sl lv st r hr hk z ws H locs ls cst hR hl hs
  dsimp only at hR hl hs
  unfold op_ald at hr
  split at hr
  · rename_i i j st'
    rw [ab_get_eq] at hr
    split at hr
    · rename_i t' n fl dv ov hj
      cases hb : (Nat.beq 2 t' && Nat.ble n 100000)
      · rw [hb] at hr; cases hr
      · rw [hb, cond_true, ab_ivK_eq] at hr
        rw [Bool.and_eq_true] at hb
        have hn : n < 2 ^ 31 := Nat.lt_of_le_of_lt (Nat.le_of_ble_eq_true hb.2) (by decide)
        have ht := Nat.eq_of_beq_eq_true hb.1
        subst ht
        cases hb2 : (ab_le 0 (ab_iv env i).1 && ab_le ((ab_iv env i).2 + 1) n)
        · rw [hb2] at hr; cases hr
        · rw [hb2, cond_true, ab_fn_eq] at hr
          rw [Bool.and_eq_true, ab_le_iff, ab_le_iff] at hb2
          obtain ⟨x, r0, rfl, h1, h2⟩ := ab_st1 hs
          obtain ⟨y, rfl, h3⟩ := ab_evi h1
          obtain ⟨x2, r1, rfl, h4, h5⟩ := ab_st1 h2
          obtain ⟨a, rfl, h6⟩ := ab_ref2 h4
          obtain ⟨a', e', c1, c2, cA, xx, rfl, ⟨f, rfl⟩, c5, c6⟩ := hR.cell hj
          cases Option.some.inj (c2.symm.trans h6)
          have hi := ab_iv_spec hR.1 h3
          obtain ⟨k3, e1, k2⟩ := ab_ixin (y := y) (n := n) (by omega) (by omega) hn
          refine va_bald (cl := vwCl) (D := D) (tys := [(cA, .byte)]) C.1 C.2.1 ((ab_cxE C).Kt c5) hR.2.2.2.2.1 j 0 c1 rfl k3 d ?_
          have c7 := c6 _ k2
          cases hb3 : ab_ie (ab_iv env i).1 (ab_iv env i).2
          · rw [hb3, cond_false, ab_fn_eq] at hr
            obtain ⟨x0, y0, w1, w2⟩ := ab_wivK_ok (X := X) hR.1 hr
            obtain ⟨x', y', g1, g2, g3, g4⟩ := ab_hulK_ok (X := X) hR.1 w1
            have hin := ab_at_cases (P := fun w => ∀ v, ab_ho X z w v → ∃ n : Int32, v = .int n ∧ x' ≤ n.toInt ∧ n.toInt ≤ y') (d := dv) (ov := ov) (lo := (ab_iv env i).1.toNat) (hi := (ab_iv env i).2.toNat) (fun v hv => by
              obtain ⟨n, rfl, q1, q2⟩ := w2 v hv
              exact ⟨n, rfl, by omega, by omega⟩) g4 (j := y.toNatClampNeg) (by omega) (by omega)
            obtain ⟨nn, hnn, q1, q2⟩ := hin _ c7
            simp only [ab_cv, Value.int.injEq] at hnn
            subst hnn
            exact so_ifr g1 hk hR hl h5 _ q1 q2
          · rw [hb3, cond_true, ab_atK_eq] at hr
            rw [ab_ie_iff] at hb3
            have e2 : (ab_iv env i).1.toNat = y.toNatClampNeg := by omega
            rw [e2] at hr
            generalize hww : ab_at dv ov y.toNatClampNeg = wv at hr c7
            split at hr
            · rename_i a9
              cases hr
              exact hk _ List.mem_cons_self z ws H locs ls (.int (f y.toNatClampNeg) :: r1) hR hl (by simp only [List.map_cons]; rw [h5]; exact congrArg (· :: _) c7)
            · rename_i lo hi9
              obtain ⟨n9, hn9, q1, q2⟩ := c7
              simp only [ab_cv, Value.int.injEq] at hn9
              rw [ab_frK_eq] at hr
              simp only [ab_putK_eq, ab_setK_eq, Option.some.injEq] at hr
              subst hr
              have hev : ab_evI (z.1 ++ [n9]) (some env.length, 0) = some n9 := by
                simp only [ab_evI]
                rw [List.getElem?_append_right (by rw [hR.1.1]; exact Nat.le_refl _), hR.1.1, Nat.sub_self]
                simp
              have hR' := hR.vars (hR.1.push q1 q2)
              refine hk _ List.mem_cons_self (z.1 ++ [n9], z.2) ws H locs ls (.int (f y.toNatClampNeg) :: r1) (hR'.tell hj (c := .inr (2, n, fl, dv, ab_put ov y.toNatClampNeg (.inl (.inl (some env.length, 0))))) rfl (fun a9 e9 h9 => ?_)) (hl.ext ab_ext_v) ?_
              · cases Option.some.inj (h9.symm.trans c1)
                refine ⟨cA, _, rfl, ⟨f, rfl⟩, c5, fun q hq => ?_⟩
                rw [ab_at_put]
                by_cases hqe : q = y.toNatClampNeg
                · rw [if_pos hqe, hqe]
                  show ab_ev X (z.1 ++ [n9], z.2) (.inl (some env.length, 0)) = some (.int (f y.toNatClampNeg))
                  rw [hn9]
                  exact ab_evc (z := (z.1 ++ [n9], z.2)) hev
                · rw [if_neg hqe]; exact (c6 q hq).ext ab_ext_v
              · simp only [List.map_cons]
                rw [ab_evs.ext (ab_ext_v (t := [n9])) h5, hn9]
                exact congrArg (· :: _) (ab_evc (z := (z.1 ++ [n9], z.2)) hev)
            · cases hr
    · cases hr
  · cases hr
theorem so_zald (C : ab_cx p R s m args c cc own nL X D) (d : decode cc pc = .ok (.baload, 1)) : ab_so p l e R s m args below meth c Q nL X D z0 cal pc (op_ald 3 (pc + 1)) := by
  intro env nl aw cl sl lv st r hr hk z ws H locs ls cst hR hl hs
  dsimp only at hR hl hs
  unfold op_ald at hr
  split at hr
  · rename_i i j st'
    rw [ab_get_eq] at hr
    split at hr
    · rename_i t' n fl dv ov hj
      cases hb : (Nat.beq 3 t' && Nat.ble n 100000)
      · rw [hb] at hr; cases hr
      · rw [hb, cond_true, ab_ivK_eq] at hr
        rw [Bool.and_eq_true] at hb
        have hn : n < 2 ^ 31 := Nat.lt_of_le_of_lt (Nat.le_of_ble_eq_true hb.2) (by decide)
        have ht := Nat.eq_of_beq_eq_true hb.1
        subst ht
        cases hb2 : (ab_le 0 (ab_iv env i).1 && ab_le ((ab_iv env i).2 + 1) n)
        · rw [hb2] at hr; cases hr
        · rw [hb2, cond_true, ab_fn_eq] at hr
          rw [Bool.and_eq_true, ab_le_iff, ab_le_iff] at hb2
          obtain ⟨x, r0, rfl, h1, h2⟩ := ab_st1 hs
          obtain ⟨y, rfl, h3⟩ := ab_evi h1
          obtain ⟨x2, r1, rfl, h4, h5⟩ := ab_st1 h2
          obtain ⟨a, rfl, h6⟩ := ab_ref2 h4
          obtain ⟨a', e', c1, c2, cA, xx, rfl, ⟨f, rfl⟩, c5, c6⟩ := hR.cell hj
          cases Option.some.inj (c2.symm.trans h6)
          have hi := ab_iv_spec hR.1 h3
          obtain ⟨k3, e1, k2⟩ := ab_ixin (y := y) (n := n) (by omega) (by omega) hn
          refine va_zald (cl := vwCl) (D := D) (tys := [(cA, .boolean)]) C.1 C.2.1 ((ab_cxE C).Kt c5) hR.2.2.2.2.1 j 0 c1 rfl k3 d ?_
          have c7 := c6 _ k2
          cases hb3 : ab_ie (ab_iv env i).1 (ab_iv env i).2
          · rw [hb3, cond_false, ab_fn_eq] at hr
            obtain ⟨x0, y0, w1, w2⟩ := ab_wivK_ok (X := X) hR.1 hr
            obtain ⟨x', y', g1, g2, g3, g4⟩ := ab_hulK_ok (X := X) hR.1 w1
            have hin := ab_at_cases (P := fun w => ∀ v, ab_ho X z w v → ∃ n : Int32, v = .int n ∧ x' ≤ n.toInt ∧ n.toInt ≤ y') (d := dv) (ov := ov) (lo := (ab_iv env i).1.toNat) (hi := (ab_iv env i).2.toNat) (fun v hv => by
              obtain ⟨n, rfl, q1, q2⟩ := w2 v hv
              exact ⟨n, rfl, by omega, by omega⟩) g4 (j := y.toNatClampNeg) (by omega) (by omega)
            obtain ⟨nn, hnn, q1, q2⟩ := hin _ c7
            simp only [ab_cv, Value.int.injEq] at hnn
            subst hnn
            exact so_ifr g1 hk hR hl h5 _ q1 q2
          · rw [hb3, cond_true, ab_atK_eq] at hr
            rw [ab_ie_iff] at hb3
            have e2 : (ab_iv env i).1.toNat = y.toNatClampNeg := by omega
            rw [e2] at hr
            generalize hww : ab_at dv ov y.toNatClampNeg = wv at hr c7
            split at hr
            · rename_i a9
              cases hr
              exact hk _ List.mem_cons_self z ws H locs ls (.int (f y.toNatClampNeg) :: r1) hR hl (by simp only [List.map_cons]; rw [h5]; exact congrArg (· :: _) c7)
            · rename_i lo hi9
              obtain ⟨n9, hn9, q1, q2⟩ := c7
              simp only [ab_cv, Value.int.injEq] at hn9
              rw [ab_frK_eq] at hr
              simp only [ab_putK_eq, ab_setK_eq, Option.some.injEq] at hr
              subst hr
              have hev : ab_evI (z.1 ++ [n9]) (some env.length, 0) = some n9 := by
                simp only [ab_evI]
                rw [List.getElem?_append_right (by rw [hR.1.1]; exact Nat.le_refl _), hR.1.1, Nat.sub_self]
                simp
              have hR' := hR.vars (hR.1.push q1 q2)
              refine hk _ List.mem_cons_self (z.1 ++ [n9], z.2) ws H locs ls (.int (f y.toNatClampNeg) :: r1) (hR'.tell hj (c := .inr (3, n, fl, dv, ab_put ov y.toNatClampNeg (.inl (.inl (some env.length, 0))))) rfl (fun a9 e9 h9 => ?_)) (hl.ext ab_ext_v) ?_
              · cases Option.some.inj (h9.symm.trans c1)
                refine ⟨cA, _, rfl, ⟨f, rfl⟩, c5, fun q hq => ?_⟩
                rw [ab_at_put]
                by_cases hqe : q = y.toNatClampNeg
                · rw [if_pos hqe, hqe]
                  show ab_ev X (z.1 ++ [n9], z.2) (.inl (some env.length, 0)) = some (.int (f y.toNatClampNeg))
                  rw [hn9]
                  exact ab_evc (z := (z.1 ++ [n9], z.2)) hev
                · rw [if_neg hqe]; exact (c6 q hq).ext ab_ext_v
              · simp only [List.map_cons]
                rw [ab_evs.ext (ab_ext_v (t := [n9])) h5, hn9]
                exact congrArg (· :: _) (ab_evc (z := (z.1 ++ [n9], z.2)) hev)
            · cases hr
    · cases hr
  · cases hr
theorem so_lald (C : ab_cx p R s m args c cc own nL X D) (d : decode cc pc = .ok (.laload, 1)) : ab_so p l e R s m args below meth c Q nL X D z0 cal pc (op_lald (pc + 1)) := by
  intro env nl aw cl sl lv st r hr hk z ws H locs ls cst hR hl hs
  dsimp only at hR hl hs
  unfold op_lald at hr
  split at hr
  · rename_i i j st'
    rw [ab_get_eq] at hr
    split at hr
    · rename_i t' n fl dv ov hj
      cases hb : (Nat.beq 1 t' && Nat.ble n 100000)
      · rw [hb] at hr; cases hr
      · rw [hb, cond_true, ab_ivK_eq] at hr
        rw [Bool.and_eq_true] at hb
        have hn : n < 2 ^ 31 := Nat.lt_of_le_of_lt (Nat.le_of_ble_eq_true hb.2) (by decide)
        have ht := Nat.eq_of_beq_eq_true hb.1
        subst ht
        cases hb2 : (ab_le 0 (ab_iv env i).1 && ab_le ((ab_iv env i).2 + 1) n)
        · rw [hb2] at hr; cases hr
        · rw [hb2, cond_true] at hr
          rw [Bool.and_eq_true, ab_le_iff, ab_le_iff] at hb2
          obtain ⟨x, r0, rfl, h1, h2⟩ := ab_st1 hs
          obtain ⟨y, rfl, h3⟩ := ab_evi h1
          obtain ⟨x2, r1, rfl, h4, h5⟩ := ab_st1 h2
          obtain ⟨a, rfl, h6⟩ := ab_ref2 h4
          obtain ⟨a', e', c1, c2, cA, xx, rfl, ⟨f, rfl⟩, c5, c6⟩ := hR.cell hj
          cases Option.some.inj (c2.symm.trans h6)
          have hi := ab_iv_spec hR.1 h3
          obtain ⟨k3, e1, k2⟩ := ab_ixin (y := y) (n := n) (by omega) (by omega) hn
          refine va_lald (cl := vwCl) (D := D) (tys := [(cA, .long)]) C.1 C.2.1 ((ab_cxE C).Kt c5) hR.2.2.2.2.1 j 0 c1 rfl k3 d ?_
          exact so_lfr (np := pc + 1) (cal := cal) hr hk hR hl h5 _
    · cases hr
  · cases hr
theorem so_iast (C : ab_cx p R s m args c cc own nL X D) (d : decode cc pc = .ok (.iastore, 1)) : ab_so p l e R s m args below meth c Q nL X D z0 cal pc (op_ast 0 (pc + 1)) := by
  intro env nl aw cl sl lv st r hr hk z ws H locs ls cst hR hl hs
  dsimp only at hR hl hs
  unfold op_ast at hr
  split at hr
  · rename_i v i j st'
    rw [ab_get_eq] at hr
    split at hr
    · rename_i t' n dv ov hj
      cases hb : (Nat.beq 0 t' && ab_b5 n && ab_fit (ab_ft 0) env (.inl v) && Nat.ble j 2147483647)
      · rw [hb] at hr; cases hr
      · rw [hb, cond_true, ab_ivK_eq] at hr
        rw [Bool.and_eq_true, Bool.and_eq_true, Bool.and_eq_true] at hb
        obtain ⟨⟨⟨hb1, hb2⟩, hb3⟩, hb4⟩ := hb
        have hn : n < 2 ^ 31 := Nat.lt_of_le_of_lt (ab_b5_ok hb2).1 (by decide)
        have hj9 : j < 2147483648 := Nat.lt_succ_of_le (Nat.le_of_ble_eq_true hb4)
        have ht := Nat.eq_of_beq_eq_true hb1
        subst ht
        cases hb5 : (ab_le 0 (ab_iv env i).1 && ab_le ((ab_iv env i).2 + 1) n)
        · rw [hb5] at hr; cases hr
        · rw [hb5, cond_true, ab_fn_eq] at hr
          rw [Bool.and_eq_true, ab_le_iff, ab_le_iff] at hb5
          obtain ⟨x, r0, rfl, h1, h2⟩ := ab_st1 hs
          obtain ⟨y2, rfl, hv9⟩ := ab_evi h1
          obtain ⟨x3, r1, rfl, h4, h5⟩ := ab_st1 h2
          obtain ⟨y, rfl, h3⟩ := ab_evi h4
          obtain ⟨x4, r2, rfl, h7, h8⟩ := ab_st1 h5
          obtain ⟨a, rfl, h6⟩ := ab_ref2 h7
          obtain ⟨n1, n2⟩ := ab_fit_ok hR.1 hb3 h1
          obtain ⟨a', e', c1, c2, cA, xx, rfl, ⟨f, rfl⟩, c5, c6⟩ := hR.cell hj
          cases Option.some.inj (c2.symm.trans h6)
          have hi := ab_iv_spec hR.1 h3
          obtain ⟨k3, e1, k2⟩ := ab_ixin (y := y) (n := n) (by omega) (by omega) hn

          refine va_iast (cl := vwCl) (D := D) (tys := [(cA, .int)]) C.1 C.2.1 ((ab_cxE C).Kt c5) hR.2.2.2.2.1 hR.2.2.2.2.2.1 hR.2.2.2.2.2.2.1 j 0 c1 rfl k3 d (fun H1 locs1 g1 g2 g3 => ?_)

          have hfx := ab_fs.set (q := (a, .inl (cA, n, .inl (upd f y.toNatClampNeg y2)))) hj9 hR.2.2.2.1.2
          cases hb6 : ab_ie (ab_iv env i).1 (ab_iv env i).2
          · rw [hb6, cond_false, ab_fn_eq, ab_ivK_eq] at hr
            obtain ⟨x0, y0, w1, w2⟩ := ab_wivK_ok (X := X) hR.1 hr
            rw [ab_fi_eq, ab_fi_eq] at w1
            obtain ⟨x', y', q1, q2, q3, q4⟩ := ab_hulK_ok (X := X) hR.1 w1
            simp only [ab_setK_eq, ab_dropK_eq, Option.some.injEq] at q1
            subst q1
            have hvi := ab_iv_spec hR.1 hv9
            have m1 : ab_mn x0 (ab_iv env v).1 ≤ x0 ∧ ab_mn x0 (ab_iv env v).1 ≤ (ab_iv env v).1 := by
              unfold ab_mn
              cases hc : ab_le x0 (ab_iv env v).1
              · rw [ab_le_false] at hc; exact ⟨by simp only [cond_false]; omega, by simp only [cond_false]; omega⟩
              · rw [ab_le_iff] at hc; exact ⟨by simp only [cond_true]; omega, by simp only [cond_true]; omega⟩
            have m2 : y0 ≤ ab_mx y0 (ab_iv env v).2 ∧ (ab_iv env v).2 ≤ ab_mx y0 (ab_iv env v).2 := by
              unfold ab_mx
              cases hc : ab_le y0 (ab_iv env v).2
              · rw [ab_le_false] at hc; exact ⟨by simp only [cond_false]; omega, by simp only [cond_false]; omega⟩
              · rw [ab_le_iff] at hc; exact ⟨by simp only [cond_true]; omega, by simp only [cond_true]; omega⟩
            refine hk _ List.mem_cons_self z _ H1 locs1 ls r2 (hR.set hj c1 (c := .inr (0, n, true, dv, ((ab_iv env i).1.toNat, (ab_iv env i).2.toNat, .inr (.inl (x', y'))) :: ov)) ⟨cA, _, rfl, ⟨_, rfl⟩, c5, fun q hq => ?_⟩ rfl (ab_fC_nm (ab_ism_ne (ab_b5_ok hb2).2)) hfx g1 g2 g3) hl h8
            rw [ab_at_rng]
            by_cases hqr : (ab_iv env i).1.toNat ≤ q ∧ q ≤ (ab_iv env i).2.toNat
            · rw [if_pos hqr]
              show ∃ n : Int32, _ = Value.int n ∧ _
              by_cases hqe : q = y.toNatClampNeg
              · refine ⟨y2, ?_, by omega, by omega⟩
                simp only [ab_cv, upd, hqe, if_true]
              · have hin := ab_at_cases (P := fun w => ∀ v, ab_ho X z w v → ∃ n : Int32, v = .int n ∧ x' ≤ n.toInt ∧ n.toInt ≤ y') (d := dv) (ov := ov) (lo := (ab_iv env i).1.toNat) (hi := (ab_iv env i).2.toNat) (fun v hv => by
                  obtain ⟨n, rfl, u1, u2⟩ := w2 v hv
                  exact ⟨n, rfl, by omega, by omega⟩) q4 (j := q) hqr.1 hqr.2
                obtain ⟨nn, hnn, u1, u2⟩ := hin _ (c6 q hq)
                refine ⟨nn, ?_, u1, u2⟩
                rw [← hnn]
                simp only [ab_cv, upd, hqe, if_false]
            · rw [if_neg hqr]
              have hqe : ¬ q = y.toNatClampNeg := by omega
              have := c6 q hq
              simp only [ab_cv, upd, hqe, if_false] at this ⊢
              exact this
          · rw [hb6, cond_true] at hr
            rw [ab_ie_iff] at hb6
            have e2 : (ab_iv env i).1.toNat = y.toNatClampNeg := by omega
            rw [e2] at hr
            simp only [ab_putK_eq, ab_setK_eq, ab_dropK_eq, Option.some.injEq] at hr
            subst hr
            refine hk _ List.mem_cons_self z _ H1 locs1 ls r2 (hR.set hj c1 (c := .inr (0, n, true, dv, ab_put ov y.toNatClampNeg (.inl (.inl v)))) ⟨cA, _, rfl, ⟨_, rfl⟩, c5, fun q hq => ?_⟩ rfl (ab_fC_nm (ab_ism_ne (ab_b5_ok hb2).2)) hfx g1 g2 g3) hl h8
            rw [ab_at_put]
            by_cases hqe : q = y.toNatClampNeg
            · rw [if_pos hqe]
              show ab_ev X z (.inl v) = _
              rw [h1]
              simp only [ab_cv, upd, hqe, if_true]
            · rw [if_neg hqe]
              have := c6 q hq
              simp only [ab_cv, upd, hqe, if_false] at this ⊢
              exact this
    · cases hr
  · cases hr
theorem so_bast (C : ab_cx p R s m args c cc own nL X D) (d : decode cc pc = .ok (.bastore, 1)) : ab_so p l e R s m args below meth c Q nL X D z0 cal pc (op_ast 2 (pc + 1)) := by
  intro env nl aw cl sl lv st r hr hk z ws H locs ls cst hR hl hs
  dsimp only at hR hl hs
  unfold op_ast at hr
  split at hr
  · rename_i v i j st'
    rw [ab_get_eq] at hr
    split at hr
    · rename_i t' n dv ov hj
      cases hb : (Nat.beq 2 t' && ab_b5 n && ab_fit (ab_ft 2) env (.inl v) && Nat.ble j 2147483647)
      · rw [hb] at hr; cases hr
      · rw [hb, cond_true, ab_ivK_eq] at hr
        rw [Bool.and_eq_true, Bool.and_eq_true, Bool.and_eq_true] at hb
        obtain ⟨⟨⟨hb1, hb2⟩, hb3⟩, hb4⟩ := hb
        have hn : n < 2 ^ 31 := Nat.lt_of_le_of_lt (ab_b5_ok hb2).1 (by decide)
        have hj9 : j < 2147483648 := Nat.lt_succ_of_le (Nat.le_of_ble_eq_true hb4)
        have ht := Nat.eq_of_beq_eq_true hb1
        subst ht
        cases hb5 : (ab_le 0 (ab_iv env i).1 && ab_le ((ab_iv env i).2 + 1) n)
        · rw [hb5] at hr; cases hr
        · rw [hb5, cond_true, ab_fn_eq] at hr
          rw [Bool.and_eq_true, ab_le_iff, ab_le_iff] at hb5
          obtain ⟨x, r0, rfl, h1, h2⟩ := ab_st1 hs
          obtain ⟨y2, rfl, hv9⟩ := ab_evi h1
          obtain ⟨x3, r1, rfl, h4, h5⟩ := ab_st1 h2
          obtain ⟨y, rfl, h3⟩ := ab_evi h4
          obtain ⟨x4, r2, rfl, h7, h8⟩ := ab_st1 h5
          obtain ⟨a, rfl, h6⟩ := ab_ref2 h7
          obtain ⟨n1, n2⟩ := ab_fit_ok hR.1 hb3 h1
          obtain ⟨a', e', c1, c2, cA, xx, rfl, ⟨f, rfl⟩, c5, c6⟩ := hR.cell hj
          cases Option.some.inj (c2.symm.trans h6)
          have hi := ab_iv_spec hR.1 h3
          obtain ⟨k3, e1, k2⟩ := ab_ixin (y := y) (n := n) (by omega) (by omega) hn
          have hnar : vp_nar .byte y2 = y2 := Value.int.inj n1
          refine va_bast (cl := vwCl) (D := D) (tys := [(cA, .byte)]) C.1 C.2.1 ((ab_cxE C).Kt c5) hR.2.2.2.2.1 hR.2.2.2.2.2.1 hR.2.2.2.2.2.2.1 j 0 c1 rfl k3 d (fun H1 locs1 g1 g2 g3 => ?_)
          rw [hnar] at g1 g2
          have hfx := ab_fs.set (q := (a, .inl (cA, n, .inl (upd f y.toNatClampNeg y2)))) hj9 hR.2.2.2.1.2
          cases hb6 : ab_ie (ab_iv env i).1 (ab_iv env i).2
          · rw [hb6, cond_false, ab_fn_eq, ab_ivK_eq] at hr
            obtain ⟨x0, y0, w1, w2⟩ := ab_wivK_ok (X := X) hR.1 hr
            rw [ab_fi_eq, ab_fi_eq] at w1
            obtain ⟨x', y', q1, q2, q3, q4⟩ := ab_hulK_ok (X := X) hR.1 w1
            simp only [ab_setK_eq, ab_dropK_eq, Option.some.injEq] at q1
            subst q1
            have hvi := ab_iv_spec hR.1 hv9
            have m1 : ab_mn x0 (ab_iv env v).1 ≤ x0 ∧ ab_mn x0 (ab_iv env v).1 ≤ (ab_iv env v).1 := by
              unfold ab_mn
              cases hc : ab_le x0 (ab_iv env v).1
              · rw [ab_le_false] at hc; exact ⟨by simp only [cond_false]; omega, by simp only [cond_false]; omega⟩
              · rw [ab_le_iff] at hc; exact ⟨by simp only [cond_true]; omega, by simp only [cond_true]; omega⟩
            have m2 : y0 ≤ ab_mx y0 (ab_iv env v).2 ∧ (ab_iv env v).2 ≤ ab_mx y0 (ab_iv env v).2 := by
              unfold ab_mx
              cases hc : ab_le y0 (ab_iv env v).2
              · rw [ab_le_false] at hc; exact ⟨by simp only [cond_false]; omega, by simp only [cond_false]; omega⟩
              · rw [ab_le_iff] at hc; exact ⟨by simp only [cond_true]; omega, by simp only [cond_true]; omega⟩
            refine hk _ List.mem_cons_self z _ H1 locs1 ls r2 (hR.set hj c1 (c := .inr (2, n, true, dv, ((ab_iv env i).1.toNat, (ab_iv env i).2.toNat, .inr (.inl (x', y'))) :: ov)) ⟨cA, _, rfl, ⟨_, rfl⟩, c5, fun q hq => ?_⟩ rfl (ab_fC_nm (ab_ism_ne (ab_b5_ok hb2).2)) hfx g1 g2 g3) hl h8
            rw [ab_at_rng]
            by_cases hqr : (ab_iv env i).1.toNat ≤ q ∧ q ≤ (ab_iv env i).2.toNat
            · rw [if_pos hqr]
              show ∃ n : Int32, _ = Value.int n ∧ _
              by_cases hqe : q = y.toNatClampNeg
              · refine ⟨y2, ?_, by omega, by omega⟩
                simp only [ab_cv, upd, hqe, if_true]
              · have hin := ab_at_cases (P := fun w => ∀ v, ab_ho X z w v → ∃ n : Int32, v = .int n ∧ x' ≤ n.toInt ∧ n.toInt ≤ y') (d := dv) (ov := ov) (lo := (ab_iv env i).1.toNat) (hi := (ab_iv env i).2.toNat) (fun v hv => by
                  obtain ⟨n, rfl, u1, u2⟩ := w2 v hv
                  exact ⟨n, rfl, by omega, by omega⟩) q4 (j := q) hqr.1 hqr.2
                obtain ⟨nn, hnn, u1, u2⟩ := hin _ (c6 q hq)
                refine ⟨nn, ?_, u1, u2⟩
                rw [← hnn]
                simp only [ab_cv, upd, hqe, if_false]
            · rw [if_neg hqr]
              have hqe : ¬ q = y.toNatClampNeg := by omega
              have := c6 q hq
              simp only [ab_cv, upd, hqe, if_false] at this ⊢
              exact this
          · rw [hb6, cond_true] at hr
            rw [ab_ie_iff] at hb6
            have e2 : (ab_iv env i).1.toNat = y.toNatClampNeg := by omega
            rw [e2] at hr
            simp only [ab_putK_eq, ab_setK_eq, ab_dropK_eq, Option.some.injEq] at hr
            subst hr
            refine hk _ List.mem_cons_self z _ H1 locs1 ls r2 (hR.set hj c1 (c := .inr (2, n, true, dv, ab_put ov y.toNatClampNeg (.inl (.inl v)))) ⟨cA, _, rfl, ⟨_, rfl⟩, c5, fun q hq => ?_⟩ rfl (ab_fC_nm (ab_ism_ne (ab_b5_ok hb2).2)) hfx g1 g2 g3) hl h8
            rw [ab_at_put]
            by_cases hqe : q = y.toNatClampNeg
            · rw [if_pos hqe]
              show ab_ev X z (.inl v) = _
              rw [h1]
              simp only [ab_cv, upd, hqe, if_true]
            · rw [if_neg hqe]
              have := c6 q hq
              simp only [ab_cv, upd, hqe, if_false] at this ⊢
              exact this
    · cases hr
  · cases hr
theorem so_zast (C : ab_cx p R s m args c cc own nL X D) (d : decode cc pc = .ok (.bastore, 1)) : ab_so p l e R s m args below meth c Q nL X D z0 cal pc (op_ast 3 (pc + 1)) := by
  intro env nl aw cl sl lv st r hr hk z ws H locs ls cst hR hl hs
  dsimp only at hR hl hs
  unfold op_ast at hr
  split at hr
  · rename_i v i j st'
    rw [ab_get_eq] at hr
    split at hr
    · rename_i t' n dv ov hj
      cases hb : (Nat.beq 3 t' && ab_b5 n && ab_fit (ab_ft 3) env (.inl v) && Nat.ble j 2147483647)
      · rw [hb] at hr; cases hr
      · rw [hb, cond_true, ab_ivK_eq] at hr
        rw [Bool.and_eq_true, Bool.and_eq_true, Bool.and_eq_true] at hb
        obtain ⟨⟨⟨hb1, hb2⟩, hb3⟩, hb4⟩ := hb
        have hn : n < 2 ^ 31 := Nat.lt_of_le_of_lt (ab_b5_ok hb2).1 (by decide)
        have hj9 : j < 2147483648 := Nat.lt_succ_of_le (Nat.le_of_ble_eq_true hb4)
        have ht := Nat.eq_of_beq_eq_true hb1
        subst ht
        cases hb5 : (ab_le 0 (ab_iv env i).1 && ab_le ((ab_iv env i).2 + 1) n)
        · rw [hb5] at hr; cases hr
        · rw [hb5, cond_true, ab_fn_eq] at hr
          rw [Bool.and_eq_true, ab_le_iff, ab_le_iff] at hb5
          obtain ⟨x, r0, rfl, h1, h2⟩ := ab_st1 hs
          obtain ⟨y2, rfl, hv9⟩ := ab_evi h1
          obtain ⟨x3, r1, rfl, h4, h5⟩ := ab_st1 h2
          obtain ⟨y, rfl, h3⟩ := ab_evi h4
          obtain ⟨x4, r2, rfl, h7, h8⟩ := ab_st1 h5
          obtain ⟨a, rfl, h6⟩ := ab_ref2 h7
          obtain ⟨n1, n2⟩ := ab_fit_ok hR.1 hb3 h1
          obtain ⟨a', e', c1, c2, cA, xx, rfl, ⟨f, rfl⟩, c5, c6⟩ := hR.cell hj
          cases Option.some.inj (c2.symm.trans h6)
          have hi := ab_iv_spec hR.1 h3
          obtain ⟨k3, e1, k2⟩ := ab_ixin (y := y) (n := n) (by omega) (by omega) hn
          have hnar : vp_nar .boolean y2 = y2 := Value.int.inj n1
          refine va_zast (cl := vwCl) (D := D) (tys := [(cA, .boolean)]) C.1 C.2.1 ((ab_cxE C).Kt c5) hR.2.2.2.2.1 hR.2.2.2.2.2.1 hR.2.2.2.2.2.2.1 j 0 c1 rfl k3 d (fun H1 locs1 g1 g2 g3 => ?_)
          rw [hnar] at g1 g2
          have hfx := ab_fs.set (q := (a, .inl (cA, n, .inl (upd f y.toNatClampNeg y2)))) hj9 hR.2.2.2.1.2
          cases hb6 : ab_ie (ab_iv env i).1 (ab_iv env i).2
          · rw [hb6, cond_false, ab_fn_eq, ab_ivK_eq] at hr
            obtain ⟨x0, y0, w1, w2⟩ := ab_wivK_ok (X := X) hR.1 hr
            rw [ab_fi_eq, ab_fi_eq] at w1
            obtain ⟨x', y', q1, q2, q3, q4⟩ := ab_hulK_ok (X := X) hR.1 w1
            simp only [ab_setK_eq, ab_dropK_eq, Option.some.injEq] at q1
            subst q1
            have hvi := ab_iv_spec hR.1 hv9
            have m1 : ab_mn x0 (ab_iv env v).1 ≤ x0 ∧ ab_mn x0 (ab_iv env v).1 ≤ (ab_iv env v).1 := by
              unfold ab_mn
              cases hc : ab_le x0 (ab_iv env v).1
              · rw [ab_le_false] at hc; exact ⟨by simp only [cond_false]; omega, by simp only [cond_false]; omega⟩
              · rw [ab_le_iff] at hc; exact ⟨by simp only [cond_true]; omega, by simp only [cond_true]; omega⟩
            have m2 : y0 ≤ ab_mx y0 (ab_iv env v).2 ∧ (ab_iv env v).2 ≤ ab_mx y0 (ab_iv env v).2 := by
              unfold ab_mx
              cases hc : ab_le y0 (ab_iv env v).2
              · rw [ab_le_false] at hc; exact ⟨by simp only [cond_false]; omega, by simp only [cond_false]; omega⟩
              · rw [ab_le_iff] at hc; exact ⟨by simp only [cond_true]; omega, by simp only [cond_true]; omega⟩
            refine hk _ List.mem_cons_self z _ H1 locs1 ls r2 (hR.set hj c1 (c := .inr (3, n, true, dv, ((ab_iv env i).1.toNat, (ab_iv env i).2.toNat, .inr (.inl (x', y'))) :: ov)) ⟨cA, _, rfl, ⟨_, rfl⟩, c5, fun q hq => ?_⟩ rfl (ab_fC_nm (ab_ism_ne (ab_b5_ok hb2).2)) hfx g1 g2 g3) hl h8
            rw [ab_at_rng]
            by_cases hqr : (ab_iv env i).1.toNat ≤ q ∧ q ≤ (ab_iv env i).2.toNat
            · rw [if_pos hqr]
              show ∃ n : Int32, _ = Value.int n ∧ _
              by_cases hqe : q = y.toNatClampNeg
              · refine ⟨y2, ?_, by omega, by omega⟩
                simp only [ab_cv, upd, hqe, if_true]
              · have hin := ab_at_cases (P := fun w => ∀ v, ab_ho X z w v → ∃ n : Int32, v = .int n ∧ x' ≤ n.toInt ∧ n.toInt ≤ y') (d := dv) (ov := ov) (lo := (ab_iv env i).1.toNat) (hi := (ab_iv env i).2.toNat) (fun v hv => by
                  obtain ⟨n, rfl, u1, u2⟩ := w2 v hv
                  exact ⟨n, rfl, by omega, by omega⟩) q4 (j := q) hqr.1 hqr.2
                obtain ⟨nn, hnn, u1, u2⟩ := hin _ (c6 q hq)
                refine ⟨nn, ?_, u1, u2⟩
                rw [← hnn]
                simp only [ab_cv, upd, hqe, if_false]
            · rw [if_neg hqr]
              have hqe : ¬ q = y.toNatClampNeg := by omega
              have := c6 q hq
              simp only [ab_cv, upd, hqe, if_false] at this ⊢
              exact this
          · rw [hb6, cond_true] at hr
            rw [ab_ie_iff] at hb6
            have e2 : (ab_iv env i).1.toNat = y.toNatClampNeg := by omega
            rw [e2] at hr
            simp only [ab_putK_eq, ab_setK_eq, ab_dropK_eq, Option.some.injEq] at hr
            subst hr
            refine hk _ List.mem_cons_self z _ H1 locs1 ls r2 (hR.set hj c1 (c := .inr (3, n, true, dv, ab_put ov y.toNatClampNeg (.inl (.inl v)))) ⟨cA, _, rfl, ⟨_, rfl⟩, c5, fun q hq => ?_⟩ rfl (ab_fC_nm (ab_ism_ne (ab_b5_ok hb2).2)) hfx g1 g2 g3) hl h8
            rw [ab_at_put]
            by_cases hqe : q = y.toNatClampNeg
            · rw [if_pos hqe]
              show ab_ev X z (.inl v) = _
              rw [h1]
              simp only [ab_cv, upd, hqe, if_true]
            · rw [if_neg hqe]
              have := c6 q hq
              simp only [ab_cv, upd, hqe, if_false] at this ⊢
              exact this
    · cases hr
  · cases hr
theorem so_last (C : ab_cx p R s m args c cc own nL X D) (d : decode cc pc = .ok (.lastore, 1)) : ab_so p l e R s m args below meth c Q nL X D z0 cal pc (op_last (pc + 1)) := by
  intro env nl aw cl sl lv st r hr hk z ws H locs ls cst hR hl hs
  dsimp only at hR hl hs
  unfold op_last at hr
  split at hr
  · rename_i v i j st'
    rw [ab_get_eq] at hr
    split at hr
    · rename_i t' n dv ov hj
      cases hb : (Nat.beq 1 t' && Nat.ble n 100000 && Nat.ble j 2147483647)
      · rw [hb] at hr; cases hr
      · rw [hb, cond_true, ab_ivK_eq] at hr
        rw [Bool.and_eq_true, Bool.and_eq_true] at hb
        obtain ⟨⟨hb1, hb2⟩, hb4⟩ := hb
        have hn : n < 2 ^ 31 := Nat.lt_of_le_of_lt (Nat.le_of_ble_eq_true hb2) (by decide)
        have hj9 : j < 2147483648 := Nat.lt_succ_of_le (Nat.le_of_ble_eq_true hb4)
        have ht := Nat.eq_of_beq_eq_true hb1
        subst ht
        cases hb5 : (ab_le 0 (ab_iv env i).1 && ab_le ((ab_iv env i).2 + 1) n)
        · rw [hb5] at hr; cases hr
        · rw [hb5, cond_true] at hr
          rw [Bool.and_eq_true, ab_le_iff, ab_le_iff] at hb5
          obtain ⟨x, r0, rfl, h1, h2⟩ := ab_st1 hs
          obtain ⟨y2, rfl, hv9⟩ := ab_evl h1
          obtain ⟨x3, r1, rfl, h4, h5⟩ := ab_st1 h2
          obtain ⟨y, rfl, h3⟩ := ab_evi h4
          obtain ⟨x4, r2, rfl, h7, h8⟩ := ab_st1 h5
          obtain ⟨a, rfl, h6⟩ := ab_ref2 h7
          obtain ⟨a', e', c1, c2, cA, xx, rfl, ⟨f, rfl⟩, c5, c6⟩ := hR.cell hj
          cases Option.some.inj (c2.symm.trans h6)
          have hi := ab_iv_spec hR.1 h3
          obtain ⟨k3, e1, k2⟩ := ab_ixin (y := y) (n := n) (by omega) (by omega) hn
          refine va_last (cl := vwCl) (D := D) (tys := [(cA, .long)]) C.1 C.2.1 ((ab_cxE C).Kt c5) hR.2.2.2.2.1 hR.2.2.2.2.2.1 hR.2.2.2.2.2.2.1 j 0 c1 rfl k3 d (fun H1 locs1 g1 g2 g3 => ?_)
          simp only [ab_setK_eq, ab_dropK_eq, Option.some.injEq] at hr
          subst hr
          refine hk _ List.mem_cons_self z _ H1 locs1 ls r2 (hR.set hj c1 (c := .inr (1, n, true, .inr (.inr none), [])) ⟨cA, _, rfl, ⟨_, rfl⟩, c5, fun q hq => ⟨_, rfl⟩⟩ rfl (ab_fC_nm rfl) (ab_fs.set hj9 hR.2.2.2.1.2) g1 g2 g3) hl h8
    · cases hr
  · cases hr
theorem so_len (C : ab_cx p R s m args c cc own nL X D) (d : decode cc pc = .ok (.arraylength, 1)) : ab_so p l e R s m args below meth c Q nL X D z0 cal pc (op_len (pc + 1)) := by
  intro env nl aw cl sl lv st r hr hk z ws H locs ls cst hR hl hs
  dsimp only at hR hl hs
  unfold op_len at hr
  split at hr
  · rename_i j st'
    rw [ab_get_eq] at hr
    split at hr
    · rename_i t' n fl dv ov hj
      cases hr
      obtain ⟨x, r0, rfl, h1, h2⟩ := ab_st1 hs
      obtain ⟨a, rfl, h6⟩ := ab_ref2 h1
      obtain ⟨a', e', c1, c2, cA, xx, rfl, c4, c5, c6⟩ := hR.cell hj
      cases Option.some.inj (c2.symm.trans h6)
      refine va_alen (cl := vwCl) (D := D) (tys := [(cA, ab_ft t')]) C.1 C.2.1 ((ab_cxE C).Kt c5) hR.2.2.2.2.1 j 0 c1 rfl rfl d ?_
      exact hk _ List.mem_cons_self z ws H locs ls (.int (Int32.ofNat n) :: r0) hR hl (by simp only [List.map_cons, ab_ev, ab_evI, Option.map_some]; rw [h2]; rfl)
    · cases hr
  · cases hr
theorem so_na_int (C : ab_cx p R s m args c cc own nL X D) {mc ms : Nat} (hmc : mc ≤ R.cells) (hms : ms ≤ R.slots) (hw : Cond.arrayClass .int ∈ ab_TG) (d : decode cc pc = .ok (.newarray .int, 2)) : ab_so p l e R s m args below meth c Q nL X D z0 cal pc (op_na 0 (.inl (none, 0)) mc ms (pc + 2)) := by
  intro env nl aw cl sl lv st r hr hk z ws H locs ls cst hR hl hs
  dsimp only at hR hl hs
  unfold op_na at hr
  split at hr
  · rename_i i st'
    obtain ⟨x, r0, rfl, h1, h2⟩ := ab_st1 hs
    obtain ⟨y, rfl, h3⟩ := ab_evi h1
    obtain ⟨k1, k2, k3⟩ := ab_ixK_ok hr hR.1 h3 (by decide)
    generalize hq : y.toNatClampNeg = q at k1 k2
    cases hb : (Nat.ble (cl + 1) mc && Nat.ble (sl + q) ms)
    · rw [hb] at k1; cases k1
    · rw [hb, cond_true] at k1
      rw [Bool.and_eq_true] at hb
      simp only [ab_lenK_eq, ab_appK_eq, ab_fn_eq, Nat.zero_add, Option.some.injEq] at k1
      subst k1
      have b1 := Nat.le_of_ble_eq_true hb.1
      have b2 := Nat.le_of_ble_eq_true hb.2
      refine va_newa (cl := vwCl) (D := D) (tys := []) (atype := .int) (a0 := (q, .inl (fun _ => 0))) C.1 C.2.1 (C.2.2.2.2.1 _ hw) rfl (ab_cxE C).2.1 hR.2.2.2.2.1 hR.2.2.2.2.2.1 hR.2.2.2.2.2.2.1 (ab_cxE C).up (fun cA => rfl) (fun h => k3 (Or.inl h)) hq ?_ (Nat.le_trans b1 hmc) (Nat.le_trans b2 hms) d (fun a cA H1 g0 g1 g2 g3 => ?_)
      · have hcb : componentBytes .int ≤ 8 := by decide +kernel
        exact Nat.le_trans (Nat.mul_le_mul (Nat.le_of_lt k2) hcb) (by decide)
      · refine hk _ List.mem_cons_self (z.1, z.2.1, z.2.2 ++ [a]) _ H1 _ ls (.ref a :: r0) (hR.push (c := .inr (0, q, true, .inl (.inl (none, 0)), [])) ⟨cA, _, rfl, ⟨_, rfl⟩, g0.2 0 _ rfl, fun j hj => rfl⟩ g1 g2 g3) (hl.ext ab_ext_a) ?_
        simp only [List.map_cons, ab_ev, ab_evR]
        rw [ab_evs.ext ab_ext_a h2, List.getElem?_append_right (by rw [hR.num]; exact Nat.le_refl _), hR.num, Nat.sub_self]; rfl
  · cases hr
theorem so_na_long (C : ab_cx p R s m args c cc own nL X D) {mc ms : Nat} (hmc : mc ≤ R.cells) (hms : ms ≤ R.slots) (hw : Cond.arrayClass .long ∈ ab_TG) (d : decode cc pc = .ok (.newarray .long, 2)) : ab_so p l e R s m args below meth c Q nL X D z0 cal pc (op_na 1 (.inr (.inl (.inl (none, 0)))) mc ms (pc + 2)) := by
  intro env nl aw cl sl lv st r hr hk z ws H locs ls cst hR hl hs
  dsimp only at hR hl hs
  unfold op_na at hr
  split at hr
  · rename_i i st'
    obtain ⟨x, r0, rfl, h1, h2⟩ := ab_st1 hs
    obtain ⟨y, rfl, h3⟩ := ab_evi h1
    obtain ⟨k1, k2, k3⟩ := ab_ixK_ok hr hR.1 h3 (by decide)
    generalize hq : y.toNatClampNeg = q at k1 k2
    cases hb : (Nat.ble (cl + 1) mc && Nat.ble (sl + q) ms)
    · rw [hb] at k1; cases k1
    · rw [hb, cond_true] at k1
      rw [Bool.and_eq_true] at hb
      simp only [ab_lenK_eq, ab_appK_eq, ab_fn_eq, Nat.zero_add, Option.some.injEq] at k1
      subst k1
      have b1 := Nat.le_of_ble_eq_true hb.1
      have b2 := Nat.le_of_ble_eq_true hb.2
      refine va_newa (cl := vwCl) (D := D) (tys := []) (atype := .long) (a0 := (q, .inr (.inl (fun _ => 0)))) C.1 C.2.1 (C.2.2.2.2.1 _ hw) rfl (ab_cxE C).2.1 hR.2.2.2.2.1 hR.2.2.2.2.2.1 hR.2.2.2.2.2.2.1 (ab_cxE C).up (fun cA => rfl) (fun h => k3 (Or.inl h)) hq ?_ (Nat.le_trans b1 hmc) (Nat.le_trans b2 hms) d (fun a cA H1 g0 g1 g2 g3 => ?_)
      · have hcb : componentBytes .long ≤ 8 := by decide +kernel
        exact Nat.le_trans (Nat.mul_le_mul (Nat.le_of_lt k2) hcb) (by decide)
      · refine hk _ List.mem_cons_self (z.1, z.2.1, z.2.2 ++ [a]) _ H1 _ ls (.ref a :: r0) (hR.push (c := .inr (1, q, true, .inl (.inr (.inl (.inl (none, 0)))), [])) ⟨cA, _, rfl, ⟨_, rfl⟩, g0.2 0 _ rfl, fun j hj => rfl⟩ g1 g2 g3) (hl.ext ab_ext_a) ?_
        simp only [List.map_cons, ab_ev, ab_evR]
        rw [ab_evs.ext ab_ext_a h2, List.getElem?_append_right (by rw [hR.num]; exact Nat.le_refl _), hR.num, Nat.sub_self]; rfl
  · cases hr
theorem so_na_byte (C : ab_cx p R s m args c cc own nL X D) {mc ms : Nat} (hmc : mc ≤ R.cells) (hms : ms ≤ R.slots) (hw : Cond.arrayClass .byte ∈ ab_TG) (d : decode cc pc = .ok (.newarray .byte, 2)) : ab_so p l e R s m args below meth c Q nL X D z0 cal pc (op_na 2 (.inl (none, 0)) mc ms (pc + 2)) := by
  intro env nl aw cl sl lv st r hr hk z ws H locs ls cst hR hl hs
  dsimp only at hR hl hs
  unfold op_na at hr
  split at hr
  · rename_i i st'
    obtain ⟨x, r0, rfl, h1, h2⟩ := ab_st1 hs
    obtain ⟨y, rfl, h3⟩ := ab_evi h1
    obtain ⟨k1, k2, k3⟩ := ab_ixK_ok hr hR.1 h3 (by decide)
    generalize hq : y.toNatClampNeg = q at k1 k2
    cases hb : (Nat.ble (cl + 1) mc && Nat.ble (sl + q) ms)
    · rw [hb] at k1; cases k1
    · rw [hb, cond_true] at k1
      rw [Bool.and_eq_true] at hb
      simp only [ab_lenK_eq, ab_appK_eq, ab_fn_eq, Nat.zero_add, Option.some.injEq] at k1
      subst k1
      have b1 := Nat.le_of_ble_eq_true hb.1
      have b2 := Nat.le_of_ble_eq_true hb.2
      refine va_newa (cl := vwCl) (D := D) (tys := []) (atype := .byte) (a0 := (q, .inl (fun _ => 0))) C.1 C.2.1 (C.2.2.2.2.1 _ hw) rfl (ab_cxE C).2.1 hR.2.2.2.2.1 hR.2.2.2.2.2.1 hR.2.2.2.2.2.2.1 (ab_cxE C).up (fun cA => rfl) (fun h => k3 (Or.inl h)) hq ?_ (Nat.le_trans b1 hmc) (Nat.le_trans b2 hms) d (fun a cA H1 g0 g1 g2 g3 => ?_)
      · have hcb : componentBytes .byte ≤ 8 := by decide +kernel
        exact Nat.le_trans (Nat.mul_le_mul (Nat.le_of_lt k2) hcb) (by decide)
      · refine hk _ List.mem_cons_self (z.1, z.2.1, z.2.2 ++ [a]) _ H1 _ ls (.ref a :: r0) (hR.push (c := .inr (2, q, true, .inl (.inl (none, 0)), [])) ⟨cA, _, rfl, ⟨_, rfl⟩, g0.2 0 _ rfl, fun j hj => rfl⟩ g1 g2 g3) (hl.ext ab_ext_a) ?_
        simp only [List.map_cons, ab_ev, ab_evR]
        rw [ab_evs.ext ab_ext_a h2, List.getElem?_append_right (by rw [hR.num]; exact Nat.le_refl _), hR.num, Nat.sub_self]; rfl
  · cases hr
theorem so_na_bool (C : ab_cx p R s m args c cc own nL X D) {mc ms : Nat} (hmc : mc ≤ R.cells) (hms : ms ≤ R.slots) (hw : Cond.arrayClass .boolean ∈ ab_TG) (d : decode cc pc = .ok (.newarray .boolean, 2)) : ab_so p l e R s m args below meth c Q nL X D z0 cal pc (op_na 3 (.inl (none, 0)) mc ms (pc + 2)) := by
  intro env nl aw cl sl lv st r hr hk z ws H locs ls cst hR hl hs
  dsimp only at hR hl hs
  unfold op_na at hr
  split at hr
  · rename_i i st'
    obtain ⟨x, r0, rfl, h1, h2⟩ := ab_st1 hs
    obtain ⟨y, rfl, h3⟩ := ab_evi h1
    obtain ⟨k1, k2, k3⟩ := ab_ixK_ok hr hR.1 h3 (by decide)
    generalize hq : y.toNatClampNeg = q at k1 k2
    cases hb : (Nat.ble (cl + 1) mc && Nat.ble (sl + q) ms)
    · rw [hb] at k1; cases k1
    · rw [hb, cond_true] at k1
      rw [Bool.and_eq_true] at hb
      simp only [ab_lenK_eq, ab_appK_eq, ab_fn_eq, Nat.zero_add, Option.some.injEq] at k1
      subst k1
      have b1 := Nat.le_of_ble_eq_true hb.1
      have b2 := Nat.le_of_ble_eq_true hb.2
      refine va_newa (cl := vwCl) (D := D) (tys := []) (atype := .boolean) (a0 := (q, .inl (fun _ => 0))) C.1 C.2.1 (C.2.2.2.2.1 _ hw) rfl (ab_cxE C).2.1 hR.2.2.2.2.1 hR.2.2.2.2.2.1 hR.2.2.2.2.2.2.1 (ab_cxE C).up (fun cA => rfl) (fun h => k3 (Or.inl h)) hq ?_ (Nat.le_trans b1 hmc) (Nat.le_trans b2 hms) d (fun a cA H1 g0 g1 g2 g3 => ?_)
      · have hcb : componentBytes .boolean ≤ 8 := by decide +kernel
        exact Nat.le_trans (Nat.mul_le_mul (Nat.le_of_lt k2) hcb) (by decide)
      · refine hk _ List.mem_cons_self (z.1, z.2.1, z.2.2 ++ [a]) _ H1 _ ls (.ref a :: r0) (hR.push (c := .inr (3, q, true, .inl (.inl (none, 0)), [])) ⟨cA, _, rfl, ⟨_, rfl⟩, g0.2 0 _ rfl, fun j hj => rfl⟩ g1 g2 g3) (hl.ext ab_ext_a) ?_
        simp only [List.map_cons, ab_ev, ab_evR]
        rw [ab_evs.ext ab_ext_a h2, List.getElem?_append_right (by rw [hR.num]; exact Nat.le_refl _), hR.num, Nat.sub_self]; rfl
  · cases hr
theorem so_anew (C : ab_cx p R s m args c cc own nL X D) {ci N i : Nat} {cn : String} {T : u_T} (hc : vwCl[ci]? = some (cn, T, N)) {mc ms : Nat} (hmc : mc ≤ R.cells) (hms : ms ≤ R.slots) (hw : Cond.classLink own i cn ∈ ab_TG) (ho : va_AO cn s) (d : decode cc pc = .ok (.anewarray i, 3)) : ab_so p l e R s m args below meth c Q nL X D z0 cal pc (op_na (ci + 4) (.inr (.inr (0, 0))) mc ms (pc + 3)) := by
  intro env nl aw cl sl lv st r hr hk z ws H locs ls cst hR hl hs
  dsimp only at hR hl hs
  unfold op_na at hr
  split at hr
  · rename_i i st'
    obtain ⟨x, r0, rfl, h1, h2⟩ := ab_st1 hs
    obtain ⟨y, rfl, h3⟩ := ab_evi h1
    obtain ⟨k1, k2, k3⟩ := ab_ixK_ok hr hR.1 h3 (by decide)
    generalize hq : y.toNatClampNeg = q at k1 k2
    cases hb : (Nat.ble (cl + 1) mc && Nat.ble (sl + q) ms)
    · rw [hb] at k1; cases k1
    · rw [hb, cond_true] at k1
      rw [Bool.and_eq_true] at hb
      simp only [ab_lenK_eq, ab_appK_eq, ab_fn_eq, Nat.zero_add, Option.some.injEq] at k1
      subst k1
      have b1 := Nat.le_of_ble_eq_true hb.1
      have b2 := Nat.le_of_ble_eq_true hb.2
      refine va_newq (cl := vwCl) (D := D) (tys := []) (C := cn) C.1 C.2.1 C.2.2.2.1 (C.2.2.2.2.1 _ hw) ho (ab_cxE C).2.1 hR.2.2.2.2.1 hR.2.2.2.2.2.1 hR.2.2.2.2.2.2.1 (ab_cxE C).up (fun h => k3 (Or.inl h)) hq ?_ (Nat.le_trans b1 hmc) (Nat.le_trans b2 hms) d (fun a cA H1 g0 g1 g2 g3 => ?_)
      · exact Nat.le_trans (Nat.mul_le_mul (Nat.le_of_lt k2) (Nat.le_refl 4)) (by decide)
      · have e0 : ab_ft (ci + 4) = .object cn := by simp only [ab_ft, hc]
        refine hk _ List.mem_cons_self (z.1, z.2.1, z.2.2 ++ [a]) _ H1 _ ls (.ref a :: r0) (hR.push (c := .inr (ci + 4, q, true, .inl (.inr (.inr (0, 0))), [])) ⟨cA, .inr (.inr (.inr (.inr (fun _ => none)))), rfl, ⟨_, rfl⟩, by rw [e0]; exact g0.2 0 _ rfl, fun j hj => rfl⟩ g1 g2 g3) (hl.ext ab_ext_a) ?_
        simp only [List.map_cons, ab_ev, ab_evR]
        rw [ab_evs.ext ab_ext_a h2, List.getElem?_append_right (by rw [hR.num]; exact Nat.le_refl _), hR.num, Nat.sub_self]; rfl
  · cases hr
theorem so_new (C : ab_cx p R s m args c cc own nL X D) {ci N i : Nat} {cn : String} {T : u_T} (hc : vwCl[ci]? = some (cn, T, N)) (hin : ∀ w ∈ u_ws cn T N, w ∈ ab_TG) {ty0 : Nat → FieldType} (hty : ∀ k, k < N → parseFieldDescriptor (T k).2.2.1 = some (ty0 k)) {fs : List ab_F} {vs : List Value} (hfs : ∀ j, j < N → defaultValue (ty0 j) = vp_V vs j) (hev : ∀ (X : ab_X) (z : ab_Z), fs.length = vs.length ∧ ∀ (j : Nat) (f : ab_F) (v : Value), fs[j]? = some f → vs[j]? = some v → ab_ho X z f.2 v) {mc ms : Nat} (hmc : mc ≤ R.cells) (hms : ms ≤ R.slots) (hw : Cond.classLink own i cn ∈ ab_TG) (hw2 : Cond.instantiable cn N ∈ ab_TG) (hw3 : Cond.initialized cn ∈ ab_TG) (d : decode cc pc = .ok (.new i, 3)) : ab_so p l e R s m args below meth c Q nL X D z0 cal pc (op_new ci N fs mc ms (pc + 3)) := by
  intro env nl aw cl sl lv st r hr hk z ws H locs ls cst hR hl hs
  dsimp only at hR hl hs
  unfold op_new at hr
  cases hb : (Nat.ble (cl + 1) mc && Nat.ble (sl + N) ms)
  · rw [hb] at hr; cases hr
  · rw [hb, cond_true] at hr
    rw [Bool.and_eq_true] at hb
    simp only [ab_lenK_eq, ab_appK_eq, ab_fn_eq, Nat.zero_add, Option.some.injEq] at hr
    subst hr
    have b1 := Nat.le_of_ble_eq_true hb.1
    have b2 := Nat.le_of_ble_eq_true hb.2
    refine va_new (cl := vwCl) (D := D) (ci := ci) (fs := vs) C.1 C.2.1 C.2.2.2.2.1 hin ty0 hty C.2.2.2.1 (C.2.2.2.2.1 _ hw) (C.2.2.2.2.1 _ hw2) (C.2.2.2.2.1 _ hw3) (ab_cxE C).2.1 hR.2.2.2.2.1 hR.2.2.2.2.2.1 hR.2.2.2.2.2.2.1 (ab_cxE C).up hc hfs (Nat.le_trans b1 hmc) (Nat.le_trans b2 hms) d (fun a H1 g1 g2 g3 => ?_)
    refine hk _ List.mem_cons_self (z.1, z.2.1, z.2.2 ++ [a]) _ H1 _ ls (.ref a :: cst) (hR.push (c := .inl (ci, fs)) ⟨vs, rfl, (hev X z).1, (hev X (z.1, z.2.1, z.2.2 ++ [a])).2⟩ g1 g2 g3) (hl.ext ab_ext_a) ?_
    simp only [List.map_cons, ab_ev, ab_evR]
    rw [ab_evs.ext ab_ext_a hs, List.getElem?_append_right (by rw [hR.num]; exact Nat.le_refl _), hR.num, Nat.sub_self]; rfl
end
