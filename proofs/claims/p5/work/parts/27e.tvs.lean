/-! Steps by facts alone: the place may be any. -/
noncomputable def ab_ke1 (env : ab_E) (fx : List ab_Y) (i : ab_I) (f : ab_Y) : Bool := match f with
  | (1, [_, i', _]) => (match ab_cmp env [i, i'] [1, -1] (-1) [] with
    | some (k, cs) => ab_gq2 env k cs fx fx
    | none => false)
  | _ => false
theorem ab_ke1_ok {env : ab_E} {fx : List ab_Y} {z : ab_Z} {ws : va_W} {j a n : Nat} {cA : ClassId} {fn : Nat → Int32} {i : ab_I} {y v : Int32} (hR : ab_eR env z.1) (hfx : ∀ f ∈ fx, ab_fs z ws f) (hj : ws[j]? = some (a, .inl (cA, n, .inl fn))) (hy : ab_evI z.1 i = some y) (hy0 : 0 ≤ y.toInt) {f : ab_Y} (hk : ab_ke1 env fx i f = true) (hf : ab_fs z ws f) : ab_fs z (ws.set j (a, .inl (cA, n, .inl (upd fn y.toNatClampNeg v)))) f := by
  unfold ab_ke1 at hk
  split at hk
  · rename_i k i' w
    obtain ⟨xs, e, hm⟩ := hf
    obtain ⟨x1, r1, rfl, e1, e⟩ := ab_m1 e
    obtain ⟨x2, r2, rfl, e2, e⟩ := ab_m1 e
    obtain ⟨x3, r3, rfl, e3, e⟩ := ab_m1 e
    cases ab_m0 e
    split at hk
    · rename_i k1 cs hc
      have g1 := ab_cmp_ok hR hc (vs := [y, x2]) (by simp only [List.map_cons, List.map_nil, hy, e2])
      have g2 := ab_gq2_ok hR hfx hfx hk
      simp only [ab_dot] at g1
      refine ⟨[x1, x2, x3], by simp only [List.map_cons, List.map_nil, e1, e2, e3], ?_⟩
      obtain ⟨k9, i9, v9, n9, f9, hx, ha, q1, q2, q3⟩ := hm
      simp only [List.cons.injEq, and_true] at hx
      obtain ⟨rfl, rfl, rfl⟩ := hx
      have a1 : (x2.toNatClampNeg : Int) = x2.toInt := by
        show (x2.toInt.toNat : Int) = x2.toInt
        omega
      have a2 : (y.toNatClampNeg : Int) = y.toInt := by
        show (y.toInt.toNat : Int) = y.toInt
        omega
      have hni : ¬ x2.toNatClampNeg = y.toNatClampNeg := by omega
      rcases ab_arr_two (p := y.toNatClampNeg) (v := v) hj x1.toNatClampNeg ha with ⟨-, w2⟩ | ⟨-, w2⟩
      · exact ⟨x1, x2, x3, n9, f9, rfl, w2, q1, q2, q3⟩
      · refine ⟨x1, x2, x3, n9, _, rfl, w2, q1, q2, ?_⟩
        simp only [upd, hni, if_false]
        exact q3
    · cases hk
  · cases hk
/-- i lies behind st times b -/
noncomputable def ab_lt2 (env : ab_E) (fx : List ab_Y) (i b : ab_I) (st off : Int) : Bool := match ab_cmp env [i, b] [1, 0 - st] (st - off - 1) [] with
  | some (k, cs) => ab_geq env k cs fx
  | none => false
theorem ab_lt2_ok {env : ab_E} {z : ab_Z} {ws : va_W} (hR : ab_eR env z.1) {fx : List ab_Y} (hf : ∀ f ∈ fx, ab_fs z ws f) {i b : ab_I} {st off : Int} (h : ab_lt2 env fx i b st off = true) {x y : Int32} (hx : ab_evI z.1 i = some x) (hy : ab_evI z.1 b = some y) : 0 ≤ x.toInt - st * y.toInt + st - off - 1 := by
  unfold ab_lt2 at h
  split at h
  · rename_i k cs hc
    have g1 := ab_cmp_ok hR hc (vs := [x, y]) (by simp only [List.map_cons, List.map_nil, hx, hy])
    have g2 := ab_geq_ok hR hf h
    simp only [ab_dot] at g1
    have e1 : (0 - st) * y.toInt = 0 - st * y.toInt := by rw [Int.sub_mul, Int.zero_mul]
    rw [e1] at g1
    omega
  · cases h
noncomputable def ab_ke2 (env : ab_E) (fx : List ab_Y) (i : ab_I) (f : ab_Y) : Bool := match f with
  | (2, [kf, kg, off, off', st, _, _, b, _]) => ab_cI kf (fun _ => ab_cI kg (fun _ => ab_cI off (fun off => ab_cI off' (fun off' => ab_cI st (fun st => ab_lt2 env fx i b st off && ab_lt2 env fx i b st off')))))
  | _ => false
theorem ab_ke2_ok {env : ab_E} {z : ab_Z} {ws : va_W} {j a n : Nat} {cA : ClassId} {fn : Nat → Int32} {i : ab_I} {y v : Int32} {fx : List ab_Y} (hR : ab_eR env z.1) (hfx : ∀ f ∈ fx, ab_fs z ws f) (hj : ws[j]? = some (a, .inl (cA, n, .inl fn))) (hy : ab_evI z.1 i = some y) (hy0 : 0 ≤ y.toInt) {f : ab_Y} (hk : ab_ke2 env fx i f = true) (hf : ab_fs z ws f) : ab_fs z (ws.set j (a, .inl (cA, n, .inl (upd fn y.toNatClampNeg v)))) f := by
  have hyn : (y.toNatClampNeg : Int) = y.toInt := by
    show (y.toInt.toNat : Int) = y.toInt
    omega
  obtain ⟨xs, e, hm⟩ := hf
  unfold ab_ke2 at hk
  split at hk
  · rename_i kf kg off off' st tag aa bb hi
    obtain ⟨k1, -, hk, c1⟩ := ab_cI_ok hk
    obtain ⟨k2, -, hk, c2⟩ := ab_cI_ok hk
    obtain ⟨o1, -, hk, c3⟩ := ab_cI_ok hk
    obtain ⟨o2, -, hk, c4⟩ := ab_cI_ok hk
    obtain ⟨s1, -, hk, c5⟩ := ab_cI_ok hk
    rw [Bool.and_eq_true] at hk
    obtain ⟨x1, r1, rfl, e1, e⟩ := ab_m1 e
    obtain ⟨x2, r2, rfl, e2, e⟩ := ab_m1 e
    obtain ⟨x3, r3, rfl, e3, e⟩ := ab_m1 e
    obtain ⟨x4, r4, rfl, e4, e⟩ := ab_m1 e
    obtain ⟨x5, r5, rfl, e5, e⟩ := ab_m1 e
    obtain ⟨x6, r6, rfl, e6, e⟩ := ab_m1 e
    obtain ⟨x7, r7, rfl, e7, e⟩ := ab_m1 e
    obtain ⟨x8, r8, rfl, e8, e⟩ := ab_m1 e
    obtain ⟨x9, r9, rfl, e9, e⟩ := ab_m1 e
    cases ab_m0 e
    obtain ⟨g1, g1'⟩ := c1 _ _ e1
    obtain ⟨g2, g2'⟩ := c2 _ _ e2
    obtain ⟨g3, g3'⟩ := c3 _ _ e3
    obtain ⟨g4, g4'⟩ := c4 _ _ e4
    obtain ⟨g5, g5'⟩ := c5 _ _ e5
    have i7 := ab_iv_spec hR e7
    have i8 := ab_iv_spec hR e8
    refine ⟨[x1, x2, x3, x4, x5, x6, x7, x8, x9], by simp only [List.map_cons, List.map_nil, e1, e2, e3, e4, e5, e6, e7, e8, e9], ?_⟩
    obtain ⟨off9, off9', st9, tag9, a9, b9, hi9, nf, ff, ng, gg, hy9, hr9, ht9⟩ := hm
    simp only [List.drop_succ_cons, List.drop_zero, List.cons.injEq, and_true] at hy9
    obtain ⟨rfl, rfl, rfl, rfl, rfl, rfl, rfl⟩ := hy9
    simp only [List.take_succ_cons, List.take_zero, List.map_cons, List.map_nil, List.cons.injEq, and_true] at hr9
    obtain ⟨hr1, hr2⟩ := hr9
    have lt1 := ab_lt2_ok hR hfx hk.1 hy e8
    have lt2 := ab_lt2_ok hR hfx hk.2 hy e8
    have key : ∀ (o k : Nat) (nn : Nat) (hh : Nat → Int32) (nn' : Nat) (hh' : Nat → Int32), 0 ≤ y.toInt - (s1 : Int) * x8.toInt + (s1 : Int) - o - 1 → ab_arr ws k = some (nn, hh) → ab_arr (ws.set j (a, .inl (cA, n, .inl (upd fn y.toNatClampNeg v)))) k = some (nn', hh') → nn' = nn ∧ ∀ jj : Nat, x7.toInt ≤ (jj : Int) → (jj : Int) < x8.toInt → hh' (o + s1 * jj) = hh (o + s1 * jj) := by
      intro o k nn hh nn' hh' hc ha ha'
      rcases ab_arr_two (p := y.toNatClampNeg) (v := v) hj k ha with ⟨w1, w2⟩ | ⟨w1, w2⟩
      · rw [w2] at ha'
        cases ha'
        exact ⟨rfl, fun jj _ _ => rfl⟩
      · rw [w2] at ha'
        cases ha'
        refine ⟨rfl, fun jj j1 j2 => ?_⟩
        have hs0 : (0 : Int) ≤ (s1 : Int) := Int.natCast_nonneg _
        have m2 : (s1 : Int) * (jj : Int) ≤ (s1 : Int) * (x8.toInt - 1) := Int.mul_le_mul_of_nonneg_left (by omega) hs0
        rw [Int.mul_sub, Int.mul_one] at m2
        have m3 : ((s1 * jj : Nat) : Int) = (s1 : Int) * (jj : Int) := by simp
        have hne : ¬ o + s1 * jj = y.toNatClampNeg := by
          intro he
          have : ((o + s1 * jj : Nat) : Int) = (y.toNatClampNeg : Int) := by rw [he]
          rw [Int.natCast_add, m3] at this
          omega
        simp only [upd, hne, if_false]
    obtain ⟨nf', ff', hA⟩ : ∃ nf' ff', ab_arr (ws.set j (a, .inl (cA, n, .inl (upd fn y.toNatClampNeg v)))) k1 = some (nf', ff') := by
      rw [g1'] at hr1
      rcases ab_arr_two (p := y.toNatClampNeg) (v := v) hj k1 hr1 with ⟨-, w2⟩ | ⟨-, w2⟩ <;> exact ⟨_, _, w2⟩
    obtain ⟨ng', gg', hB⟩ : ∃ ng' gg', ab_arr (ws.set j (a, .inl (cA, n, .inl (upd fn y.toNatClampNeg v)))) k2 = some (ng', gg') := by
      rw [g2'] at hr2
      rcases ab_arr_two (p := y.toNatClampNeg) (v := v) hj k2 hr2 with ⟨-, w2⟩ | ⟨-, w2⟩ <;> exact ⟨_, _, w2⟩
    rw [g1'] at hr1
    rw [g2'] at hr2
    obtain ⟨l1, l2⟩ := key o1 k1 nf ff nf' ff' lt1 hr1 hA
    obtain ⟨l3, l4⟩ := key o2 k2 ng gg ng' gg' lt2 hr2 hB
    refine ⟨x3, x4, x5, x6, x7, x8, x9, nf', ff', ng', gg', rfl, ?_, ?_⟩
    · simp only [List.take_succ_cons, List.take_zero, List.map_cons, List.map_nil, g1', g2', hA, hB]
    · intro jj j1 j2 j3 j4 j5
      rw [g3', g5'] at j3 j5
      rw [g4', g5'] at j4 ⊢
      rw [l1] at j3
      rw [l3] at j4
      rw [l2 jj j1 j2] at j5
      rw [l4 jj j1 j2]
      have := ht9 jj j1 j2
      rw [g3', g4', g5'] at this
      exact this j3 j4 j5
  · cases hk
noncomputable def ab_ke5 (env : ab_E) (fx : List ab_Y) (j : Nat) (i : ab_I) (f : ab_Y) : Bool := match f with
  | (5, [kr, ks, c, _, _]) => ab_cI kr (fun kr => ab_cI ks (fun ks => (!(ab_ie kr j) || ab_lt2 env fx i c 3 2) && !(ab_ie ks j)))
  | _ => false
theorem ab_ke5_ok {env : ab_E} {z : ab_Z} {ws : va_W} {j a n : Nat} {cA : ClassId} {fn : Nat → Int32} {i : ab_I} {y v : Int32} {fx : List ab_Y} (hR : ab_eR env z.1) (hfx : ∀ f ∈ fx, ab_fs z ws f) (hj : ws[j]? = some (a, .inl (cA, n, .inl fn))) (hy : ab_evI z.1 i = some y) (hy0 : 0 ≤ y.toInt) {f : ab_Y} (hk : ab_ke5 env fx j i f = true) (hf : ab_fs z ws f) : ab_fs z (ws.set j (a, .inl (cA, n, .inl (upd fn y.toNatClampNeg v)))) f := by
  have hyn : (y.toNatClampNeg : Int) = y.toInt := by
    show (y.toInt.toNat : Int) = y.toInt
    omega
  obtain ⟨xs, e, hm⟩ := hf
  unfold ab_ke5 at hk
  split at hk
  · rename_i kr ks c t w
    obtain ⟨k1, -, hk, c1⟩ := ab_cI_ok hk
    obtain ⟨k2, -, hk, c2⟩ := ab_cI_ok hk
    rw [Bool.and_eq_true] at hk
    obtain ⟨x1, r1, rfl, e1, e⟩ := ab_m1 e
    obtain ⟨x2, r2, rfl, e2, e⟩ := ab_m1 e
    obtain ⟨x3, r3, rfl, e3, e⟩ := ab_m1 e
    obtain ⟨x4, r4, rfl, e4, e⟩ := ab_m1 e
    obtain ⟨x5, r5, rfl, e5, e⟩ := ab_m1 e
    cases ab_m0 e
    obtain ⟨g1, g1'⟩ := c1 _ _ e1
    obtain ⟨g2, g2'⟩ := c2 _ _ e2
    have lt3 : ab_ie (k1 : Int) j = true → 0 ≤ y.toInt - 3 * x3.toInt + 3 - 2 - 1 := fun hkj => by
      have hk1 := hk.1
      rw [hkj, Bool.not_true, Bool.false_or] at hk1
      exact ab_lt2_ok hR hfx hk1 hy e3
    refine ⟨[x1, x2, x3, x4, x5], by simp only [List.map_cons, List.map_nil, e1, e2, e3, e4, e5], ?_⟩
    obtain ⟨c9, t9, w9, nf, ff, ng, gg, d, hy9, hr9, t1, t2, t3, t4, t5⟩ := hm
    simp only [List.drop_succ_cons, List.drop_zero, List.cons.injEq, and_true] at hy9
    obtain ⟨rfl, rfl, rfl⟩ := hy9
    simp only [List.take_succ_cons, List.take_zero, List.map_cons, List.map_nil, List.cons.injEq, and_true] at hr9
    obtain ⟨hr1, hr2⟩ := hr9
    rw [g1'] at hr1
    rw [g2'] at hr2
    have n3 : (x3.toNatClampNeg : Int) = x3.toInt := by
      show (x3.toInt.toNat : Int) = x3.toInt
      omega
    have n4 : (x4.toNatClampNeg : Int) = x4.toInt := by
      show (x4.toInt.toNat : Int) = x4.toInt
      omega
    obtain ⟨ff', hA, hA2⟩ : ∃ ff', ab_arr (ws.set j (a, .inl (cA, n, .inl (upd fn y.toNatClampNeg v)))) k1 = some (nf, ff') ∧ fk_rpn ff' 0 x3.toNatClampNeg = fk_rpn ff 0 x3.toNatClampNeg := by
      rcases ab_arr_two (p := y.toNatClampNeg) (v := v) hj k1 hr1 with ⟨w1, w2⟩ | ⟨w1, w2⟩
      · exact ⟨_, w2, rfl⟩
      · refine ⟨_, w2, fk_rpn_upd ?_⟩
        have hkj : ab_ie (k1 : Int) j = true := by rw [ab_ie_iff, w1]
        have := lt3 hkj
        omega
    obtain ⟨gg', hB, hB2⟩ : ∃ gg', ab_arr (ws.set j (a, .inl (cA, n, .inl (upd fn y.toNatClampNeg v)))) k2 = some (ng, gg') ∧ fk_nb gg' x4.toNatClampNeg = fk_nb gg x4.toNatClampNeg := by
      rcases ab_arr_two (p := y.toNatClampNeg) (v := v) hj k2 hr2 with ⟨w1, w2⟩ | ⟨w1, w2⟩
      · exact ⟨_, w2, rfl⟩
      · refine ⟨_, w2, fk_nb_upd ?_⟩
        have hkj : ab_ie (k2 : Int) j = true := by rw [ab_ie_iff, w1]
        have hk2 := hk.2
        rw [hkj] at hk2
        cases hk2
    refine ⟨x3, x4, x5, nf, ff', ng, gg', d, rfl, ?_, t1, t2, t3, by rw [hA2]; exact t4, by rw [hB2]; exact t5⟩
    simp only [List.take_succ_cons, List.take_zero, List.map_cons, List.map_nil, g1', g2', hA, hB]
  · cases hk
noncomputable def ab_kel (env : ab_E) (fx : List ab_Y) (j : Nat) (i : ab_I) (q q' : Nat) (f : ab_Y) : Bool := ab_kep env j i q q' f || (ab_ke1 env fx i f || (ab_ke2 env fx i f || ab_ke5 env fx j i f))
theorem ab_kel_ok {env : ab_E} {z : ab_Z} {ws : va_W} {j a n : Nat} {cA : ClassId} {fn : Nat → Int32} {i : ab_I} {y v : Int32} {q q' : Nat} {fx : List ab_Y} (hfx : ∀ f ∈ fx, ab_fs z ws f) (hR : ab_eR env z.1) (hj : ws[j]? = some (a, .inl (cA, n, .inl fn))) (hy : ab_evI z.1 i = some y) (hy0 : 0 ≤ y.toInt) (h1 : q ≤ y.toNatClampNeg) (h2 : y.toNatClampNeg ≤ q') {f : ab_Y} (hk : ab_kel env fx j i q q' f = true) (hf : ab_fs z ws f) : ab_fs z (ws.set j (a, .inl (cA, n, .inl (upd fn y.toNatClampNeg v)))) f := by
  unfold ab_kel at hk
  rw [Bool.or_eq_true, Bool.or_eq_true, Bool.or_eq_true] at hk
  rcases hk with hk | hk | hk | hk
  · exact ab_kep_ok hR hj hy hy0 h1 h2 hk hf
  · exact ab_ke1_ok hR hfx hj hy hy0 hk hf
  · exact ab_ke2_ok hR hfx hj hy hy0 hk hf
  · exact ab_ke5_ok hR hfx hj hy hy0 hk hf
noncomputable def ab_drlK {β : Type} (env : ab_E) (fx0 : List ab_Y) (j : Nat) (i : ab_I) (q q' : Nat) : List ab_Y → (List ab_Y → β) → β
  | [], c => c []
  | (kd, l) :: r, c => bif ab_sp j (ab_nc kd) l || ab_kel env fx0 j i q q' (kd, l) then ab_drlK env fx0 j i q q' r (fun t => c ((kd, l) :: t)) else ab_drlK env fx0 j i q q' r c
theorem ab_drlK_eq {β : Type} (env : ab_E) (fx0 : List ab_Y) (j : Nat) (i : ab_I) (q q' : Nat) : ∀ (l : List ab_Y) (c : List ab_Y → β), ab_drlK env fx0 j i q q' l c = c (l.filter (fun f => ab_sp j (ab_nc f.1) f.2 || ab_kel env fx0 j i q q' f))
  | [], c => rfl
  | (kd, l) :: r, c => by
    simp only [ab_drlK, List.filter]
    cases (ab_sp j (ab_nc kd) l || ab_kel env fx0 j i q q' (kd, l))
    · simp only [cond_false]; exact ab_drlK_eq env fx0 j i q q' r c
    · simp only [cond_true]; exact ab_drlK_eq env fx0 j i q q' r _
theorem ab_drl_ok {env : ab_E} {z : ab_Z} {ws : va_W} {j a n : Nat} {cA : ClassId} {fn : Nat → Int32} {i va : ab_I} {y v : Int32} {q q' : Nat} (hj9 : j < 2147483648) (hR : ab_eR env z.1) (hj : ws[j]? = some (a, .inl (cA, n, .inl fn))) (hy : ab_evI z.1 i = some y) (hy0 : 0 ≤ y.toInt) (hyn : y.toInt < n) (h1 : q ≤ y.toNatClampNeg) (h2 : y.toNatClampNeg ≤ q') (hv : ab_evI z.1 va = some v) {fx : List ab_Y} (hf : ∀ f ∈ fx, ab_fs z ws f) : ∀ f ∈ (1, [(none, (j : Int)), i, va]) :: fx.filter (fun f => ab_sp j (ab_nc f.1) f.2 || ab_kel env fx j i q q' f), ab_fs z (ws.set j (a, .inl (cA, n, .inl (upd fn y.toNatClampNeg v)))) f := by
  intro f hm
  rcases List.mem_cons.mp hm with rfl | hm
  · have e := ab_of (j : Int) (by omega) (by omega)
    refine ⟨[Int32.ofInt j, y, v], by simp only [List.map_cons, List.map_nil, hy, hv]; rfl, ?_⟩
    refine ⟨Int32.ofInt j, y, v, n, upd fn y.toNatClampNeg v, rfl, ?_, hy0, hyn, by simp only [upd, if_true]⟩
    have e2 : (Int32.ofInt (j : Int)).toNatClampNeg = j := by
      show (Int32.ofInt (j : Int)).toInt.toNat = j
      rw [e]; rfl
    rw [e2]
    exact (ab_arr_upd hj).1
  · obtain ⟨m1, m2⟩ := List.mem_filter.mp hm
    rw [Bool.or_eq_true] at m2
    rcases m2 with m2 | m2
    · exact ab_fs.set hj9 hf f (List.mem_filter.mpr ⟨m1, m2⟩)
    · exact ab_kel_ok hf hR hj hy hy0 h1 h2 m2 (hf f m1)
noncomputable def op_astL (np : Nat) : ab_P := fun _ env nl aw cl sl lv st => match st with
  | .inl v :: .inl i :: .inr (.inr (2, j)) :: st => (match ab_get aw.1 j with
    | some (.inr (t', n, true, d, ov)) => bif Nat.beq 0 t' && ab_b6 env i n d && ab_fit (ab_ft 0) env (.inl v) && Nat.ble j 2147483647 then ab_ivK env i (fun lo hi => bif ab_le 0 lo && ab_le (hi + 1) n then
        ab_fn lo.toNat (fun q => bif ab_ie lo hi then ab_putK ov q (.inl (.inl v)) (fun ov => ab_setK aw.1 j (.inr (t', n, true, d, ov)) (fun cs => ab_drlK env aw.2 j i q q aw.2 (fun fx => some [((env, nl, (cs, (1, [(none, (j : Int)), i, v]) :: fx), cl, sl), np, lv, st)])))
        else ab_fn hi.toNat (fun q' => ab_ivK env v (fun vl vh => ab_wivK env d (fun x y => ab_fi (ab_mn x vl) (fun x => ab_fi (ab_mx y vh) (fun y => ab_hulK env q q' ov x y (fun x y => ab_setK aw.1 j (.inr (t', n, true, d, (q, q', .inr (.inl (x, y))) :: ov)) (fun cs => ab_drlK env aw.2 j i q q' aw.2 (fun fx => some [((env, nl, (cs, (1, [(none, (j : Int)), i, v]) :: fx), cl, sl), np, lv, st)]))) none))) none))) else none) else none
    | _ => none)
  | _ => none
section
variable {p : Program} {l : Launch} {e : Env} {R : Room} {s : State} {m : MethodId} {args : Array Value} {below : List Frame} {meth : Method} {c : Code} {Q : State → Prop} {cc : ByteArray} {own : String} {nL : Nat} {X : ab_X} {D : va_G} {z0 : ab_Z0} {cal : ab_K} {pc : Nat}
theorem so_iastL (C : ab_cx p R s m args c cc own nL X D) (d : decode cc pc = .ok (.iastore, 1)) : ab_so p l e R s m args below meth c Q nL X D z0 cal pc (op_astL (pc + 1)) := by
  intro env nl aw cl sl lv st r hr hk z ws H locs ls cst hR hl hs
  dsimp only at hR hl hs
  unfold op_astL at hr
  split at hr
  · rename_i v i j st'
    rw [ab_get_eq] at hr
    split at hr
    · rename_i t' n dv ov hj
      cases hb : (Nat.beq 0 t' && ab_b6 env i n dv && ab_fit (ab_ft 0) env (.inl v) && Nat.ble j 2147483647)
      · rw [hb] at hr; cases hr
      · rw [hb, cond_true, ab_ivK_eq] at hr
        rw [Bool.and_eq_true, Bool.and_eq_true, Bool.and_eq_true] at hb
        obtain ⟨⟨⟨hb1, hb2⟩, hb3⟩, hb4⟩ := hb
        have hn : n < 2 ^ 31 := Nat.lt_of_le_of_lt (ab_b6_ok hb2).1 (by decide)
        have hj9 : j < 2147483648 := Nat.lt_succ_of_le (Nat.le_of_ble_eq_true hb4)
        have ht := Nat.eq_of_beq_eq_true hb1
        subst ht
        cases hb5 : (ab_le 0 (ab_iv env i).1 && ab_le ((ab_iv env i).2 + 1) n)
        · rw [hb5] at hr; cases hr
        · rw [hb5, cond_true, ab_fn_eq] at hr
          rw [Bool.and_eq_true, ab_le_iff, ab_le_iff] at hb5
          obtain ⟨x, r0, rfl, h1, h2⟩ := ab_st1 hs
          obtain ⟨y2, rfl, hv9⟩ := ab_evi h1
          obtain ⟨x3, r1, rfl, h4, h5⟩ := ab_st1 h2
          obtain ⟨y, rfl, h3⟩ := ab_evi h4
          obtain ⟨x4, r2, rfl, h7, h8⟩ := ab_st1 h5
          obtain ⟨a, rfl, h6⟩ := ab_ref2 h7
          obtain ⟨n1, n2⟩ := ab_fit_ok hR.1 hb3 h1
          obtain ⟨a', e', c1, c2, cA, xx, rfl, ⟨f, rfl⟩, c5, c6⟩ := hR.cell hj
          cases Option.some.inj (c2.symm.trans h6)
          have hi := ab_iv_spec hR.1 h3
          obtain ⟨k3, e1, k2⟩ := ab_ixin (y := y) (n := n) (by omega) (by omega) hn

          refine va_iast (cl := vwCl) (D := D) (tys := [(cA, .int)]) C.1 C.2.1 ((ab_cxE C).Kt c5) hR.2.2.2.2.1 hR.2.2.2.2.2.1 hR.2.2.2.2.2.2.1 j 0 c1 rfl k3 d (fun H1 locs1 g1 g2 g3 => ?_)

          have hfx := fun (q1 q2 : Nat) (h1 : q1 ≤ y.toNatClampNeg) (h2 : y.toNatClampNeg ≤ q2) => ab_drl_ok (v := y2) (va := v) hj9 hR.1 c1 h3 (show 0 ≤ y.toInt by omega) (show y.toInt < n by omega) h1 h2 hv9 hR.2.2.2.1.2
          cases hb6 : ab_ie (ab_iv env i).1 (ab_iv env i).2
          · rw [hb6, cond_false, ab_fn_eq, ab_ivK_eq] at hr
            obtain ⟨x0, y0, w1, w2⟩ := ab_wivK_ok (X := X) hR.1 hr
            rw [ab_fi_eq, ab_fi_eq] at w1
            obtain ⟨x', y', q1, q2, q3, q4⟩ := ab_hulK_ok (X := X) hR.1 w1
            simp only [ab_setK_eq, ab_drlK_eq, Option.some.injEq] at q1
            subst q1
            have hvi := ab_iv_spec hR.1 hv9
            have m1 : ab_mn x0 (ab_iv env v).1 ≤ x0 ∧ ab_mn x0 (ab_iv env v).1 ≤ (ab_iv env v).1 := by
              unfold ab_mn
              cases hc : ab_le x0 (ab_iv env v).1
              · rw [ab_le_false] at hc; exact ⟨by simp only [cond_false]; omega, by simp only [cond_false]; omega⟩
              · rw [ab_le_iff] at hc; exact ⟨by simp only [cond_true]; omega, by simp only [cond_true]; omega⟩
            have m2 : y0 ≤ ab_mx y0 (ab_iv env v).2 ∧ (ab_iv env v).2 ≤ ab_mx y0 (ab_iv env v).2 := by
              unfold ab_mx
              cases hc : ab_le y0 (ab_iv env v).2
              · rw [ab_le_false] at hc; exact ⟨by simp only [cond_false]; omega, by simp only [cond_false]; omega⟩
              · rw [ab_le_iff] at hc; exact ⟨by simp only [cond_true]; omega, by simp only [cond_true]; omega⟩
            refine hk _ List.mem_cons_self z _ H1 locs1 ls r2 (hR.set hj c1 (c := .inr (0, n, true, dv, ((ab_iv env i).1.toNat, (ab_iv env i).2.toNat, .inr (.inl (x', y'))) :: ov)) ⟨cA, _, rfl, ⟨_, rfl⟩, c5, fun q hq => ?_⟩ rfl (ab_fC_st (fun h9 => by have h7 := (ab_b6_ok hb2).2 h9; omega)) (hfx _ _ (by omega) (by omega)) g1 g2 g3) hl h8
            rw [ab_at_rng]
            by_cases hqr : (ab_iv env i).1.toNat ≤ q ∧ q ≤ (ab_iv env i).2.toNat
            · rw [if_pos hqr]
              show ∃ n : Int32, _ = Value.int n ∧ _
              by_cases hqe : q = y.toNatClampNeg
              · refine ⟨y2, ?_, by omega, by omega⟩
                simp only [ab_cv, upd, hqe, if_true]
              · have hin := ab_at_cases (P := fun w => ∀ v, ab_ho X z w v → ∃ n : Int32, v = .int n ∧ x' ≤ n.toInt ∧ n.toInt ≤ y') (d := dv) (ov := ov) (lo := (ab_iv env i).1.toNat) (hi := (ab_iv env i).2.toNat) (fun v hv => by
                  obtain ⟨n, rfl, u1, u2⟩ := w2 v hv
                  exact ⟨n, rfl, by omega, by omega⟩) q4 (j := q) hqr.1 hqr.2
                obtain ⟨nn, hnn, u1, u2⟩ := hin _ (c6 q hq)
                refine ⟨nn, ?_, u1, u2⟩
                rw [← hnn]
                simp only [ab_cv, upd, hqe, if_false]
            · rw [if_neg hqr]
              have hqe : ¬ q = y.toNatClampNeg := by omega
              have := c6 q hq
              simp only [ab_cv, upd, hqe, if_false] at this ⊢
              exact this
          · rw [hb6, cond_true] at hr
            rw [ab_ie_iff] at hb6
            have e2 : (ab_iv env i).1.toNat = y.toNatClampNeg := by omega
            rw [e2] at hr
            simp only [ab_putK_eq, ab_setK_eq, ab_drlK_eq, Option.some.injEq] at hr
            subst hr
            refine hk _ List.mem_cons_self z _ H1 locs1 ls r2 (hR.set hj c1 (c := .inr (0, n, true, dv, ab_put ov y.toNatClampNeg (.inl (.inl v)))) ⟨cA, _, rfl, ⟨_, rfl⟩, c5, fun q hq => ?_⟩ rfl (ab_fC_st (fun h9 => by have h7 := (ab_b6_ok hb2).2 h9; omega)) (hfx _ _ (by omega) (by omega)) g1 g2 g3) hl h8
            rw [ab_at_put]
            by_cases hqe : q = y.toNatClampNeg
            · rw [if_pos hqe]
              show ab_ev X z (.inl v) = _
              rw [h1]
              simp only [ab_cv, upd, hqe, if_true]
            · rw [if_neg hqe]
              have := c6 q hq
              simp only [ab_cv, upd, hqe, if_false] at this ⊢
              exact this
    · cases hr
  · cases hr
end
/-- i is off and st times u -/
noncomputable def ab_l2 (env : ab_E) (fx : List ab_Y) (i u : ab_I) (st off : Int) : Bool := (match ab_cmp env [i, u] [1, 0 - st] (0 - off) [] with
  | some (k, cs) => ab_geq env k cs fx
  | none => false) && (match ab_cmp env [i, u] [-1, st] off [] with
  | some (k, cs) => ab_geq env k cs fx
  | none => false)
theorem ab_l2_ok {env : ab_E} {z : ab_Z} {ws : va_W} (hR : ab_eR env z.1) {fx : List ab_Y} (hf : ∀ f ∈ fx, ab_fs z ws f) {i u : ab_I} {st off : Int} (h : ab_l2 env fx i u st off = true) {x y : Int32} (hx : ab_evI z.1 i = some x) (hy : ab_evI z.1 u = some y) : x.toInt = off + st * y.toInt := by
  unfold ab_l2 at h
  rw [Bool.and_eq_true] at h
  obtain ⟨h1, h2⟩ := h
  have hv : ([i, u] : List ab_I).map (ab_evI z.1) = ([x, y] : List Int32).map some := by simp only [List.map_cons, List.map_nil, hx, hy]
  have h0 : ab_dot [] z.1 = 0 := by simp [ab_dot]
  split at h1
  · rename_i k cs hc
    have g1 := ab_cmp_ok hR hc hv
    have g2 := ab_geq_ok hR hf h1
    simp only [ab_dot] at g1
    split at h2
    · rename_i k' cs' hc'
      have g3 := ab_cmp_ok hR hc' hv
      have g4 := ab_geq_ok hR hf h2
      simp only [ab_dot] at g3
      have e1 : (0 - st) * y.toInt = 0 - st * y.toInt := by rw [Int.sub_mul, Int.zero_mul]
      rw [e1] at g1
      omega
    · cases h2
  · cases h1
/-- some place of row k that is known -/
noncomputable def ab_f1s (k : Nat) (p : ab_I → ab_I → Bool) : List ab_Y → Bool
  | [] => false
  | f :: r => (match f with
    | (1, [a, i, v]) => ab_eqI a (none, (k : Int)) && p i v
    | _ => false) || ab_f1s k p r
theorem ab_f1s_ok {k : Nat} (hk : k ≤ 2147483647) {p : ab_I → ab_I → Bool} {z : ab_Z} {ws : va_W} : ∀ {fx : List ab_Y}, ab_f1s k p fx = true → (∀ f ∈ fx, ab_fs z ws f) → ∃ i v x y n f, p i v = true ∧ ab_evI z.1 i = some x ∧ ab_evI z.1 v = some y ∧ ab_arr ws k = some (n, f) ∧ 0 ≤ x.toInt ∧ f x.toNatClampNeg = y
  | [], h, _ => by cases h
  | f :: r, h, hf => by
    simp only [ab_f1s, Bool.or_eq_true] at h
    rcases h with h | h
    · split at h
      · rename_i a i v
        rw [Bool.and_eq_true] at h
        cases ab_eqI_eq h.1
        obtain ⟨xs, e, hm⟩ := hf _ List.mem_cons_self
        obtain ⟨x1, r1, rfl, e1, e⟩ := ab_m1 e
        obtain ⟨x2, r2, rfl, e2, e⟩ := ab_m1 e
        obtain ⟨x3, r3, rfl, e3, e⟩ := ab_m1 e
        cases ab_m0 e
        obtain ⟨k9, i9, v9, n9, f9, hx, ha, g1, g2, g3⟩ := hm
        simp only [List.cons.injEq, and_true] at hx
        obtain ⟨rfl, rfl, rfl⟩ := hx
        simp only [ab_evI, Option.some.injEq] at e1
        subst e1
        rw [ab_nI hk] at ha
        exact ⟨i, v, x2, x3, n9, f9, h.2, e2, e3, ha, g1, g3⟩
      · cases h
    · exact ab_f1s_ok hk h (fun g hg => hf g (List.mem_cons_of_mem _ hg))
/-- one more, told by facts: the place q tells which -/
noncomputable def pr_tV (w : ab_TS) (q : Nat × Nat × Nat) : ab_PR := fun env aw lv _ => match ab_lc aw lv q with
  | some u => (match ab_pl env u 1 with
    | some u' => bif ab_tbd w && ab_wfI env.length u && ab_tex w (fun a b => ab_eqI a (none, 0) && ab_eqI b u) aw.2 && (ab_f1s w.1 (fun i v => ab_ivK env v (fun lo hi => ab_le (hi + 1) w.2.2.2.2.2.1 || ab_le (w.2.2.2.2.2.1 + 1) lo) && ab_l2 env aw.2 i u w.2.2.2.2.1 w.2.2.1) aw.2 || ab_f1s w.2.1 (fun i v => ab_ivK env v (fun lo hi => ab_le 0 lo && ab_le hi w.2.2.2.2.2.2) && ab_l2 env aw.2 i u w.2.2.2.2.1 w.2.2.2.1) aw.2) then some [(env, ab_tmk w (none, 0) u' :: aw.2)] else none
    | none => none)
  | none => none
theorem pr_tV_ok {X : ab_X} {w : ab_TS} {q : Nat × Nat × Nat} : ab_prs X (pr_tV w q) := by
  intro env aw lv st l z ws s cst h h1 h2 h3 h4
  unfold pr_tV at h
  split at h
  · rename_i u hu
    split at h
    · rename_i u' hu'
      cases hb : (ab_tbd w && ab_wfI env.length u && ab_tex w (fun a b => ab_eqI a (none, 0) && ab_eqI b u) aw.2 && (ab_f1s w.1 (fun i v => ab_ivK env v (fun lo hi => ab_le (hi + 1) w.2.2.2.2.2.1 || ab_le (w.2.2.2.2.2.1 + 1) lo) && ab_l2 env aw.2 i u w.2.2.2.2.1 w.2.2.1) aw.2 || ab_f1s w.2.1 (fun i v => ab_ivK env v (fun lo hi => ab_le 0 lo && ab_le hi w.2.2.2.2.2.2) && ab_l2 env aw.2 i u w.2.2.2.2.1 w.2.2.2.1) aw.2))
      · rw [hb] at h; cases h
      · rw [hb, cond_true] at h
        cases h
        rw [Bool.and_eq_true, Bool.and_eq_true, Bool.and_eq_true, Bool.or_eq_true] at hb
        obtain ⟨⟨⟨b1, b9⟩, b2⟩, b3⟩ := hb
        obtain ⟨a0, b0, x, y, hp, e1, e2, nf, f, ng, g, hf, hg, hh⟩ := ab_tex_ok b1 b2 h2.2
        rw [Bool.and_eq_true] at hp
        cases ab_eqI_eq hp.1
        cases ab_eqI_eq hp.2
        obtain ⟨y', e3, e4, e5⟩ := ab_pl_ok h1 (Or.inl rfl) hu' e2
        have hw1 : w.1 ≤ 2147483647 ∧ w.2.1 ≤ 2147483647 := by
          unfold ab_tbd at b1
          simp only [Bool.and_eq_true] at b1
          exact ⟨Nat.le_of_ble_eq_true b1.1.1.1.1.1.1, Nat.le_of_ble_eq_true b1.1.1.1.1.1.2⟩
        refine ⟨_, List.mem_cons_self, h1, fun q' hq => ?_⟩
        rcases List.mem_cons.mp hq with rfl | hq
        · refine ab_t_of b1 (x := x) (y := y') e1 e3 ⟨nf, f, ng, g, hf, hg, fun j j1 j2 j3 j4 j5 => ?_⟩
          by_cases hj : (j : Int) = y.toInt
          · have key : ∀ (off : Nat) (xi : Int32), 0 ≤ xi.toInt → xi.toInt = (off : Int) + (w.2.2.2.2.1 : Int) * y.toInt → xi.toNatClampNeg = off + w.2.2.2.2.1 * j := by
              intro off xi h0 hx
              show xi.toInt.toNat = _
              rw [hx, ← hj]
              have : ((off : Int) + (w.2.2.2.2.1 : Int) * (j : Int)) = ((off + w.2.2.2.2.1 * j : Nat) : Int) := by simp
              rw [this]; rfl
            rcases b3 with b3 | b3
            · obtain ⟨i, v, xi, yv, n9, f9, p1, p2, p3, p4, p5, p6⟩ := ab_f1s_ok hw1.1 b3 h2.2
              rw [hf] at p4
              cases p4
              rw [Bool.and_eq_true, ab_ivK_eq, Bool.or_eq_true, ab_le_iff, ab_le_iff] at p1
              have hi := ab_iv_spec h1 p3
              have hx := ab_l2_ok h1 h2.2 p1.2 p2 e2
              rw [key _ xi p5 hx] at p6
              rw [p6] at j5
              omega
            · obtain ⟨i, v, xi, yv, n9, f9, p1, p2, p3, p4, p5, p6⟩ := ab_f1s_ok hw1.2 b3 h2.2
              rw [hg] at p4
              cases p4
              rw [Bool.and_eq_true, ab_ivK_eq, Bool.and_eq_true, ab_le_iff, ab_le_iff] at p1
              have hi := ab_iv_spec h1 p3
              have hx := ab_l2_ok h1 h2.2 p1.2 p2 e2
              rw [key _ xi p5 hx] at p6
              rw [p6]
              omega
          · exact hh j j1 (by omega) j3 j4 j5
        · exact h2.2 q' hq
    · cases h
  · cases h
/-- a place of row kr that is known, by its interval: three times c and off -/
noncomputable def ab_plv (env : ab_E) (fx : List ab_Y) (kr : Nat) (c : ab_I) (off : Int) (p : Int → Int → Bool) : Bool := ab_f1s kr (fun i v => ab_ivK env v p && ab_l2 env fx i c 3 off) fx
theorem ab_plv_ok {env : ab_E} {z : ab_Z} {ws : va_W} {kr : Nat} (b1 : kr ≤ 2147483647) (hR : ab_eR env z.1) {fx : List ab_Y} (hf : ∀ f ∈ fx, ab_fs z ws f) {c : ab_I} {off : Nat} {p : Int → Int → Bool} (h : ab_plv env fx kr c off p = true) {x : Int32} (hx : ab_evI z.1 c = some x) (hx0 : 0 ≤ x.toInt) {n : Nat} (hn : x.toInt.toNat = n) {nf : Nat} {f : Nat → Int32} (hk : ab_arr ws kr = some (nf, f)) : ∃ lo hi, p lo hi = true ∧ lo ≤ (f (3 * n + off)).toInt ∧ (f (3 * n + off)).toInt ≤ hi := by
  obtain ⟨i, v, xi, yv, n9, f9, p1, p2, p3, p4, p5, p6⟩ := ab_f1s_ok b1 h hf
  rw [hk] at p4
  cases p4
  rw [Bool.and_eq_true, ab_ivK_eq] at p1
  have h9 := ab_l2_ok hR hf p1.2 p2 hx
  have hi := ab_iv_spec hR p3
  have e9 : xi.toNatClampNeg = 3 * n + off := by
    show xi.toInt.toNat = _
    omega
  rw [e9] at p6
  exact ⟨_, _, p1.1, by rw [p6]; exact hi.1, by rw [p6]; exact hi.2⟩
theorem ab_plv_ok0 {env : ab_E} {z : ab_Z} {ws : va_W} {kr : Nat} (b1 : kr ≤ 2147483647) (hR : ab_eR env z.1) {fx : List ab_Y} (hf : ∀ f ∈ fx, ab_fs z ws f) {c : ab_I} {p : Int → Int → Bool} (h : ab_plv env fx kr c 0 p = true) {x : Int32} (hx : ab_evI z.1 c = some x) (hx0 : 0 ≤ x.toInt) {n : Nat} (hn : x.toInt.toNat = n) {nf : Nat} {f : Nat → Int32} (hk : ab_arr ws kr = some (nf, f)) : ∃ lo hi, p lo hi = true ∧ lo ≤ (f (3 * n)).toInt ∧ (f (3 * n)).toInt ≤ hi := ab_plv_ok (off := 0) b1 hR hf h hx hx0 hn hk
/-- one more code, told by facts -/
noncomputable def pr_sV (kr ks : Nat) : ab_PR := fun env aw _ _ => bif ab_k2 kr ks then (match ab_sfd kr ks aw.2 with
  | some (c, t, w) => (match ab_pl env c 1 with
    | some c' =>
      bif ab_plv env aw.2 kr c 0 (fun lo hi => ab_le (hi + 1) 20 || ab_le 23 lo) && (ab_plv env aw.2 kr c 0 (fun lo hi => ab_le (hi + 1) 3 || ab_le 4 lo) || ab_plv env aw.2 kr c 2 (fun lo hi => ab_le 0 lo && ab_le hi 6)) && ab_isN env 0 w then some [(env, ab_smk kr ks c' t (none, 1) :: aw.2)]
      else (match ab_pl env t (-1) with
      | some t' => bif ab_ivK env w (fun lo _ => ab_le 1 lo) && (ab_plv env aw.2 kr c 0 (fun lo hi => ab_ie lo 20 && ab_ie hi 20) || (ab_plv env aw.2 kr c 0 (fun lo hi => ab_le 21 lo && ab_le hi 22) && (match ab_f1 ks t' aw.2 with
        | some v => ab_ivK env v (fun lo hi => ab_le 21 lo && ab_le hi 22)
        | none => false))) then some [(env, ab_smk kr ks c' t' w :: aw.2)] else none
      | none => none)
    | none => none)
  | none => none) else none
theorem pr_sV_ok {X : ab_X} {kr ks : Nat} : ab_prs X (pr_sV kr ks) := by
  intro env aw lv st l z ws s cst h h1 h2 h3 h4
  unfold pr_sV at h
  cases hb : ab_k2 kr ks
  · rw [hb] at h; cases h
  · rw [hb, cond_true] at h
    rw [ab_k2, Bool.and_eq_true] at hb
    have b1 := Nat.le_of_ble_eq_true hb.1
    have b2 := Nat.le_of_ble_eq_true hb.2
    split at h
    · rename_i c t w hf
      split at h
      case h_2 => cases h
      rename_i c' hc'
      obtain ⟨x, y, u, e1, e2, e3, nf, f, ng, g, d, hf1, hg1, t1, t2, t3, t4, t5⟩ := ab_s_to b1 b2 (h2.2 _ (ab_sfd_ok hf))
      obtain ⟨x', e1', e1s, e1p⟩ := ab_pl_ok h1 (Or.inl rfl) hc' e1
      obtain ⟨n, hxt⟩ : ∃ n, x.toInt.toNat = n := ⟨_, rfl⟩
      rw [hxt] at t4
      have hn2 : x'.toInt.toNat = n + 1 := by omega
      cases hc : (ab_plv env aw.2 kr c 0 (fun lo hi => ab_le (hi + 1) 20 || ab_le 23 lo) && (ab_plv env aw.2 kr c 0 (fun lo hi => ab_le (hi + 1) 3 || ab_le 4 lo) || ab_plv env aw.2 kr c 2 (fun lo hi => ab_le 0 lo && ab_le hi 6)) && ab_isN env 0 w)
      · rw [hc, cond_false] at h
        split at h
        · rename_i t' ht
          obtain ⟨y', e4, e5, e6⟩ := ab_pl_ok h1 (Or.inr rfl) ht e2
          have hy : y.toInt.toNat = y'.toInt.toNat + 1 := by omega
          rw [hy] at t5
          cases hd : (ab_ivK env w (fun lo _ => ab_le 1 lo) && (ab_plv env aw.2 kr c 0 (fun lo hi => ab_ie lo 20 && ab_ie hi 20) || (ab_plv env aw.2 kr c 0 (fun lo hi => ab_le 21 lo && ab_le hi 22) && (match ab_f1 ks t' aw.2 with
            | some v => ab_ivK env v (fun lo hi => ab_le 21 lo && ab_le hi 22)
            | none => false))))
          · rw [hd] at h; cases h
          · rw [hd, cond_true] at h
            cases h
            rw [Bool.and_eq_true, ab_ivK_eq, ab_le_iff] at hd
            obtain ⟨d1, d2⟩ := hd
            have iu := ab_iv_spec h1 e3
            have hu : 1 ≤ u.toInt.toNat := by omega
            refine ⟨_, List.mem_cons_self, h1, fun q hq => ?_⟩
            rcases List.mem_cons.mp hq with rfl | hq
            · rw [Bool.or_eq_true] at d2
              rcases d2 with d2 | d2
              · obtain ⟨x1, x2, p1, p2, p3⟩ := ab_plv_ok0 b1 h1 h2.2 d2 e1 t1 hxt hf1
                rw [Bool.and_eq_true, ab_ie_iff, ab_ie_iff] at p1
                refine ab_s_of b1 b2 e1' e4 e3 ⟨nf, f, ng, g, d, hf1, hg1, e1p, e6, t3, ?_, ?_⟩
                · rw [hn2]
                  simp only [fk_rpn, t4]
                  rw [if_pos (by rw [Nat.zero_add]; omega), if_pos (by omega)]
                · have := fk_nb_mono (g := g) (t := y'.toInt.toNat)
                  omega
              · rw [Bool.and_eq_true] at d2
                obtain ⟨d2, d3⟩ := d2
                obtain ⟨x1, x2, p1, p2, p3⟩ := ab_plv_ok0 b1 h1 h2.2 d2 e1 t1 hxt hf1
                rw [Bool.and_eq_true, ab_le_iff, ab_le_iff] at p1
                split at d3
                · rename_i v hv
                  have e7 := ab_f1_ok b2 hv h2.2 hg1 e4
                  have i7 := ab_iv_spec h1 e7
                  rw [ab_ivK_eq, Bool.and_eq_true, ab_le_iff, ab_le_iff] at d3
                  have hnb : fk_nb g (y'.toInt.toNat + 1) = fk_nb g y'.toInt.toNat + 1 := by
                    simp only [fk_nb]
                    rw [if_pos (by omega)]
                  rw [hnb] at t5
                  refine ab_s_of b1 b2 e1' e4 e3 ⟨nf, f, ng, g, d - 1, hf1, hg1, e1p, e6, t3, ?_, by omega⟩
                  rw [hn2]
                  simp only [fk_rpn, t4]
                  rw [if_neg (by rw [Nat.zero_add]; omega), if_pos (by rw [Nat.zero_add]; omega), if_pos (by omega)]
                · cases d3
            · exact h2.2 q hq
        · cases h
      · rw [hc, cond_true] at h
        cases h
        rw [Bool.and_eq_true, Bool.and_eq_true] at hc
        obtain ⟨⟨c1, c2⟩, c3⟩ := hc
        obtain ⟨x1, x2, p1, p2, p3⟩ := ab_plv_ok0 b1 h1 h2.2 c1 e1 t1 hxt hf1
        rw [Bool.or_eq_true, ab_le_iff, ab_le_iff] at p1
        have hu := ab_isN_ok h1 c3 e3
        have hw1 : (Int32.ofInt 1).toInt = 1 := ab_of 1 (by omega) (by omega)
        refine ⟨_, List.mem_cons_self, h1, fun q hq => ?_⟩
        rcases List.mem_cons.mp hq with rfl | hq
        · refine ab_s_of b1 b2 (u := Int32.ofInt 1) e1' e2 rfl ⟨nf, f, ng, g, d + 1, hf1, hg1, e1p, t2, by rw [hw1]; omega, ?_, by rw [hw1]; omega⟩
          rw [hn2]
          simp only [fk_rpn, t4]
          rw [if_neg (by rw [Nat.zero_add]; omega), if_neg (by rw [Nat.zero_add]; omega)]
          by_cases h3v : (f (0 + 3 * n)).toInt = 3
          · rw [if_pos h3v]
            rw [Bool.or_eq_true] at c2
            rcases c2 with c2 | c2
            · obtain ⟨x3, x4, q1, q2, q3⟩ := ab_plv_ok0 b1 h1 h2.2 c2 e1 t1 hxt hf1
              rw [Bool.or_eq_true, ab_le_iff, ab_le_iff] at q1
              rw [Nat.zero_add] at h3v
              omega
            · obtain ⟨x3, x4, q1, q2, q3⟩ := ab_plv_ok (off := 2) b1 h1 h2.2 c2 e1 t1 hxt hf1
              rw [Bool.and_eq_true, ab_le_iff, ab_le_iff] at q1
              rw [if_pos (by rw [Nat.zero_add]; omega)]
          · rw [if_neg h3v]
        · exact h2.2 q hq
    · cases h
/-- a sum with a constant more -/
noncomputable def pr_adc (qs : List (Nat × Nat × Nat)) (cs : List Int) (k c : Int) : ab_PR := fun env aw lv _ => match ab_sg aw lv qs with
  | some xs => bif (xs ++ [(none, c)]).all (ab_wfI env.length) && ab_ilc cs (xs ++ [(none, c)]) && ab_bd k then (match ab_cmp env (xs ++ [(none, c)]) cs k [] with
    | some (k1, cs1) => bif ab_gq2 env k1 cs1 aw.2 aw.2 then some [(env, (0, ab_ilv cs (xs ++ [(none, c)]) k) :: aw.2)] else none
    | none => none) else none
  | none => none
theorem pr_adc_ok {X : ab_X} {qs : List (Nat × Nat × Nat)} {cs : List Int} {k c : Int} : ab_prs X (pr_adc qs cs k c) := by
  intro env aw lv st l z ws s cst h h1 h2 h3 h4
  unfold pr_adc at h
  split at h
  · rename_i xs hxs
    cases hb : ((xs ++ [(none, c)]).all (ab_wfI env.length) && ab_ilc cs (xs ++ [(none, c)]) && ab_bd k)
    · rw [hb] at h; cases h
    · rw [hb, cond_true] at h
      rw [Bool.and_eq_true, Bool.and_eq_true] at hb
      obtain ⟨⟨b1, b2⟩, b3⟩ := hb
      split at h
      · rename_i k1 cs1 hc
        cases hg : ab_gq2 env k1 cs1 aw.2 aw.2
        · rw [hg] at h; cases h
        · rw [hg, cond_true] at h
          cases h
          obtain ⟨vs, hv⟩ := ab_wf_evs h1 b1
          have g3 := ab_cmp_ok h1 hc hv
          have g4 := ab_gq2_ok h1 h2.2 h2.2 hg
          obtain ⟨ys, y1, y2⟩ := ab_ilv_ok b3 b2 hv
          have h9 : ab_dot [] z.1 = 0 := by simp [ab_dot]
          refine ⟨_, List.mem_cons_self, h1, fun f hf => ?_⟩
          rcases List.mem_cons.mp hf with rfl | hf
          · exact ⟨ys, y1, by show (0 : Int) ≤ ab_lin ys; omega⟩
          · exact h2.2 f hf
      · cases h
  · cases h
