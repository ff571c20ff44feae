/-! Stores that keep facts about other places of their row. -/
theorem ab_m1 {α β : Type} {g : α → Option β} {a : α} {l : List α} {xs : List β} (h : (a :: l).map g = xs.map some) : ∃ x r, xs = x :: r ∧ g a = some x ∧ l.map g = r.map some := by
  cases xs with
  | nil => simp at h
  | cons x r =>
    simp only [List.map_cons, List.cons.injEq] at h
    exact ⟨x, r, rfl, h.1, h.2⟩
theorem ab_m0 {α β : Type} {g : α → Option β} {xs : List β} (h : ([] : List α).map g = xs.map some) : xs = [] := by
  cases xs with
  | nil => rfl
  | cons x r => simp at h
noncomputable def ab_cI (a : ab_I) (k : Int → Bool) : Bool := match a with
  | (none, c) => ab_le 0 c && ab_le c 2147483647 && k c
  | _ => false
theorem ab_cI_ok {a : ab_I} {k : Int → Bool} (h : ab_cI a k = true) : ∃ c : Nat, (c : Int) ≤ 2147483647 ∧ k c = true ∧ ∀ (rho : List Int32) (x : Int32), ab_evI rho a = some x → x.toInt = c ∧ x.toNatClampNeg = c := by
  obtain ⟨v, c⟩ := a
  cases v with
  | some v => cases h
  | none =>
    simp only [ab_cI, Bool.and_eq_true, ab_le_iff] at h
    obtain ⟨⟨h1, h2⟩, h3⟩ := h
    obtain ⟨n, rfl⟩ := Int.eq_ofNat_of_zero_le h1
    refine ⟨n, h2, h3, fun rho x hx => ?_⟩
    simp only [ab_evI, Option.some.injEq] at hx
    have e := ab_of (n : Int) (by omega) h2
    rw [hx] at e
    refine ⟨e, ?_⟩
    show x.toInt.toNat = n
    rw [e]; rfl
theorem fk_rpn_upd {f : Nat → Int32} {off p : Nat} {v : Int32} : ∀ {i : Nat}, (p < off ∨ off + 3 * i ≤ p) → fk_rpn (upd f p v) off i = fk_rpn f off i
  | 0, _ => rfl
  | i + 1, h => by
    have ih := fk_rpn_upd (f := f) (off := off) (p := p) (v := v) (i := i) (by omega)
    have e1 : upd f p v (off + 3 * i) = f (off + 3 * i) := by
      have : ¬ off + 3 * i = p := by omega
      simp only [upd, this, if_false]
    have e2 : upd f p v (off + 3 * i + 2) = f (off + 3 * i + 2) := by
      have : ¬ off + 3 * i + 2 = p := by omega
      simp only [upd, this, if_false]
    simp only [fk_rpn, ih, e1, e2]
theorem fk_nb_upd {g : Nat → Int32} {p : Nat} {v : Int32} : ∀ {t : Nat}, t ≤ p → fk_nb (upd g p v) t = fk_nb g t
  | 0, _ => rfl
  | t + 1, h => by
    have ih := fk_nb_upd (g := g) (p := p) (v := v) (t := t) (by omega)
    have e1 : upd g p v t = g t := by
      have : ¬ t = p := by omega
      simp only [upd, this, if_false]
    simp only [fk_nb, ih, e1]
theorem ab_arr_upd {ws : va_W} {k a n p : Nat} {cA : ClassId} {f : Nat → Int32} {v : Int32} (h : ws[k]? = some (a, .inl (cA, n, .inl f))) : ab_arr (ws.set k (a, .inl (cA, n, .inl (upd f p v)))) k = some (n, upd f p v) ∧ ab_arr ws k = some (n, f) := by
  have hk : k < ws.length := (List.getElem?_eq_some_iff.mp h).1
  constructor
  · unfold ab_arr
    rw [List.getElem?_set]
    simp only [hk, if_true]
  · unfold ab_arr
    rw [h]
/-- a row of the world, before and behind: the same, or the one that was written -/
theorem ab_arr_two {ws : va_W} {k a n p : Nat} {cA : ClassId} {f : Nat → Int32} {v : Int32} (h : ws[k]? = some (a, .inl (cA, n, .inl f))) (c : Nat) {nf : Nat} {ff : Nat → Int32} (hc : ab_arr ws c = some (nf, ff)) : (c ≠ k ∧ ab_arr (ws.set k (a, .inl (cA, n, .inl (upd f p v)))) c = some (nf, ff)) ∨ (c = k ∧ ab_arr (ws.set k (a, .inl (cA, n, .inl (upd f p v)))) c = some (nf, upd ff p v)) := by
  by_cases hck : c = k
  · right
    subst hck
    obtain ⟨h1, h2⟩ := ab_arr_upd (p := p) (v := v) h
    rw [h2] at hc
    cases hc
    exact ⟨rfl, h1⟩
  · left
    exact ⟨hck, by rw [ab_arr_set hck]; exact hc⟩
noncomputable def ab_kep (env : ab_E) (j : Nat) (i : ab_I) (q q' : Nat) (f : ab_Y) : Bool := match f with
  | (2, [kf, kg, off, off', st, _, a, b, _]) => ab_cI kf (fun kf => ab_cI kg (fun kg => ab_cI off (fun off => ab_cI off' (fun off' => ab_cI st (fun st => ab_ivK env a (fun al _ => ab_ivK env b (fun _ bh =>
      (!(ab_ie kf j) || (ab_le ((q' : Int) + 1) (off + st * al) || ab_le (off + st * (bh - 1) + 1) q)) && (!(ab_ie kg j) || (ab_le ((q' : Int) + 1) (off' + st * al) || ab_le (off' + st * (bh - 1) + 1) q)))))))))
  | (4, [kr, _, off, _, _]) => ab_cI kr (fun kr => ab_cI off (fun off => !(ab_ie kr j) || (ab_le ((q' : Int) + 1) off || ab_le (off + 137) q)))
  | (5, [kr, ks, c, t, _]) => ab_cI kr (fun kr => ab_cI ks (fun ks => (!(ab_ie kr j) || ab_ivK env c (fun _ ch => ab_le (3 * ch) q)) && (!(ab_ie ks j) || (ab_eqI i t || ab_ivK env t (fun _ th => ab_le th q)))))
  | _ => false
theorem ab_kep_ok {env : ab_E} {z : ab_Z} {ws : va_W} {j a n : Nat} {cA : ClassId} {fn : Nat → Int32} {i : ab_I} {y v : Int32} {q q' : Nat} (hR : ab_eR env z.1) (hj : ws[j]? = some (a, .inl (cA, n, .inl fn))) (hy : ab_evI z.1 i = some y) (hy0 : 0 ≤ y.toInt) (h1 : q ≤ y.toNatClampNeg) (h2 : y.toNatClampNeg ≤ q') {f : ab_Y} (hk : ab_kep env j i q q' f = true) (hf : ab_fs z ws f) : ab_fs z (ws.set j (a, .inl (cA, n, .inl (upd fn y.toNatClampNeg v)))) f := by
  have hyn : (y.toNatClampNeg : Int) = y.toInt := by
    show (y.toInt.toNat : Int) = y.toInt
    omega
  obtain ⟨xs, e, hm⟩ := hf
  unfold ab_kep at hk
  split at hk
  · rename_i kf kg off off' st tag aa bb hi
    obtain ⟨k1, -, hk, c1⟩ := ab_cI_ok hk
    obtain ⟨k2, -, hk, c2⟩ := ab_cI_ok hk
    obtain ⟨o1, -, hk, c3⟩ := ab_cI_ok hk
    obtain ⟨o2, -, hk, c4⟩ := ab_cI_ok hk
    obtain ⟨s1, -, hk, c5⟩ := ab_cI_ok hk
    rw [ab_ivK_eq, ab_ivK_eq, Bool.and_eq_true] at hk
    obtain ⟨x1, r1, rfl, e1, e⟩ := ab_m1 e
    obtain ⟨x2, r2, rfl, e2, e⟩ := ab_m1 e
    obtain ⟨x3, r3, rfl, e3, e⟩ := ab_m1 e
    obtain ⟨x4, r4, rfl, e4, e⟩ := ab_m1 e
    obtain ⟨x5, r5, rfl, e5, e⟩ := ab_m1 e
    obtain ⟨x6, r6, rfl, e6, e⟩ := ab_m1 e
    obtain ⟨x7, r7, rfl, e7, e⟩ := ab_m1 e
    obtain ⟨x8, r8, rfl, e8, e⟩ := ab_m1 e
    obtain ⟨x9, r9, rfl, e9, e⟩ := ab_m1 e
    cases ab_m0 e
    obtain ⟨g1, g1'⟩ := c1 _ _ e1
    obtain ⟨g2, g2'⟩ := c2 _ _ e2
    obtain ⟨g3, g3'⟩ := c3 _ _ e3
    obtain ⟨g4, g4'⟩ := c4 _ _ e4
    obtain ⟨g5, g5'⟩ := c5 _ _ e5
    have i7 := ab_iv_spec hR e7
    have i8 := ab_iv_spec hR e8
    refine ⟨[x1, x2, x3, x4, x5, x6, x7, x8, x9], by simp only [List.map_cons, List.map_nil, e1, e2, e3, e4, e5, e6, e7, e8, e9], ?_⟩
    obtain ⟨off9, off9', st9, tag9, a9, b9, hi9, nf, ff, ng, gg, hy9, hr9, ht9⟩ := hm
    simp only [List.drop_succ_cons, List.drop_zero, List.cons.injEq, and_true] at hy9
    obtain ⟨rfl, rfl, rfl, rfl, rfl, rfl, rfl⟩ := hy9
    simp only [List.take_succ_cons, List.take_zero, List.map_cons, List.map_nil, List.cons.injEq, and_true] at hr9
    obtain ⟨hr1, hr2⟩ := hr9
    have key : ∀ (o k : Nat) (nn : Nat) (hh : Nat → Int32) (nn' : Nat) (hh' : Nat → Int32), (!(ab_ie (k : Int) j) || (ab_le ((q' : Int) + 1) (o + s1 * (ab_iv env aa).1) || ab_le (o + s1 * ((ab_iv env bb).2 - 1) + 1) q)) = true → ab_arr ws k = some (nn, hh) → ab_arr (ws.set j (a, .inl (cA, n, .inl (upd fn y.toNatClampNeg v)))) k = some (nn', hh') → nn' = nn ∧ ∀ jj : Nat, x7.toInt ≤ (jj : Int) → (jj : Int) < x8.toInt → hh' (o + s1 * jj) = hh (o + s1 * jj) := by
      intro o k nn hh nn' hh' hc ha ha'
      rcases ab_arr_two (p := y.toNatClampNeg) (v := v) hj k ha with ⟨w1, w2⟩ | ⟨w1, w2⟩
      · rw [w2] at ha'
        cases ha'
        exact ⟨rfl, fun jj _ _ => rfl⟩
      · rw [w2] at ha'
        cases ha'
        refine ⟨rfl, fun jj j1 j2 => ?_⟩
        have hkj : ab_ie (k : Int) j = true := by rw [ab_ie_iff, w1]
        rw [hkj] at hc
        simp only [Bool.not_true, Bool.false_or, Bool.or_eq_true, ab_le_iff] at hc
        have hs0 : (0 : Int) ≤ (s1 : Int) := Int.natCast_nonneg _
        have m1 : (s1 : Int) * (ab_iv env aa).1 ≤ (s1 : Int) * (jj : Int) := Int.mul_le_mul_of_nonneg_left (by omega) hs0
        have m2 : (s1 : Int) * (jj : Int) ≤ (s1 : Int) * ((ab_iv env bb).2 - 1) := Int.mul_le_mul_of_nonneg_left (by omega) hs0
        have m3 : ((s1 * jj : Nat) : Int) = (s1 : Int) * (jj : Int) := by simp
        have hne : ¬ o + s1 * jj = y.toNatClampNeg := by
          intro he
          have : ((o + s1 * jj : Nat) : Int) = (y.toNatClampNeg : Int) := by rw [he]
          rw [Int.natCast_add, m3] at this
          rcases hc with hc | hc <;> omega
        simp only [upd, hne, if_false]
    obtain ⟨nf', ff', hA⟩ : ∃ nf' ff', ab_arr (ws.set j (a, .inl (cA, n, .inl (upd fn y.toNatClampNeg v)))) k1 = some (nf', ff') := by
      rw [g1'] at hr1
      rcases ab_arr_two (p := y.toNatClampNeg) (v := v) hj k1 hr1 with ⟨-, w2⟩ | ⟨-, w2⟩ <;> exact ⟨_, _, w2⟩
    obtain ⟨ng', gg', hB⟩ : ∃ ng' gg', ab_arr (ws.set j (a, .inl (cA, n, .inl (upd fn y.toNatClampNeg v)))) k2 = some (ng', gg') := by
      rw [g2'] at hr2
      rcases ab_arr_two (p := y.toNatClampNeg) (v := v) hj k2 hr2 with ⟨-, w2⟩ | ⟨-, w2⟩ <;> exact ⟨_, _, w2⟩
    rw [g1'] at hr1
    rw [g2'] at hr2
    obtain ⟨l1, l2⟩ := key o1 k1 nf ff nf' ff' hk.1 hr1 hA
    obtain ⟨l3, l4⟩ := key o2 k2 ng gg ng' gg' hk.2 hr2 hB
    refine ⟨x3, x4, x5, x6, x7, x8, x9, nf', ff', ng', gg', rfl, ?_, ?_⟩
    · simp only [List.take_succ_cons, List.take_zero, List.map_cons, List.map_nil, g1', g2', hA, hB]
    · intro jj j1 j2 j3 j4 j5
      rw [g3', g5'] at j3 j5
      rw [g4', g5'] at j4 ⊢
      rw [l1] at j3
      rw [l3] at j4
      rw [l2 jj j1 j2] at j5
      rw [l4 jj j1 j2]
      have := ht9 jj j1 j2
      rw [g3', g4', g5'] at this
      exact this j3 j4 j5
  · rename_i kr k2 off ii nn
    obtain ⟨k1, -, hk, c1⟩ := ab_cI_ok hk
    obtain ⟨o1, -, hk, c3⟩ := ab_cI_ok hk
    obtain ⟨x1, r1, rfl, e1, e⟩ := ab_m1 e
    obtain ⟨x2, r2, rfl, e2, e⟩ := ab_m1 e
    obtain ⟨x3, r3, rfl, e3, e⟩ := ab_m1 e
    obtain ⟨x4, r4, rfl, e4, e⟩ := ab_m1 e
    obtain ⟨x5, r5, rfl, e5, e⟩ := ab_m1 e
    cases ab_m0 e
    obtain ⟨g1, g1'⟩ := c1 _ _ e1
    obtain ⟨g3, g3'⟩ := c3 _ _ e3
    refine ⟨[x1, x2, x3, x4, x5], by simp only [List.map_cons, List.map_nil, e1, e2, e3, e4, e5], ?_⟩
    obtain ⟨off9, i9, n9, nf, ff, rr, hy9, hr9, t1, t2, t3, t4, t5⟩ := hm
    simp only [List.drop_succ_cons, List.drop_zero, List.cons.injEq, and_true] at hy9
    obtain ⟨rfl, rfl, rfl⟩ := hy9
    simp only [List.take_succ_cons, List.take_zero, List.map_cons, List.map_nil, List.cons.injEq, and_true] at hr9
    obtain ⟨hr1, hr2⟩ := hr9
    rw [g1'] at hr1
    rcases ab_arr_two (p := y.toNatClampNeg) (v := v) hj k1 hr1 with ⟨w1, w2⟩ | ⟨w1, w2⟩
    · refine ⟨x3, x4, x5, nf, ff, (ab_arr (ws.set j (a, .inl (cA, n, .inl (upd fn y.toNatClampNeg v)))) x2.toNatClampNeg), rfl, ?_, t1, t2, t3, t4, t5⟩
      simp only [List.take_succ_cons, List.take_zero, List.map_cons, List.map_nil, g1', w2]
    · have hkj : ab_ie (k1 : Int) j = true := by rw [ab_ie_iff, w1]
      rw [hkj] at hk
      simp only [Bool.not_true, Bool.false_or, Bool.or_eq_true, ab_le_iff] at hk
      refine ⟨x3, x4, x5, nf, upd ff y.toNatClampNeg v, (ab_arr (ws.set j (a, .inl (cA, n, .inl (upd fn y.toNatClampNeg v)))) x2.toNatClampNeg), rfl, ?_, t1, t2, t3, ?_, fun i' h45 hi' => ?_⟩
      · simp only [List.take_succ_cons, List.take_zero, List.map_cons, List.map_nil, g1', w2]
      · have h9 : (x4.toNatClampNeg : Int) = x4.toInt := by
          show (x4.toInt.toNat : Int) = x4.toInt
          omega
        rw [fk_rpn_upd (by rw [g3']; omega)]
        exact t4
      · rw [fk_rpn_upd (by rw [g3']; omega)]
        refine t5 i' h45 ?_
        have hne : ¬ x3.toNatClampNeg = y.toNatClampNeg := by rw [g3']; omega
        simp only [upd, hne, if_false] at hi'
        exact hi'
  · rename_i kr ks c t w
    obtain ⟨k1, -, hk, c1⟩ := ab_cI_ok hk
    obtain ⟨k2, -, hk, c2⟩ := ab_cI_ok hk
    rw [Bool.and_eq_true] at hk
    obtain ⟨x1, r1, rfl, e1, e⟩ := ab_m1 e
    obtain ⟨x2, r2, rfl, e2, e⟩ := ab_m1 e
    obtain ⟨x3, r3, rfl, e3, e⟩ := ab_m1 e
    obtain ⟨x4, r4, rfl, e4, e⟩ := ab_m1 e
    obtain ⟨x5, r5, rfl, e5, e⟩ := ab_m1 e
    cases ab_m0 e
    obtain ⟨g1, g1'⟩ := c1 _ _ e1
    obtain ⟨g2, g2'⟩ := c2 _ _ e2
    have i3 := ab_iv_spec hR e3
    have i4 := ab_iv_spec hR e4
    refine ⟨[x1, x2, x3, x4, x5], by simp only [List.map_cons, List.map_nil, e1, e2, e3, e4, e5], ?_⟩
    obtain ⟨c9, t9, w9, nf, ff, ng, gg, d, hy9, hr9, t1, t2, t3, t4, t5⟩ := hm
    simp only [List.drop_succ_cons, List.drop_zero, List.cons.injEq, and_true] at hy9
    obtain ⟨rfl, rfl, rfl⟩ := hy9
    simp only [List.take_succ_cons, List.take_zero, List.map_cons, List.map_nil, List.cons.injEq, and_true] at hr9
    obtain ⟨hr1, hr2⟩ := hr9
    rw [g1'] at hr1
    rw [g2'] at hr2
    have n3 : (x3.toNatClampNeg : Int) = x3.toInt := by
      show (x3.toInt.toNat : Int) = x3.toInt
      omega
    have n4 : (x4.toNatClampNeg : Int) = x4.toInt := by
      show (x4.toInt.toNat : Int) = x4.toInt
      omega
    obtain ⟨ff', hA, hA2⟩ : ∃ ff', ab_arr (ws.set j (a, .inl (cA, n, .inl (upd fn y.toNatClampNeg v)))) k1 = some (nf, ff') ∧ fk_rpn ff' 0 x3.toNatClampNeg = fk_rpn ff 0 x3.toNatClampNeg := by
      rcases ab_arr_two (p := y.toNatClampNeg) (v := v) hj k1 hr1 with ⟨w1, w2⟩ | ⟨w1, w2⟩
      · exact ⟨_, w2, rfl⟩
      · refine ⟨_, w2, fk_rpn_upd ?_⟩
        have hkj : ab_ie (k1 : Int) j = true := by rw [ab_ie_iff, w1]
        have hk1 := hk.1
        rw [hkj, Bool.not_true, Bool.false_or, ab_ivK_eq, ab_le_iff] at hk1
        omega
    obtain ⟨gg', hB, hB2⟩ : ∃ gg', ab_arr (ws.set j (a, .inl (cA, n, .inl (upd fn y.toNatClampNeg v)))) k2 = some (ng, gg') ∧ fk_nb gg' x4.toNatClampNeg = fk_nb gg x4.toNatClampNeg := by
      rcases ab_arr_two (p := y.toNatClampNeg) (v := v) hj k2 hr2 with ⟨w1, w2⟩ | ⟨w1, w2⟩
      · exact ⟨_, w2, rfl⟩
      · refine ⟨_, w2, fk_nb_upd ?_⟩
        have hkj : ab_ie (k2 : Int) j = true := by rw [ab_ie_iff, w1]
        have hk2 := hk.2
        rw [hkj, Bool.not_true, Bool.false_or, Bool.or_eq_true] at hk2
        rcases hk2 with hk2 | hk2
        · have e9 := ab_eqI_eq hk2
          rw [e9] at hy
          rw [hy] at e4
          cases e4
          exact Nat.le_refl _
        · rw [ab_ivK_eq, ab_le_iff] at hk2
          omega
    refine ⟨x3, x4, x5, nf, ff', ng, gg', d, rfl, ?_, t1, t2, t3, by rw [hA2]; exact t4, by rw [hB2]; exact t5⟩
    simp only [List.take_succ_cons, List.take_zero, List.map_cons, List.map_nil, g1', g2', hA, hB]
  · cases hk
