/-! Rows copied: they are alike; more preludes. -/
theorem ab_eq_fs {z : ab_Z} {ws : va_W} {jd js a as n : Nat} {cA cAs : ClassId} {h' f : Nat → Int32} {q0 : Nat × va_E} (hs : ws[js]? = some (as, .inl (cAs, n, .inl f))) (hne : js ≠ jd) (b1 : jd ≤ 2147483647) (b2 : js ≤ 2147483647) (hd : ws[jd]? = some q0) (hh : ∀ j : Nat, j < n → h' j = f j) : ab_fs z (ws.set jd (a, .inl (cA, n, .inl h'))) (3, [(none, (jd : Int)), (none, (js : Int))]) := by
  refine ⟨[Int32.ofInt jd, Int32.ofInt js], rfl, n, h', f, ?_, hh⟩
  have hl : jd < ws.length := (List.getElem?_eq_some_iff.mp hd).1
  simp only [List.take_succ_cons, List.take_zero, List.map_cons, List.map_nil, ab_nI b1, ab_nI b2]
  have e1 : ab_arr (ws.set jd (a, .inl (cA, n, .inl h'))) jd = some (n, h') := by
    unfold ab_arr
    rw [List.getElem?_set]
    simp only [hl, if_true]
  have e2 : ab_arr (ws.set jd (a, .inl (cA, n, .inl h'))) js = some (n, f) := by
    rw [ab_arr_set hne]
    unfold ab_arr
    rw [hs]
  rw [e1, e2]
noncomputable def op_acF (np : Nat) : ab_P := fun _ env nl aw cl sl lv st => match st with
  | .inl n :: .inl dp :: .inr (.inr (2, jd)) :: .inl sp :: .inr (.inr (2, js)) :: st => (match ab_get aw.1 js with
    | some (.inr (t1, n1, _, d1, o1)) => (match ab_get aw.1 jd with
      | some (.inr (t2, n2, true, _, _)) => bif Nat.beq 0 t1 && Nat.beq 0 t2 && Nat.beq n1 n2 && ab_b5 n1 && Nat.ble (ab_csum st) 8 && Nat.ble jd 2147483647 && (Nat.ble js 2147483647 && !(Nat.beq js jd)) then
          ab_ixK env n 100001 (fun q => bif Nat.beq q n1 then ab_ixK env dp 1 (fun _ => ab_ixK env sp 1 (fun _ => ab_setK aw.1 jd (.inr (t1, n1, true, d1, o1)) (fun cs => ab_dropK jd aw.2 (fun fx => some [((env, nl, (cs, (3, [(none, (jd : Int)), (none, (js : Int))]) :: fx), cl, sl), np, lv, st)])))) else none) else none
      | _ => none)
    | _ => none)
  | _ => none
section
variable {p : Program} {l : Launch} {e : Env} {R : Room} {s : State} {m : MethodId} {args : Array Value} {below : List Frame} {meth : Method} {c : Code} {Q : State → Prop} {cc : ByteArray} {own : String} {nL : Nat} {X : ab_X} {D : va_G} {z0 : ab_Z0} {cal : ab_K} {pc : Nat}
theorem so_aciF (C : ab_cx p R s m args c cc own nL X D) {i : Nat} (hw1 : Cond.methodLink own i arraycopyName ∈ ab_TG) (hw2 : Cond.native arraycopyName ∈ ab_TG) (hw3 : Cond.static arraycopyName ∈ ab_TG) (hw4 : Cond.initialized "java/lang/System" ∈ ab_TG) (d : decode cc pc = .ok (.invokestatic i, 3)) : ab_so p l e R s m args below meth c Q nL X D z0 cal pc (op_acF (pc + 3)) := by
  intro env nl aw cl sl lv st r hr hk z ws H locs ls cst hR hl hs
  dsimp only at hR hl hs
  unfold op_acF at hr
  split at hr
  · rename_i n dp jd sp js st'
    rw [ab_get_eq] at hr
    split at hr
    · rename_i t1 n1 fl1 d1 o1 hjs
      rw [ab_get_eq] at hr
      split at hr
      · rename_i t2 n2 d2 o2 hjd
        cases hb : (Nat.beq 0 t1 && Nat.beq 0 t2 && Nat.beq n1 n2 && ab_b5 n1 && Nat.ble (ab_csum st') 8 && Nat.ble jd 2147483647 && (Nat.ble js 2147483647 && !(Nat.beq js jd)))
        · rw [hb] at hr; cases hr
        · rw [hb, cond_true] at hr
          rw [Bool.and_eq_true, Bool.and_eq_true, Bool.and_eq_true, Bool.and_eq_true, Bool.and_eq_true, Bool.and_eq_true, Bool.and_eq_true] at hb
          obtain ⟨⟨⟨⟨⟨⟨b1, b2⟩, b3⟩, b4⟩, b5⟩, b6⟩, b7, b8⟩ := hb
          have hne : js ≠ jd := fun e9 => by rw [e9, Nat.beq_refl] at b8; cases b8
          have hj9 : jd < 2147483648 := Nat.lt_succ_of_le (Nat.le_of_ble_eq_true b6)
          have e1 := Nat.eq_of_beq_eq_true b1
          have e2 := Nat.eq_of_beq_eq_true b2
          have e3 := Nat.eq_of_beq_eq_true b3
          subst e1 e2 e3
          obtain ⟨x1, r1, rfl, p1, q1⟩ := ab_st1 hs
          obtain ⟨y1, rfl, u1⟩ := ab_evi p1
          obtain ⟨x2, r2, rfl, p2, q2⟩ := ab_st1 q1
          obtain ⟨y2, rfl, u2⟩ := ab_evi p2
          obtain ⟨x3, r3, rfl, p3, q3⟩ := ab_st1 q2
          obtain ⟨a3, rfl, u3⟩ := ab_ref2 p3
          obtain ⟨x4, r4, rfl, p4, q4⟩ := ab_st1 q3
          obtain ⟨y4, rfl, u4⟩ := ab_evi p4
          obtain ⟨x5, r5, rfl, p5, q5⟩ := ab_st1 q4
          obtain ⟨a5, rfl, u5⟩ := ab_ref2 p5
          obtain ⟨k1, k2, k3⟩ := ab_ixK_ok hr hR.1 u1 (by decide)
          cases hb6 : Nat.beq y1.toNatClampNeg n1
          · rw [hb6] at k1; cases k1
          · rw [hb6, cond_true] at k1
            have e6 := Nat.eq_of_beq_eq_true hb6
            obtain ⟨k4, k5, k6⟩ := ab_ixK_ok k1 hR.1 u2 (by decide)
            obtain ⟨k7, k8, k9⟩ := ab_ixK_ok k4 hR.1 u4 (by decide)
            rw [ab_setK_eq, ab_dropK_eq] at k7
            cases k7
            have z2 : y2.toNatClampNeg = 0 := by omega
            have z4 : y4.toNatClampNeg = 0 := by omega
            obtain ⟨as, es, c1, c2, cA, xx, rfl, ⟨f, rfl⟩, c5, c6⟩ := hR.cell hjs
            cases Option.some.inj (c2.symm.trans u5)
            obtain ⟨ad, ed, c1', c2', cA', xx', rfl, ⟨g, rfl⟩, c5', c6'⟩ := hR.cell hjd
            cases Option.some.inj (c2'.symm.trans u3)
            have hcs := ab_csum_ok (ab_cxE C).2.2.2.2.1 q5
            have hb5 := Nat.le_of_ble_eq_true b5
            have hnw : nativeFrameWords "java/lang/System" "arraycopy" 5 ≤ 100 := by decide +kernel
            have hK2 : va_K D vwCl [(cA, .int), (cA', .int)] s := ((ab_cxE C).Kt c5).app ((ab_cxE C).Kt c5')
            refine va_copyi (cl := vwCl) (D := D) (tys := [(cA, .int), (cA', .int)]) (ty := .int) C.1 C.2.1 (C.2.2.1.trans hl.1.symm) C.2.2.2.1 (C.2.2.2.2.1 _ hw1) (C.2.2.2.2.1 _ hw2) (C.2.2.2.2.1 _ hw3) (C.2.2.2.2.1 _ hw4) hK2 hR.2.2.2.2.1 hR.2.2.2.2.2.1 hR.2.2.2.2.2.2.1 js jd 0 1 c1 c1' rfl rfl rfl (fun h => k9 (Or.inl h)) (fun h => k6 (Or.inl h)) (fun h => k3 (Or.inl h)) (by rw [z4, e6]; exact Nat.le_of_eq (Nat.zero_add _)) (by rw [z2, e6]; exact Nat.le_of_eq (Nat.zero_add _)) (fun _ _ => rfl) (by have := C.2.2.2.2.2.2.1; omega) (by have := C.2.2.2.2.2.2.2; rw [hcs]; omega) d (fun H1 locs1 g1 g2 g3 => ?_)
            refine hk _ List.mem_cons_self z _ H1 locs1 ls r5 (hR.set hjd c1' (c := .inr (0, n1, true, d1, o1)) ⟨cA', _, rfl, ⟨_, rfl⟩, c5', fun j hj => ?_⟩ (ab_flg_ne (ab_b5_ok b4).2) (ab_fC_nm (ab_ism_ne (ab_b5_ok b4).2)) (fun f9 hf9 => (List.mem_cons.mp hf9).elim (fun e9 => e9 ▸ ab_eq_fs c1 hne (Nat.le_of_ble_eq_true b6) (Nat.le_of_ble_eq_true b7) c1' (fun j hj => by
              have hj7 : j < n1 := hj
              simp only [z2, z4, e6]
              rw [pk_cpy_in (Nat.zero_le _) (by omega)]
              simp)) (fun hf9 => ab_fs.set hj9 hR.2.2.2.1.2 f9 hf9)) g1 g2 g3) hl q5
            have hj' : j < n1 := hj
            have c9 := c6 j hj
            simp only [ab_cv, z2, z4, e6] at c9 ⊢
            rw [pk_cpy_in (Nat.zero_le _) (by omega)]
            simpa using c9
      · cases hr
    · cases hr
  · cases hr
end
/-- two rows are known to be alike -/
noncomputable def ab_qex (k1 k2 : Nat) (fx : List ab_Y) : Bool := fx.any (fun f => match f with
  | (3, [x, y]) => ab_eqI x (none, (k1 : Int)) && ab_eqI y (none, (k2 : Int))
  | _ => false)
theorem ab_qex_ok {k1 k2 : Nat} (b1 : k1 ≤ 2147483647) (b2 : k2 ≤ 2147483647) {fx : List ab_Y} {z : ab_Z} {ws : va_W} (h : ab_qex k1 k2 fx = true) (hf : ∀ f ∈ fx, ab_fs z ws f) : ∃ (n : Nat) (f g : Nat → Int32), ab_arr ws k1 = some (n, f) ∧ ab_arr ws k2 = some (n, g) ∧ ∀ j : Nat, j < n → f j = g j := by
  obtain ⟨f, h1, h2⟩ := List.any_eq_true.mp h
  split at h2
  · rename_i x y
    rw [Bool.and_eq_true] at h2
    cases ab_eqI_eq h2.1
    cases ab_eqI_eq h2.2
    obtain ⟨xs, e, n, ff, gg, h3, h4⟩ := hf _ h1
    obtain ⟨x1, r1, rfl, e1, e⟩ := ab_m1 e
    obtain ⟨x2, r2, rfl, e2, e⟩ := ab_m1 e
    cases ab_m0 e
    simp only [ab_evI, Option.some.injEq] at e1 e2
    subst e1 e2
    simp only [List.take_succ_cons, List.take_zero, List.map_cons, List.map_nil, List.cons.injEq, and_true, ab_nI b1, ab_nI b2] at h3
    exact ⟨n, ff, gg, h3.1, h3.2, h4⟩
  · cases h2
/-- what is said of rows holds of their copies -/
noncomputable def pr_tE (w : ab_TS) (k1 k2 N : Nat) : ab_PR := fun env aw _ _ => bif ab_tbd w && ab_tbd (k1, k2, w.2.2) && Nat.ble N 2147483647 && ab_tex w (fun a b => ab_eqI a (none, 0) && ab_eqI b (none, (N : Int))) aw.2 && ab_qex k1 w.1 aw.2 && ab_qex k2 w.2.1 aw.2 then some [(env, ab_tmk (k1, k2, w.2.2) (none, 0) (none, (N : Int)) :: aw.2)] else none
theorem pr_tE_ok {X : ab_X} {w : ab_TS} {k1 k2 N : Nat} : ab_prs X (pr_tE w k1 k2 N) := by
  intro env aw lv st l z ws s cst h h1 h2 h3 h4
  unfold pr_tE at h
  cases hb : (ab_tbd w && ab_tbd (k1, k2, w.2.2) && Nat.ble N 2147483647 && ab_tex w (fun a b => ab_eqI a (none, 0) && ab_eqI b (none, (N : Int))) aw.2 && ab_qex k1 w.1 aw.2 && ab_qex k2 w.2.1 aw.2)
  · rw [hb] at h; cases h
  · rw [hb, cond_true] at h
    cases h
    rw [Bool.and_eq_true, Bool.and_eq_true, Bool.and_eq_true, Bool.and_eq_true, Bool.and_eq_true] at hb
    obtain ⟨⟨⟨⟨⟨b1, b6⟩, b4⟩, b2⟩, b3⟩, b5⟩ := hb
    have q1 : w.1 ≤ 2147483647 ∧ w.2.1 ≤ 2147483647 := by
      unfold ab_tbd at b1
      simp only [Bool.and_eq_true] at b1
      exact ⟨Nat.le_of_ble_eq_true b1.1.1.1.1.1.1, Nat.le_of_ble_eq_true b1.1.1.1.1.1.2⟩
    have q2 : k1 ≤ 2147483647 ∧ k2 ≤ 2147483647 := by
      unfold ab_tbd at b6
      simp only [Bool.and_eq_true] at b6
      exact ⟨Nat.le_of_ble_eq_true b6.1.1.1.1.1.1, Nat.le_of_ble_eq_true b6.1.1.1.1.1.2⟩
    obtain ⟨a0, b0, x, y, hp, e1, e2, nf, f, ng, g, hf, hg, hh⟩ := ab_tex_ok b1 b2 h2.2
    rw [Bool.and_eq_true] at hp
    cases ab_eqI_eq hp.1
    cases ab_eqI_eq hp.2
    obtain ⟨n1, f1, f2, k3, k4, k5⟩ := ab_qex_ok q2.1 q1.1 b3 h2.2
    obtain ⟨n2, g1, g2, k6, k7, k8⟩ := ab_qex_ok q2.2 q1.2 b5 h2.2
    rw [hf] at k4
    rw [hg] at k7
    cases k4
    cases k7
    refine ⟨_, List.mem_cons_self, h1, fun q' hq => ?_⟩
    rcases List.mem_cons.mp hq with rfl | hq
    · refine ab_t_of b6 (x := x) (y := y) e1 e2 ⟨_, f1, _, g1, k3, k6, fun j j1 j2 j3 j4 j5 => ?_⟩
      dsimp only at j3 j4 j5 ⊢
      rw [k5 _ j3] at j5
      rw [k8 _ j4]
      exact hh j j1 j2 j3 j4 j5
    · exact h2.2 q' hq
/-- the same, if it can be had -/
noncomputable def pr_tT (w : ab_TS) (k1 k2 N : Nat) : ab_PR := fun env aw _ _ => bif ab_tbd w && ab_tbd (k1, k2, w.2.2) && Nat.ble N 2147483647 && ab_tex w (fun a b => ab_eqI a (none, 0) && ab_eqI b (none, (N : Int))) aw.2 && ab_qex k1 w.1 aw.2 && ab_qex k2 w.2.1 aw.2 then some [(env, ab_tmk (k1, k2, w.2.2) (none, 0) (none, (N : Int)) :: aw.2)] else some [(env, aw.2)]
theorem pr_tT_ok {X : ab_X} {w : ab_TS} {k1 k2 N : Nat} : ab_prs X (pr_tT w k1 k2 N) := by
  intro env aw lv st l z ws s cst h h1 h2 h3 h4
  unfold pr_tT at h
  cases hb : (ab_tbd w && ab_tbd (k1, k2, w.2.2) && Nat.ble N 2147483647 && ab_tex w (fun a b => ab_eqI a (none, 0) && ab_eqI b (none, (N : Int))) aw.2 && ab_qex k1 w.1 aw.2 && ab_qex k2 w.2.1 aw.2)
  · rw [hb, cond_false] at h; cases h; exact ⟨(env, aw.2), List.mem_cons_self, h1, h2.2⟩
  · rw [hb, cond_true] at h
    cases h
    rw [Bool.and_eq_true, Bool.and_eq_true, Bool.and_eq_true, Bool.and_eq_true, Bool.and_eq_true] at hb
    obtain ⟨⟨⟨⟨⟨b1, b6⟩, b4⟩, b2⟩, b3⟩, b5⟩ := hb
    have q1 : w.1 ≤ 2147483647 ∧ w.2.1 ≤ 2147483647 := by
      unfold ab_tbd at b1
      simp only [Bool.and_eq_true] at b1
      exact ⟨Nat.le_of_ble_eq_true b1.1.1.1.1.1.1, Nat.le_of_ble_eq_true b1.1.1.1.1.1.2⟩
    have q2 : k1 ≤ 2147483647 ∧ k2 ≤ 2147483647 := by
      unfold ab_tbd at b6
      simp only [Bool.and_eq_true] at b6
      exact ⟨Nat.le_of_ble_eq_true b6.1.1.1.1.1.1, Nat.le_of_ble_eq_true b6.1.1.1.1.1.2⟩
    obtain ⟨a0, b0, x, y, hp, e1, e2, nf, f, ng, g, hf, hg, hh⟩ := ab_tex_ok b1 b2 h2.2
    rw [Bool.and_eq_true] at hp
    cases ab_eqI_eq hp.1
    cases ab_eqI_eq hp.2
    obtain ⟨n1, f1, f2, k3, k4, k5⟩ := ab_qex_ok q2.1 q1.1 b3 h2.2
    obtain ⟨n2, g1, g2, k6, k7, k8⟩ := ab_qex_ok q2.2 q1.2 b5 h2.2
    rw [hf] at k4
    rw [hg] at k7
    cases k4
    cases k7
    refine ⟨_, List.mem_cons_self, h1, fun q' hq => ?_⟩
    rcases List.mem_cons.mp hq with rfl | hq
    · refine ab_t_of b6 (x := x) (y := y) e1 e2 ⟨_, f1, _, g1, k3, k6, fun j j1 j2 j3 j4 j5 => ?_⟩
      dsimp only at j3 j4 j5 ⊢
      rw [k5 _ j3] at j5
      rw [k8 _ j4]
      exact hh j j1 j2 j3 j4 j5
    · exact h2.2 q' hq
/-- an int of the stack: below 0, 0, above 0 -/
noncomputable def pr_z (n : Nat) : ab_PR := fun env aw _ st => match ab_get st n with
  | some (.inl a) => some ((match ab_rf env a (-2147483648) (-1) with
    | some e => [(e, aw.2)]
    | none => []) ++ ((match ab_rf env a 0 0 with
    | some e => [(e, aw.2)]
    | none => []) ++ (match ab_rf env a 1 2147483647 with
    | some e => [(e, aw.2)]
    | none => [])))
  | _ => none
theorem ab_st_at {X : ab_X} {z : ab_Z} : ∀ {st : List ab_V} {cst : List Value} {n : Nat} {v : ab_V}, st.map (ab_ev X z) = cst.map some → st[n]? = some v → ∃ x, ab_ev X z v = some x
  | [], _, n, v, _, h => by simp at h
  | a :: st, cst, n, v, e, h => by
    obtain ⟨x, r, rfl, e1, e2⟩ := ab_st1 e
    cases n with
    | zero =>
      simp only [List.getElem?_cons_zero, Option.some.injEq] at h
      subst h
      exact ⟨x, e1⟩
    | succ n => exact ab_st_at e2 (by simpa using h)
theorem pr_z_ok {X : ab_X} {n : Nat} : ab_prs X (pr_z n) := by
  intro env aw lv st l z ws s cst h h1 h2 h3 h4
  unfold pr_z at h
  rw [ab_get_eq] at h
  split at h
  · rename_i a ha
    cases h
    obtain ⟨x, hx⟩ := ab_st_at h4 ha
    obtain ⟨y, -, hy⟩ := ab_evi hx
    have hl := Int32.le_toInt y
    have hu := Int32.toInt_lt y
    by_cases c1 : y.toInt < 0
    · obtain ⟨e9, r1, r2⟩ := ab_rf_spec h1 hy (lo := -2147483648) (hi := -1) (by omega) (by omega)
      rw [r1]
      exact ⟨(e9, aw.2), List.mem_append_left _ List.mem_cons_self, r2, h2.2⟩
    · by_cases c2 : y.toInt = 0
      · obtain ⟨e9, r1, r2⟩ := ab_rf_spec h1 hy (lo := 0) (hi := 0) (by omega) (by omega)
        rw [r1]
        exact ⟨(e9, aw.2), List.mem_append_right _ (List.mem_append_left _ List.mem_cons_self), r2, h2.2⟩
      · obtain ⟨e9, r1, r2⟩ := ab_rf_spec h1 hy (lo := 1) (hi := 2147483647) (by omega) (by omega)
        rw [r1]
        exact ⟨(e9, aw.2), List.mem_append_right _ (List.mem_append_right _ List.mem_cons_self), r2, h2.2⟩
  · cases h
/-- by the object that a local refers to, and two rows of its fields -/
noncomputable def pr_dyn (i kf kg : Nat) (g : Nat → Nat → Nat → ab_PR) : ab_PR := fun env aw lv st => match ab_lk lv i with
  | some (.inr (.inr (2, j))) => (match ab_get aw.1 j with
    | some (.inl (_, fs)) => (match ab_get fs kf, ab_get fs kg with
      | some (_, u), some (_, v) => (match u, v with
        | .inr (.inr (some [a])), .inr (.inr (some [b])) => g j a b env aw lv st
        | .inl (.inr (.inr (2, a))), .inl (.inr (.inr (2, b))) => g j a b env aw lv st
        | .inl (.inr (.inr (2, a))), .inr (.inr (some [b])) => g j a b env aw lv st
        | .inr (.inr (some [a])), .inl (.inr (.inr (2, b))) => g j a b env aw lv st
        | _, _ => none)
      | _, _ => none)
    | _ => none)
  | _ => none
theorem pr_dyn_ok {X : ab_X} {i kf kg : Nat} {g : Nat → Nat → Nat → ab_PR} (hg : ∀ j a b : Nat, ab_prs X (g j a b)) : ab_prs X (pr_dyn i kf kg g) := by
  intro env aw lv st l z ws s cst h h1 h2 h3 h4
  unfold pr_dyn at h
  split at h
  · split at h
    · split at h
      · split at h
        · exact hg _ _ _ env aw lv st l z ws s cst h h1 h2 h3 h4
        · exact hg _ _ _ env aw lv st l z ws s cst h h1 h2 h3 h4
        · exact hg _ _ _ env aw lv st l z ws s cst h h1 h2 h3 h4
        · exact hg _ _ _ env aw lv st l z ws s cst h h1 h2 h3 h4
        · cases h
      · cases h
    · cases h
  · cases h
