/-! Object.<init>; rows copied; Math. -/
/-- all of one row into another one of the same length -/
noncomputable def op_ac (t np : Nat) : ab_P := fun _ env nl aw cl sl lv st => match st with
  | .inl n :: .inl dp :: .inr (.inr (2, jd)) :: .inl sp :: .inr (.inr (2, js)) :: st => (match ab_get aw.1 js with
    | some (.inr (t1, n1, _, d1, o1)) => (match ab_get aw.1 jd with
      | some (.inr (t2, n2, true, _, _)) => bif Nat.beq t t1 && Nat.beq t t2 && Nat.beq n1 n2 && ab_b5 n1 && Nat.ble (ab_csum st) 8 && Nat.ble jd 2147483647 then
          ab_ixK env n 100001 (fun q => bif Nat.beq q n1 then ab_ixK env dp 1 (fun _ => ab_ixK env sp 1 (fun _ => ab_setK aw.1 jd (.inr (t1, n1, true, d1, o1)) (fun cs => ab_dropK jd aw.2 (fun fx => some [((env, nl, (cs, fx), cl, sl), np, lv, st)])))) else none) else none
      | _ => none)
    | _ => none)
  | _ => none
/-- as many ints as are told of one row to the beginning of another one of the same length -/
noncomputable def op_acp (np : Nat) : ab_P := fun _ env nl aw cl sl lv st => match st with
  | .inl n :: .inl dp :: .inr (.inr (2, jd)) :: .inl sp :: .inr (.inr (2, js)) :: st => (match ab_get aw.1 js with
    | some (.inr (t1, n1, _, d1, o1)) => (match ab_get aw.1 jd with
      | some (.inr (t2, n2, true, d2, o2)) => bif Nat.beq 0 t1 && Nat.beq 0 t2 && Nat.beq n1 n2 && ab_b5 n1 && Nat.ble (ab_csum st) 8 && Nat.ble jd 2147483647 then
          ab_ivK env n (fun lo hi => bif ab_le 0 lo && ab_le hi n1 then ab_ixK env dp 1 (fun _ => ab_ixK env sp 1 (fun _ => ab_wivK env d1 (fun x y => ab_hulK env 0 n1 o1 x y (fun x y => ab_wivK env d2 (fun x2 y2 => ab_fi (ab_mn x x2) (fun x => ab_fi (ab_mx y y2) (fun y => ab_hulK env 0 n1 o2 x y (fun x y => ab_setK aw.1 jd (.inr (0, n1, true, .inr (.inl (x, y)), [])) (fun cs => ab_dropK jd aw.2 (fun fx => some [((env, nl, (cs, fx), cl, sl), np, lv, st)]))) none))) none) none) none)) else none) else none
      | _ => none)
    | _ => none)
  | _ => none
noncomputable def op_oi (np : Nat) : ab_P := fun _ env nl aw cl sl lv st => match st with
  | .inr (.inr r) :: st => bif ab_nn r && Nat.ble (ab_csum st) 8 then some [((env, nl, aw, cl, sl), np, lv, st)] else none
  | _ => none
/-- an int out of two, out of one -/
noncomputable def op_mm2 (mc ms np : Nat) : ab_P := fun _ env nl aw cl sl lv st => match st with
  | .inl _ :: .inl _ :: st => bif Nat.ble (ab_csum st) 8 && Nat.ble cl mc && Nat.ble sl ms then ab_frK env (-2147483648) 2147483647 (fun env a => some [((env, nl, aw, cl, sl), np, lv, .inl a :: st)]) else none
  | _ => none
noncomputable def op_mm1 (mc ms np : Nat) : ab_P := fun _ env nl aw cl sl lv st => match st with
  | .inl _ :: st => bif Nat.ble (ab_csum st) 8 && Nat.ble cl mc && Nat.ble sl ms then ab_frK env (-2147483648) 2147483647 (fun env a => some [((env, nl, aw, cl, sl), np, lv, .inl a :: st)]) else none
  | _ => none
section
variable {p : Program} {l : Launch} {e : Env} {R : Room} {s : State} {m : MethodId} {args : Array Value} {below : List Frame} {meth : Method} {c : Code} {Q : State → Prop} {cc : ByteArray} {own : String} {nL : Nat} {X : ab_X} {D : va_G} {z0 : ab_Z0} {cal : ab_K} {pc : Nat}
theorem so_oi (C : ab_cx p R s m args c cc own nL X D) {i : Nat} (h1 : Cond.methodLink own i Lib.objectInit ∈ ab_TG) (h2 : Cond.instanceMethod Lib.objectInit ∈ ab_TG) (h3 : Cond.code Lib.objectInit ⟨#[0xb1]⟩ 1 none ∈ ab_TG) (d : decode cc pc = .ok (.invokespecial i, 3)) : ab_so p l e R s m args below meth c Q nL X D z0 cal pc (op_oi (pc + 3)) := by
  intro env nl aw cl sl lv st r hr hk z ws H locs ls cst hR hl hs
  dsimp only at hR hl hs
  unfold op_oi at hr
  split at hr
  · rename_i r0 st'
    cases hb : (ab_nn r0 && Nat.ble (ab_csum st') 8)
    · rw [hb] at hr; cases hr
    · rw [hb, cond_true] at hr
      cases hr
      rw [Bool.and_eq_true] at hb
      obtain ⟨x, r, rfl, g1, g2⟩ := ab_st1 hs
      obtain ⟨a, rfl⟩ := ab_nn_ref hb.1 g1
      have hcs := ab_csum_ok (ab_cxE C).2.2.2.2.1 g2
      have hb2 := Nat.le_of_ble_eq_true hb.2
      have hr8 := lv_room (m := m) (pc := pc) (ls := ls) (rest := .ref a :: r) (st := r) (by rw [hcs]; exact hb2)
      refine W.objInit (g := F0 m pc ls (.ref a :: r)) C.1 C.2.1 C.2.2.2.1 (C.2.2.2.2.1 _ h1) (C.2.2.2.2.1 _ h2) (C.2.2.2.2.1 _ h3) rfl (hl.1.trans C.2.2.1.symm) rfl d (by have := C.2.2.2.2.2.2.1; omega) (by have := C.2.2.2.2.2.2.2; omega) ?_
      exact hk _ List.mem_cons_self z ws H locs ls r hR hl g2
  · cases hr
theorem so_aci (C : ab_cx p R s m args c cc own nL X D) {i : Nat} (hw1 : Cond.methodLink own i arraycopyName ∈ ab_TG) (hw2 : Cond.native arraycopyName ∈ ab_TG) (hw3 : Cond.static arraycopyName ∈ ab_TG) (hw4 : Cond.initialized "java/lang/System" ∈ ab_TG) (d : decode cc pc = .ok (.invokestatic i, 3)) : ab_so p l e R s m args below meth c Q nL X D z0 cal pc (op_ac 0 (pc + 3)) := by
  intro env nl aw cl sl lv st r hr hk z ws H locs ls cst hR hl hs
  dsimp only at hR hl hs
  unfold op_ac at hr
  split at hr
  · rename_i n dp jd sp js st'
    rw [ab_get_eq] at hr
    split at hr
    · rename_i t1 n1 fl1 d1 o1 hjs
      rw [ab_get_eq] at hr
      split at hr
      · rename_i t2 n2 d2 o2 hjd
        cases hb : (Nat.beq 0 t1 && Nat.beq 0 t2 && Nat.beq n1 n2 && ab_b5 n1 && Nat.ble (ab_csum st') 8 && Nat.ble jd 2147483647)
        · rw [hb] at hr; cases hr
        · rw [hb, cond_true] at hr
          rw [Bool.and_eq_true, Bool.and_eq_true, Bool.and_eq_true, Bool.and_eq_true, Bool.and_eq_true] at hb
          obtain ⟨⟨⟨⟨⟨b1, b2⟩, b3⟩, b4⟩, b5⟩, b6⟩ := hb
          have hj9 : jd < 2147483648 := Nat.lt_succ_of_le (Nat.le_of_ble_eq_true b6)
          have e1 := Nat.eq_of_beq_eq_true b1
          have e2 := Nat.eq_of_beq_eq_true b2
          have e3 := Nat.eq_of_beq_eq_true b3
          subst e1 e2 e3
          obtain ⟨x1, r1, rfl, p1, q1⟩ := ab_st1 hs
          obtain ⟨y1, rfl, u1⟩ := ab_evi p1
          obtain ⟨x2, r2, rfl, p2, q2⟩ := ab_st1 q1
          obtain ⟨y2, rfl, u2⟩ := ab_evi p2
          obtain ⟨x3, r3, rfl, p3, q3⟩ := ab_st1 q2
          obtain ⟨a3, rfl, u3⟩ := ab_ref2 p3
          obtain ⟨x4, r4, rfl, p4, q4⟩ := ab_st1 q3
          obtain ⟨y4, rfl, u4⟩ := ab_evi p4
          obtain ⟨x5, r5, rfl, p5, q5⟩ := ab_st1 q4
          obtain ⟨a5, rfl, u5⟩ := ab_ref2 p5
          obtain ⟨k1, k2, k3⟩ := ab_ixK_ok hr hR.1 u1 (by decide)
          cases hb6 : Nat.beq y1.toNatClampNeg n1
          · rw [hb6] at k1; cases k1
          · rw [hb6, cond_true] at k1
            have e6 := Nat.eq_of_beq_eq_true hb6
            obtain ⟨k4, k5, k6⟩ := ab_ixK_ok k1 hR.1 u2 (by decide)
            obtain ⟨k7, k8, k9⟩ := ab_ixK_ok k4 hR.1 u4 (by decide)
            rw [ab_setK_eq, ab_dropK_eq] at k7
            cases k7
            have z2 : y2.toNatClampNeg = 0 := by omega
            have z4 : y4.toNatClampNeg = 0 := by omega
            obtain ⟨as, es, c1, c2, cA, xx, rfl, ⟨f, rfl⟩, c5, c6⟩ := hR.cell hjs
            cases Option.some.inj (c2.symm.trans u5)
            obtain ⟨ad, ed, c1', c2', cA', xx', rfl, ⟨g, rfl⟩, c5', c6'⟩ := hR.cell hjd
            cases Option.some.inj (c2'.symm.trans u3)
            have hcs := ab_csum_ok (ab_cxE C).2.2.2.2.1 q5
            have hb5 := Nat.le_of_ble_eq_true b5
            have hnw : nativeFrameWords "java/lang/System" "arraycopy" 5 ≤ 100 := by decide +kernel
            have hK2 : va_K D vwCl [(cA, .int), (cA', .int)] s := ((ab_cxE C).Kt c5).app ((ab_cxE C).Kt c5')
            refine va_copyi (cl := vwCl) (D := D) (tys := [(cA, .int), (cA', .int)]) (ty := .int) C.1 C.2.1 (C.2.2.1.trans hl.1.symm) C.2.2.2.1 (C.2.2.2.2.1 _ hw1) (C.2.2.2.2.1 _ hw2) (C.2.2.2.2.1 _ hw3) (C.2.2.2.2.1 _ hw4) hK2 hR.2.2.2.2.1 hR.2.2.2.2.2.1 hR.2.2.2.2.2.2.1 js jd 0 1 c1 c1' rfl rfl rfl (fun h => k9 (Or.inl h)) (fun h => k6 (Or.inl h)) (fun h => k3 (Or.inl h)) (by rw [z4, e6]; exact Nat.le_of_eq (Nat.zero_add _)) (by rw [z2, e6]; exact Nat.le_of_eq (Nat.zero_add _)) (fun _ _ => rfl) (by have := C.2.2.2.2.2.2.1; omega) (by have := C.2.2.2.2.2.2.2; rw [hcs]; omega) d (fun H1 locs1 g1 g2 g3 => ?_)
            refine hk _ List.mem_cons_self z _ H1 locs1 ls r5 (hR.set hjd c1' (c := .inr (0, n1, true, d1, o1)) ⟨cA', _, rfl, ⟨_, rfl⟩, c5', fun j hj => ?_⟩ (ab_flg_ne (ab_b5_ok b4).2) (ab_fC_nm (ab_ism_ne (ab_b5_ok b4).2)) (ab_fs.set hj9 hR.2.2.2.1.2) g1 g2 g3) hl q5
            have hj' : j < n1 := hj
            have c9 := c6 j hj
            simp only [ab_cv, z2, z4, e6] at c9 ⊢
            rw [pk_cpy_in (Nat.zero_le _) (by omega)]
            simpa using c9
      · cases hr
    · cases hr
  · cases hr
theorem so_acl (C : ab_cx p R s m args c cc own nL X D) {i : Nat} (hw1 : Cond.methodLink own i arraycopyName ∈ ab_TG) (hw2 : Cond.native arraycopyName ∈ ab_TG) (hw3 : Cond.static arraycopyName ∈ ab_TG) (hw4 : Cond.initialized "java/lang/System" ∈ ab_TG) (d : decode cc pc = .ok (.invokestatic i, 3)) : ab_so p l e R s m args below meth c Q nL X D z0 cal pc (op_ac 1 (pc + 3)) := by
  intro env nl aw cl sl lv st r hr hk z ws H locs ls cst hR hl hs
  dsimp only at hR hl hs
  unfold op_ac at hr
  split at hr
  · rename_i n dp jd sp js st'
    rw [ab_get_eq] at hr
    split at hr
    · rename_i t1 n1 fl1 d1 o1 hjs
      rw [ab_get_eq] at hr
      split at hr
      · rename_i t2 n2 d2 o2 hjd
        cases hb : (Nat.beq 1 t1 && Nat.beq 1 t2 && Nat.beq n1 n2 && ab_b5 n1 && Nat.ble (ab_csum st') 8 && Nat.ble jd 2147483647)
        · rw [hb] at hr; cases hr
        · rw [hb, cond_true] at hr
          rw [Bool.and_eq_true, Bool.and_eq_true, Bool.and_eq_true, Bool.and_eq_true, Bool.and_eq_true] at hb
          obtain ⟨⟨⟨⟨⟨b1, b2⟩, b3⟩, b4⟩, b5⟩, b6⟩ := hb
          have hj9 : jd < 2147483648 := Nat.lt_succ_of_le (Nat.le_of_ble_eq_true b6)
          have e1 := Nat.eq_of_beq_eq_true b1
          have e2 := Nat.eq_of_beq_eq_true b2
          have e3 := Nat.eq_of_beq_eq_true b3
          subst e1 e2 e3
          obtain ⟨x1, r1, rfl, p1, q1⟩ := ab_st1 hs
          obtain ⟨y1, rfl, u1⟩ := ab_evi p1
          obtain ⟨x2, r2, rfl, p2, q2⟩ := ab_st1 q1
          obtain ⟨y2, rfl, u2⟩ := ab_evi p2
          obtain ⟨x3, r3, rfl, p3, q3⟩ := ab_st1 q2
          obtain ⟨a3, rfl, u3⟩ := ab_ref2 p3
          obtain ⟨x4, r4, rfl, p4, q4⟩ := ab_st1 q3
          obtain ⟨y4, rfl, u4⟩ := ab_evi p4
          obtain ⟨x5, r5, rfl, p5, q5⟩ := ab_st1 q4
          obtain ⟨a5, rfl, u5⟩ := ab_ref2 p5
          obtain ⟨k1, k2, k3⟩ := ab_ixK_ok hr hR.1 u1 (by decide)
          cases hb6 : Nat.beq y1.toNatClampNeg n1
          · rw [hb6] at k1; cases k1
          · rw [hb6, cond_true] at k1
            have e6 := Nat.eq_of_beq_eq_true hb6
            obtain ⟨k4, k5, k6⟩ := ab_ixK_ok k1 hR.1 u2 (by decide)
            obtain ⟨k7, k8, k9⟩ := ab_ixK_ok k4 hR.1 u4 (by decide)
            rw [ab_setK_eq, ab_dropK_eq] at k7
            cases k7
            have z2 : y2.toNatClampNeg = 0 := by omega
            have z4 : y4.toNatClampNeg = 0 := by omega
            obtain ⟨as, es, c1, c2, cA, xx, rfl, ⟨f, rfl⟩, c5, c6⟩ := hR.cell hjs
            cases Option.some.inj (c2.symm.trans u5)
            obtain ⟨ad, ed, c1', c2', cA', xx', rfl, ⟨g, rfl⟩, c5', c6'⟩ := hR.cell hjd
            cases Option.some.inj (c2'.symm.trans u3)
            have hcs := ab_csum_ok (ab_cxE C).2.2.2.2.1 q5
            have hb5 := Nat.le_of_ble_eq_true b5
            have hnw : nativeFrameWords "java/lang/System" "arraycopy" 5 ≤ 100 := by decide +kernel
            have hK2 : va_K D vwCl [(cA, .long), (cA', .long)] s := ((ab_cxE C).Kt c5).app ((ab_cxE C).Kt c5')
            refine va_copyl (cl := vwCl) (D := D) (tys := [(cA, .long), (cA', .long)]) (ty := .long) C.1 C.2.1 (C.2.2.1.trans hl.1.symm) C.2.2.2.1 (C.2.2.2.2.1 _ hw1) (C.2.2.2.2.1 _ hw2) (C.2.2.2.2.1 _ hw3) (C.2.2.2.2.1 _ hw4) hK2 hR.2.2.2.2.1 hR.2.2.2.2.2.1 hR.2.2.2.2.2.2.1 js jd 0 1 c1 c1' rfl rfl rfl (fun h => k9 (Or.inl h)) (fun h => k6 (Or.inl h)) (fun h => k3 (Or.inl h)) (by rw [z4, e6]; exact Nat.le_of_eq (Nat.zero_add _)) (by rw [z2, e6]; exact Nat.le_of_eq (Nat.zero_add _)) (fun _ _ => rfl) (by have := C.2.2.2.2.2.2.1; omega) (by have := C.2.2.2.2.2.2.2; rw [hcs]; omega) d (fun H1 locs1 g1 g2 g3 => ?_)
            refine hk _ List.mem_cons_self z _ H1 locs1 ls r5 (hR.set hjd c1' (c := .inr (1, n1, true, d1, o1)) ⟨cA', _, rfl, ⟨_, rfl⟩, c5', fun j hj => ?_⟩ (ab_flg_ne (ab_b5_ok b4).2) (ab_fC_nm (ab_ism_ne (ab_b5_ok b4).2)) (ab_fs.set hj9 hR.2.2.2.1.2) g1 g2 g3) hl q5
            have hj' : j < n1 := hj
            have c9 := c6 j hj
            simp only [ab_cv, z2, z4, e6] at c9 ⊢
            rw [pk_cpy_in (Nat.zero_le _) (by omega)]
            simpa using c9
      · cases hr
    · cases hr
  · cases hr
theorem ab_mnx {x u : Int} : ab_mn x u ≤ x ∧ ab_mn x u ≤ u := by
  unfold ab_mn
  cases hc : ab_le x u
  · rw [ab_le_false] at hc; exact ⟨by simp only [cond_false]; omega, by simp only [cond_false]; omega⟩
  · rw [ab_le_iff] at hc; exact ⟨by simp only [cond_true]; omega, by simp only [cond_true]; omega⟩
theorem ab_mxx {y t : Int} : y ≤ ab_mx y t ∧ t ≤ ab_mx y t := by
  unfold ab_mx
  cases hc : ab_le y t
  · rw [ab_le_false] at hc; exact ⟨by simp only [cond_false]; omega, by simp only [cond_false]; omega⟩
  · rw [ab_le_iff] at hc; exact ⟨by simp only [cond_true]; omega, by simp only [cond_true]; omega⟩
theorem so_acp (C : ab_cx p R s m args c cc own nL X D) {i : Nat} (hw1 : Cond.methodLink own i arraycopyName ∈ ab_TG) (hw2 : Cond.native arraycopyName ∈ ab_TG) (hw3 : Cond.static arraycopyName ∈ ab_TG) (hw4 : Cond.initialized "java/lang/System" ∈ ab_TG) (d : decode cc pc = .ok (.invokestatic i, 3)) : ab_so p l e R s m args below meth c Q nL X D z0 cal pc (op_acp (pc + 3)) := by
  intro env nl aw cl sl lv st r hr hk z ws H locs ls cst hR hl hs
  dsimp only at hR hl hs
  unfold op_acp at hr
  split at hr
  · rename_i n dp jd sp js st'
    rw [ab_get_eq] at hr
    split at hr
    · rename_i t1 n1 fl1 d1 o1 hjs
      rw [ab_get_eq] at hr
      split at hr
      · rename_i t2 n2 d2 o2 hjd
        cases hb : (Nat.beq 0 t1 && Nat.beq 0 t2 && Nat.beq n1 n2 && ab_b5 n1 && Nat.ble (ab_csum st') 8 && Nat.ble jd 2147483647)
        · rw [hb] at hr; cases hr
        · rw [hb, cond_true, ab_ivK_eq] at hr
          rw [Bool.and_eq_true, Bool.and_eq_true, Bool.and_eq_true, Bool.and_eq_true, Bool.and_eq_true] at hb
          obtain ⟨⟨⟨⟨⟨b1, b2⟩, b3⟩, b4⟩, b5⟩, b6⟩ := hb
          have hj9 : jd < 2147483648 := Nat.lt_succ_of_le (Nat.le_of_ble_eq_true b6)
          have hn9 := (ab_b5_ok b4).1
          have e1 := Nat.eq_of_beq_eq_true b1
          have e2 := Nat.eq_of_beq_eq_true b2
          have e3 := Nat.eq_of_beq_eq_true b3
          subst e1 e2 e3
          cases hb7 : (ab_le 0 (ab_iv env n).1 && ab_le (ab_iv env n).2 n1)
          · rw [hb7] at hr; cases hr
          · rw [hb7, cond_true] at hr
            rw [Bool.and_eq_true, ab_le_iff, ab_le_iff] at hb7
            obtain ⟨x1, r1, rfl, p1, q1⟩ := ab_st1 hs
            obtain ⟨y1, rfl, u1⟩ := ab_evi p1
            obtain ⟨x2, r2, rfl, p2, q2⟩ := ab_st1 q1
            obtain ⟨y2, rfl, u2⟩ := ab_evi p2
            obtain ⟨x3, r3, rfl, p3, q3⟩ := ab_st1 q2
            obtain ⟨a3, rfl, u3⟩ := ab_ref2 p3
            obtain ⟨x4, r4, rfl, p4, q4⟩ := ab_st1 q3
            obtain ⟨y4, rfl, u4⟩ := ab_evi p4
            obtain ⟨x5, r5, rfl, p5, q5⟩ := ab_st1 q4
            obtain ⟨a5, rfl, u5⟩ := ab_ref2 p5
            have hi := ab_iv_spec hR.1 u1
            have h0 := ab_nn32 y1 (by omega)
            have hcl : y1.toNatClampNeg = y1.toInt.toNat := by
              conv => lhs; rw [h0]
              exact nI_clamp (by omega)
            have hy0 : ¬ y1 < 0 := fun h => by
              have := Int32.lt_iff_toInt_lt.mp h
              rw [show (0 : Int32).toInt = 0 from by decide +kernel] at this
              omega
            obtain ⟨k4, k5, k6⟩ := ab_ixK_ok hr hR.1 u2 (by decide)
            obtain ⟨k7, k8, k9⟩ := ab_ixK_ok k4 hR.1 u4 (by decide)
            have z2 : y2.toNatClampNeg = 0 := by omega
            have z4 : y4.toNatClampNeg = 0 := by omega
            obtain ⟨xa, ya, wa, wb⟩ := ab_wivK_ok (X := X) hR.1 k7
            obtain ⟨xb, yb, ha, hbb, hc, hd⟩ := ab_hulK_ok (X := X) hR.1 wa
            obtain ⟨xc, yc, wc, wd⟩ := ab_wivK_ok (X := X) hR.1 ha
            rw [ab_fi_eq, ab_fi_eq] at wc
            obtain ⟨xd, yd, he, hf, hg, hh⟩ := ab_hulK_ok (X := X) hR.1 wc
            have m1 := ab_mnx (x := xb) (u := xc)
            have m2 := ab_mxx (y := yb) (t := yc)
            simp only [ab_setK_eq, ab_dropK_eq, Option.some.injEq] at he
            subst he
            obtain ⟨as, es, c1, c2, cA, xx, rfl, ⟨f, rfl⟩, c5, c6⟩ := hR.cell hjs
            cases Option.some.inj (c2.symm.trans u5)
            obtain ⟨ad, ed, c1', c2', cA', xx', rfl, ⟨g, rfl⟩, c5', c6'⟩ := hR.cell hjd
            cases Option.some.inj (c2'.symm.trans u3)
            have hcs := ab_csum_ok (ab_cxE C).2.2.2.2.1 q5
            have hb5 := Nat.le_of_ble_eq_true b5
            have hnw : nativeFrameWords "java/lang/System" "arraycopy" 5 ≤ 100 := by decide +kernel
            have hK2 : va_K D vwCl [(cA, .int), (cA', .int)] s := ((ab_cxE C).Kt c5).app ((ab_cxE C).Kt c5')
            refine va_copyi (cl := vwCl) (D := D) (tys := [(cA, .int), (cA', .int)]) (ty := .int) C.1 C.2.1 (C.2.2.1.trans hl.1.symm) C.2.2.2.1 (C.2.2.2.2.1 _ hw1) (C.2.2.2.2.1 _ hw2) (C.2.2.2.2.1 _ hw3) (C.2.2.2.2.1 _ hw4) hK2 hR.2.2.2.2.1 hR.2.2.2.2.2.1 hR.2.2.2.2.2.2.1 js jd 0 1 c1 c1' rfl rfl rfl (fun h => k9 (Or.inl h)) (fun h => k6 (Or.inl h)) hy0 (by rw [z4, hcl]; show 0 + y1.toInt.toNat ≤ n1; omega) (by rw [z2, hcl]; show 0 + y1.toInt.toNat ≤ n1; omega) (fun _ _ => rfl) (by have := C.2.2.2.2.2.2.1; omega) (by have := C.2.2.2.2.2.2.2; rw [hcs]; omega) d (fun H1 locs1 g1 g2 g3 => ?_)
            refine hk _ List.mem_cons_self z _ H1 locs1 ls r5 (hR.set hjd c1' (c := .inr (0, n1, true, .inr (.inl (xd, yd)), [])) ⟨cA', _, rfl, ⟨_, rfl⟩, c5', fun j hj => ?_⟩ (ab_flg_ne (ab_b5_ok b4).2) (ab_fC_nm (ab_ism_ne (ab_b5_ok b4).2)) (ab_fs.set hj9 hR.2.2.2.1.2) g1 g2 g3) hl q5
            have hj' : j < n1 := hj
            have c9 := c6 j hj'
            have c9' := c6' j hj'
            have i1 := ab_at_cases (P := fun w => ∀ v, ab_ho X z w v → ∃ n : Int32, v = .int n ∧ xd ≤ n.toInt ∧ n.toInt ≤ yd) (d := d1) (ov := o1) (lo := 0) (hi := n1) (fun v hv => by
              obtain ⟨n, rfl, t1, t2⟩ := wb v hv
              exact ⟨n, rfl, by omega, by omega⟩) (fun q hq a1 a2 v hv => by
              obtain ⟨n, rfl, t1, t2⟩ := hd q hq a1 a2 v hv
              exact ⟨n, rfl, by omega, by omega⟩) (j := j) (Nat.zero_le _) (by omega) _ c9
            have i2 := ab_at_cases (P := fun w => ∀ v, ab_ho X z w v → ∃ n : Int32, v = .int n ∧ xd ≤ n.toInt ∧ n.toInt ≤ yd) (d := d2) (ov := o2) (lo := 0) (hi := n1) (fun v hv => by
              obtain ⟨n, rfl, t1, t2⟩ := wd v hv
              exact ⟨n, rfl, by omega, by omega⟩) (fun q hq a1 a2 v hv => by
              obtain ⟨n, rfl, t1, t2⟩ := hh q hq a1 a2 v hv
              exact ⟨n, rfl, by omega, by omega⟩) (j := j) (Nat.zero_le _) (by omega) _ c9'
            show ∃ n : Int32, _ = Value.int n ∧ _
            simp only [ab_cv, z2, z4] at i1 i2 ⊢
            by_cases hjl : j < y1.toNatClampNeg
            · rw [pk_cpy_in (Nat.zero_le _) (by omega)]
              simpa using i1
            · rw [pk_cpy_out (Or.inr (by omega))]
              exact i2
      · cases hr
    · cases hr
  · cases hr
theorem so_mmin (C : ab_cx p R s m args c cc own nL X D) {i mc ms : Nat} (hmc : mc ≤ R.cells) (hms : ms ≤ R.slots) (h1 : Cond.methodLink own i Lib.Math.min.name ∈ ab_TG) (h2 : Cond.static Lib.Math.min.name ∈ ab_TG) (h3 : Cond.initialized "java/lang/Math" ∈ ab_TG) (h4 : Cond.code Lib.Math.min.name Lib.Math.min.code 2 (some .int) ∈ ab_TG) (d : decode cc pc = .ok (.invokestatic i, 3)) : ab_so p l e R s m args below meth c Q nL X D z0 cal pc (op_mm2 mc ms (pc + 3)) := by
  intro env nl aw cl sl lv st r hr hk z ws H locs ls cst hR hl hs
  dsimp only at hR hl hs
  unfold op_mm2 at hr
  split at hr
  · rename_i y x st'
    cases hb : (Nat.ble (ab_csum st') 8 && Nat.ble cl mc && Nat.ble sl ms)
    · rw [hb] at hr; cases hr
    · rw [hb, cond_true] at hr
      rw [Bool.and_eq_true, Bool.and_eq_true] at hb
      obtain ⟨⟨b1, b2⟩, b3⟩ := hb
      have hb1 := Nat.le_of_ble_eq_true b1
      have hfr := C.2.2.2.2.2.2.1
      have hlo := C.2.2.2.2.2.2.2
      obtain ⟨x1, r1, rfl, p1, q1⟩ := ab_st1 hs
      obtain ⟨y1, rfl, u1⟩ := ab_evi p1
      obtain ⟨x2, r2, rfl, p2, q2⟩ := ab_st1 q1
      obtain ⟨y2, rfl, u2⟩ := ab_evi p2
      have hcs := ab_csum_ok (ab_cxE C).2.2.2.2.1 q2
      refine va_mmin C.1 C.2.1 (C.2.2.1.trans hl.1.symm) C.2.2.2.1 (C.2.2.2.2.1 _ h1) (C.2.2.2.2.1 _ h2) (C.2.2.2.2.1 _ h3) (C.2.2.2.2.1 _ h4) (by omega) (by rw [hcs]; omega) (Nat.le_trans (Nat.le_of_ble_eq_true b2) hmc) (Nat.le_trans (Nat.le_of_ble_eq_true b3) hms) d ?_
      exact so_ifr hr hk hR hl q2 _ (ab_i32 _).1 (ab_i32 _).2
  · cases hr
theorem so_mmax (C : ab_cx p R s m args c cc own nL X D) {i mc ms : Nat} (hmc : mc ≤ R.cells) (hms : ms ≤ R.slots) (h1 : Cond.methodLink own i Lib.Math.max.name ∈ ab_TG) (h2 : Cond.static Lib.Math.max.name ∈ ab_TG) (h3 : Cond.initialized "java/lang/Math" ∈ ab_TG) (h4 : Cond.code Lib.Math.max.name Lib.Math.max.code 2 (some .int) ∈ ab_TG) (d : decode cc pc = .ok (.invokestatic i, 3)) : ab_so p l e R s m args below meth c Q nL X D z0 cal pc (op_mm2 mc ms (pc + 3)) := by
  intro env nl aw cl sl lv st r hr hk z ws H locs ls cst hR hl hs
  dsimp only at hR hl hs
  unfold op_mm2 at hr
  split at hr
  · rename_i y x st'
    cases hb : (Nat.ble (ab_csum st') 8 && Nat.ble cl mc && Nat.ble sl ms)
    · rw [hb] at hr; cases hr
    · rw [hb, cond_true] at hr
      rw [Bool.and_eq_true, Bool.and_eq_true] at hb
      obtain ⟨⟨b1, b2⟩, b3⟩ := hb
      have hb1 := Nat.le_of_ble_eq_true b1
      have hfr := C.2.2.2.2.2.2.1
      have hlo := C.2.2.2.2.2.2.2
      obtain ⟨x1, r1, rfl, p1, q1⟩ := ab_st1 hs
      obtain ⟨y1, rfl, u1⟩ := ab_evi p1
      obtain ⟨x2, r2, rfl, p2, q2⟩ := ab_st1 q1
      obtain ⟨y2, rfl, u2⟩ := ab_evi p2
      have hcs := ab_csum_ok (ab_cxE C).2.2.2.2.1 q2
      refine va_mmax C.1 C.2.1 (C.2.2.1.trans hl.1.symm) C.2.2.2.1 (C.2.2.2.2.1 _ h1) (C.2.2.2.2.1 _ h2) (C.2.2.2.2.1 _ h3) (C.2.2.2.2.1 _ h4) (by omega) (by rw [hcs]; omega) (Nat.le_trans (Nat.le_of_ble_eq_true b2) hmc) (Nat.le_trans (Nat.le_of_ble_eq_true b3) hms) d ?_
      exact so_ifr hr hk hR hl q2 _ (ab_i32 _).1 (ab_i32 _).2
  · cases hr
theorem so_mabs (C : ab_cx p R s m args c cc own nL X D) {i mc ms : Nat} (hmc : mc ≤ R.cells) (hms : ms ≤ R.slots) (h1 : Cond.methodLink own i Lib.Math.abs.name ∈ ab_TG) (h2 : Cond.static Lib.Math.abs.name ∈ ab_TG) (h3 : Cond.initialized "java/lang/Math" ∈ ab_TG) (h4 : Cond.code Lib.Math.abs.name Lib.Math.abs.code 1 (some .int) ∈ ab_TG) (d : decode cc pc = .ok (.invokestatic i, 3)) : ab_so p l e R s m args below meth c Q nL X D z0 cal pc (op_mm1 mc ms (pc + 3)) := by
  intro env nl aw cl sl lv st r hr hk z ws H locs ls cst hR hl hs
  dsimp only at hR hl hs
  unfold op_mm1 at hr
  split at hr
  · rename_i x st'
    cases hb : (Nat.ble (ab_csum st') 8 && Nat.ble cl mc && Nat.ble sl ms)
    · rw [hb] at hr; cases hr
    · rw [hb, cond_true] at hr
      rw [Bool.and_eq_true, Bool.and_eq_true] at hb
      obtain ⟨⟨b1, b2⟩, b3⟩ := hb
      have hb1 := Nat.le_of_ble_eq_true b1
      have hfr := C.2.2.2.2.2.2.1
      have hlo := C.2.2.2.2.2.2.2
      obtain ⟨x1, r1, rfl, p1, q1⟩ := ab_st1 hs
      obtain ⟨y1, rfl, u1⟩ := ab_evi p1
      have hcs := ab_csum_ok (ab_cxE C).2.2.2.2.1 q1
      refine va_mabs C.1 C.2.1 (C.2.2.1.trans hl.1.symm) C.2.2.2.1 (C.2.2.2.2.1 _ h1) (C.2.2.2.2.1 _ h2) (C.2.2.2.2.1 _ h3) (C.2.2.2.2.1 _ h4) (by omega) (by rw [hcs]; omega) (Nat.le_trans (Nat.le_of_ble_eq_true b2) hmc) (Nat.le_trans (Nat.le_of_ble_eq_true b3) hms) d ?_
      exact so_ifr hr hk hR hl q1 _ (ab_i32 _).1 (ab_i32 _).2
  · cases hr
end
