/-! More simple instructions: longs in locals, sums and products of intervals, remainders. -/
noncomputable def op_ll (i np : Nat) : ab_P := fun _ env nl aw cl sl lv st => match ab_lk lv i with
  | some (.inr (.inl a)) => some [((env, nl, aw, cl, sl), np, lv, .inr (.inl a) :: st)]
  | _ => none
noncomputable def op_ls (i np : Nat) : ab_P := fun _ env nl aw cl sl lv st => match st with
  | .inr (.inl a) :: st => ab_flK true i lv (fun lv => some [((env, nl, aw, cl, sl), np, (i, .inr (.inl a)) :: lv, st)])
  | _ => none
/-- an int that isn't looked at -/
noncomputable def op_ifr (np : Nat) : ab_P := fun _ env nl aw cl sl lv st => ab_frK env (-2147483648) 2147483647 (fun env a => some [((env, nl, aw, cl, sl), np, lv, .inl a :: st)])
noncomputable def op_l2i (np : Nat) : ab_P := fun K env nl aw cl sl lv st => match st with
  | .inr (.inl _) :: st => op_ifr np K env nl aw cl sl lv st
  | _ => none
noncomputable def op_ineg (np : Nat) : ab_P := fun _ env nl aw cl sl lv st => match st with
  | .inl a :: st => ab_ivK env a (fun lo hi => bif ab_le (-2147483647) lo then ab_fi (0 - hi) (fun x => ab_fi (0 - lo) (fun y => ab_frK env x y (fun env a => some [((env, nl, aw, cl, sl), np, lv, .inl a :: st)]))) else ab_frK env (-2147483648) 2147483647 (fun env a => some [((env, nl, aw, cl, sl), np, lv, .inl a :: st)]))
  | _ => none
/-- a remainder by a number above 0; a quotient by one -/
noncomputable def op_rem (np : Nat) : ab_P := fun _ env nl aw cl sl lv st => match st with
  | .inl y :: .inl x :: st => ab_ivK env y (fun lo hi => bif ab_ie lo hi && ab_le 1 lo then ab_ivK env x (fun xl _ => bif ab_le 0 xl then ab_fi (lo - 1) (fun c => ab_frK env 0 c (fun env a => some [((env, nl, aw, cl, sl), np, lv, .inl a :: st)])) else ab_frK env (-2147483648) 2147483647 (fun env a => some [((env, nl, aw, cl, sl), np, lv, .inl a :: st)])) else
      (bif ab_le 1 lo then ab_frK env (-2147483648) 2147483647 (fun env a => some [((env, nl, aw, cl, sl), np, lv, .inl a :: st)]) else none))
  | _ => none
noncomputable def op_div (np : Nat) : ab_P := fun _ env nl aw cl sl lv st => match st with
  | .inl y :: .inl x :: st => ab_ivK env y (fun lo _ => bif ab_le 1 lo then ab_ivK env x (fun xl xh => bif ab_le 0 xl then ab_frK env 0 xh (fun env a => some [((env, nl, aw, cl, sl), np, lv, .inl a :: st)]) else ab_frK env (-2147483648) 2147483647 (fun env a => some [((env, nl, aw, cl, sl), np, lv, .inl a :: st)])) else none)
  | _ => none
/-- x + y, x - y, x * y by intervals where they are no sum of a variable and a number -/
noncomputable def ab_frcK {β : Type} (env : ab_E) (lo hi : Int) (k : ab_E → ab_I → β) : β := bif ab_le (-2147483648) lo && ab_le hi 2147483647 then ab_fi lo (fun lo => ab_fi hi (fun hi => ab_frK env lo hi k)) else ab_frK env (-2147483648) 2147483647 k
noncomputable def ab_add2K {β : Type} (env : ab_E) (x y : ab_I) (k : ab_E → ab_I → β) : β := ab_cnK env x (fun x => ab_cnK env y (fun y => match x, y with
  | (v, c), (none, d) => ab_nmK (c + d) (fun z => k env (v, z))
  | (none, c), (some w, d) => ab_nmK (c + d) (fun z => k env (some w, z))
  | (some v, c), (some w, d) => ab_ivK env (some v, c) (fun xl xh => ab_ivK env (some w, d) (fun yl yh => ab_frcK env (xl + yl) (xh + yh) k))))
noncomputable def ab_sub2K {β : Type} (env : ab_E) (x y : ab_I) (k : ab_E → ab_I → β) : β := ab_cnK env x (fun x => ab_cnK env y (fun y => match x, y with
  | (v, c), (none, d) => ab_nmK (c - d) (fun z => k env (v, z))
  | (v, c), (some w, d) => ab_ivK env (v, c) (fun xl xh => ab_ivK env (some w, d) (fun yl yh => ab_frcK env (xl - yh) (xh - yl) k))))
noncomputable def ab_mul2K {β : Type} (env : ab_E) (x y : ab_I) (k : ab_E → ab_I → β) : β := ab_cnK env x (fun x => ab_cnK env y (fun y => match x, y with
  | (none, c), (none, d) => ab_fi (Int32.ofInt c * Int32.ofInt d).toInt (fun z => k env (none, z))
  | (v, c), (w, d) => ab_ivK env (v, c) (fun xl xh => ab_ivK env (w, d) (fun yl yh => bif ab_le 0 xl && ab_le 0 yl then ab_frcK env (xl * yl) (xh * yh) k else ab_frK env (-2147483648) 2147483647 k))))
theorem ab_frcK_eq {β : Type} {env : ab_E} {x y : ab_I} {f : Int32 → Int32 → Int32} {lo hi : Int} (h : ∀ (rho : List Int32) (u v : Int32), ab_eR env rho → ab_evI rho x = some u → ab_evI rho y = some v → -2147483648 ≤ lo → hi ≤ 2147483647 → lo ≤ (f u v).toInt ∧ (f u v).toInt ≤ hi) : ∃ env' a', (∀ k : ab_E → ab_I → β, ab_frcK env lo hi k = k env' a') ∧ ab_res env x y f env' a' := by
  cases hc : (ab_le (-2147483648) lo && ab_le hi 2147483647)
  · exact ⟨_, _, fun k => by simp only [ab_frcK, hc, cond_false, ab_frK_eq], ab_res_any⟩
  · refine ⟨env ++ [(lo, hi)], (some env.length, 0), fun k => by simp only [ab_frcK, hc, cond_true, ab_fi_eq, ab_frK_eq], ab_res_fr (fun rho u v hR hu hv => ?_)⟩
    rw [Bool.and_eq_true, ab_le_iff, ab_le_iff] at hc
    exact h rho u v hR hu hv hc.1 hc.2
theorem ab_res_cn {env env' : ab_E} {x y x' y' a' : ab_I} {f : Int32 → Int32 → Int32} (hx : ∀ (rho : List Int32) (u : Int32), ab_eR env rho → ab_evI rho x = some u → ab_evI rho x' = some u) (hy : ∀ (rho : List Int32) (u : Int32), ab_eR env rho → ab_evI rho y = some u → ab_evI rho y' = some u) (h : ab_res env x' y' f env' a') : ab_res env x y f env' a' := fun rho u v hR hu hv => h rho u v hR (hx rho u hR hu) (hy rho v hR hv)
theorem ab_addI2 (x y : Int32) (h1 : -2147483648 ≤ x.toInt + y.toInt) (h2 : x.toInt + y.toInt ≤ 2147483647) : (x + y).toInt = x.toInt + y.toInt := by
  have hs : ((Int32.size : Nat) : Int) = 4294967296 := rfl
  rw [Int32.toInt_add]; exact Int.bmod_eq_of_le (by omega) (by omega)
theorem ab_subI2 (x y : Int32) (h1 : -2147483648 ≤ x.toInt - y.toInt) (h2 : x.toInt - y.toInt ≤ 2147483647) : (x - y).toInt = x.toInt - y.toInt := by
  have hs : ((Int32.size : Nat) : Int) = 4294967296 := rfl
  rw [Int32.toInt_sub]; exact Int.bmod_eq_of_le (by omega) (by omega)
theorem ab_mulI2 (x y : Int32) (h1 : -2147483648 ≤ x.toInt * y.toInt) (h2 : x.toInt * y.toInt ≤ 2147483647) : (x * y).toInt = x.toInt * y.toInt := by
  have hs : ((Int32.size : Nat) : Int) = 4294967296 := rfl
  rw [Int32.toInt_mul]; exact Int.bmod_eq_of_le (by omega) (by omega)
theorem ab_add2K_eq {β : Type} (env : ab_E) (x y : ab_I) : ∃ env' a', (∀ k : ab_E → ab_I → β, ab_add2K env x y k = k env' a') ∧ ab_res env x y (fun u v => u + v) env' a' := by
  obtain ⟨x', hx, hx2⟩ := ab_cnK_eq (β := β) env x
  obtain ⟨y', hy, hy2⟩ := ab_cnK_eq (β := β) env y
  obtain ⟨v, c⟩ := x'
  obtain ⟨w, d⟩ := y'
  cases w with
  | none =>
    obtain ⟨env', a', h1, h2⟩ := ab_addK_eq (β := β) env x y
    refine ⟨env', a', fun k => ?_, h2⟩
    rw [← h1 k]; simp only [ab_add2K, ab_addK, hx, hy]
  | some w =>
    cases v with
    | none =>
      obtain ⟨env', a', h1, h2⟩ := ab_addK_eq (β := β) env x y
      refine ⟨env', a', fun k => ?_, h2⟩
      rw [← h1 k]; simp only [ab_add2K, ab_addK, hx, hy]
    | some v =>
      obtain ⟨env', a', h1, h2⟩ := ab_frcK_eq (β := β) (env := env) (x := (some v, c)) (y := (some w, d)) (f := fun u v => u + v) (lo := (ab_iv env (some v, c)).1 + (ab_iv env (some w, d)).1) (hi := (ab_iv env (some v, c)).2 + (ab_iv env (some w, d)).2) (fun rho u t hR hu ht b1 b2 => by
        have i1 := ab_iv_spec hR hu
        have i2 := ab_iv_spec hR ht
        rw [ab_addI2 u t (by omega) (by omega)]; omega)
      exact ⟨env', a', fun k => by simp only [ab_add2K, hx, hy, ab_ivK_eq, h1], ab_res_cn hx2 hy2 h2⟩
theorem ab_sub2K_eq {β : Type} (env : ab_E) (x y : ab_I) : ∃ env' a', (∀ k : ab_E → ab_I → β, ab_sub2K env x y k = k env' a') ∧ ab_res env x y (fun u v => u - v) env' a' := by
  obtain ⟨x', hx, hx2⟩ := ab_cnK_eq (β := β) env x
  obtain ⟨y', hy, hy2⟩ := ab_cnK_eq (β := β) env y
  obtain ⟨v, c⟩ := x'
  obtain ⟨w, d⟩ := y'
  cases w with
  | none =>
    obtain ⟨env', a', h1, h2⟩ := ab_subK_eq (β := β) env x y
    refine ⟨env', a', fun k => ?_, h2⟩
    rw [← h1 k]; simp only [ab_sub2K, ab_subK, hx, hy]
  | some w =>
    obtain ⟨env', a', h1, h2⟩ := ab_frcK_eq (β := β) (env := env) (x := (v, c)) (y := (some w, d)) (f := fun u v => u - v) (lo := (ab_iv env (v, c)).1 - (ab_iv env (some w, d)).2) (hi := (ab_iv env (v, c)).2 - (ab_iv env (some w, d)).1) (fun rho u t hR hu ht b1 b2 => by
      have i1 := ab_iv_spec hR hu
      have i2 := ab_iv_spec hR ht
      rw [ab_subI2 u t (by omega) (by omega)]; omega)
    exact ⟨env', a', fun k => by cases v <;> simp only [ab_sub2K, hx, hy, ab_ivK_eq, h1], ab_res_cn hx2 hy2 h2⟩
theorem ab_mul2K_eq {β : Type} (env : ab_E) (x y : ab_I) : ∃ env' a', (∀ k : ab_E → ab_I → β, ab_mul2K env x y k = k env' a') ∧ ab_res env x y (fun u v => u * v) env' a' := by
  obtain ⟨x', hx, hx2⟩ := ab_cnK_eq (β := β) env x
  obtain ⟨y', hy, hy2⟩ := ab_cnK_eq (β := β) env y
  obtain ⟨v, c⟩ := x'
  obtain ⟨w, d⟩ := y'
  have key : ∃ env' a', (∀ k : ab_E → ab_I → β, (ab_ivK env (v, c) (fun xl xh => ab_ivK env (w, d) (fun yl yh => bif ab_le 0 xl && ab_le 0 yl then ab_frcK env (xl * yl) (xh * yh) k else ab_frK env (-2147483648) 2147483647 k))) = k env' a') ∧ ab_res env (v, c) (w, d) (fun u v => u * v) env' a' := by
    simp only [ab_ivK_eq]
    cases hc : (ab_le 0 (ab_iv env (v, c)).1 && ab_le 0 (ab_iv env (w, d)).1)
    · exact ⟨_, _, fun k => by simp only [cond_false, ab_frK_eq], ab_res_any⟩
    · rw [Bool.and_eq_true, ab_le_iff, ab_le_iff] at hc
      obtain ⟨env', a', h1, h2⟩ := ab_frcK_eq (β := β) (env := env) (x := (v, c)) (y := (w, d)) (f := fun u v => u * v) (lo := (ab_iv env (v, c)).1 * (ab_iv env (w, d)).1) (hi := (ab_iv env (v, c)).2 * (ab_iv env (w, d)).2) (fun rho u t hR hu ht b1 b2 => by
        have i1 := ab_iv_spec hR hu
        have i2 := ab_iv_spec hR ht
        have m1 : (ab_iv env (v, c)).1 * (ab_iv env (w, d)).1 ≤ u.toInt * t.toInt := Int.mul_le_mul i1.1 i2.1 hc.2 (by omega)
        have m2 : u.toInt * t.toInt ≤ (ab_iv env (v, c)).2 * (ab_iv env (w, d)).2 := Int.mul_le_mul i1.2 i2.2 (by omega) (by omega)
        rw [ab_mulI2 u t (by omega) (by omega)]
        exact ⟨m1, m2⟩)
      exact ⟨env', a', fun k => by simp only [cond_true, h1], h2⟩
  obtain ⟨env', a', h1, h2⟩ := key
  cases v with
  | none =>
    cases w with
    | none =>
      refine ⟨env, (none, (Int32.ofInt c * Int32.ofInt d).toInt), fun k => by simp only [ab_mul2K, hx, hy, ab_fi_eq], fun rho u t hR hu ht => ⟨[], by rw [List.append_nil]; exact hR, ?_⟩⟩
      have h3 := hx2 rho u hR hu
      have h4 := hy2 rho t hR ht
      simp only [ab_evI, Option.some.injEq] at h3 h4 ⊢
      rw [Int32.ofInt_toInt, h3, h4]
    | some w => exact ⟨env', a', fun k => by simp only [ab_mul2K, hx, hy]; exact h1 k, ab_res_cn hx2 hy2 h2⟩
  | some v => exact ⟨env', a', fun k => by simp only [ab_mul2K, hx, hy]; exact h1 k, ab_res_cn hx2 hy2 h2⟩
section
variable {p : Program} {l : Launch} {e : Env} {R : Room} {s : State} {m : MethodId} {args : Array Value} {below : List Frame} {meth : Method} {c : Code} {Q : State → Prop} {cc : ByteArray} {own : String} {nL : Nat} {X : ab_X} {D : va_G} {z0 : ab_Z0} {cal : ab_K} {pc : Nat}
theorem so_ifr {np : Nat} {rest : List Value} {lv : List (Nat × ab_V)} {st : List ab_V} {env : ab_E} {nl : Nat} {aw : ab_H} {cl sl : Nat} {z : ab_Z} {ws : va_W} {H : Heap} {locs : List Loc} {ls : Array Slot} {lo hi : Int} {r : List ab_S} (hr : ab_frK env lo hi (fun env a => some [((env, nl, aw, cl, sl), np, lv, .inl a :: st)]) = some r) (hk : ∀ S ∈ r, ab_ok p l e R s m args below meth c Q nL X D z0 S) (hR : ab_R X D s z0 env nl aw z ws H locs) (hl : ab_lR X z nL ls lv) (hs : st.map (ab_ev X z) = rest.map some) (y : Int32) (h1 : lo ≤ y.toInt) (h2 : y.toInt ≤ hi) : W p l e R s m args below meth c H locs cl sl Q (F0 m np ls (.int y :: rest)) := by
  rw [ab_frK_eq] at hr
  cases hr
  refine hk _ List.mem_cons_self (z.1 ++ [y], z.2) ws H locs ls (.int y :: rest) (hR.vars (hR.1.push h1 h2)) (hl.ext ab_ext_v) ?_
  simp only [List.map_cons, ab_ev, ab_evI]
  rw [ab_evs.ext (ab_ext_v (t := [y])) hs, List.getElem?_append_right (by rw [hR.1.1]; exact Nat.le_refl _), hR.1.1, Nat.sub_self]
  simp
theorem so_lload (C : ab_cx p R s m args c cc own nL X D) {i : Nat} (d : decode cc pc = .ok (.lload i, 2)) : ab_so p l e R s m args below meth c Q nL X D z0 cal pc (op_ll i (pc + 2)) := by
  intro env nl aw cl sl lv st r hr hk z ws H locs ls cst hR hl hs
  dsimp only at hR hl hs
  unfold op_ll at hr
  split at hr
  · rename_i a ha
    cases hr
    obtain ⟨x, h1, h2⟩ := hl.at ha
    obtain ⟨y, rfl, h3⟩ := ab_evl h1
    refine lv_lload C.1 C.2.1 d h2 ?_
    exact hk _ List.mem_cons_self z ws H locs ls (.long y :: cst) hR hl (by simp only [List.map_cons, h1]; rw [hs])
  · cases hr
theorem so_lload_n (C : ab_cx p R s m args c cc own nL X D) {i : Nat} {k : Fin 4} (hki : (k : Nat) = i) (d : decode cc pc = .ok (.lload_n k, 1)) : ab_so p l e R s m args below meth c Q nL X D z0 cal pc (op_ll i (pc + 1)) := by
  intro env nl aw cl sl lv st r hr hk z ws H locs ls cst hR hl hs
  dsimp only at hR hl hs
  unfold op_ll at hr
  split at hr
  · rename_i a ha
    cases hr
    obtain ⟨x, h1, h2⟩ := hl.at ha
    obtain ⟨y, rfl, h3⟩ := ab_evl h1
    refine lv_lload_n C.1 C.2.1 d hki h2 ?_
    exact hk _ List.mem_cons_self z ws H locs ls (.long y :: cst) hR hl (by simp only [List.map_cons, h1]; rw [hs])
  · cases hr
theorem so_lstore (C : ab_cx p R s m args c cc own nL X D) {i : Nat} (hn : i + 1 < nL) (d : decode cc pc = .ok (.lstore i, 2)) : ab_so p l e R s m args below meth c Q nL X D z0 cal pc (op_ls i (pc + 2)) := by
  intro env nl aw cl sl lv st r hr hk z ws H locs ls cst hR hl hs
  dsimp only at hR hl hs
  unfold op_ls at hr
  split at hr
  · rename_i a st'
    rw [ab_flK_eq] at hr
    cases hr
    obtain ⟨x, r, rfl, h1, h2⟩ := ab_st1 hs
    obtain ⟨y, rfl, h3⟩ := ab_evl h1
    obtain ⟨lc, g1, g2⟩ := hl.list
    refine lv_lstore C.1 C.2.1 d g1 hn rfl (fun ls' hl' => ?_)
    exact hk _ List.mem_cons_self z ws H locs ls' r hR (ab_lR.put2 C.2.2.2.2.2.1.2.2.2.2.1 h1 g2 hl') h2
  · cases hr
theorem so_lstore_n (C : ab_cx p R s m args c cc own nL X D) {i : Nat} {k : Fin 4} (hki : (k : Nat) = i) (hn : i + 1 < nL) (d : decode cc pc = .ok (.lstore_n k, 1)) : ab_so p l e R s m args below meth c Q nL X D z0 cal pc (op_ls i (pc + 1)) := by
  intro env nl aw cl sl lv st r hr hk z ws H locs ls cst hR hl hs
  dsimp only at hR hl hs
  unfold op_ls at hr
  split at hr
  · rename_i a st'
    rw [ab_flK_eq] at hr
    cases hr
    obtain ⟨x, r, rfl, h1, h2⟩ := ab_st1 hs
    obtain ⟨y, rfl, h3⟩ := ab_evl h1
    obtain ⟨lc, g1, g2⟩ := hl.list
    refine lv_lstore_n C.1 C.2.1 d hki g1 hn rfl (fun ls' hl' => ?_)
    exact hk _ List.mem_cons_self z ws H locs ls' r hR (ab_lR.put2 C.2.2.2.2.2.1.2.2.2.2.1 h1 g2 hl') h2
  · cases hr
theorem so_lconst1 (C : ab_cx p R s m args c cc own nL X D) (d : decode cc pc = .ok (.lconst 1, 1)) : ab_so p l e R s m args below meth c Q nL X D z0 cal pc (op_lfr (pc + 1)) := by
  intro env nl aw cl sl lv st r hr hk z ws H locs ls cst hR hl hs
  dsimp only at hR hl hs
  exact lv_lconst (v := 1) C.1 C.2.1 d (by decide +kernel) (so_lfr hr hk hR hl hs 1)
theorem so_lushr (C : ab_cx p R s m args c cc own nL X D) (d : decode cc pc = .ok (.lushr, 1)) : ab_so p l e R s m args below meth c Q nL X D z0 cal pc (op_lsh (pc + 1)) := by
  intro env nl aw cl sl lv st r hr hk z ws H locs ls cst hR hl hs
  dsimp only at hR hl hs
  unfold op_lsh at hr
  split at hr
  · obtain ⟨x, r, rfl, h1, h2⟩ := ab_st1 hs
    obtain ⟨y, rfl, h3⟩ := ab_evi h1
    obtain ⟨x2, r2, rfl, h4, h5⟩ := ab_st1 h2
    obtain ⟨y2, rfl, h6⟩ := ab_evl h4
    exact lv_lushr C.1 C.2.1 d rfl (so_lfr hr hk hR hl h5 _)
  · cases hr
theorem so_l2i (C : ab_cx p R s m args c cc own nL X D) (d : decode cc pc = .ok (.l2i, 1)) : ab_so p l e R s m args below meth c Q nL X D z0 cal pc (op_l2i (pc + 1)) := by
  intro env nl aw cl sl lv st r hr hk z ws H locs ls cst hR hl hs
  dsimp only at hR hl hs
  unfold op_l2i op_ifr at hr
  split at hr
  · obtain ⟨x, r, rfl, h1, h2⟩ := ab_st1 hs
    obtain ⟨y, rfl, h3⟩ := ab_evl h1
    exact lv_l2i C.1 C.2.1 d rfl (so_ifr hr hk hR hl h2 _ (ab_i32 _).1 (ab_i32 _).2)
  · cases hr
theorem so_ineg (C : ab_cx p R s m args c cc own nL X D) (d : decode cc pc = .ok (.ineg, 1)) : ab_so p l e R s m args below meth c Q nL X D z0 cal pc (op_ineg (pc + 1)) := by
  intro env nl aw cl sl lv st r hr hk z ws H locs ls cst hR hl hs
  dsimp only at hR hl hs
  unfold op_ineg at hr
  split at hr
  · rename_i a st'
    obtain ⟨x, r, rfl, h1, h2⟩ := ab_st1 hs
    obtain ⟨y, rfl, h3⟩ := ab_evi h1
    have hi := ab_iv_spec hR.1 h3
    rw [ab_ivK_eq] at hr
    refine lv_ineg C.1 C.2.1 d ?_
    cases hc : ab_le (-2147483647) (ab_iv env a).1
    · rw [hc, cond_false] at hr
      exact so_ifr hr hk hR hl h2 _ (ab_i32 _).1 (ab_i32 _).2
    · rw [hc, cond_true, ab_fi_eq, ab_fi_eq] at hr
      rw [ab_le_iff] at hc
      have h9 := ab_i32 y
      have e1 : (-y).toInt = 0 - y.toInt := by
        have e2 : -y = 0 - y := by rw [Int32.sub_eq_add_neg, Int32.zero_add]
        rw [e2, ab_subI2 0 y (by rw [show (0 : Int32).toInt = 0 from by decide +kernel]; omega) (by rw [show (0 : Int32).toInt = 0 from by decide +kernel]; omega)]
        rw [show (0 : Int32).toInt = 0 from by decide +kernel]
      exact so_ifr hr hk hR hl h2 _ (by omega) (by omega)
  · cases hr
theorem ab_rem_in (x y : Int32) (hx : 0 ≤ x.toInt) (hy : 1 ≤ y.toInt) : 0 ≤ (x - x / y * y).toInt ∧ (x - x / y * y).toInt ≤ y.toInt - 1 := by
  have hxx := ab_i32 x
  have hyy := ab_i32 y
  have e0 : (x / y).toInt = x.toInt / y.toInt := by
    rw [Int32.toInt_div_of_ne_left]
    · exact Int.tdiv_eq_ediv_of_nonneg hx
    · intro h
      rw [h] at hx
      exact absurd hx (by decide +kernel)
  have hq : 0 ≤ x.toInt / y.toInt := Int.ediv_nonneg hx (by omega)
  have hm := Int.emod_add_mul_ediv x.toInt y.toInt
  have hm1 := Int.emod_nonneg x.toInt (show y.toInt ≠ 0 by omega)
  have hm2 := Int.emod_lt_of_pos x.toInt (show 0 < y.toInt by omega)
  have hcm : y.toInt * (x.toInt / y.toInt) = x.toInt / y.toInt * y.toInt := Int.mul_comm _ _
  have hnn : 0 ≤ x.toInt / y.toInt * y.toInt := Int.mul_nonneg hq (by omega)
  have e1 : (x / y * y).toInt = x.toInt / y.toInt * y.toInt := by
    rw [ab_mulI2 _ _ (by rw [e0]; omega) (by rw [e0]; omega), e0]
  rw [ab_subI2 _ _ (by rw [e1]; omega) (by rw [e1]; omega), e1]
  omega
theorem ab_div_in (x y : Int32) (hx : 0 ≤ x.toInt) (hy : 1 ≤ y.toInt) : 0 ≤ (x / y).toInt ∧ (x / y).toInt ≤ x.toInt := by
  have e0 : (x / y).toInt = x.toInt / y.toInt := by
    rw [Int32.toInt_div_of_ne_left]
    · exact Int.tdiv_eq_ediv_of_nonneg hx
    · intro h
      rw [h] at hx
      exact absurd hx (by decide +kernel)
  rw [e0]
  exact ⟨Int.ediv_nonneg hx (by omega), Int.ediv_le_self _ hx⟩
theorem so_irem (C : ab_cx p R s m args c cc own nL X D) (d : decode cc pc = .ok (.irem, 1)) : ab_so p l e R s m args below meth c Q nL X D z0 cal pc (op_rem (pc + 1)) := by
  intro env nl aw cl sl lv st r hr hk z ws H locs ls cst hR hl hs
  dsimp only at hR hl hs
  unfold op_rem at hr
  split at hr
  · rename_i y x st'
    obtain ⟨x1, r1, rfl, p1, q1⟩ := ab_st1 hs
    obtain ⟨y1, rfl, u1⟩ := ab_evi p1
    obtain ⟨x2, r2, rfl, p2, q2⟩ := ab_st1 q1
    obtain ⟨y2, rfl, u2⟩ := ab_evi p2
    have i1 := ab_iv_spec hR.1 u1
    have i2 := ab_iv_spec hR.1 u2
    rw [ab_ivK_eq] at hr
    have hne : 1 ≤ y1.toInt → ¬ y1 = 0 := fun h1 h2 => by
      rw [h2] at h1
      exact absurd h1 (by decide +kernel)
    cases hc : (ab_ie (ab_iv env y).1 (ab_iv env y).2 && ab_le 1 (ab_iv env y).1)
    · rw [hc, cond_false] at hr
      cases hc2 : ab_le 1 (ab_iv env y).1
      · rw [hc2] at hr; cases hr
      · rw [hc2, cond_true] at hr
        rw [ab_le_iff] at hc2
        exact lv_irem C.1 C.2.1 d (hne (by omega)) (so_ifr hr hk hR hl q2 _ (ab_i32 _).1 (ab_i32 _).2)
    · rw [hc, cond_true, ab_ivK_eq] at hr
      rw [Bool.and_eq_true, ab_ie_iff, ab_le_iff] at hc
      cases hc2 : ab_le 0 (ab_iv env x).1
      · rw [hc2, cond_false] at hr
        exact lv_irem C.1 C.2.1 d (hne (by omega)) (so_ifr hr hk hR hl q2 _ (ab_i32 _).1 (ab_i32 _).2)
      · rw [hc2, cond_true, ab_fi_eq] at hr
        rw [ab_le_iff] at hc2
        have h9 := ab_rem_in y2 y1 (by omega) (by omega)
        exact lv_irem C.1 C.2.1 d (hne (by omega)) (so_ifr hr hk hR hl q2 _ h9.1 (by omega))
  · cases hr
theorem so_idiv (C : ab_cx p R s m args c cc own nL X D) (d : decode cc pc = .ok (.idiv, 1)) : ab_so p l e R s m args below meth c Q nL X D z0 cal pc (op_div (pc + 1)) := by
  intro env nl aw cl sl lv st r hr hk z ws H locs ls cst hR hl hs
  dsimp only at hR hl hs
  unfold op_div at hr
  split at hr
  · rename_i y x st'
    obtain ⟨x1, r1, rfl, p1, q1⟩ := ab_st1 hs
    obtain ⟨y1, rfl, u1⟩ := ab_evi p1
    obtain ⟨x2, r2, rfl, p2, q2⟩ := ab_st1 q1
    obtain ⟨y2, rfl, u2⟩ := ab_evi p2
    have i1 := ab_iv_spec hR.1 u1
    have i2 := ab_iv_spec hR.1 u2
    rw [ab_ivK_eq] at hr
    cases hc : ab_le 1 (ab_iv env y).1
    · rw [hc] at hr; cases hr
    · rw [hc, cond_true, ab_ivK_eq] at hr
      rw [ab_le_iff] at hc
      have hne : ¬ y1 = 0 := fun h2 => by
        have h1 : 1 ≤ y1.toInt := by omega
        rw [h2] at h1
        exact absurd h1 (by decide +kernel)
      cases hc2 : ab_le 0 (ab_iv env x).1
      · rw [hc2, cond_false] at hr
        exact lv_idiv C.1 C.2.1 d hne (so_ifr hr hk hR hl q2 _ (ab_i32 _).1 (ab_i32 _).2)
      · rw [hc2, cond_true] at hr
        rw [ab_le_iff] at hc2
        have h9 := ab_div_in y2 y1 (by omega) (by omega)
        exact lv_idiv C.1 C.2.1 d hne (so_ifr hr hk hR hl q2 _ h9.1 (by omega))
  · cases hr
theorem so_iadd2 (C : ab_cx p R s m args c cc own nL X D) (d : decode cc pc = .ok (.iadd, 1)) : ab_so p l e R s m args below meth c Q nL X D z0 cal pc (op_b2 (ab_add2K) (pc + 1)) :=
  so_b2 (f := fun u v => u + v) C (fun env x y => ab_add2K_eq env x y) (fun _ _ _ _ _ _ x y k => lv_iadd C.1 C.2.1 d k)
theorem so_isub2 (C : ab_cx p R s m args c cc own nL X D) (d : decode cc pc = .ok (.isub, 1)) : ab_so p l e R s m args below meth c Q nL X D z0 cal pc (op_b2 (ab_sub2K) (pc + 1)) :=
  so_b2 (f := fun u v => u - v) C (fun env x y => ab_sub2K_eq env x y) (fun _ _ _ _ _ _ x y k => lv_isub C.1 C.2.1 d k)
theorem so_imul2 (C : ab_cx p R s m args c cc own nL X D) (d : decode cc pc = .ok (.imul, 1)) : ab_so p l e R s m args below meth c Q nL X D z0 cal pc (op_b2 (ab_mul2K) (pc + 1)) :=
  so_b2 (f := fun u v => u * v) C (fun env x y => ab_mul2K_eq env x y) (fun _ _ _ _ _ _ x y k => lv_imul C.1 C.2.1 d k)
end
