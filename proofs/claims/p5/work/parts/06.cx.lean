/-! What a method finds around it, and the simple instructions. -/
noncomputable def ab_TG : List Cond := lw_tbl.filter goodWord
noncomputable def ab_nest (w : Cond) : Bool := match w with
  | .fieldLinkNest .. => true
  | .methodLinkNest .. => true
  | .declares .. => true
  | .castable .. => true
  | _ => false
/-- texts: whose pool, place, text -/
noncomputable def ab_str : List (String × Nat × String) := [("SundialTreaty$Reader", 60, "town fast slow term train limit change frost bend shade clear freeze day or and not right shaded breach ahead broken number "), ("SundialTreaty$Motto", 21, " counts "), ("SundialTreaty$Motto", 26, "right"), ("SundialTreaty$Motto", 28, "fast "), ("SundialTreaty$Motto", 30, "slow "), ("SundialTreaty$Motto", 41, " in the shade"), ("SundialTreaty", 133, "no such town"), ("SundialTreaty", 167, "nothing such is told of a town"), ("SundialTreaty", 169, "no such town or day"), ("SundialTreaty", 175, "it has no due"), ("SundialTreaty", 180, "no such train"), ("SundialTreaty", 200, "nothing such is told of a train"), ("SundialTreaty", 202, "no such town or minute, or it is shaded"), ("SundialTreaty", 225, "nothing such is told"), ("SundialTreaty", 264, "no dial tells noon"), ("SundialTreaty", 276, "no such town, or nothing was evened"), ("SundialTreaty", 284, "no such trains, or they do not meet"), ("SundialTreaty", 302, "no such town or bend"), ("SundialTreaty", 313, "no such town, or none came nearer")]
noncomputable def ab_len : List Nat := [124, 8, 5, 5, 5, 13]
noncomputable def ab_bys : List (List Int32) := [[116, 111, 119, 110, 32, 102, 97, 115, 116, 32, 115, 108, 111, 119, 32, 116, 101, 114, 109, 32, 116, 114, 97, 105, 110, 32, 108, 105, 109, 105, 116, 32, 99, 104, 97, 110, 103, 101, 32, 102, 114, 111, 115, 116, 32, 98, 101, 110, 100, 32, 115, 104, 97, 100, 101, 32, 99, 108, 101, 97, 114, 32, 102, 114, 101, 101, 122, 101, 32, 100, 97, 121, 32, 111, 114, 32, 97, 110, 100, 32, 110, 111, 116, 32, 114, 105, 103, 104, 116, 32, 115, 104, 97, 100, 101, 100, 32, 98, 114, 101, 97, 99, 104, 32, 97, 104, 101, 97, 100, 32, 98, 114, 111, 107, 101, 110, 32, 110, 117, 109, 98, 101, 114, 32], [32, 99, 111, 117, 110, 116, 115, 32], [114, 105, 103, 104, 116], [102, 97, 115, 116, 32], [115, 108, 111, 119, 32], [32, 105, 110, 32, 116, 104, 101, 32, 115, 104, 97, 100, 101]]
noncomputable def ab_hi : List Int32 := [10, 30, 12]
noncomputable def ab_lo : List Int32 := [1, 0, 0]
noncomputable def ab_ES (X : ab_X) (U : State) (H : Heap) : Prop :=
  X.2.2.2.2.2.category = 1 ∧ (∀ (i : Nat) (q : String × Nat × String), ab_str[i]? = some q → vk_R q.1 q.2.1 q.2.2 (X.2.2.1 i) U) ∧ vk_S 6 ab_len ab_bys X.2.2.1 X.2.2.2.1 (ab_Ar X) U H ∧
  va_Z "java/lang/String" "COMPACT_STRINGS" "Z" (.int 1) (ab_Ar X) U H ∧ va_Z "jdk/internal/util/Preconditions" "SIOOBE_FORMATTER" "Ljava/util/function/BiFunction;" X.2.2.2.2.2 (ab_Ar X) U H ∧
  va_Z "SundialTreaty$ValleyText" "HIGHEST" "[I" (.ref (X.2.2.2.2.1 0)) (ab_Ar X) U H ∧ va_T .int (X.2.2.2.2.1 0) 3 (fun j => .int (ab_hi.getD j 0)) (ab_Ar X) U H ∧
  vx_Zq Bundle.tN "UNASSIGNED_STACK" Bundle.steD (ab_Ar X) U H ∧ vx_Zq Bundle.tN "SUPPRESSED_SENTINEL" Bundle.listD (ab_Ar X) U H ∧ va_AO "SundialTreaty$State" U ∧ va_AO "SundialTreaty$Image" U ∧
  va_Z "SundialTreaty$ValleyText" "LEAST" "[I" (.ref (X.2.2.2.2.1 1)) (ab_Ar X) U H ∧ va_T .int (X.2.2.2.2.1 1) 3 (fun j => .int (ab_lo.getD j 0)) (ab_Ar X) U H
noncomputable def ab_EX (X : ab_X) (D : va_G) (U : State) (H : Heap) : Prop :=
  X.1.2.2 ≤ H.size ∧ va_K D vwCl [] U ∧ (∀ w ∈ lw_tbl, ab_nest w = true → va_Nw w U) ∧ (va_X X.1.1 X.1.2.1 X.2.1 U H ∧ X.1.1 < X.1.2.2) ∧ ab_ES X U H
theorem ab_EX.enter {X : ab_X} {D : va_G} {s U : State} {H : Heap} {locs : List Loc} (h : ab_EX X D s s.heap) (hW : s.WarmedH U.vm) (hS : va_S (ab_Ar X) s.heap H locs) : ab_EX X D U H := by
  obtain ⟨h1, h2, h3, ⟨h4, h5⟩, g0, g1, g2, g3, g4, g5, g6, g7, g8, g9, g10, g11, g12⟩ := h
  have hvm := hW.alike
  have hb : ¬ ab_Ar X X.1.1 := Nat.not_le.mpr h5
  refine ⟨Nat.le_trans h1 hS.1, h2.moved hvm, fun w hw hn => ?_, ⟨(h4.kept (hS.2.1 _ (Nat.lt_of_lt_of_le h5 h1) hb)).moved hvm, h5⟩, g0, fun i q hq => (g1 i q hq).warm hW, (g2.kept hS.2.1).moved hvm, va_Z.moved hvm (g3.kept hS.2.1), va_Z.moved hvm (g4.kept hS.2.1), va_Z.moved hvm (g5.kept hS.2.1), va_T.moved hvm (g6.kept hS.2.1), vx_Zq.moved hvm (g7.kept hS.2.1), vx_Zq.moved hvm (g8.kept hS.2.1), va_AO.moved hvm g9, va_AO.moved hvm g10, va_Z.moved hvm (g11.kept hS.2.1), va_T.moved hvm (g12.kept hS.2.1)⟩
  have h := h3 w hw hn
  unfold ab_nest at hn
  split at hn
  · exact va_Nw.warmF hW h
  · exact va_Nw.warmM hW h
  · exact va_Nw.warmD hW h
  · exact va_tabs rfl (rfl : (s.setVm U.vm).vm = U.vm) (by rw [Cond.castable_setVm hvm]; exact h)
  · cases hn
theorem ab_EX.Kt {X : ab_X} {D : va_G} {s : State} (h : ab_EX X D s s.heap) {cA : ClassId} {ty : FieldType} (ha : ArrOfT s cA ty ∧ va_RA s cA ty) : va_K D vwCl [(cA, ty)] s :=
  ⟨h.2.1.1, fun k q hk => by
    have hz : k < 1 := (List.getElem?_eq_some_iff.mp hk).1
    rw [show k = 0 by omega] at hk
    cases hk
    exact ha⟩
theorem ab_EX.up {X : ab_X} {D : va_G} {s : State} (h : ab_EX X D s s.heap) : ∀ q, s.heap.size ≤ q → ab_Ar X q := fun q hq => Nat.le_trans h.1 hq
noncomputable def ab_ok (p : Program) (l : Launch) (e : Env) (R : Room) (s : State) (m : MethodId) (args : Array Value) (below : List Frame) (meth : Method) (c : Code) (Q : State → Prop) (nL : Nat) (X : ab_X) (D : va_G) (z0 : ab_Z0) (S : ab_S) : Prop :=
  ∀ (z : ab_Z) (ws : va_W) (H : Heap) (locs : List Loc) (ls : Array Slot) (cst : List Value), ab_R X D s z0 S.1.1 S.1.2.1 S.1.2.2.1 z ws H locs → ab_lR X z nL ls S.2.2.1 → S.2.2.2.map (ab_ev X z) = cst.map some → W p l e R s m args below meth c H locs S.1.2.2.2.1 S.1.2.2.2.2 Q (F0 m S.2.1 ls cst)
noncomputable def ab_so (p : Program) (l : Launch) (e : Env) (R : Room) (s : State) (m : MethodId) (args : Array Value) (below : List Frame) (meth : Method) (c : Code) (Q : State → Prop) (nL : Nat) (X : ab_X) (D : va_G) (z0 : ab_Z0) (cal : ab_K) (pc : Nat) (f : ab_P) : Prop :=
  ∀ (env : ab_E) (nl : Nat) (aw : ab_H) (cl sl : Nat) (lv : List (Nat × ab_V)) (st : List ab_V) (r : List ab_S), f cal env nl aw cl sl lv st = some r → (∀ S ∈ r, ab_ok p l e R s m args below meth c Q nL X D z0 S) → ab_ok p l e R s m args below meth c Q nL X D z0 ((env, nl, aw, cl, sl), pc, lv, st)
noncomputable def ab_cx (p : Program) (R : Room) (s : State) (m : MethodId) (args : Array Value) (c : Code) (cc : ByteArray) (own : String) (nL : Nat) (X : ab_X) (D : va_G) : Prop :=
  p.tables.exec = Jvm.exec ∧ c.code = cc ∧ c.maxLocals = nL ∧ s.vm.findClass own = some m.cls ∧ (∀ w ∈ ab_TG, w.before args s = true) ∧ ab_EX X D s s.heap ∧ 16 ≤ R.frames ∧ 200 ≤ R.locals
theorem ab_st1 {X : ab_X} {z : ab_Z} {v : ab_V} {st : List ab_V} {cst : List Value} (h : (v :: st).map (ab_ev X z) = cst.map some) : ∃ x r, cst = x :: r ∧ ab_ev X z v = some x ∧ st.map (ab_ev X z) = r.map some := by
  cases cst with
  | nil => simp at h
  | cons x r => simp only [List.map_cons, List.cons.injEq] at h; exact ⟨x, r, rfl, h.1, h.2⟩
theorem ab_evi {X : ab_X} {z : ab_Z} {a : ab_I} {x : Value} (h : ab_ev X z (.inl a) = some x) : ∃ y, x = .int y ∧ ab_evI z.1 a = some y := by
  simp only [ab_ev, Option.map_eq_some_iff] at h
  obtain ⟨y, h1, h2⟩ := h
  exact ⟨y, h2.symm, h1⟩
theorem ab_evl {X : ab_X} {z : ab_Z} {a : ab_L} {x : Value} (h : ab_ev X z (.inr (.inl a)) = some x) : ∃ y, x = .long y ∧ ab_evL z a = some y := by
  simp only [ab_ev, Option.map_eq_some_iff] at h
  obtain ⟨y, h1, h2⟩ := h
  exact ⟨y, h2.symm, h1⟩
theorem ab_evc {X : ab_X} {z : ab_Z} {a : ab_I} {y : Int32} (h : ab_evI z.1 a = some y) : ab_ev X z (.inl a) = some (.int y) := by simp only [ab_ev, h]; rfl
/-- a reference that isn't null -/
noncomputable def ab_nn (r : Nat × Nat) : Bool := match r with
  | (1, _) => true
  | (2, _) => true
  | (3, _) => true
  | (4, _) => true
  | (5, _) => true
  | _ => false
theorem ab_nn_ref {X : ab_X} {z : ab_Z} {r : Nat × Nat} {x : Value} (h : ab_nn r = true) (he : ab_ev X z (.inr (.inr r)) = some x) : ∃ a, x = .ref a := by
  obtain ⟨t, k⟩ := r
  match t, h, he with
  | 1, _, he => cases he; exact ⟨_, rfl⟩
  | 2, _, he =>
    simp only [ab_ev, ab_evR, Option.map_eq_some_iff] at he
    obtain ⟨y, -, rfl⟩ := he; exact ⟨_, rfl⟩
  | 3, _, he => cases he; exact ⟨_, rfl⟩
  | 4, _, he => cases he; exact ⟨_, rfl⟩
  | 5, _, he => cases he; exact ⟨_, rfl⟩
  | 0, h, _ => cases h
  | _ + 6, h, _ => cases h
noncomputable def op_push (v : ab_V) (np : Nat) : ab_P := fun _ env nl aw cl sl lv st => some [((env, nl, aw, cl, sl), np, lv, v :: st)]
noncomputable def op_il (i np : Nat) : ab_P := fun _ env nl aw cl sl lv st => match ab_lk lv i with
  | some (.inl a) => some [((env, nl, aw, cl, sl), np, lv, .inl a :: st)]
  | _ => none
noncomputable def op_al (i np : Nat) : ab_P := fun _ env nl aw cl sl lv st => match ab_lk lv i with
  | some (.inr (.inr r)) => bif ab_nn r then some [((env, nl, aw, cl, sl), np, lv, .inr (.inr r) :: st)] else none
  | _ => none
noncomputable def op_is (i np : Nat) : ab_P := fun _ env nl aw cl sl lv st => match st with
  | .inl a :: st => ab_flK false i lv (fun lv => some [((env, nl, aw, cl, sl), np, (i, .inl a) :: lv, st)])
  | _ => none
noncomputable def op_as (i np : Nat) : ab_P := fun _ env nl aw cl sl lv st => match st with
  | .inr (.inr r) :: st => bif ab_nn r then ab_flK false i lv (fun lv => some [((env, nl, aw, cl, sl), np, (i, .inr (.inr r)) :: lv, st)]) else none
  | _ => none
noncomputable def op_inc (i : Nat) (n : Int) (np : Nat) : ab_P := fun _ env nl aw cl sl lv st => match ab_lk lv i with
  | some (.inl a) => ab_addK env a (none, n) (fun env a => ab_flK false i lv (fun lv => some [((env, nl, aw, cl, sl), np, (i, .inl a) :: lv, st)]))
  | _ => none
noncomputable def op_b2 (K : ab_E → ab_I → ab_I → (ab_E → ab_I → ab_A) → ab_A) (np : Nat) : ab_P := fun _ env nl aw cl sl lv st => match st with
  | .inl y :: .inl x :: st => K env x y (fun env a => some [((env, nl, aw, cl, sl), np, lv, .inl a :: st)])
  | _ => none
noncomputable def ab_frk (nl : Nat) (aw : ab_H) (cl sl : Nat) (lv : List (Nat × ab_V)) (st : List ab_V) : List ab_E → Nat → List ab_S → List ab_S
  | [], _, k => k
  | a :: T, tgt, k => ((a, nl, aw, cl, sl), tgt, lv, st) :: ab_frk nl aw cl sl lv st T tgt k
noncomputable def op_if (n tgt np : Nat) : ab_P := fun _ env nl aw cl sl lv st => match st with
  | .inl a :: st => ab_brK n env a (none, 0) (fun T F => some (ab_frk nl aw cl sl lv st T tgt (ab_frk nl aw cl sl lv st F np [])))
  | _ => none
noncomputable def op_icmp (n tgt np : Nat) : ab_P := fun _ env nl aw cl sl lv st => match st with
  | .inl b :: .inl a :: st => ab_brK n env a b (fun T F => some (ab_frk nl aw cl sl lv st T tgt (ab_frk nl aw cl sl lv st F np [])))
  | _ => none
noncomputable def op_goto (tgt : Nat) : ab_P := fun _ env nl aw cl sl lv st => some [((env, nl, aw, cl, sl), tgt, lv, st)]
noncomputable def op_dup (np : Nat) : ab_P := fun _ env nl aw cl sl lv st => match st with
  | v :: st => bif ab_lg v then none else some [((env, nl, aw, cl, sl), np, lv, v :: v :: st)]
  | _ => none
noncomputable def op_pop (np : Nat) : ab_P := fun _ env nl aw cl sl lv st => match st with
  | v :: st => bif ab_lg v then none else some [((env, nl, aw, cl, sl), np, lv, st)]
  | _ => none
noncomputable def op_dup2 (np : Nat) : ab_P := fun _ env nl aw cl sl lv st => match st with
  | v :: u :: st => bif ab_lg v || ab_lg u then none else some [((env, nl, aw, cl, sl), np, lv, v :: u :: v :: u :: st)]
  | _ => none
noncomputable def op_i2l (np : Nat) : ab_P := fun _ env nl aw cl sl lv st => match st with
  | .inl a :: st => bif ab_rng a then some [((env, nl, aw, cl, sl), np, lv, .inr (.inl (.inl a)) :: st)] else none
  | _ => none
/-- a long that isn't looked at -/
noncomputable def op_lfr (np : Nat) : ab_P := fun _ env nl aw cl sl lv st => ab_fn (nl + 1) (fun nl' => some [((env, nl', aw, cl, sl), np, lv, .inr (.inl (.inr nl)) :: st)])
noncomputable def op_l2 (np : Nat) : ab_P := fun K env nl aw cl sl lv st => match st with
  | .inr (.inl _) :: .inr (.inl _) :: st => op_lfr np K env nl aw cl sl lv st
  | _ => none
noncomputable def op_lsh (np : Nat) : ab_P := fun K env nl aw cl sl lv st => match st with
  | .inl _ :: .inr (.inl _) :: st => op_lfr np K env nl aw cl sl lv st
  | _ => none
/-- i2b, i2c: the same int where it fits, else one between -/
noncomputable def op_cv (lo hi : Int) (np : Nat) : ab_P := fun _ env nl aw cl sl lv st => match st with
  | .inl a :: st => ab_ivK env a (fun x y => bif ab_le lo x && ab_le y hi then some [((env, nl, aw, cl, sl), np, lv, .inl a :: st)] else ab_frK env lo hi (fun env a => some [((env, nl, aw, cl, sl), np, lv, .inl a :: st)]))
  | _ => none
noncomputable def op_lcmp (np : Nat) : ab_P := fun _ env nl aw cl sl lv st => match st with
  | .inr (.inl y) :: .inr (.inl x) :: st => (match x, y with
    | .inl a, .inl b => bif ab_rng a && ab_rng b then ab_cnK env a (fun a => ab_cnK env b (fun b => bif ab_eqI a b then some [((env, nl, aw, cl, sl), np, lv, .inl (none, 0) :: st)] else ab_frK env (-1) 1 (fun env a => some [((env, nl, aw, cl, sl), np, lv, .inl a :: st)]))) else ab_frK env (-1) 1 (fun env a => some [((env, nl, aw, cl, sl), np, lv, .inl a :: st)])
    | _, _ => ab_frK env (-1) 1 (fun env a => some [((env, nl, aw, cl, sl), np, lv, .inl a :: st)]))
  | _ => none
section
variable {p : Program} {l : Launch} {e : Env} {R : Room} {s : State} {m : MethodId} {args : Array Value} {below : List Frame} {meth : Method} {c : Code} {Q : State → Prop} {cc : ByteArray} {own : String} {nL : Nat} {X : ab_X} {D : va_G} {z0 : ab_Z0} {cal : ab_K} {pc : Nat}
theorem so_push_k {n : Int} {np : Nat} (hp : ∀ (H : Heap) (locs : List Loc) (cl sl : Nat) (ls : Array Slot) (rest : List Value) (y : Int32), y = Int32.ofInt n → W p l e R s m args below meth c H locs cl sl Q (F0 m np ls (.int y :: rest)) → W p l e R s m args below meth c H locs cl sl Q (F0 m pc ls rest)) : ab_so p l e R s m args below meth c Q nL X D z0 cal pc (op_push (.inl (none, n)) np) := by
  intro env nl aw cl sl lv st r hr hk z ws H locs ls cst hR hl hs
  dsimp only at hR hl hs
  simp only [op_push, Option.some.injEq] at hr
  subst hr
  refine hp _ _ _ _ _ _ _ rfl ?_
  exact hk _ List.mem_cons_self z ws H locs ls (.int (Int32.ofInt n) :: cst) hR hl (by simp only [List.map_cons, ab_ev, ab_evI, Option.map_some]; rw [hs])
theorem so_iconst (C : ab_cx p R s m args c cc own nL X D) {n : Int} (d : decode cc pc = .ok (.iconst n, 1)) : ab_so p l e R s m args below meth c Q nL X D z0 cal pc (op_push (.inl (none, n)) (pc + 1)) :=
  so_push_k (fun _ _ _ _ _ _ y hy k => lv_iconst C.1 C.2.1 d (hy.symm) k)
theorem so_bipush (C : ab_cx p R s m args c cc own nL X D) {n : Int} (d : decode cc pc = .ok (.bipush n, 2)) (hv : (Int8.ofInt n).toInt32 = Int32.ofInt n) : ab_so p l e R s m args below meth c Q nL X D z0 cal pc (op_push (.inl (none, n)) (pc + 2)) :=
  so_push_k (fun _ _ _ _ _ _ y hy k => lv_bipush C.1 C.2.1 d (hv.trans hy.symm) k)
theorem so_sipush (C : ab_cx p R s m args c cc own nL X D) {n : Int} (d : decode cc pc = .ok (.sipush n, 3)) (hv : (Int16.ofInt n).toInt32 = Int32.ofInt n) : ab_so p l e R s m args below meth c Q nL X D z0 cal pc (op_push (.inl (none, n)) (pc + 3)) :=
  so_push_k (fun _ _ _ _ _ _ y hy k => lv_sipush C.1 C.2.1 d (hv.trans hy.symm) k)
theorem so_ldc (C : ab_cx p R s m args c cc own nL X D) {n : Int} {i : Nat} (hw : Cond.constant own i (Int32.ofInt n) ∈ ab_TG) (d : decode cc pc = .ok (.ldc i, 2)) : ab_so p l e R s m args below meth c Q nL X D z0 cal pc (op_push (.inl (none, n)) (pc + 2)) :=
  so_push_k (fun _ _ _ _ _ _ y hy k => by subst hy; exact lv_ldc C.1 C.2.1 C.2.2.2.1 (C.2.2.2.2.1 _ hw) d k)
theorem so_ldcw (C : ab_cx p R s m args c cc own nL X D) {n : Int} {i : Nat} (hw : Cond.constant own i (Int32.ofInt n) ∈ ab_TG) (d : decode cc pc = .ok (.ldc_w i, 3)) : ab_so p l e R s m args below meth c Q nL X D z0 cal pc (op_push (.inl (none, n)) (pc + 3)) :=
  so_push_k (fun _ _ _ _ _ _ y hy k => by subst hy; exact lv_ldcw C.1 C.2.1 C.2.2.2.1 (C.2.2.2.2.1 _ hw) d k)
theorem so_lconst0 (C : ab_cx p R s m args c cc own nL X D) (d : decode cc pc = .ok (.lconst 0, 1)) : ab_so p l e R s m args below meth c Q nL X D z0 cal pc (op_push (.inr (.inl (.inl (none, 0)))) (pc + 1)) := by
  intro env nl aw cl sl lv st r hr hk z ws H locs ls cst hR hl hs
  dsimp only at hR hl hs
  simp only [op_push, Option.some.injEq] at hr
  subst hr
  refine lv_lconst (v := 0) C.1 C.2.1 d (by decide +kernel) ?_
  exact hk _ List.mem_cons_self z ws H locs ls (.long 0 :: cst) hR hl (by simp only [List.map_cons]; rw [hs]; rfl)
theorem so_iload (C : ab_cx p R s m args c cc own nL X D) {i : Nat} (d : decode cc pc = .ok (.iload i, 2)) : ab_so p l e R s m args below meth c Q nL X D z0 cal pc (op_il i (pc + 2)) := by
  intro env nl aw cl sl lv st r hr hk z ws H locs ls cst hR hl hs
  dsimp only at hR hl hs
  unfold op_il at hr
  split at hr
  · rename_i a ha
    cases hr
    obtain ⟨x, h1, h2⟩ := hl.at ha
    obtain ⟨y, rfl, h3⟩ := ab_evi h1
    refine lv_iload C.1 C.2.1 d h2 ?_
    exact hk _ List.mem_cons_self z ws H locs ls (.int y :: cst) hR hl (by simp only [List.map_cons, h1]; rw [hs])
  · cases hr
theorem so_iload_n (C : ab_cx p R s m args c cc own nL X D) {i : Nat} {k : Fin 4} (hki : (k : Nat) = i) (d : decode cc pc = .ok (.iload_n k, 1)) : ab_so p l e R s m args below meth c Q nL X D z0 cal pc (op_il i (pc + 1)) := by
  intro env nl aw cl sl lv st r hr hk z ws H locs ls cst hR hl hs
  dsimp only at hR hl hs
  unfold op_il at hr
  split at hr
  · rename_i a ha
    cases hr
    obtain ⟨x, h1, h2⟩ := hl.at ha
    obtain ⟨y, rfl, h3⟩ := ab_evi h1
    refine lv_iload_n C.1 C.2.1 d hki h2 ?_
    exact hk _ List.mem_cons_self z ws H locs ls (.int y :: cst) hR hl (by simp only [List.map_cons, h1]; rw [hs])
  · cases hr
theorem so_aload (C : ab_cx p R s m args c cc own nL X D) {i : Nat} (d : decode cc pc = .ok (.aload i, 2)) : ab_so p l e R s m args below meth c Q nL X D z0 cal pc (op_al i (pc + 2)) := by
  intro env nl aw cl sl lv st r hr hk z ws H locs ls cst hR hl hs
  dsimp only at hR hl hs
  unfold op_al at hr
  split at hr
  · rename_i r0 ha
    cases hn : ab_nn r0
    · rw [hn] at hr; cases hr
    · rw [hn] at hr
      cases hr
      obtain ⟨x, h1, h2⟩ := hl.at ha
      obtain ⟨a, rfl⟩ := ab_nn_ref hn h1
      refine lv_aload C.1 C.2.1 d h2 ?_
      exact hk _ List.mem_cons_self z ws H locs ls (.ref a :: cst) hR hl (by simp only [List.map_cons, h1]; rw [hs])
  · cases hr
theorem so_aload_n (C : ab_cx p R s m args c cc own nL X D) {i : Nat} {k : Fin 4} (hki : (k : Nat) = i) (d : decode cc pc = .ok (.aload_n k, 1)) : ab_so p l e R s m args below meth c Q nL X D z0 cal pc (op_al i (pc + 1)) := by
  intro env nl aw cl sl lv st r hr hk z ws H locs ls cst hR hl hs
  dsimp only at hR hl hs
  unfold op_al at hr
  split at hr
  · rename_i r0 ha
    cases hn : ab_nn r0
    · rw [hn] at hr; cases hr
    · rw [hn] at hr
      cases hr
      obtain ⟨x, h1, h2⟩ := hl.at ha
      obtain ⟨a, rfl⟩ := ab_nn_ref hn h1
      refine lv_aload_n C.1 C.2.1 d hki h2 ?_
      exact hk _ List.mem_cons_self z ws H locs ls (.ref a :: cst) hR hl (by simp only [List.map_cons, h1]; rw [hs])
  · cases hr
theorem so_istore (C : ab_cx p R s m args c cc own nL X D) {i : Nat} (hn : i < nL) (d : decode cc pc = .ok (.istore i, 2)) : ab_so p l e R s m args below meth c Q nL X D z0 cal pc (op_is i (pc + 2)) := by
  intro env nl aw cl sl lv st r hr hk z ws H locs ls cst hR hl hs
  dsimp only at hR hl hs
  unfold op_is at hr
  split at hr
  · rename_i a st'
    rw [ab_flK_eq] at hr
    cases hr
    obtain ⟨x, r, rfl, h1, h2⟩ := ab_st1 hs
    obtain ⟨y, rfl, h3⟩ := ab_evi h1
    obtain ⟨lc, g1, g2⟩ := hl.list
    refine lv_istore C.1 C.2.1 d g1 hn rfl (fun ls' hl' => ?_)
    exact hk _ List.mem_cons_self z ws H locs ls' r hR (ab_lR.put1 C.2.2.2.2.2.1.2.2.2.2.1 h1 g2 hl') h2
  · cases hr
theorem so_istore_n (C : ab_cx p R s m args c cc own nL X D) {i : Nat} {k : Fin 4} (hki : (k : Nat) = i) (hn : i < nL) (d : decode cc pc = .ok (.istore_n k, 1)) : ab_so p l e R s m args below meth c Q nL X D z0 cal pc (op_is i (pc + 1)) := by
  intro env nl aw cl sl lv st r hr hk z ws H locs ls cst hR hl hs
  dsimp only at hR hl hs
  unfold op_is at hr
  split at hr
  · rename_i a st'
    rw [ab_flK_eq] at hr
    cases hr
    obtain ⟨x, r, rfl, h1, h2⟩ := ab_st1 hs
    obtain ⟨y, rfl, h3⟩ := ab_evi h1
    obtain ⟨lc, g1, g2⟩ := hl.list
    refine lv_istore_n C.1 C.2.1 d hki g1 hn rfl (fun ls' hl' => ?_)
    exact hk _ List.mem_cons_self z ws H locs ls' r hR (ab_lR.put1 C.2.2.2.2.2.1.2.2.2.2.1 h1 g2 hl') h2
  · cases hr
theorem so_astore (C : ab_cx p R s m args c cc own nL X D) {i : Nat} (hn : i < nL) (d : decode cc pc = .ok (.astore i, 2)) : ab_so p l e R s m args below meth c Q nL X D z0 cal pc (op_as i (pc + 2)) := by
  intro env nl aw cl sl lv st r hr hk z ws H locs ls cst hR hl hs
  dsimp only at hR hl hs
  unfold op_as at hr
  split at hr
  · rename_i r0 st'
    cases hnn : ab_nn r0
    · rw [hnn] at hr; cases hr
    · rw [hnn, cond_true, ab_flK_eq] at hr
      cases hr
      obtain ⟨x, r, rfl, h1, h2⟩ := ab_st1 hs
      obtain ⟨a, rfl⟩ := ab_nn_ref hnn h1
      obtain ⟨lc, g1, g2⟩ := hl.list
      refine lv_astore C.1 C.2.1 d g1 hn rfl (fun ls' hl' => ?_)
      exact hk _ List.mem_cons_self z ws H locs ls' r hR (ab_lR.put1 C.2.2.2.2.2.1.2.2.2.2.1 h1 g2 hl') h2
  · cases hr
theorem so_astore_n (C : ab_cx p R s m args c cc own nL X D) {i : Nat} {k : Fin 4} (hki : (k : Nat) = i) (hn : i < nL) (d : decode cc pc = .ok (.astore_n k, 1)) : ab_so p l e R s m args below meth c Q nL X D z0 cal pc (op_as i (pc + 1)) := by
  intro env nl aw cl sl lv st r hr hk z ws H locs ls cst hR hl hs
  dsimp only at hR hl hs
  unfold op_as at hr
  split at hr
  · rename_i r0 st'
    cases hnn : ab_nn r0
    · rw [hnn] at hr; cases hr
    · rw [hnn, cond_true, ab_flK_eq] at hr
      cases hr
      obtain ⟨x, r, rfl, h1, h2⟩ := ab_st1 hs
      obtain ⟨a, rfl⟩ := ab_nn_ref hnn h1
      obtain ⟨lc, g1, g2⟩ := hl.list
      refine lv_astore_n C.1 C.2.1 d hki g1 hn rfl (fun ls' hl' => ?_)
      exact hk _ List.mem_cons_self z ws H locs ls' r hR (ab_lR.put1 C.2.2.2.2.2.1.2.2.2.2.1 h1 g2 hl') h2
  · cases hr
theorem so_iinc (C : ab_cx p R s m args c cc own nL X D) {i : Nat} {n : Int} (hn : i < nL) (d : decode cc pc = .ok (.iinc i n, 3)) : ab_so p l e R s m args below meth c Q nL X D z0 cal pc (op_inc i n (pc + 3)) := by
  intro env nl aw cl sl lv st r hr hk z ws H locs ls cst hR hl hs
  dsimp only at hR hl hs
  unfold op_inc at hr
  split at hr
  · rename_i a ha
    obtain ⟨env', a', q1, q2⟩ := ab_addK_eq (β := ab_A) env a (none, n)
    rw [q1, ab_flK_eq] at hr
    cases hr
    obtain ⟨x, h1, h2⟩ := hl.at ha
    obtain ⟨y, rfl, h3⟩ := ab_evi h1
    obtain ⟨t, t1, t2⟩ := q2 z.1 y (Int32.ofInt n) hR.1 h3 rfl
    obtain ⟨lc, g1, g2⟩ := (hl.ext (ab_ext_v (t := t))).list
    obtain ⟨w, e1, e2⟩ := g2 (i, .inl a) (ab_lk_mem ha)
    cases Option.some.inj (e1.symm.trans (ab_ev.ext (ab_ext_v (t := t)) h1))
    obtain ⟨kk, hkk⟩ := List.getElem?_of_mem e2
    refine lv_iinc C.1 C.2.1 d g1 hkk rfl hn rfl (fun ls' hl' => ?_)
    exact hk _ List.mem_cons_self _ ws H locs ls' cst (hR.vars t1) (ab_lR.put1 C.2.2.2.2.2.1.2.2.2.2.1 (ab_evc t2) g2 hl') (ab_evs.ext (ab_ext_v (t := t)) hs)
  · cases hr
theorem so_b2 (C : ab_cx p R s m args c cc own nL X D) {K : ab_E → ab_I → ab_I → (ab_E → ab_I → ab_A) → ab_A} {f : Int32 → Int32 → Int32} {np : Nat} (hK : ∀ env x y, ∃ env' a', (∀ k, K env x y k = k env' a') ∧ ab_res env x y f env' a') (hp : ∀ (H : Heap) (locs : List Loc) (cl sl : Nat) (ls : Array Slot) (rest : List Value) (x y : Int32), W p l e R s m args below meth c H locs cl sl Q (F0 m np ls (.int (f x y) :: rest)) → W p l e R s m args below meth c H locs cl sl Q (F0 m pc ls (.int y :: .int x :: rest))) : ab_so p l e R s m args below meth c Q nL X D z0 cal pc (op_b2 K np) := by
  intro env nl aw cl sl lv st r hr hk z ws H locs ls cst hR hl hs
  dsimp only at hR hl hs
  unfold op_b2 at hr
  split at hr
  · rename_i b a st'
    obtain ⟨env', a', q1, q2⟩ := hK env a b
    rw [q1] at hr
    cases hr
    obtain ⟨x, r, rfl, h1, h2⟩ := ab_st1 hs
    obtain ⟨y, rfl, h3⟩ := ab_evi h1
    obtain ⟨x2, r2, rfl, h4, h5⟩ := ab_st1 h2
    obtain ⟨y2, rfl, h6⟩ := ab_evi h4
    obtain ⟨t, t1, t2⟩ := q2 z.1 y2 y hR.1 h6 h3
    refine hp _ _ _ _ _ _ _ _ ?_
    exact hk _ List.mem_cons_self _ ws H locs ls (.int (f y2 y) :: r2) (hR.vars t1) (hl.ext ab_ext_v) (by simp only [List.map_cons]; rw [ab_evc (z := (z.1 ++ t, z.2)) t2, ab_evs.ext (ab_ext_v (t := t)) h5])
  · cases hr
theorem so_iadd (C : ab_cx p R s m args c cc own nL X D) (d : decode cc pc = .ok (.iadd, 1)) : ab_so p l e R s m args below meth c Q nL X D z0 cal pc (op_b2 (ab_addK) (pc + 1)) :=
  so_b2 (f := fun u v => u + v) C (fun env x y => ab_addK_eq env x y) (fun _ _ _ _ _ _ x y k => lv_iadd C.1 C.2.1 d k)
theorem so_isub (C : ab_cx p R s m args c cc own nL X D) (d : decode cc pc = .ok (.isub, 1)) : ab_so p l e R s m args below meth c Q nL X D z0 cal pc (op_b2 (ab_subK) (pc + 1)) :=
  so_b2 (f := fun u v => u - v) C (fun env x y => ab_subK_eq env x y) (fun _ _ _ _ _ _ x y k => lv_isub C.1 C.2.1 d k)
theorem so_iand (C : ab_cx p R s m args c cc own nL X D) (d : decode cc pc = .ok (.iand, 1)) : ab_so p l e R s m args below meth c Q nL X D z0 cal pc (op_b2 (ab_andK) (pc + 1)) :=
  so_b2 (f := fun u v => u &&& v) C (fun env x y => ab_andK_eq env x y) (fun _ _ _ _ _ _ x y k => lv_iand C.1 C.2.1 d k)
theorem so_imul (C : ab_cx p R s m args c cc own nL X D) (d : decode cc pc = .ok (.imul, 1)) : ab_so p l e R s m args below meth c Q nL X D z0 cal pc (op_b2 (ab_binK (fun u v => u * v)) (pc + 1)) :=
  so_b2 (f := fun u v => u * v) C (fun env x y => ab_binK_eq _ env x y) (fun _ _ _ _ _ _ x y k => lv_imul C.1 C.2.1 d k)
theorem so_ior (C : ab_cx p R s m args c cc own nL X D) (d : decode cc pc = .ok (.ior, 1)) : ab_so p l e R s m args below meth c Q nL X D z0 cal pc (op_b2 (ab_binK (fun u v => u ||| v)) (pc + 1)) :=
  so_b2 (f := fun u v => u ||| v) C (fun env x y => ab_binK_eq _ env x y) (fun _ _ _ _ _ _ x y k => lv_ior C.1 C.2.1 d k)
theorem so_ixor (C : ab_cx p R s m args c cc own nL X D) (d : decode cc pc = .ok (.ixor, 1)) : ab_so p l e R s m args below meth c Q nL X D z0 cal pc (op_b2 (ab_binK (fun u v => u ^^^ v)) (pc + 1)) :=
  so_b2 (f := fun u v => u ^^^ v) C (fun env x y => ab_binK_eq _ env x y) (fun _ _ _ _ _ _ x y k => lv_ixor C.1 C.2.1 d k)
theorem so_ishr (C : ab_cx p R s m args c cc own nL X D) (d : decode cc pc = .ok (.ishr, 1)) : ab_so p l e R s m args below meth c Q nL X D z0 cal pc (op_b2 (ab_binK (fun u v => u >>> (v &&& 31))) (pc + 1)) :=
  so_b2 (f := fun u v => u >>> (v &&& 31)) C (fun env x y => ab_binK_eq _ env x y) (fun _ _ _ _ _ _ x y k => lv_ishr C.1 C.2.1 d k)
theorem so_ishl (C : ab_cx p R s m args c cc own nL X D) (d : decode cc pc = .ok (.ishl, 1)) : ab_so p l e R s m args below meth c Q nL X D z0 cal pc (op_b2 (ab_binK (fun u v => u <<< (v &&& 31))) (pc + 1)) :=
  so_b2 (f := fun u v => u <<< (v &&& 31)) C (fun env x y => ab_binK_eq _ env x y) (fun _ _ _ _ _ _ x y k => lv_ishl C.1 C.2.1 d k)
theorem so_iushr (C : ab_cx p R s m args c cc own nL X D) (d : decode cc pc = .ok (.iushr, 1)) : ab_so p l e R s m args below meth c Q nL X D z0 cal pc (op_b2 (ab_binK (fun u v => (u.toUInt32 >>> (v.toUInt32 &&& Int32.toUInt32 31)).toInt32)) (pc + 1)) :=
  so_b2 (f := fun u v => (u.toUInt32 >>> (v.toUInt32 &&& Int32.toUInt32 31)).toInt32) C (fun env x y => ab_binK_eq _ env x y) (fun _ _ _ _ _ _ x y k => lv_iushr C.1 C.2.1 d rfl k)
theorem ab_frk_in {nl : Nat} {aw : ab_H} {cl sl : Nat} {lv : List (Nat × ab_V)} {st : List ab_V} : ∀ {T : List ab_E} {tgt : Nat} {k : List ab_S} {e : ab_E}, e ∈ T → ((e, nl, aw, cl, sl), tgt, lv, st) ∈ ab_frk nl aw cl sl lv st T tgt k
  | [], _, _, _, h => by cases h
  | a :: T, tgt, k, e, h => by
    rcases List.mem_cons.mp h with rfl | h
    · exact List.mem_cons_self
    · exact List.mem_cons_of_mem _ (ab_frk_in h)
theorem ab_frk_rest {nl : Nat} {aw : ab_H} {cl sl : Nat} {lv : List (Nat × ab_V)} {st : List ab_V} : ∀ {T : List ab_E} {tgt : Nat} {k : List ab_S} {S : ab_S}, S ∈ k → S ∈ ab_frk nl aw cl sl lv st T tgt k
  | [], _, _, _, h => h
  | _ :: _, _, _, _, h => List.mem_cons_of_mem _ (ab_frk_rest h)
theorem so_if_eq (C : ab_cx p R s m args c cc own nL X D) {off : Int} {tgt : Nat} (d : decode cc pc = .ok (.ifCond .eq off, 3)) (ht : (pc : Int) + off = (tgt : Int)) : ab_so p l e R s m args below meth c Q nL X D z0 cal pc (op_if 0 tgt (pc + 3)) := by
  intro env nl aw cl sl lv st r hr hk z ws H locs ls cst hR hl hs
  dsimp only at hR hl hs
  unfold op_if at hr
  split at hr
  · rename_i a st'
    obtain ⟨T, F, q1, q2, q3⟩ := ab_brK_eq (β := ab_A) 0 env a (none, 0)
    rw [q1] at hr
    cases hr
    obtain ⟨x, r, rfl, h1, h2⟩ := ab_st1 hs
    obtain ⟨y, rfl, h3⟩ := ab_evi h1
    refine lv_if_eq C.1 C.2.1 d ht (fun hP => ?_) (fun hP => ?_)
    · obtain ⟨e1, m1, m2⟩ := q2 z.1 y 0 hR.1 h3 rfl (congrArg Int32.toInt hP)
      exact hk _ (ab_frk_in m1) z ws H locs ls r (hR.ref m2) hl h2
    · obtain ⟨e1, m1, m2⟩ := q3 z.1 y 0 hR.1 h3 rfl (fun q => hP (Int32.toInt_inj.mp q))
      exact hk _ (ab_frk_rest (ab_frk_in m1)) z ws H locs ls r (hR.ref m2) hl h2
  · cases hr
theorem so_icmp_eq (C : ab_cx p R s m args c cc own nL X D) {off : Int} {tgt : Nat} (d : decode cc pc = .ok (.if_icmp .eq off, 3)) (ht : (pc : Int) + off = (tgt : Int)) : ab_so p l e R s m args below meth c Q nL X D z0 cal pc (op_icmp 0 tgt (pc + 3)) := by
  intro env nl aw cl sl lv st r hr hk z ws H locs ls cst hR hl hs
  dsimp only at hR hl hs
  unfold op_icmp at hr
  split at hr
  · rename_i b a st'
    obtain ⟨T, F, q1, q2, q3⟩ := ab_brK_eq (β := ab_A) 0 env a b
    rw [q1] at hr
    cases hr
    obtain ⟨x, r, rfl, h1, h2⟩ := ab_st1 hs
    obtain ⟨y, rfl, h3⟩ := ab_evi h1
    obtain ⟨x2, r2, rfl, h4, h5⟩ := ab_st1 h2
    obtain ⟨y2, rfl, h6⟩ := ab_evi h4
    refine lv_icmp_eq C.1 C.2.1 d ht (fun hP => ?_) (fun hP => ?_)
    · obtain ⟨e1, m1, m2⟩ := q2 z.1 y2 y hR.1 h6 h3 (congrArg Int32.toInt hP)
      exact hk _ (ab_frk_in m1) z ws H locs ls r2 (hR.ref m2) hl h5
    · obtain ⟨e1, m1, m2⟩ := q3 z.1 y2 y hR.1 h6 h3 (fun q => hP (Int32.toInt_inj.mp q))
      exact hk _ (ab_frk_rest (ab_frk_in m1)) z ws H locs ls r2 (hR.ref m2) hl h5
  · cases hr
theorem so_if_ne (C : ab_cx p R s m args c cc own nL X D) {off : Int} {tgt : Nat} (d : decode cc pc = .ok (.ifCond .ne off, 3)) (ht : (pc : Int) + off = (tgt : Int)) : ab_so p l e R s m args below meth c Q nL X D z0 cal pc (op_if 1 tgt (pc + 3)) := by
  intro env nl aw cl sl lv st r hr hk z ws H locs ls cst hR hl hs
  dsimp only at hR hl hs
  unfold op_if at hr
  split at hr
  · rename_i a st'
    obtain ⟨T, F, q1, q2, q3⟩ := ab_brK_eq (β := ab_A) 1 env a (none, 0)
    rw [q1] at hr
    cases hr
    obtain ⟨x, r, rfl, h1, h2⟩ := ab_st1 hs
    obtain ⟨y, rfl, h3⟩ := ab_evi h1
    refine lv_if_ne C.1 C.2.1 d ht (fun hP => ?_) (fun hP => ?_)
    · obtain ⟨e1, m1, m2⟩ := q2 z.1 y 0 hR.1 h3 rfl (fun q => hP (Int32.toInt_inj.mp q))
      exact hk _ (ab_frk_in m1) z ws H locs ls r (hR.ref m2) hl h2
    · obtain ⟨e1, m1, m2⟩ := q3 z.1 y 0 hR.1 h3 rfl (fun q => q (congrArg Int32.toInt hP))
      exact hk _ (ab_frk_rest (ab_frk_in m1)) z ws H locs ls r (hR.ref m2) hl h2
  · cases hr
theorem so_icmp_ne (C : ab_cx p R s m args c cc own nL X D) {off : Int} {tgt : Nat} (d : decode cc pc = .ok (.if_icmp .ne off, 3)) (ht : (pc : Int) + off = (tgt : Int)) : ab_so p l e R s m args below meth c Q nL X D z0 cal pc (op_icmp 1 tgt (pc + 3)) := by
  intro env nl aw cl sl lv st r hr hk z ws H locs ls cst hR hl hs
  dsimp only at hR hl hs
  unfold op_icmp at hr
  split at hr
  · rename_i b a st'
    obtain ⟨T, F, q1, q2, q3⟩ := ab_brK_eq (β := ab_A) 1 env a b
    rw [q1] at hr
    cases hr
    obtain ⟨x, r, rfl, h1, h2⟩ := ab_st1 hs
    obtain ⟨y, rfl, h3⟩ := ab_evi h1
    obtain ⟨x2, r2, rfl, h4, h5⟩ := ab_st1 h2
    obtain ⟨y2, rfl, h6⟩ := ab_evi h4
    refine lv_icmp_ne C.1 C.2.1 d ht (fun hP => ?_) (fun hP => ?_)
    · obtain ⟨e1, m1, m2⟩ := q2 z.1 y2 y hR.1 h6 h3 (fun q => hP (Int32.toInt_inj.mp q))
      exact hk _ (ab_frk_in m1) z ws H locs ls r2 (hR.ref m2) hl h5
    · obtain ⟨e1, m1, m2⟩ := q3 z.1 y2 y hR.1 h6 h3 (fun q => q (congrArg Int32.toInt hP))
      exact hk _ (ab_frk_rest (ab_frk_in m1)) z ws H locs ls r2 (hR.ref m2) hl h5
  · cases hr
theorem so_if_lt (C : ab_cx p R s m args c cc own nL X D) {off : Int} {tgt : Nat} (d : decode cc pc = .ok (.ifCond .lt off, 3)) (ht : (pc : Int) + off = (tgt : Int)) : ab_so p l e R s m args below meth c Q nL X D z0 cal pc (op_if 2 tgt (pc + 3)) := by
  intro env nl aw cl sl lv st r hr hk z ws H locs ls cst hR hl hs
  dsimp only at hR hl hs
  unfold op_if at hr
  split at hr
  · rename_i a st'
    obtain ⟨T, F, q1, q2, q3⟩ := ab_brK_eq (β := ab_A) 2 env a (none, 0)
    rw [q1] at hr
    cases hr
    obtain ⟨x, r, rfl, h1, h2⟩ := ab_st1 hs
    obtain ⟨y, rfl, h3⟩ := ab_evi h1
    refine lv_if_lt C.1 C.2.1 d ht (fun hP => ?_) (fun hP => ?_)
    · obtain ⟨e1, m1, m2⟩ := q2 z.1 y 0 hR.1 h3 rfl (Int32.lt_iff_toInt_lt.mp hP)
      exact hk _ (ab_frk_in m1) z ws H locs ls r (hR.ref m2) hl h2
    · obtain ⟨e1, m1, m2⟩ := q3 z.1 y 0 hR.1 h3 rfl (fun q => hP (Int32.lt_iff_toInt_lt.mpr q))
      exact hk _ (ab_frk_rest (ab_frk_in m1)) z ws H locs ls r (hR.ref m2) hl h2
  · cases hr
theorem so_icmp_lt (C : ab_cx p R s m args c cc own nL X D) {off : Int} {tgt : Nat} (d : decode cc pc = .ok (.if_icmp .lt off, 3)) (ht : (pc : Int) + off = (tgt : Int)) : ab_so p l e R s m args below meth c Q nL X D z0 cal pc (op_icmp 2 tgt (pc + 3)) := by
  intro env nl aw cl sl lv st r hr hk z ws H locs ls cst hR hl hs
  dsimp only at hR hl hs
  unfold op_icmp at hr
  split at hr
  · rename_i b a st'
    obtain ⟨T, F, q1, q2, q3⟩ := ab_brK_eq (β := ab_A) 2 env a b
    rw [q1] at hr
    cases hr
    obtain ⟨x, r, rfl, h1, h2⟩ := ab_st1 hs
    obtain ⟨y, rfl, h3⟩ := ab_evi h1
    obtain ⟨x2, r2, rfl, h4, h5⟩ := ab_st1 h2
    obtain ⟨y2, rfl, h6⟩ := ab_evi h4
    refine lv_icmp_lt C.1 C.2.1 d ht (fun hP => ?_) (fun hP => ?_)
    · obtain ⟨e1, m1, m2⟩ := q2 z.1 y2 y hR.1 h6 h3 (Int32.lt_iff_toInt_lt.mp hP)
      exact hk _ (ab_frk_in m1) z ws H locs ls r2 (hR.ref m2) hl h5
    · obtain ⟨e1, m1, m2⟩ := q3 z.1 y2 y hR.1 h6 h3 (fun q => hP (Int32.lt_iff_toInt_lt.mpr q))
      exact hk _ (ab_frk_rest (ab_frk_in m1)) z ws H locs ls r2 (hR.ref m2) hl h5
  · cases hr
theorem so_if_ge (C : ab_cx p R s m args c cc own nL X D) {off : Int} {tgt : Nat} (d : decode cc pc = .ok (.ifCond .ge off, 3)) (ht : (pc : Int) + off = (tgt : Int)) : ab_so p l e R s m args below meth c Q nL X D z0 cal pc (op_if 3 tgt (pc + 3)) := by
  intro env nl aw cl sl lv st r hr hk z ws H locs ls cst hR hl hs
  dsimp only at hR hl hs
  unfold op_if at hr
  split at hr
  · rename_i a st'
    obtain ⟨T, F, q1, q2, q3⟩ := ab_brK_eq (β := ab_A) 3 env a (none, 0)
    rw [q1] at hr
    cases hr
    obtain ⟨x, r, rfl, h1, h2⟩ := ab_st1 hs
    obtain ⟨y, rfl, h3⟩ := ab_evi h1
    refine lv_if_ge C.1 C.2.1 d ht (fun hP => ?_) (fun hP => ?_)
    · obtain ⟨e1, m1, m2⟩ := q2 z.1 y 0 hR.1 h3 rfl (fun q => Int.not_le.mpr q (Int32.le_iff_toInt_le.mp hP))
      exact hk _ (ab_frk_in m1) z ws H locs ls r (hR.ref m2) hl h2
    · obtain ⟨e1, m1, m2⟩ := q3 z.1 y 0 hR.1 h3 rfl (fun q => hP (Int32.le_iff_toInt_le.mpr (Int.not_lt.mp q)))
      exact hk _ (ab_frk_rest (ab_frk_in m1)) z ws H locs ls r (hR.ref m2) hl h2
  · cases hr
theorem so_icmp_ge (C : ab_cx p R s m args c cc own nL X D) {off : Int} {tgt : Nat} (d : decode cc pc = .ok (.if_icmp .ge off, 3)) (ht : (pc : Int) + off = (tgt : Int)) : ab_so p l e R s m args below meth c Q nL X D z0 cal pc (op_icmp 3 tgt (pc + 3)) := by
  intro env nl aw cl sl lv st r hr hk z ws H locs ls cst hR hl hs
  dsimp only at hR hl hs
  unfold op_icmp at hr
  split at hr
  · rename_i b a st'
    obtain ⟨T, F, q1, q2, q3⟩ := ab_brK_eq (β := ab_A) 3 env a b
    rw [q1] at hr
    cases hr
    obtain ⟨x, r, rfl, h1, h2⟩ := ab_st1 hs
    obtain ⟨y, rfl, h3⟩ := ab_evi h1
    obtain ⟨x2, r2, rfl, h4, h5⟩ := ab_st1 h2
    obtain ⟨y2, rfl, h6⟩ := ab_evi h4
    refine lv_icmp_ge C.1 C.2.1 d ht (fun hP => ?_) (fun hP => ?_)
    · obtain ⟨e1, m1, m2⟩ := q2 z.1 y2 y hR.1 h6 h3 (fun q => Int.not_le.mpr q (Int32.le_iff_toInt_le.mp hP))
      exact hk _ (ab_frk_in m1) z ws H locs ls r2 (hR.ref m2) hl h5
    · obtain ⟨e1, m1, m2⟩ := q3 z.1 y2 y hR.1 h6 h3 (fun q => hP (Int32.le_iff_toInt_le.mpr (Int.not_lt.mp q)))
      exact hk _ (ab_frk_rest (ab_frk_in m1)) z ws H locs ls r2 (hR.ref m2) hl h5
  · cases hr
theorem so_if_gt (C : ab_cx p R s m args c cc own nL X D) {off : Int} {tgt : Nat} (d : decode cc pc = .ok (.ifCond .gt off, 3)) (ht : (pc : Int) + off = (tgt : Int)) : ab_so p l e R s m args below meth c Q nL X D z0 cal pc (op_if 4 tgt (pc + 3)) := by
  intro env nl aw cl sl lv st r hr hk z ws H locs ls cst hR hl hs
  dsimp only at hR hl hs
  unfold op_if at hr
  split at hr
  · rename_i a st'
    obtain ⟨T, F, q1, q2, q3⟩ := ab_brK_eq (β := ab_A) 4 env a (none, 0)
    rw [q1] at hr
    cases hr
    obtain ⟨x, r, rfl, h1, h2⟩ := ab_st1 hs
    obtain ⟨y, rfl, h3⟩ := ab_evi h1
    refine lv_if_gt C.1 C.2.1 d ht (fun hP => ?_) (fun hP => ?_)
    · obtain ⟨e1, m1, m2⟩ := q2 z.1 y 0 hR.1 h3 rfl (Int32.lt_iff_toInt_lt.mp hP)
      exact hk _ (ab_frk_in m1) z ws H locs ls r (hR.ref m2) hl h2
    · obtain ⟨e1, m1, m2⟩ := q3 z.1 y 0 hR.1 h3 rfl (fun q => hP (Int32.lt_iff_toInt_lt.mpr q))
      exact hk _ (ab_frk_rest (ab_frk_in m1)) z ws H locs ls r (hR.ref m2) hl h2
  · cases hr
theorem so_icmp_gt (C : ab_cx p R s m args c cc own nL X D) {off : Int} {tgt : Nat} (d : decode cc pc = .ok (.if_icmp .gt off, 3)) (ht : (pc : Int) + off = (tgt : Int)) : ab_so p l e R s m args below meth c Q nL X D z0 cal pc (op_icmp 4 tgt (pc + 3)) := by
  intro env nl aw cl sl lv st r hr hk z ws H locs ls cst hR hl hs
  dsimp only at hR hl hs
  unfold op_icmp at hr
  split at hr
  · rename_i b a st'
    obtain ⟨T, F, q1, q2, q3⟩ := ab_brK_eq (β := ab_A) 4 env a b
    rw [q1] at hr
    cases hr
    obtain ⟨x, r, rfl, h1, h2⟩ := ab_st1 hs
    obtain ⟨y, rfl, h3⟩ := ab_evi h1
    obtain ⟨x2, r2, rfl, h4, h5⟩ := ab_st1 h2
    obtain ⟨y2, rfl, h6⟩ := ab_evi h4
    refine lv_icmp_gt C.1 C.2.1 d ht (fun hP => ?_) (fun hP => ?_)
    · obtain ⟨e1, m1, m2⟩ := q2 z.1 y2 y hR.1 h6 h3 (Int32.lt_iff_toInt_lt.mp hP)
      exact hk _ (ab_frk_in m1) z ws H locs ls r2 (hR.ref m2) hl h5
    · obtain ⟨e1, m1, m2⟩ := q3 z.1 y2 y hR.1 h6 h3 (fun q => hP (Int32.lt_iff_toInt_lt.mpr q))
      exact hk _ (ab_frk_rest (ab_frk_in m1)) z ws H locs ls r2 (hR.ref m2) hl h5
  · cases hr
theorem so_if_le (C : ab_cx p R s m args c cc own nL X D) {off : Int} {tgt : Nat} (d : decode cc pc = .ok (.ifCond .le off, 3)) (ht : (pc : Int) + off = (tgt : Int)) : ab_so p l e R s m args below meth c Q nL X D z0 cal pc (op_if 5 tgt (pc + 3)) := by
  intro env nl aw cl sl lv st r hr hk z ws H locs ls cst hR hl hs
  dsimp only at hR hl hs
  unfold op_if at hr
  split at hr
  · rename_i a st'
    obtain ⟨T, F, q1, q2, q3⟩ := ab_brK_eq (β := ab_A) 5 env a (none, 0)
    rw [q1] at hr
    cases hr
    obtain ⟨x, r, rfl, h1, h2⟩ := ab_st1 hs
    obtain ⟨y, rfl, h3⟩ := ab_evi h1
    refine lv_if_le C.1 C.2.1 d ht (fun hP => ?_) (fun hP => ?_)
    · obtain ⟨e1, m1, m2⟩ := q2 z.1 y 0 hR.1 h3 rfl (fun q => Int.not_le.mpr q (Int32.le_iff_toInt_le.mp hP))
      exact hk _ (ab_frk_in m1) z ws H locs ls r (hR.ref m2) hl h2
    · obtain ⟨e1, m1, m2⟩ := q3 z.1 y 0 hR.1 h3 rfl (fun q => hP (Int32.le_iff_toInt_le.mpr (Int.not_lt.mp q)))
      exact hk _ (ab_frk_rest (ab_frk_in m1)) z ws H locs ls r (hR.ref m2) hl h2
  · cases hr
theorem so_icmp_le (C : ab_cx p R s m args c cc own nL X D) {off : Int} {tgt : Nat} (d : decode cc pc = .ok (.if_icmp .le off, 3)) (ht : (pc : Int) + off = (tgt : Int)) : ab_so p l e R s m args below meth c Q nL X D z0 cal pc (op_icmp 5 tgt (pc + 3)) := by
  intro env nl aw cl sl lv st r hr hk z ws H locs ls cst hR hl hs
  dsimp only at hR hl hs
  unfold op_icmp at hr
  split at hr
  · rename_i b a st'
    obtain ⟨T, F, q1, q2, q3⟩ := ab_brK_eq (β := ab_A) 5 env a b
    rw [q1] at hr
    cases hr
    obtain ⟨x, r, rfl, h1, h2⟩ := ab_st1 hs
    obtain ⟨y, rfl, h3⟩ := ab_evi h1
    obtain ⟨x2, r2, rfl, h4, h5⟩ := ab_st1 h2
    obtain ⟨y2, rfl, h6⟩ := ab_evi h4
    refine lv_icmp_le C.1 C.2.1 d ht (fun hP => ?_) (fun hP => ?_)
    · obtain ⟨e1, m1, m2⟩ := q2 z.1 y2 y hR.1 h6 h3 (fun q => Int.not_le.mpr q (Int32.le_iff_toInt_le.mp hP))
      exact hk _ (ab_frk_in m1) z ws H locs ls r2 (hR.ref m2) hl h5
    · obtain ⟨e1, m1, m2⟩ := q3 z.1 y2 y hR.1 h6 h3 (fun q => hP (Int32.le_iff_toInt_le.mpr (Int.not_lt.mp q)))
      exact hk _ (ab_frk_rest (ab_frk_in m1)) z ws H locs ls r2 (hR.ref m2) hl h5
  · cases hr
theorem so_goto (C : ab_cx p R s m args c cc own nL X D) {off : Int} {tgt : Nat} (d : decode cc pc = .ok (.goto off, 3)) (ht : (pc : Int) + off = (tgt : Int)) : ab_so p l e R s m args below meth c Q nL X D z0 cal pc (op_goto tgt) := by
  intro env nl aw cl sl lv st r hr hk z ws H locs ls cst hR hl hs
  dsimp only at hR hl hs
  simp only [op_goto, Option.some.injEq] at hr
  subst hr
  exact lv_goto C.1 C.2.1 d ht (hk _ List.mem_cons_self z ws H locs ls cst hR hl hs)
theorem so_dup (C : ab_cx p R s m args c cc own nL X D) (d : decode cc pc = .ok (.dup, 1)) : ab_so p l e R s m args below meth c Q nL X D z0 cal pc (op_dup (pc + 1)) := by
  intro env nl aw cl sl lv st r hr hk z ws H locs ls cst hR hl hs
  dsimp only at hR hl hs
  unfold op_dup at hr
  split at hr
  · rename_i v st'
    cases hg : ab_lg v
    · rw [hg] at hr
      cases hr
      obtain ⟨x, r, rfl, h1, h2⟩ := ab_st1 hs
      have hc := ab_cat C.2.2.2.2.2.1.2.2.2.2.1 h1
      rw [hg] at hc
      refine lv_dup C.1 C.2.1 d hc ?_
      exact hk _ List.mem_cons_self z ws H locs ls (x :: x :: r) hR hl (by simp only [List.map_cons, h1]; rw [h2])
    · rw [hg] at hr; cases hr
  · cases hr
theorem so_pop (C : ab_cx p R s m args c cc own nL X D) (d : decode cc pc = .ok (.pop, 1)) : ab_so p l e R s m args below meth c Q nL X D z0 cal pc (op_pop (pc + 1)) := by
  intro env nl aw cl sl lv st r hr hk z ws H locs ls cst hR hl hs
  dsimp only at hR hl hs
  unfold op_pop at hr
  split at hr
  · rename_i v st'
    cases hg : ab_lg v
    · rw [hg] at hr
      cases hr
      obtain ⟨x, r, rfl, h1, h2⟩ := ab_st1 hs
      have hc := ab_cat C.2.2.2.2.2.1.2.2.2.2.1 h1
      rw [hg] at hc
      refine lv_pop C.1 C.2.1 d hc ?_
      exact hk _ List.mem_cons_self z ws H locs ls r hR hl h2
    · rw [hg] at hr; cases hr
  · cases hr
theorem so_dup2 (C : ab_cx p R s m args c cc own nL X D) (d : decode cc pc = .ok (.dup2, 1)) : ab_so p l e R s m args below meth c Q nL X D z0 cal pc (op_dup2 (pc + 1)) := by
  intro env nl aw cl sl lv st r hr hk z ws H locs ls cst hR hl hs
  dsimp only at hR hl hs
  unfold op_dup2 at hr
  split at hr
  · rename_i v u st'
    cases hg : ab_lg v
    · cases hg2 : ab_lg u
      · rw [hg, hg2] at hr
        cases hr
        obtain ⟨x, r, rfl, h1, h2⟩ := ab_st1 hs
        obtain ⟨x2, r2, rfl, h3, h4⟩ := ab_st1 h2
        have hc := ab_cat C.2.2.2.2.2.1.2.2.2.2.1 h1
        have hc2 := ab_cat C.2.2.2.2.2.1.2.2.2.2.1 h3
        rw [hg] at hc
        rw [hg2] at hc2
        refine lv_dup2_11 C.1 C.2.1 d hc hc2 ?_
        exact hk _ List.mem_cons_self z ws H locs ls (x :: x2 :: x :: x2 :: r2) hR hl (by simp only [List.map_cons, h1, h3]; rw [h4])
      · rw [hg, hg2] at hr; cases hr
    · rw [hg] at hr; cases hr
  · cases hr
theorem so_i2l (C : ab_cx p R s m args c cc own nL X D) (d : decode cc pc = .ok (.i2l, 1)) : ab_so p l e R s m args below meth c Q nL X D z0 cal pc (op_i2l (pc + 1)) := by
  intro env nl aw cl sl lv st r hr hk z ws H locs ls cst hR hl hs
  dsimp only at hR hl hs
  unfold op_i2l at hr
  split at hr
  · rename_i a st'
    cases hb : ab_rng a
    · rw [hb] at hr; cases hr
    · rw [hb, cond_true] at hr
      cases hr
      obtain ⟨x, r, rfl, h1, h2⟩ := ab_st1 hs
      obtain ⟨y, rfl, h3⟩ := ab_evi h1
      refine lv_i2l C.1 C.2.1 d rfl ?_
      exact hk _ List.mem_cons_self z ws H locs ls (.long y.toInt64 :: r) hR hl (by simp only [List.map_cons, ab_ev]; rw [ab_evL_of hb h3, h2]; rfl)
  · cases hr
theorem so_lfr {np : Nat} {rest : List Value} {lv : List (Nat × ab_V)} {st : List ab_V} {env : ab_E} {nl : Nat} {aw : ab_H} {cl sl : Nat} {z : ab_Z} {ws : va_W} {H : Heap} {locs : List Loc} {ls : Array Slot} {r : List ab_S} (hr : op_lfr np cal env nl aw cl sl lv st = some r) (hk : ∀ S ∈ r, ab_ok p l e R s m args below meth c Q nL X D z0 S) (hR : ab_R X D s z0 env nl aw z ws H locs) (hl : ab_lR X z nL ls lv) (hs : st.map (ab_ev X z) = rest.map some) (y : Int64) : W p l e R s m args below meth c H locs cl sl Q (F0 m np ls (.long y :: rest)) := by
  simp only [op_lfr, ab_fn_eq, Option.some.injEq] at hr
  subst hr
  refine hk _ List.mem_cons_self (z.1, z.2.1 ++ [y], z.2.2) ws H locs ls (.long y :: rest) (hR.lng y) (hl.ext ab_ext_l) ?_
  simp only [List.map_cons, ab_ev, ab_evL]
  rw [ab_evs.ext ab_ext_l hs, List.getElem?_append_right (by rw [hR.2.1]; exact Nat.le_refl _), hR.2.1, Nat.sub_self]; rfl
theorem so_lor (C : ab_cx p R s m args c cc own nL X D) (d : decode cc pc = .ok (.lor, 1)) : ab_so p l e R s m args below meth c Q nL X D z0 cal pc (op_l2 (pc + 1)) := by
  intro env nl aw cl sl lv st r hr hk z ws H locs ls cst hR hl hs
  dsimp only at hR hl hs
  unfold op_l2 at hr
  split at hr
  · obtain ⟨x, r, rfl, h1, h2⟩ := ab_st1 hs
    obtain ⟨y, rfl, h3⟩ := ab_evl h1
    obtain ⟨x2, r2, rfl, h4, h5⟩ := ab_st1 h2
    obtain ⟨y2, rfl, h6⟩ := ab_evl h4
    exact lv_lor C.1 C.2.1 d (so_lfr hr hk hR hl h5 _)
  · cases hr
theorem so_land (C : ab_cx p R s m args c cc own nL X D) (d : decode cc pc = .ok (.land, 1)) : ab_so p l e R s m args below meth c Q nL X D z0 cal pc (op_l2 (pc + 1)) := by
  intro env nl aw cl sl lv st r hr hk z ws H locs ls cst hR hl hs
  dsimp only at hR hl hs
  unfold op_l2 at hr
  split at hr
  · obtain ⟨x, r, rfl, h1, h2⟩ := ab_st1 hs
    obtain ⟨y, rfl, h3⟩ := ab_evl h1
    obtain ⟨x2, r2, rfl, h4, h5⟩ := ab_st1 h2
    obtain ⟨y2, rfl, h6⟩ := ab_evl h4
    exact lv_land C.1 C.2.1 d (so_lfr hr hk hR hl h5 _)
  · cases hr
theorem so_lxor (C : ab_cx p R s m args c cc own nL X D) (d : decode cc pc = .ok (.lxor, 1)) : ab_so p l e R s m args below meth c Q nL X D z0 cal pc (op_l2 (pc + 1)) := by
  intro env nl aw cl sl lv st r hr hk z ws H locs ls cst hR hl hs
  dsimp only at hR hl hs
  unfold op_l2 at hr
  split at hr
  · obtain ⟨x, r, rfl, h1, h2⟩ := ab_st1 hs
    obtain ⟨y, rfl, h3⟩ := ab_evl h1
    obtain ⟨x2, r2, rfl, h4, h5⟩ := ab_st1 h2
    obtain ⟨y2, rfl, h6⟩ := ab_evl h4
    exact lv_lxor C.1 C.2.1 d (so_lfr hr hk hR hl h5 _)
  · cases hr
theorem so_ladd (C : ab_cx p R s m args c cc own nL X D) (d : decode cc pc = .ok (.ladd, 1)) : ab_so p l e R s m args below meth c Q nL X D z0 cal pc (op_l2 (pc + 1)) := by
  intro env nl aw cl sl lv st r hr hk z ws H locs ls cst hR hl hs
  dsimp only at hR hl hs
  unfold op_l2 at hr
  split at hr
  · obtain ⟨x, r, rfl, h1, h2⟩ := ab_st1 hs
    obtain ⟨y, rfl, h3⟩ := ab_evl h1
    obtain ⟨x2, r2, rfl, h4, h5⟩ := ab_st1 h2
    obtain ⟨y2, rfl, h6⟩ := ab_evl h4
    exact lv_ladd C.1 C.2.1 d (so_lfr hr hk hR hl h5 _)
  · cases hr
theorem so_lshl (C : ab_cx p R s m args c cc own nL X D) (d : decode cc pc = .ok (.lshl, 1)) : ab_so p l e R s m args below meth c Q nL X D z0 cal pc (op_lsh (pc + 1)) := by
  intro env nl aw cl sl lv st r hr hk z ws H locs ls cst hR hl hs
  dsimp only at hR hl hs
  unfold op_lsh at hr
  split at hr
  · obtain ⟨x, r, rfl, h1, h2⟩ := ab_st1 hs
    obtain ⟨y, rfl, h3⟩ := ab_evi h1
    obtain ⟨x2, r2, rfl, h4, h5⟩ := ab_st1 h2
    obtain ⟨y2, rfl, h6⟩ := ab_evl h4
    exact lv_lshl C.1 C.2.1 d rfl (so_lfr hr hk hR hl h5 _)
  · cases hr
theorem so_lshr (C : ab_cx p R s m args c cc own nL X D) (d : decode cc pc = .ok (.lshr, 1)) : ab_so p l e R s m args below meth c Q nL X D z0 cal pc (op_lsh (pc + 1)) := by
  intro env nl aw cl sl lv st r hr hk z ws H locs ls cst hR hl hs
  dsimp only at hR hl hs
  unfold op_lsh at hr
  split at hr
  · obtain ⟨x, r, rfl, h1, h2⟩ := ab_st1 hs
    obtain ⟨y, rfl, h3⟩ := ab_evi h1
    obtain ⟨x2, r2, rfl, h4, h5⟩ := ab_st1 h2
    obtain ⟨y2, rfl, h6⟩ := ab_evl h4
    exact lv_lshr C.1 C.2.1 d rfl (so_lfr hr hk hR hl h5 _)
  · cases hr
theorem so_ldc2 (C : ab_cx p R s m args c cc own nL X D) {i : Nat} {v : Int64} (hw : Cond.constantLong own i v ∈ ab_TG) (d : decode cc pc = .ok (.ldc2_w i, 3)) : ab_so p l e R s m args below meth c Q nL X D z0 cal pc (op_lfr (pc + 3)) := by
  intro env nl aw cl sl lv st r hr hk z ws H locs ls cst hR hl hs
  dsimp only at hR hl hs
  exact lv_ldc2 C.1 C.2.1 C.2.2.2.1 (C.2.2.2.2.1 _ hw) d (so_lfr hr hk hR hl hs v)
theorem so_i2b (C : ab_cx p R s m args c cc own nL X D) (hid : ∀ x : Int32, -128 ≤ x.toInt → x.toInt ≤ 127 → x.toInt8.toInt32 = x) (hin : ∀ x : Int32, -128 ≤ (x.toInt8.toInt32).toInt ∧ (x.toInt8.toInt32).toInt ≤ 127) (d : decode cc pc = .ok (.i2b, 1)) : ab_so p l e R s m args below meth c Q nL X D z0 cal pc (op_cv (-128) 127 (pc + 1)) := by
  intro env nl aw cl sl lv st r hr hk z ws H locs ls cst hR hl hs
  dsimp only at hR hl hs
  unfold op_cv at hr
  split at hr
  · rename_i a st'
    obtain ⟨x0, r, rfl, h1, h2⟩ := ab_st1 hs
    obtain ⟨x, rfl, h3⟩ := ab_evi h1
    have hi := ab_iv_spec hR.1 h3
    rw [ab_ivK_eq] at hr
    cases hc : (ab_le (-128) (ab_iv env a).1 && ab_le (ab_iv env a).2 127)
    · rw [hc, cond_false, ab_frK_eq] at hr
      cases hr
      refine lv_i2b C.1 C.2.1 d rfl ?_
      have e1 : ab_eR (env ++ [(-128, 127)]) (z.1 ++ [x.toInt8.toInt32]) := hR.1.push (hin x).1 (hin x).2
      refine hk _ List.mem_cons_self (z.1 ++ [x.toInt8.toInt32], z.2) ws H locs ls (.int (x.toInt8.toInt32) :: r) (hR.vars e1) (hl.ext ab_ext_v) ?_
      simp only [List.map_cons, ab_ev, ab_evI]
      rw [ab_evs.ext (ab_ext_v (t := [x.toInt8.toInt32])) h2, List.getElem?_append_right (by rw [hR.1.1]; exact Nat.le_refl _), hR.1.1, Nat.sub_self]
      simp
    · rw [hc, cond_true] at hr
      cases hr
      rw [Bool.and_eq_true, ab_le_iff, ab_le_iff] at hc
      refine lv_i2b (v := x) C.1 C.2.1 d (hid x (by omega) (by omega)) ?_
      exact hk _ List.mem_cons_self z ws H locs ls (.int x :: r) hR hl (by simp only [List.map_cons, h1]; rw [h2])
  · cases hr
theorem so_i2c (C : ab_cx p R s m args c cc own nL X D) (hid : ∀ x : Int32, 0 ≤ x.toInt → x.toInt ≤ 65535 → (x.toUInt32 % 65536).toInt32 = x) (hin : ∀ x : Int32, 0 ≤ ((x.toUInt32 % 65536).toInt32).toInt ∧ ((x.toUInt32 % 65536).toInt32).toInt ≤ 65535) (d : decode cc pc = .ok (.i2c, 1)) : ab_so p l e R s m args below meth c Q nL X D z0 cal pc (op_cv (0) 65535 (pc + 1)) := by
  intro env nl aw cl sl lv st r hr hk z ws H locs ls cst hR hl hs
  dsimp only at hR hl hs
  unfold op_cv at hr
  split at hr
  · rename_i a st'
    obtain ⟨x0, r, rfl, h1, h2⟩ := ab_st1 hs
    obtain ⟨x, rfl, h3⟩ := ab_evi h1
    have hi := ab_iv_spec hR.1 h3
    rw [ab_ivK_eq] at hr
    cases hc : (ab_le (0) (ab_iv env a).1 && ab_le (ab_iv env a).2 65535)
    · rw [hc, cond_false, ab_frK_eq] at hr
      cases hr
      refine lv_i2c C.1 C.2.1 d rfl ?_
      have e1 : ab_eR (env ++ [(0, 65535)]) (z.1 ++ [(x.toUInt32 % 65536).toInt32]) := hR.1.push (hin x).1 (hin x).2
      refine hk _ List.mem_cons_self (z.1 ++ [(x.toUInt32 % 65536).toInt32], z.2) ws H locs ls (.int ((x.toUInt32 % 65536).toInt32) :: r) (hR.vars e1) (hl.ext ab_ext_v) ?_
      simp only [List.map_cons, ab_ev, ab_evI]
      rw [ab_evs.ext (ab_ext_v (t := [(x.toUInt32 % 65536).toInt32])) h2, List.getElem?_append_right (by rw [hR.1.1]; exact Nat.le_refl _), hR.1.1, Nat.sub_self]
      simp
    · rw [hc, cond_true] at hr
      cases hr
      rw [Bool.and_eq_true, ab_le_iff, ab_le_iff] at hc
      refine lv_i2c (v := x) C.1 C.2.1 d (hid x (by omega) (by omega)) ?_
      exact hk _ List.mem_cons_self z ws H locs ls (.int x :: r) hR hl (by simp only [List.map_cons, h1]; rw [h2])
  · cases hr
theorem ab_cmp_in (x y : Int64) : -1 ≤ (lg_cmp x y).toInt ∧ (lg_cmp x y).toInt ≤ 1 := by
  unfold lg_cmp
  split
  · decide +kernel
  · split
    · decide +kernel
    · decide +kernel
theorem so_lcmp (C : ab_cx p R s m args c cc own nL X D) (d : decode cc pc = .ok (.lcmp, 1)) : ab_so p l e R s m args below meth c Q nL X D z0 cal pc (op_lcmp (pc + 1)) := by
  intro env nl aw cl sl lv st r hr hk z ws H locs ls cst hR hl hs
  dsimp only at hR hl hs
  unfold op_lcmp at hr
  split at hr
  · rename_i b a st'
    obtain ⟨x, r, rfl, h1, h2⟩ := ab_st1 hs
    obtain ⟨y, rfl, h3⟩ := ab_evl h1
    obtain ⟨x2, r2, rfl, h4, h5⟩ := ab_st1 h2
    obtain ⟨y2, rfl, h6⟩ := ab_evl h4
    refine W.lcmp C.1 C.2.1 d ?_
    have fin : ∀ r0 : List ab_S, ab_frK env (-1) 1 (fun env a => some [((env, nl, aw, cl, sl), pc + 1, lv, .inl a :: st')]) = some r0 → (∀ S ∈ r0, ab_ok p l e R s m args below meth c Q nL X D z0 S) → W p l e R s m args below meth c H locs cl sl Q (F0 m (pc + 1) ls (.int (lg_cmp y2 y) :: r2)) := by
      intro r0 h0 hk0
      rw [ab_frK_eq] at h0
      cases h0
      have e1 : ab_eR (env ++ [(-1, 1)]) (z.1 ++ [lg_cmp y2 y]) := hR.1.push (ab_cmp_in y2 y).1 (ab_cmp_in y2 y).2
      refine hk0 _ List.mem_cons_self (z.1 ++ [lg_cmp y2 y], z.2) ws H locs ls (.int (lg_cmp y2 y) :: r2) (hR.vars e1) (hl.ext ab_ext_v) ?_
      simp only [List.map_cons, ab_ev, ab_evI]
      rw [ab_evs.ext (ab_ext_v (t := [lg_cmp y2 y])) h5, List.getElem?_append_right (by rw [hR.1.1]; exact Nat.le_refl _), hR.1.1, Nat.sub_self]
      simp
    split at hr
    · rename_i a0 b0
      cases hg : (ab_rng a0 && ab_rng b0)
      · rw [hg, cond_false] at hr; exact fin r hr hk
      rw [hg, cond_true] at hr
      rw [Bool.and_eq_true] at hg
      obtain ⟨a1, u1, u2⟩ := ab_cnK_eq (β := ab_A) env a0
      obtain ⟨b1, v1, v2⟩ := ab_cnK_eq (β := ab_A) env b0
      rw [u1, v1] at hr
      cases hc : ab_eqI a1 b1
      · rw [hc, cond_false] at hr; exact fin r hr hk
      · rw [hc, cond_true] at hr
        cases hr
        cases ab_eqI_eq hc
        obtain ⟨i1, j1, rfl⟩ := ab_evL_in hg.2 h3
        obtain ⟨i2, j2, rfl⟩ := ab_evL_in hg.1 h6
        have k1 := v2 z.1 i1 hR.1 j1
        have k2 := u2 z.1 i2 hR.1 j2
        cases Option.some.inj (k1.symm.trans k2)
        have e0 : lg_cmp i1.toInt64 i1.toInt64 = 0 := by unfold lg_cmp; rw [if_neg (Int64.lt_irrefl), if_pos rfl]
        rw [e0]
        exact hk _ List.mem_cons_self z ws H locs ls (.int 0 :: r2) hR hl (by simp only [List.map_cons, ab_ev, ab_evI, Option.map_some]; rw [h5]; rfl)
    · exact fin r hr hk
  · cases hr
end
