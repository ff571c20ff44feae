/-! Runs of a method; contracts; calls. -/
abbrev ab_tab : Type := List (List (Nat × Nat × ab_P))
/-- a method: name, bytes, locals, answer, cells and fields that it makes, kind (0; 1: it may throw; 2: it catches), its handlers, its instructions -/
abbrev ab_ME : Type := MethodName × ByteArray × Nat × Option FieldType × Nat × Nat × Nat × List (Nat × Nat × Nat × Nat) × ab_tab
noncomputable def ab_rm (d mc ms : Nat) : Room := { frames := 16 * d, cells := mc, slots := ms, locals := 200 * d }
noncomputable def ab_ent : Nat → List ab_V → List (Nat × ab_V)
  | _, [] => []
  | i, v :: r => (i, v) :: ab_ent (bif ab_lg v then i + 2 else i + 1) r
noncomputable def ab_entK {β : Type} : Nat → List ab_V → (List (Nat × ab_V) → β) → β
  | _, [], k => k []
  | i, v :: r, k => ab_fn (bif ab_lg v then i + 2 else i + 1) (fun j => ab_entK j r (fun t => k ((i, v) :: t)))
theorem ab_entK_eq {β : Type} : ∀ (i : Nat) (l : List ab_V) (k : List (Nat × ab_V) → β), ab_entK i l k = k (ab_ent i l)
  | _, [], k => rfl
  | i, v :: r, k => by simp only [ab_entK, ab_ent, ab_fn_eq]; exact ab_entK_eq _ r _
noncomputable def ab_csum : List ab_V → Nat
  | [] => 0
  | v :: r => (bif ab_lg v then 2 else 1) + ab_csum r
noncomputable def ab_as (l : List (Nat × Nat × ab_P)) : Nat → Option (Nat × ab_P) := fun pc => List.rec (motive := fun _ => Option (Nat × ab_P)) none (fun q _ ih => match q with
  | (i, k, f) => bif Nat.beq i pc then some (k, f) else ih) l
theorem ab_as_c {i k pc : Nat} {f : ab_P} {r : List (Nat × Nat × ab_P)} : ab_as ((i, k, f) :: r) pc = bif Nat.beq i pc then some (k, f) else ab_as r pc := rfl
noncomputable def ab_fd (tab : ab_tab) (pc : Nat) : Option (Nat × ab_P) := match ab_get tab (pc / 16) with
  | none => none
  | some b => ab_as b pc
theorem ab_as_mem : ∀ {b : List (Nat × Nat × ab_P)} {pc k : Nat} {f : ab_P}, ab_as b pc = some (k, f) → (pc, k, f) ∈ b
  | [], _, _, _, h => by cases h
  | (i, k', f') :: r, pc, k, f, h => by
    rw [ab_as_c] at h
    cases hb : Nat.beq i pc
    · rw [hb] at h; exact List.mem_cons_of_mem _ (ab_as_mem h)
    · rw [hb] at h
      cases h
      rw [Nat.eq_of_beq_eq_true hb]; exact List.mem_cons_self
theorem ab_fd_mem {tab : ab_tab} {pc k : Nat} {f : ab_P} (h : ab_fd tab pc = some (k, f)) : ∃ b ∈ tab, (pc, k, f) ∈ b := by
  unfold ab_fd at h
  rw [ab_get_eq] at h
  split at h
  · cases h
  · rename_i b hb
    exact ⟨b, List.mem_of_getElem? hb, ab_as_mem h⟩
noncomputable def ab_apK {β : Type} (l w : List ab_S) (k : List ab_S → β) : β := List.rec (motive := fun _ => (List ab_S → β) → β) (fun k => k w) (fun a _ ih k => ih (fun q => k (a :: q))) l k
theorem ab_apK_c {β : Type} {a : ab_S} {t w : List ab_S} {k : List ab_S → β} : ab_apK (a :: t) w k = ab_apK t w (fun q => k (a :: q)) := rfl
theorem ab_apK_eq {β : Type} : ∀ (r w : List ab_S) (k : List ab_S → β), ab_apK r w k = k (r ++ w)
  | [], w, k => rfl
  | a :: t, w, k => by rw [ab_apK_c, List.cons_append]; exact ab_apK_eq t w _
noncomputable def ab_run (tab : ab_tab) (cal : ab_K) (n : Nat) : List ab_S → List (Nat × ab_S) → Option (List (Nat × ab_S)) := Nat.rec (motive := fun _ => List ab_S → List (Nat × ab_S) → Option (List (Nat × ab_S))) (fun _ _ => none) (fun _ ih wk outs => match wk with
    | [] => some outs
    | ((env, nl, aw, cl, sl), pc, lv, st) :: w => match ab_fd tab pc with
      | none => none
      | some (k, f) => match k with
        | 0 => (match f cal env nl aw cl sl lv st with
          | none => none
          | some r => ab_apK r w (fun w => ih w outs))
        | j + 1 => ih w ((Nat.succ j, ((env, nl, aw, cl, sl), pc, lv, st)) :: outs)) n
theorem ab_run_s {tab : ab_tab} {cal : ab_K} {n : Nat} {wk : List ab_S} {outs : List (Nat × ab_S)} : ab_run tab cal (n + 1) wk outs = (match wk with
    | [] => some outs
    | ((env, nl, aw, cl, sl), pc, lv, st) :: w => match ab_fd tab pc with
      | none => none
      | some (k, f) => match k with
        | 0 => (match f cal env nl aw cl sl lv st with
          | none => none
          | some r => ab_apK r w (fun w => ab_run tab cal n w outs))
        | j + 1 => ab_run tab cal n w ((Nat.succ j, ((env, nl, aw, cl, sl), pc, lv, st)) :: outs)) := rfl
/-- what the ends of a run answer -/
noncomputable def ab_fin (ret : Option FieldType) (mc ms : Nat) : List (Nat × ab_S) → (List ab_O → Option (List ab_O)) → Option (List ab_O)
  | [], k => k []
  | (n, ((env, nl, aw, cl, sl), _, _, st)) :: r, k => match n with
    | 1 => (match ret, st with
      | some ty, [.inl a] => bif ab_fit ty env (.inl a) && Nat.ble cl mc && Nat.ble sl ms then ab_fin ret mc ms r (fun L => k ((1, some (.inl a), (env, nl, aw, 0, 0)) :: L)) else none
      | _, _ => none)
    | 2 => (match ret, st with
      | none, [] => bif Nat.ble cl mc && Nat.ble sl ms then ab_fin ret mc ms r (fun L => k ((2, none, (env, nl, aw, 0, 0)) :: L)) else none
      | _, _ => none)
    | 3 => (match st with
      | [] => bif Nat.ble (cl + 1) mc && Nat.ble (sl + 6) ms then ab_fin ret mc ms r (fun L => k ((3, none, (env, nl, aw, 0, 0)) :: L)) else none
      | _ => none)
    | _ => none
noncomputable def ab_eval (ME : List ab_ME) (fuel : Nat) : Nat → ab_K
  | 0 => fun _ _ _ => none
  | d + 1 => fun mid g as => match ab_get ME mid with
    | none => none
    | some (_, _, maxL, ret, mc, ms, _, _, tab) => match g with
      | (env, nl, aw, _, _) => bif Nat.ble (ab_csum as) maxL then ab_entK 0 as (fun lv => match ab_run tab (ab_eval ME fuel d) fuel [((env, nl, aw, 0, 0), 0, lv, [])] [] with
        | none => none
        | some outs => ab_fin ret mc ms outs (fun L => some L)) else none
theorem ab_run_sub {tab : ab_tab} {cal : ab_K} : ∀ {n : Nat} {wk : List ab_S} {outs r : List (Nat × ab_S)}, ab_run tab cal n wk outs = some r → ∀ q ∈ outs, q ∈ r
  | 0, _, _, _, h => by cases h
  | n + 1, [], outs, r, h => by
    simp only [ab_run, Option.some.injEq] at h
    subst h
    exact fun q hq => hq
  | n + 1, ((env, nl, aw, cl, sl), pc, lv, st) :: w, outs, r, h => by
    simp only [ab_run_s] at h
    split at h
    · cases h
    · rename_i k f hf
      split at h
      · split at h
        · cases h
        · rw [ab_apK_eq] at h
          exact ab_run_sub h
      · exact fun q hq => ab_run_sub h q (List.mem_cons_of_mem _ hq)

section
variable {p : Program} {l : Launch} {e : Env} {R : Room} {s : State} {m : MethodId} {args : Array Value} {below : List Frame} {meth : Method} {c : Code} {Q : State → Prop} {cc : ByteArray} {own : String} {nL : Nat} {X : ab_X} {D : va_G} {z0 : ab_Z0} {cal : ab_K} {pc : Nat}
/-- what is known of an instruction: it is sound; it returns; it throws -/
noncomputable def ab_tv (p : Program) (l : Launch) (e : Env) (R : Room) (s : State) (m : MethodId) (args : Array Value) (below : List Frame) (meth : Method) (c : Code) (Q : State → Prop) (cc : ByteArray) (nL : Nat) (X : ab_X) (D : va_G) (z0 : ab_Z0) (cal : ab_K) (th : Nat → Prop) (q : Nat × Nat × ab_P) : Prop := match q.2.1 with
  | 0 => ab_so p l e R s m args below meth c Q nL X D z0 cal q.1 q.2.2
  | 1 => decode cc q.1 = .ok (.ireturn, 1)
  | 2 => decode cc q.1 = .ok (.return_, 1)
  | 3 => th q.1
  | 4 => ab_so p l e R s m args below meth c Q nL X D z0 cal q.1 q.2.2
  | _ => True
theorem ab_run_ok {tab : ab_tab} {th : Nat → Prop} (hT : ∀ b ∈ tab, ∀ q ∈ b, ab_tv p l e R s m args below meth c Q cc nL X D z0 cal th q) : ∀ {n : Nat} {wk : List ab_S} {outs r : List (Nat × ab_S)}, ab_run tab cal n wk outs = some r → (∀ k pc S, (k, S) ∈ r → S.2.1 = pc → (∃ f, ∃ b ∈ tab, (pc, k, f) ∈ b) → ab_ok p l e R s m args below meth c Q nL X D z0 S) → ∀ S ∈ wk, ab_ok p l e R s m args below meth c Q nL X D z0 S
  | 0, _, _, _, h, _ => by cases h
  | n + 1, [], outs, r, h, _ => fun S hS => by cases hS
  | n + 1, ((env, nl, aw, cl, sl), pc, lv, st) :: w, outs, r, h, hr => by
    simp only [ab_run_s] at h
    split at h
    · cases h
    · rename_i k f hf
      obtain ⟨b, hb1, hb2⟩ := ab_fd_mem hf
      split at h
      · split at h
        · cases h
        · rename_i r' hf2
          rw [ab_apK_eq] at h
          have ih := ab_run_ok hT h hr
          intro S hS
          rcases List.mem_cons.mp hS with rfl | hS
          · exact hT b hb1 _ hb2 env nl aw cl sl lv st r' hf2 (fun S hS => ih S (List.mem_append_left _ hS))
          · exact ih S (List.mem_append_right _ hS)
      · have ih := ab_run_ok hT h hr
        intro S hS
        rcases List.mem_cons.mp hS with rfl | hS
        · exact hr _ pc _ (ab_run_sub h _ List.mem_cons_self) rfl ⟨f, b, hb1, hb2⟩
        · exact ih S hS
end
abbrev ab_U : Type := ab_O × ab_Z × va_W
noncomputable def ab_Pr (X : ab_X) (D : va_G) (aw : ab_H) (z : ab_Z) (ws : va_W) (vs : List Value) : Array Value → State → Prop := va_Pc vs (fun U => ab_EX X D U U.heap ∧ ab_wR X z U aw ws ∧ va_P D vwCl ws U.heap)
noncomputable def ab_pu (X : ab_X) (z0 : ab_Z0) (outs : List ab_O) (k : Nat) (u : ab_U) : Prop := u.1 ∈ outs ∧ u.1.1 = k ∧ ab_e0 z0 u.1.2.2.2.2.1 u.2.1 u.2.2 ∧ ab_eR u.1.2.2.1 u.2.1.1 ∧ u.2.1.2.1.length = u.1.2.2.2.1 ∧ u.2.2.map Prod.fst = u.2.1.2.2 ∧ va_D (ab_Ar X) u.2.2 ∧ ab_sc X u.2.1.1
noncomputable def ab_bu (X : ab_X) (D : va_G) (u : ab_U) (t : State) : Prop := ab_wR X u.2.1 t u.1.2.2.2.2.1 u.2.2 ∧ va_P D vwCl u.2.2 t.heap
noncomputable def ab_pi (X : ab_X) (z0 : ab_Z0) (outs : List ab_O) (r : Int32) (u : ab_U) : Prop := ab_pu X z0 outs 1 u ∧ ∃ v, u.1.2.1 = some v ∧ ab_ev X u.2.1 v = some (.int r)
noncomputable def ab_Po (X : ab_X) (D : va_G) (z0 : ab_Z0) (outs : List ab_O) (ret : Option FieldType) : Array Value → State → Outcome → State → Prop := match ret with
  | none => va_Qv (ab_pu X z0 outs 2) (ab_bu X D) (ab_Ar X)
  | some _ => va_Qi (ab_pi X z0 outs) (ab_bu X D) (ab_Ar X)
noncomputable def ab_Nm : String := "java/util/NoSuchElementException"
noncomputable def ab_Xo (X : ab_X) (D : va_G) (z0 : ab_Z0) (outs : List ab_O) : String → State → State → Prop := vx_X (ab_pu X z0 outs 3) (fun E u t => E = ab_Nm ∧ ab_bu X D u t) (ab_Ar X)
noncomputable def ab_inn (X : ab_X) (env : ab_E) (nl : Nat) (z : ab_Z) (ws : va_W) : Prop := ab_eR env z.1 ∧ z.2.1.length = nl ∧ ws.map Prod.fst = z.2.2 ∧ va_D (ab_Ar X) ws ∧ ab_sc X z.1
/-- a method's contract from an abstract start -/
noncomputable def ab_ctr (l : Launch) (X : ab_X) (D : va_G) (d : Nat) (M : ab_ME) (env : ab_E) (nl : Nat) (aw : ab_H) (as : List ab_V) (outs : List ab_O) : Prop :=
  ∀ (z : ab_Z) (ws : va_W) (vs : List Value), ab_inn X env nl z ws → as.map (ab_ev X z) = vs.map some → match M with
    | (y, cc, maxL, ret, mc, ms, kd, hh, _) => match kd with
      | 0 => Met l y (Cond.code y cc maxL ret :: ab_TG) (ab_rm d mc ms) (ab_Pr X D aw z ws vs) (ab_Po X D (z, ws, aw.1.map ab_flg) outs ret) mc ms (ab_Ar X)
      | 1 => vx_Met l y (Cond.code y cc maxL ret :: ab_TG) (ab_rm d mc ms) (ab_Pr X D aw z ws vs) (ab_Po X D (z, ws, aw.1.map ab_flg) outs ret) (ab_Xo X D (z, ws, aw.1.map ab_flg) outs) mc ms (ab_Ar X)
      | _ => Met l y (Cond.codeWith y cc maxL ret hh :: ab_TG) (ab_rm d mc ms) (ab_Pr X D aw z ws vs) (ab_Po X D (z, ws, aw.1.map ab_flg) outs ret) mc ms (ab_Ar X)
noncomputable def ab_cal (l : Launch) (X : ab_X) (D : va_G) (d : Nat) (ME : List ab_ME) (cal : ab_K) : Prop := ∀ (mid : Nat) (M : ab_ME), ME[mid]? = some M → ∀ (env : ab_E) (nl : Nat) (aw : ab_H) (as : List ab_V) (outs : List ab_O), cal mid (env, nl, aw, 0, 0) as = some outs → ab_ctr l X D d M env nl aw as outs
theorem ab_good {ws : List Cond} (h : ∀ w ∈ ws, w ∈ ab_TG) : GoodIn ab_TG ws := fun w hw => ⟨h w hw, good_of_word (List.mem_filter.mp (h w hw)).2⟩
theorem ab_Pr_blind {X : ab_X} {D : va_G} {aw : ab_H} {z : ab_Z} {ws : va_W} {vs : List Value} : FrameBlind (ab_Pr X D aw z ws vs) := by
  intro a U g mk h
  obtain ⟨h0, h1, h2, h3⟩ := h
  exact ⟨h0, ab_EX.enter (U := U.calling g mk a) (locs := []) h1 (State.WarmedH.refl U) va_S.rf, h2.moved (Vm.Alike.refl U.vm), h3⟩
theorem ab_Pr_in {X : ab_X} {D : va_G} {s : State} {z0 : ab_Z0} {z : ab_Z} {env : ab_E} {nl : Nat} {aw : ab_H} {ws : va_W} {H : Heap} {locs : List Loc} {vs : List Value} (hE : ab_EX X D s s.heap) (hR : ab_R X D s z0 env nl aw z ws H locs) : ∀ U : State, U.heap = H → s.WarmedH U.vm → ab_Pr X D aw z ws vs vs.toArray U := by
  intro U hU hW
  refine ⟨rfl, ?_, hR.2.2.2.1.moved hW.alike, by rw [hU]; exact hR.2.2.2.2.1⟩
  rw [hU]
  exact hE.enter hW hR.2.2.2.2.2.2.1
theorem ab_R.inn {X : ab_X} {D : va_G} {s : State} {z0 : ab_Z0} {z : ab_Z} {env : ab_E} {nl : Nat} {aw : ab_H} {ws : va_W} {H : Heap} {locs : List Loc} (hR : ab_R X D s z0 env nl aw z ws H locs) : ab_inn X env nl z ws := ⟨hR.1, hR.2.1, hR.2.2.1, hR.2.2.2.2.2.1, hR.2.2.2.2.2.2.2.1⟩
/-- behind a call -/
theorem ab_R.back {X : ab_X} {D : va_G} {s t : State} {z0 : ab_Z0} {z : ab_Z} {env : ab_E} {nl : Nat} {aw : ab_H} {ws : va_W} {H H1 : Heap} {locs locs1 : List Loc} (hR : ab_R X D s z0 env nl aw z ws H locs) {outs : List ab_O} {k : Nat} {u : ab_U} (hp : ab_pu X (z, ws, aw.1.map ab_flg) outs k u) (hb : ab_bu X D u t) (ht : t.heap = H1) (hvm : s.vm.Alike t.vm) (hS : va_S (ab_Ar X) s.heap H1 locs1) : ab_R X D s z0 u.1.2.2.1 u.1.2.2.2.1 u.1.2.2.2.2.1 u.2.1 u.2.2 H1 locs1 := by
  obtain ⟨-, -, ⟨h3, ⟨t1, ht1⟩, h3c⟩, h4, h5, h6, h7, h8⟩ := hp
  obtain ⟨g1, ⟨t2, ht2⟩, g3⟩ := hR.2.2.2.2.2.2.2.2
  dsimp only at ht1 h3 h3c
  refine ⟨h4, h5, h6, hb.1.moved hvm.symm, by rw [← ht]; exact hb.2, h7, hS, h8, g1.tr h3, ⟨t2 ++ t1, by rw [ht1, ht2, List.append_assoc]⟩, ?_⟩
  rw [ht2] at h3c
  exact g3.tr h3c
noncomputable def ab_splK : Nat → List ab_V → List ab_V → (List ab_V → List ab_V → ab_A) → ab_A
  | 0, st, acc, k => k acc st
  | _ + 1, [], _, _ => none
  | n + 1, v :: st, acc, k => ab_splK n st (v :: acc) k
theorem ab_splK_ok {X : ab_X} {z : ab_Z} : ∀ {n : Nat} {st acc : List ab_V} {k : List ab_V → List ab_V → ab_A} {r : List ab_S} {cst cacc : List Value}, ab_splK n st acc k = some r → st.map (ab_ev X z) = cst.map some → acc.map (ab_ev X z) = cacc.map some → ∃ (as rest : List ab_V) (cas crest : List Value), k as rest = some r ∧ cacc.reverse ++ cst = cas.reverse ++ crest ∧ as.map (ab_ev X z) = cas.map some ∧ rest.map (ab_ev X z) = crest.map some ∧ as.length = n + acc.length
  | 0, st, acc, k, r, cst, cacc, h, h1, h2 => ⟨acc, st, cacc, cst, h, rfl, h2, h1, by simp⟩
  | n + 1, [], acc, k, r, cst, cacc, h, h1, h2 => by cases h
  | n + 1, v :: st, acc, k, r, cst, cacc, h, h1, h2 => by
    obtain ⟨x, r1, rfl, g1, g2⟩ := ab_st1 h1
    have h' : ab_splK n st (v :: acc) k = some r := h
    obtain ⟨as, rest, cas, crest, q1, q2, q3, q4, q5⟩ := ab_splK_ok (X := X) (z := z) (n := n) (st := st) (acc := v :: acc) (cst := r1) (cacc := x :: cacc) h' g2 (by simp only [List.map_cons, g1, h2])
    refine ⟨as, rest, cas, crest, q1, ?_, q3, q4, by rw [q5, List.length_cons]; omega⟩
    rw [← q2, List.reverse_cons, List.append_assoc]; rfl
theorem ab_csum_ok {X : ab_X} {z : ab_Z} (hz : X.2.2.2.2.2.category = 1) : ∀ {st : List ab_V} {cst : List Value}, st.map (ab_ev X z) = cst.map some → (cst.map fun v => v.category).sum = ab_csum st
  | [], [], _ => rfl
  | [], _ :: _, e => by simp at e
  | _ :: _, [], e => by simp at e
  | v :: st, x :: cst, e => by
    simp only [List.map_cons, List.cons.injEq] at e
    have hc := ab_cat hz e.1
    simp only [List.map_cons, List.sum_cons, ab_csum, ab_csum_ok hz e.2, hc]
    cases ab_lg v <;> rfl
/-- where a caller goes on -/
noncomputable def ab_reK (np cl sl : Nat) (lv : List (Nat × ab_V)) (rest : List ab_V) : List ab_O → (List ab_S → ab_A) → ab_A
  | [], k => k []
  | (n, v, (env, nl, aw, _, _)) :: r, k => match n with
    | 1 => (match v with
      | some v => ab_reK np cl sl lv rest r (fun L => k (((env, nl, aw, cl, sl), np, lv, v :: rest) :: L))
      | none => none)
    | 2 => ab_reK np cl sl lv rest r (fun L => k (((env, nl, aw, cl, sl), np, lv, rest) :: L))
    | _ => none
theorem ab_reK_ok {np cl sl : Nat} {lv : List (Nat × ab_V)} {rest : List ab_V} : ∀ {outs : List ab_O} {k : List ab_S → ab_A} {r : List ab_S}, ab_reK np cl sl lv rest outs k = some r → ∃ L, k L = some r ∧ (∀ o ∈ outs, ∀ v, o.1 = 1 → o.2.1 = some v → ((o.2.2.1, o.2.2.2.1, o.2.2.2.2.1, cl, sl), np, lv, v :: rest) ∈ L) ∧ ∀ o ∈ outs, o.1 = 2 → ((o.2.2.1, o.2.2.2.1, o.2.2.2.2.1, cl, sl), np, lv, rest) ∈ L
  | [], k, r, h => ⟨[], h, fun o ho => (by cases ho), fun o ho => (by cases ho)⟩
  | (n, v, (env, nl, aw, c0, s0)) :: r0, k, r, h => by
    simp only [ab_reK] at h
    split at h
    · split at h
      · rename_i v0
        obtain ⟨L, h1, h2, h3⟩ := ab_reK_ok h
        refine ⟨_, h1, fun o ho v' e1 e2 => ?_, fun o ho e1 => ?_⟩
        · rcases List.mem_cons.mp ho with rfl | ho
          · cases e2; exact List.mem_cons_self
          · exact List.mem_cons_of_mem _ (h2 o ho v' e1 e2)
        · rcases List.mem_cons.mp ho with rfl | ho
          · cases e1
          · exact List.mem_cons_of_mem _ (h3 o ho e1)
      · cases h
    · obtain ⟨L, h1, h2, h3⟩ := ab_reK_ok h
      refine ⟨_, h1, fun o ho v' e1 e2 => ?_, fun o ho e1 => ?_⟩
      · rcases List.mem_cons.mp ho with rfl | ho
        · cases e1
        · exact List.mem_cons_of_mem _ (h2 o ho v' e1 e2)
      · rcases List.mem_cons.mp ho with rfl | ho
        · exact List.mem_cons_self
        · exact List.mem_cons_of_mem _ (h3 o ho e1)
    · cases h
/-- whom a call is asked of: nobody (0), a cell of a class (ci + 2), the text (1) -/
noncomputable def ab_chk (rc : Nat) (as : List ab_V) (aw : ab_H) : Bool := match rc with
  | 0 => true
  | 1 => (match as with
    | .inr (.inr (3, i)) :: _ => Nat.blt i 6
    | _ => false)
  | ci + 2 => (match as with
    | .inr (.inr (2, j)) :: _ => (match ab_get aw.1 j with
      | some (.inl (cj, _)) => Nat.beq ci cj
      | _ => false)
    | _ => false)
noncomputable def op_call (rc mid na mc ms mcR msR np : Nat) : ab_P := fun cal env nl aw cl sl lv st => ab_splK na st [] (fun as rest =>
  bif ab_chk rc as aw && Nat.ble (ab_csum rest) 8 && Nat.ble (cl + mc) mcR && Nat.ble (sl + ms) msR then (match cal mid (env, nl, aw, 0, 0) as with
    | none => none
    | some outs => ab_fn (cl + mc) (fun cl => ab_fn (sl + ms) (fun sl => ab_reK np cl sl lv rest outs (fun L => some L)))) else none)
section
variable {p : Program} {l : Launch} {e : Env} {R : Room} {s : State} {m : MethodId} {args : Array Value} {below : List Frame} {meth : Method} {c : Code} {Q : State → Prop} {cc : ByteArray} {own : String} {nL : Nat} {X : ab_X} {D : va_G} {z0 : ab_Z0} {cal : ab_K} {pc : Nat}
variable {d : Nat} {ME : List ab_ME} {y : MethodName} {cc' : ByteArray} {maxL : Nat} {ret : Option FieldType} {mc ms mcR msR mid na i : Nat} {hh : List (Nat × Nat × Nat × Nat)} {tab : ab_tab}
/-- a call by any row -/
theorem so_call_k (C : ab_cx p R s m args c cc own nL X D) (K : ab_cal l X D d ME cal) {kd : Nat} (hmi : ME[mid]? = some (y, cc', maxL, ret, mc, ms, kd, hh, tab)) (hmR : mcR ≤ R.cells) (hsR : msR ≤ R.slots) {rc : Nat}
    (hrow : ∀ (z : ab_Z) (ws : va_W) (H : Heap) (locs : List Loc) (env : ab_E) (nl : Nat) (aw : ab_H) (cl sl : Nat) (ls : Array Slot) (as : List ab_V) (cas crest : List Value) (outs : List ab_O), ab_R X D s z0 env nl aw z ws H locs → ls.size = nL → ab_chk rc as aw = true → as.map (ab_ev X z) = cas.map some → as.length = na → (crest.map fun v => v.category).sum ≤ 8 → cl + mc ≤ R.cells → sl + ms ≤ R.slots → ab_ctr l X D d (y, cc', maxL, ret, mc, ms, kd, hh, tab) env nl aw as outs →
      va_Run p l e R s m args below meth c H locs cl sl mc ms (F0 m pc ls (cas.reverse ++ crest)) crest (ab_Po X D (z, ws, aw.1.map ab_flg) outs ret cas.toArray) (ab_Ar X)) : ab_so p l e R s m args below meth c Q nL X D z0 cal pc (op_call rc mid na mc ms mcR msR (pc + 3)) := by
  intro env nl aw cl sl lv st r hr hk z ws H locs ls cst hR hl hs
  dsimp only at hR hl hs
  unfold op_call at hr
  obtain ⟨as, rest, cas, crest, q1, q2, q3, q4, q5⟩ := ab_splK_ok (cacc := []) hr hs rfl
  cases hb : (ab_chk rc as aw && Nat.ble (ab_csum rest) 8 && Nat.ble (cl + mc) mcR && Nat.ble (sl + ms) msR)
  · rw [hb] at q1; cases q1
  · rw [hb, cond_true] at q1
    rw [Bool.and_eq_true, Bool.and_eq_true, Bool.and_eq_true] at hb
    obtain ⟨⟨⟨b1, b2⟩, b3⟩, b4⟩ := hb
    split at q1
    · cases q1
    · rename_i outs ho
      rw [ab_fn_eq, ab_fn_eq] at q1
      obtain ⟨L, l1, l2, l3⟩ := ab_reK_ok q1
      cases l1
      have hcs := ab_csum_ok (ab_cxE C).2.2.2.2.1 q4
      have run := hrow z ws H locs env nl aw cl sl ls as cas crest outs hR hl.1 b1 q3 (by rw [q5]; rfl) (by rw [hcs]; exact Nat.le_of_ble_eq_true b2) (Nat.le_trans (Nat.le_of_ble_eq_true b3) hmR) (Nat.le_trans (Nat.le_of_ble_eq_true b4) hsR) (K mid _ hmi env nl aw as outs ho)
      have q2' : cst = cas.reverse ++ crest := q2
      rw [q2']
      cases ret with
      | none =>
        refine va_callv (A0 := ab_Ar X) (a := cas.toArray) (post := ab_pu X (z, ws, aw.1.map ab_flg) outs 2) (B := ab_bu X D) (A1 := ab_Ar X) run hR.2.2.2.2.2.2.1 (fun _ _ h => h) (fun _ h => h) (fun u t H1 locs1 ht hvm hp hB _ _ hS => ?_)
        exact hk _ (l3 u.1 hp.1 hp.2.1) u.2.1 u.2.2 H1 locs1 ls crest (hR.back hp hB ht hvm hS) (hl.ext hp.2.2.1.1) (ab_evs.ext hp.2.2.1.1 q4)
      | some ty =>
        refine va_calli (A0 := ab_Ar X) (a := cas.toArray) (post := ab_pi X (z, ws, aw.1.map ab_flg) outs) (B := ab_bu X D) (A1 := ab_Ar X) run hR.2.2.2.2.2.2.1 (fun _ _ h => h) (fun _ h => h) (fun r0 u t H1 locs1 ht hvm hp hB _ _ hS => ?_)
        obtain ⟨hp, v, v1, v2⟩ := hp
        exact hk _ (l2 u.1 hp.1 v hp.2.1 v1) u.2.1 u.2.2 H1 locs1 ls (.int r0 :: crest) (hR.back hp hB ht hvm hS) (hl.ext hp.2.2.1.1) (by simp only [List.map_cons, v2, ab_evs.ext hp.2.2.1.1 q4])
theorem ab_recv {z : ab_Z} {ws : va_W} {H : Heap} {locs : List Loc} {env : ab_E} {nl : Nat} {aw : ab_H} (hE : ab_EX X D s s.heap) (hR : ab_R X D s z0 env nl aw z ws H locs) {ci N : Nat} {cn : String} {T : u_T} (hc : vwCl[ci]? = some (cn, T, N)) {as : List ab_V} {cas : List Value} (h : ab_chk (ci + 2) as aw = true) (hs : as.map (ab_ev X z) = cas.map some) : ∃ b cr, cas = .ref b :: cr ∧ ∃ cell : Cell, H[b]? = some cell ∧ cell.vm.isStatics = false ∧ s.vm.findClass cn = some cell.cls := by
  unfold ab_chk at h
  simp only at h
  split at h
  · rename_i j tl
    rw [ab_get_eq] at h
    split at h
    · rename_i cj fs hj
      cases Nat.eq_of_beq_eq_true h
      obtain ⟨x, r, rfl, h1, h2⟩ := ab_st1 hs
      obtain ⟨a, rfl, h3⟩ := ab_ref2 h1
      obtain ⟨a', e', c1, c2, vs, rfl, c4⟩ := hR.cell hj
      cases Option.some.inj (c2.symm.trans h3)
      exact ⟨a, r, rfl, va_recv hE.2.1 hR.2.2.2.2.1 hc c1⟩
    · cases h
  · cases h
theorem ab_recvT {z : ab_Z} {ws : va_W} {H : Heap} {locs : List Loc} {env : ab_E} {nl : Nat} {aw : ab_H} (hE : ab_EX X D s s.heap) (hR : ab_R X D s z0 env nl aw z ws H locs) {as : List ab_V} {cas : List Value} (h : ab_chk 1 as aw = true) (hs : as.map (ab_ev X z) = cas.map some) : ∃ b cr, cas = .ref b :: cr ∧ ∃ cell : Cell, H[b]? = some cell ∧ cell.vm.isStatics = false ∧ s.vm.findClass "java/lang/String" = some cell.cls := by
  unfold ab_chk at h
  simp only at h
  split at h
  · obtain ⟨x, r, rfl, h1, h2⟩ := ab_st1 hs
    cases h1
    exact ⟨_, r, rfl, vk_recv hE.2.2.2.2.2.2.1 (Nat.le_of_ble_eq_true h) hR.2.2.2.2.2.2.1⟩
  · cases h
theorem so_callV (C : ab_cx p R s m args c cc own nL X D) (K : ab_cal l X D d ME cal) (hmi : ME[mid]? = some (y, cc', maxL, ret, mc, ms, 0, hh, tab)) (hmR : mcR ≤ R.cells) (hsR : msR ≤ R.slots) (hd1 : 16 * (d + 1) ≤ R.frames) (hd2 : 200 * (d + 1) ≤ R.locals) (hmx : maxL ≤ 150) {np : Nat} (hyd : y.cls ≠ "java/lang/invoke/MethodHandle" ∧ y.cls ≠ "java/lang/invoke/VarHandle" ∧ (parseMethodDescriptor y.desc).map (fun d => d.parameters.length) = some np) (hcode : Cond.code y cc' maxL ret ∈ ab_TG) {ci N : Nat} {cn : String} {T : u_T} (hc : vwCl[ci]? = some (cn, T, N)) (hcn : y.cls = cn) (hnp : np + 1 = na) (hl1 : Cond.methodLink own i y ∈ ab_TG) (hl2 : Cond.instanceMethod y ∈ ab_TG) (hl3 : Cond.selects cn y y ∈ ab_TG) (hl4 : Cond.initialized cn ∈ ab_TG) (dd : decode cc pc = .ok (.invokevirtual i, 3)) : ab_so p l e R s m args below meth c Q nL X D z0 cal pc (op_call (ci + 2) mid na mc ms mcR msR (pc + 3)) := by
  refine so_call_k C K hmi hmR hsR (fun z ws H locs env nl aw cl sl ls as cas crest outs hR hsz hch hs hna hcs hcl hsl hct => ?_)
  obtain ⟨b, cr, rfl, hcell⟩ := ab_recv (ab_cxE C) hR hc hch hs
  have hlen : cr.length + 1 = na := by rw [← hna, ab_map_len hs]; rfl
  have hM : Met l y (Cond.code y cc' maxL ret :: ab_TG) (ab_rm d mc ms) (ab_Pr X D aw z ws (.ref b :: cr)) (ab_Po X D (z, ws, aw.1.map ab_flg) outs ret) mc ms (ab_Ar X) := hct z ws (.ref b :: cr) hR.inn hs
  refine va_runV (As := cr) (rest := crest) ⟨C.1, C.2.1, C.2.2.1, C.2.2.2.1, C.2.2.2.2.1⟩ hM (cwV (C := cn) np C.2.2.2.2.1 (ab_good (fun w hw => by
    simp only [wsV, List.mem_append, List.mem_cons, List.not_mem_nil, or_false] at hw
    rcases hw with (rfl | rfl | rfl | rfl) | (rfl | hw)
    · exact hl1
    · exact hl2
    · exact hl3
    · exact hl4
    · exact hcode
    · exact hw)) rfl rfl rfl ⟨hcn, hyd⟩ ⟨by show 16 * d + 1 ≤ _; omega, by show 8 + (maxL + 11) + 200 * d ≤ _; omega⟩) ⟨ab_Pr_blind, hcell, ab_Pr_in (ab_cxE C) hR⟩ rfl (by omega) hsz (by simp) (lv_room hcs) dd ⟨hcl, hsl⟩
theorem so_callT (C : ab_cx p R s m args c cc own nL X D) (K : ab_cal l X D d ME cal) (hmi : ME[mid]? = some (y, cc', maxL, ret, mc, ms, 0, hh, tab)) (hmR : mcR ≤ R.cells) (hsR : msR ≤ R.slots) (hd1 : 16 * (d + 1) ≤ R.frames) (hd2 : 200 * (d + 1) ≤ R.locals) (hmx : maxL ≤ 150) {np : Nat} (hyd : y.cls ≠ "java/lang/invoke/MethodHandle" ∧ y.cls ≠ "java/lang/invoke/VarHandle" ∧ (parseMethodDescriptor y.desc).map (fun d => d.parameters.length) = some np) (hcode : Cond.code y cc' maxL ret ∈ ab_TG) (hcn : y.cls = "java/lang/String") (hnp : np + 1 = na) (hl1 : Cond.methodLink own i y ∈ ab_TG) (hl2 : Cond.instanceMethod y ∈ ab_TG) (hl3 : Cond.selects "java/lang/String" y y ∈ ab_TG) (hl4 : Cond.initialized "java/lang/String" ∈ ab_TG) (dd : decode cc pc = .ok (.invokevirtual i, 3)) : ab_so p l e R s m args below meth c Q nL X D z0 cal pc (op_call (1) mid na mc ms mcR msR (pc + 3)) := by
  refine so_call_k C K hmi hmR hsR (fun z ws H locs env nl aw cl sl ls as cas crest outs hR hsz hch hs hna hcs hcl hsl hct => ?_)
  obtain ⟨b, cr, rfl, hcell⟩ := ab_recvT (ab_cxE C) hR hch hs
  have hlen : cr.length + 1 = na := by rw [← hna, ab_map_len hs]; rfl
  have hM : Met l y (Cond.code y cc' maxL ret :: ab_TG) (ab_rm d mc ms) (ab_Pr X D aw z ws (.ref b :: cr)) (ab_Po X D (z, ws, aw.1.map ab_flg) outs ret) mc ms (ab_Ar X) := hct z ws (.ref b :: cr) hR.inn hs
  refine va_runV (As := cr) (rest := crest) ⟨C.1, C.2.1, C.2.2.1, C.2.2.2.1, C.2.2.2.2.1⟩ hM (cwV (C := "java/lang/String") np C.2.2.2.2.1 (ab_good (fun w hw => by
    simp only [wsV, List.mem_append, List.mem_cons, List.not_mem_nil, or_false] at hw
    rcases hw with (rfl | rfl | rfl | rfl) | (rfl | hw)
    · exact hl1
    · exact hl2
    · exact hl3
    · exact hl4
    · exact hcode
    · exact hw)) rfl rfl rfl ⟨hcn, hyd⟩ ⟨by show 16 * d + 1 ≤ _; omega, by show 8 + (maxL + 11) + 200 * d ≤ _; omega⟩) ⟨ab_Pr_blind, hcell, ab_Pr_in (ab_cxE C) hR⟩ rfl (by omega) hsz (by simp) (lv_room hcs) dd ⟨hcl, hsl⟩
theorem so_callVN (C : ab_cx p R s m args c cc own nL X D) (K : ab_cal l X D d ME cal) (hmi : ME[mid]? = some (y, cc', maxL, ret, mc, ms, 0, hh, tab)) (hmR : mcR ≤ R.cells) (hsR : msR ≤ R.slots) (hd1 : 16 * (d + 1) ≤ R.frames) (hd2 : 200 * (d + 1) ≤ R.locals) (hmx : maxL ≤ 150) {np : Nat} (hyd : y.cls ≠ "java/lang/invoke/MethodHandle" ∧ y.cls ≠ "java/lang/invoke/VarHandle" ∧ (parseMethodDescriptor y.desc).map (fun d => d.parameters.length) = some np) (hcode : Cond.code y cc' maxL ret ∈ ab_TG) {ci N : Nat} {cn : String} {T : u_T} (hc : vwCl[ci]? = some (cn, T, N)) {host : String} (hnp : np + 1 = na) (hl1 : Cond.methodLinkNest own i y host ∈ lw_tbl) (hl2 : Cond.instanceMethod y ∈ ab_TG) (hl3 : Cond.selects cn y y ∈ ab_TG) (hl4 : Cond.initialized y.cls ∈ ab_TG) (dd : decode cc pc = .ok (.invokevirtual i, 3)) : ab_so p l e R s m args below meth c Q nL X D z0 cal pc (op_call (ci + 2) mid na mc ms mcR msR (pc + 3)) := by
  refine so_call_k C K hmi hmR hsR (fun z ws H locs env nl aw cl sl ls as cas crest outs hR hsz hch hs hna hcs hcl hsl hct => ?_)
  obtain ⟨b, cr, rfl, hcell⟩ := ab_recv (ab_cxE C) hR hc hch hs
  have hlen : cr.length + 1 = na := by rw [← hna, ab_map_len hs]; rfl
  have hM : Met l y (Cond.code y cc' maxL ret :: ab_TG) (ab_rm d mc ms) (ab_Pr X D aw z ws (.ref b :: cr)) (ab_Po X D (z, ws, aw.1.map ab_flg) outs ret) mc ms (ab_Ar X) := hct z ws (.ref b :: cr) hR.inn hs
  refine va_runVN (As := cr) (rest := crest) ⟨C.1, C.2.1, C.2.2.1, C.2.2.2.1, C.2.2.2.2.1⟩ hM ⟨va_cnB np C.2.2.2.2.1 (ab_good (fun w hw => (List.mem_cons.mp hw).elim (fun e => e ▸ hcode) (fun h => h))) rfl rfl rfl ((ab_cxE C).2.2.1 _ hl1 rfl) (C.2.2.2.2.1 _ hl4) hyd ⟨by show 16 * d + 1 ≤ _; omega, by show 8 + (maxL + 11) + 200 * d ≤ _; omega⟩, C.2.2.2.2.1 _ hl2, C.2.2.2.2.1 _ hl3⟩ ⟨ab_Pr_blind, hcell, ab_Pr_in (ab_cxE C) hR⟩ rfl (by omega) hsz (by simp) (lv_room hcs) dd ⟨hcl, hsl⟩
theorem so_callI (C : ab_cx p R s m args c cc own nL X D) (K : ab_cal l X D d ME cal) (hmi : ME[mid]? = some (y, cc', maxL, none, mc, ms, 0, hh, tab)) (hmR : mcR ≤ R.cells) (hsR : msR ≤ R.slots) (hd1 : 16 * (d + 1) ≤ R.frames) (hd2 : 200 * (d + 1) ≤ R.locals) (hmx : maxL ≤ 150) {np : Nat} (hyd : y.cls ≠ "java/lang/invoke/MethodHandle" ∧ y.cls ≠ "java/lang/invoke/VarHandle" ∧ (parseMethodDescriptor y.desc).map (fun d => d.parameters.length) = some np) (hcode : Cond.code y cc' maxL none ∈ ab_TG) {ci N : Nat} {cn : String} {T : u_T} (hc : vwCl[ci]? = some (cn, T, N)) (hy1 : y.name = "<init>") (hnp : np + 1 = na) (hl1 : Cond.methodLink own i y ∈ ab_TG) (hl2 : Cond.instanceMethod y ∈ ab_TG) (hl4 : Cond.initialized y.cls ∈ ab_TG) (dd : decode cc pc = .ok (.invokespecial i, 3)) : ab_so p l e R s m args below meth c Q nL X D z0 cal pc (op_call (ci + 2) mid na mc ms mcR msR (pc + 3)) := by
  refine so_call_k C K hmi hmR hsR (fun z ws H locs env nl aw cl sl ls as cas crest outs hR hsz hch hs hna hcs hcl hsl hct => ?_)
  obtain ⟨b, cr, rfl, hcell⟩ := ab_recv (ab_cxE C) hR hc hch hs
  have hlen : cr.length + 1 = na := by rw [← hna, ab_map_len hs]; rfl
  have hM : Met l y (Cond.code y cc' maxL none :: ab_TG) (ab_rm d mc ms) (ab_Pr X D aw z ws (.ref b :: cr)) (ab_Po X D (z, ws, aw.1.map ab_flg) outs none) mc ms (ab_Ar X) := hct z ws (.ref b :: cr) hR.inn hs
  refine va_runI (As := cr) (rest := crest) ⟨C.1, C.2.1, C.2.2.1, C.2.2.2.1, C.2.2.2.2.1⟩ hM (cwI np C.2.2.2.2.1 (ab_good (fun w hw => (List.mem_cons.mp hw).elim (fun e => e ▸ hcode) (fun h => h))) rfl rfl rfl (C.2.2.2.2.1 _ hl4) (C.2.2.2.2.1 _ hl1) (C.2.2.2.2.1 _ hl2) hy1 hyd ⟨by show 16 * d + 1 ≤ _; omega, by show 8 + (maxL + 11) + 200 * d ≤ _; omega⟩) ⟨ab_Pr_blind, ab_Pr_in (ab_cxE C) hR⟩ rfl (by omega) hsz (by simp) (lv_room hcs) dd ⟨hcl, hsl⟩
theorem so_callIN (C : ab_cx p R s m args c cc own nL X D) (K : ab_cal l X D d ME cal) (hmi : ME[mid]? = some (y, cc', maxL, none, mc, ms, 0, hh, tab)) (hmR : mcR ≤ R.cells) (hsR : msR ≤ R.slots) (hd1 : 16 * (d + 1) ≤ R.frames) (hd2 : 200 * (d + 1) ≤ R.locals) (hmx : maxL ≤ 150) {np : Nat} (hyd : y.cls ≠ "java/lang/invoke/MethodHandle" ∧ y.cls ≠ "java/lang/invoke/VarHandle" ∧ (parseMethodDescriptor y.desc).map (fun d => d.parameters.length) = some np) (hcode : Cond.code y cc' maxL none ∈ ab_TG) {ci N : Nat} {cn : String} {T : u_T} (hc : vwCl[ci]? = some (cn, T, N)) {host : String} (hy1 : y.name = "<init>") (hnp : np + 1 = na) (hl1 : Cond.methodLinkNest own i y host ∈ lw_tbl) (hl2 : Cond.instanceMethod y ∈ ab_TG) (hl4 : Cond.initialized y.cls ∈ ab_TG) (dd : decode cc pc = .ok (.invokespecial i, 3)) : ab_so p l e R s m args below meth c Q nL X D z0 cal pc (op_call (ci + 2) mid na mc ms mcR msR (pc + 3)) := by
  refine so_call_k C K hmi hmR hsR (fun z ws H locs env nl aw cl sl ls as cas crest outs hR hsz hch hs hna hcs hcl hsl hct => ?_)
  obtain ⟨b, cr, rfl, hcell⟩ := ab_recv (ab_cxE C) hR hc hch hs
  have hlen : cr.length + 1 = na := by rw [← hna, ab_map_len hs]; rfl
  have hM : Met l y (Cond.code y cc' maxL none :: ab_TG) (ab_rm d mc ms) (ab_Pr X D aw z ws (.ref b :: cr)) (ab_Po X D (z, ws, aw.1.map ab_flg) outs none) mc ms (ab_Ar X) := hct z ws (.ref b :: cr) hR.inn hs
  refine va_runIN (As := cr) (rest := crest) ⟨C.1, C.2.1, C.2.2.1, C.2.2.2.1, C.2.2.2.2.1⟩ hM ⟨va_cnB np C.2.2.2.2.1 (ab_good (fun w hw => (List.mem_cons.mp hw).elim (fun e => e ▸ hcode) (fun h => h))) rfl rfl rfl ((ab_cxE C).2.2.1 _ hl1 rfl) (C.2.2.2.2.1 _ hl4) hyd ⟨by show 16 * d + 1 ≤ _; omega, by show 8 + (maxL + 11) + 200 * d ≤ _; omega⟩, hy1, C.2.2.2.2.1 _ hl2⟩ ⟨ab_Pr_blind, ab_Pr_in (ab_cxE C) hR⟩ rfl (by omega) hsz (by simp) (lv_room hcs) dd ⟨hcl, hsl⟩
theorem so_callS (C : ab_cx p R s m args c cc own nL X D) (K : ab_cal l X D d ME cal) (hmi : ME[mid]? = some (y, cc', maxL, ret, mc, ms, 0, hh, tab)) (hmR : mcR ≤ R.cells) (hsR : msR ≤ R.slots) (hd1 : 16 * (d + 1) ≤ R.frames) (hd2 : 200 * (d + 1) ≤ R.locals) (hmx : maxL ≤ 150) {np : Nat} (hyd : y.cls ≠ "java/lang/invoke/MethodHandle" ∧ y.cls ≠ "java/lang/invoke/VarHandle" ∧ (parseMethodDescriptor y.desc).map (fun d => d.parameters.length) = some np) (hcode : Cond.code y cc' maxL ret ∈ ab_TG) (hnp : np = na) (hl1 : Cond.methodLink own i y ∈ ab_TG) (hl2 : Cond.static y ∈ ab_TG) (hl4 : Cond.initialized y.cls ∈ ab_TG) (dd : decode cc pc = .ok (.invokestatic i, 3)) : ab_so p l e R s m args below meth c Q nL X D z0 cal pc (op_call 0 mid na mc ms mcR msR (pc + 3)) := by
  refine so_call_k C K hmi hmR hsR (fun z ws H locs env nl aw cl sl ls as cas crest outs hR hsz hch hs hna hcs hcl hsl hct => ?_)
  have hlen : cas.length = na := by rw [← hna, ab_map_len hs]
  have hM : Met l y (Cond.code y cc' maxL ret :: ab_TG) (ab_rm d mc ms) (ab_Pr X D aw z ws cas) (ab_Po X D (z, ws, aw.1.map ab_flg) outs ret) mc ms (ab_Ar X) := hct z ws cas hR.inn hs
  refine va_runS (As := cas) (rest := crest) ⟨C.1, C.2.1, C.2.2.1, C.2.2.2.1, C.2.2.2.2.1⟩ hM (va_cwS np C.2.2.2.2.1 (ab_good (fun w hw => by
    simp only [va_wsS, List.mem_append, List.mem_cons, List.not_mem_nil, or_false] at hw
    rcases hw with (rfl | rfl | rfl) | (rfl | hw)
    · exact hl1
    · exact hl2
    · exact hl4
    · exact hcode
    · exact hw)) rfl rfl rfl hyd ⟨by show 16 * d + 1 ≤ _; omega, by show 8 + (maxL + 11) + 200 * d ≤ _; omega⟩) ⟨ab_Pr_blind, ab_Pr_in (ab_cxE C) hR⟩ rfl (by omega) hsz rfl (lv_room hcs) dd ⟨hcl, hsl⟩
theorem so_callSW (C : ab_cx p R s m args c cc own nL X D) (K : ab_cal l X D d ME cal) (hmi : ME[mid]? = some (y, cc', maxL, ret, mc, ms, 2, hh, tab)) (hmR : mcR ≤ R.cells) (hsR : msR ≤ R.slots) (hd1 : 16 * (d + 1) ≤ R.frames) (hd2 : 200 * (d + 1) ≤ R.locals) (hmx : maxL ≤ 150) {np : Nat} (hyd : y.cls ≠ "java/lang/invoke/MethodHandle" ∧ y.cls ≠ "java/lang/invoke/VarHandle" ∧ (parseMethodDescriptor y.desc).map (fun d => d.parameters.length) = some np) (hcode : Cond.codeWith y cc' maxL ret hh ∈ ab_TG) (hnp : np = na) (hl1 : Cond.methodLink own i y ∈ ab_TG) (hl2 : Cond.static y ∈ ab_TG) (hl4 : Cond.initialized y.cls ∈ ab_TG) (dd : decode cc pc = .ok (.invokestatic i, 3)) : ab_so p l e R s m args below meth c Q nL X D z0 cal pc (op_call 0 mid na mc ms mcR msR (pc + 3)) := by
  refine so_call_k C K hmi hmR hsR (fun z ws H locs env nl aw cl sl ls as cas crest outs hR hsz hch hs hna hcs hcl hsl hct => ?_)
  have hlen : cas.length = na := by rw [← hna, ab_map_len hs]
  have hM : Met l y (Cond.codeWith y cc' maxL ret hh :: ab_TG) (ab_rm d mc ms) (ab_Pr X D aw z ws cas) (ab_Po X D (z, ws, aw.1.map ab_flg) outs ret) mc ms (ab_Ar X) := hct z ws cas hR.inn hs
  refine vx_runSW (As := cas) (rest := crest) ⟨C.1, C.2.1, C.2.2.1, C.2.2.2.1, C.2.2.2.2.1⟩ hM (vx_cwSW np C.2.2.2.2.1 (ab_good (fun w hw => by
    simp only [va_wsS, List.mem_append, List.mem_cons, List.not_mem_nil, or_false] at hw
    rcases hw with (rfl | rfl | rfl) | (rfl | hw)
    · exact hl1
    · exact hl2
    · exact hl4
    · exact hcode
    · exact hw)) rfl rfl rfl hyd ⟨by show 16 * d + 1 ≤ _; omega, by show 8 + (maxL + 11) + 200 * d ≤ _; omega⟩) ⟨ab_Pr_blind, ab_Pr_in (ab_cxE C) hR⟩ rfl (by omega) hsz rfl (lv_room hcs) dd ⟨hcl, hsl⟩
end
