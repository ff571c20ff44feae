/-! Calls whose throw is caught; contracts of catchers; all contracts by induction on the depth. -/
theorem ab_lR.drop1 {X : ab_X} {z : ab_Z} {nL i : Nat} {ls' : Array Slot} {lv : List (Nat × ab_V)} {lc : List (Nat × Value)} {x : Value} (hz : X.2.2.2.2.2.category = 1) (hlc : ∀ q ∈ lv, ∃ v, ab_ev X z q.2 = some v ∧ (q.1, v) ∈ lc)
    (h : lv_has ls' nL ((i, x) :: lc.filter (fun q => !(q.1 == i) && !(q.1 + 1 == i && q.2.category == 2)))) : ab_lR X z nL ls' (lv.filter (ab_kp false i)) := by
  refine ⟨h.1, h.2.1, fun q hq => ?_⟩
  obtain ⟨h1, h2⟩ := List.mem_filter.mp hq
  obtain ⟨w, g1, g2⟩ := hlc q h1
  refine ⟨w, g1, h.2.2 (q.1, w) (List.mem_cons_of_mem _ (List.mem_filter.mpr ⟨g2, ?_⟩))⟩
  have hc := ab_cat hz g1
  simp only [ab_kp, Bool.and_eq_true, Bool.not_eq_true', Bool.and_eq_false_iff] at h2
  obtain ⟨⟨a1, a2⟩, -⟩ := h2
  have b1 : (q.1 == i) = false := (ab_bq _ _).trans a1
  have b2 : (q.1 + 1 == i && w.category == 2) = false := by
    rcases a2 with a2 | a2
    · rw [a2] at hc
      rw [show w.category = 1 from hc]; simp
    · rw [show (q.1 + 1 == i) = false from (ab_bq _ _).trans a2]; rfl
  simp only [b1, b2]; rfl
noncomputable def ab_reXK (np hp cl sl : Nat) (lv lv' : List (Nat × ab_V)) (rest : List ab_V) : List ab_O → (List ab_S → ab_A) → ab_A
  | [], k => k []
  | (n, v, (env, nl, aw, _, _)) :: r, k => match n with
    | 1 => (match v with
      | some v => ab_reXK np hp cl sl lv lv' rest r (fun L => k (((env, nl, aw, cl, sl), np, lv, v :: rest) :: L))
      | none => none)
    | 3 => ab_reXK np hp cl sl lv lv' rest r (fun L => k (((env, nl, aw, cl, sl), hp, lv', []) :: L))
    | _ => none
theorem ab_reXK_ok {np hp cl sl : Nat} {lv lv' : List (Nat × ab_V)} {rest : List ab_V} : ∀ {outs : List ab_O} {k : List ab_S → ab_A} {r : List ab_S}, ab_reXK np hp cl sl lv lv' rest outs k = some r → ∃ L, k L = some r ∧ (∀ o ∈ outs, ∀ v, o.1 = 1 → o.2.1 = some v → ((o.2.2.1, o.2.2.2.1, o.2.2.2.2.1, cl, sl), np, lv, v :: rest) ∈ L) ∧ ∀ o ∈ outs, o.1 = 3 → ((o.2.2.1, o.2.2.2.1, o.2.2.2.2.1, cl, sl), hp, lv', []) ∈ L
  | [], k, r, h => ⟨[], h, fun o ho => (by cases ho), fun o ho => (by cases ho)⟩
  | (n, v, (env, nl, aw, c0, s0)) :: r0, k, r, h => by
    simp only [ab_reXK] at h
    split at h
    · split at h
      · rename_i v0
        obtain ⟨L, h1, h2, h3⟩ := ab_reXK_ok h
        refine ⟨_, h1, fun o ho v' e1 e2 => ?_, fun o ho e1 => ?_⟩
        · rcases List.mem_cons.mp ho with rfl | ho
          · cases e2; exact List.mem_cons_self
          · exact List.mem_cons_of_mem _ (h2 o ho v' e1 e2)
        · rcases List.mem_cons.mp ho with rfl | ho
          · cases e1
          · exact List.mem_cons_of_mem _ (h3 o ho e1)
      · cases h
    · obtain ⟨L, h1, h2, h3⟩ := ab_reXK_ok h
      refine ⟨_, h1, fun o ho v' e1 e2 => ?_, fun o ho e1 => ?_⟩
      · rcases List.mem_cons.mp ho with rfl | ho
        · cases e1
        · exact List.mem_cons_of_mem _ (h2 o ho v' e1 e2)
      · rcases List.mem_cons.mp ho with rfl | ho
        · exact List.mem_cons_self
        · exact List.mem_cons_of_mem _ (h3 o ho e1)
    · cases h
noncomputable def op_callx (rc mid na mc ms mcR msR np hi hp : Nat) : ab_P := fun cal env nl aw cl sl lv st => ab_splK na st [] (fun as rest =>
  bif ab_chk rc as aw && Nat.ble (ab_csum rest) 8 && Nat.ble (cl + mc) mcR && Nat.ble (sl + ms) msR then (match cal mid (env, nl, aw, 0, 0) as with
    | none => none
    | some outs => ab_fn (cl + mc) (fun cl => ab_fn (sl + ms) (fun sl => ab_flK false hi lv (fun lv' => ab_reXK np hp cl sl lv lv' rest outs (fun L => some L))))) else none)
section
variable {p : Program} {l : Launch} {e : Env} {R : Room} {s : State} {m : MethodId} {args : Array Value} {below : List Frame} {meth : Method} {c : Code} {Q : State → Prop} {cc : ByteArray} {own : String} {nL : Nat} {X : ab_X} {D : va_G} {z0 : ab_Z0} {cal : ab_K} {pc : Nat}
variable {d : Nat} {ME : List ab_ME} {y : MethodName} {cc' : ByteArray} {maxL : Nat} {mc ms mcR msR mid na i : Nat} {hh : List (Nat × Nat × Nat × Nat)} {tab : ab_tab}
theorem so_callx (C : ab_cx p R s m args c cc own nL X D) (K : ab_cal l X D d ME cal) {ty : FieldType} (hmi : ME[mid]? = some (y, cc', maxL, some ty, mc, ms, 1, hh, tab)) (hmR : mcR ≤ R.cells) (hsR : msR ≤ R.slots) (hd1 : 16 * (d + 1) ≤ R.frames) (hd2 : 200 * (d + 1) ≤ R.locals) (hmx : maxL ≤ 150) {np : Nat} (hyd : y.cls ≠ "java/lang/invoke/MethodHandle" ∧ y.cls ≠ "java/lang/invoke/VarHandle" ∧ (parseMethodDescriptor y.desc).map (fun d => d.parameters.length) = some np) (hcode : Cond.code y cc' maxL (some ty) ∈ ab_TG) {ci N : Nat} {cn : String} {T : u_T} (hc : vwCl[ci]? = some (cn, T, N)) (hcn : y.cls = cn) (hnp : np + 1 = na) (hl1 : Cond.methodLink own i y ∈ ab_TG) (hl2 : Cond.instanceMethod y ∈ ab_TG) (hl3 : Cond.selects cn y y ∈ ab_TG) (hl4 : Cond.initialized cn ∈ ab_TG) (dd : decode cc pc = .ok (.invokevirtual i, 3))
    {eP hP ct hi hp : Nat} (htab : c.exceptionTable.toList = tableOf [(0, eP, hP, ct)]) (hcov : covers ⟨0, eP, hP, ct⟩ pc = true) (hct : ct ≠ 0) (hlk : Cond.classLink own ct ab_Nm ∈ ab_TG) (hcs : Cond.castable ab_Nm ab_Nm ∈ lw_tbl) (hhi : hi < nL)
    (dh : (decode cc hP = .ok (.astore hi, 2) ∧ hP + 2 = hp) ∨ (∃ k : Fin 4, (k : Nat) = hi ∧ decode cc hP = .ok (.astore_n k, 1) ∧ hP + 1 = hp)) : ab_so p l e R s m args below meth c Q nL X D z0 cal pc (op_callx (ci + 2) mid na mc ms mcR msR (pc + 3) hi hp) := by
  intro env nl aw cl sl lv st r hr hk z ws H locs ls cst hR hl hs
  dsimp only at hR hl hs
  unfold op_callx at hr
  obtain ⟨as, rest, cas, crest, q1, q2, q3, q4, q5⟩ := ab_splK_ok (cacc := []) hr hs rfl
  cases hb : (ab_chk (ci + 2) as aw && Nat.ble (ab_csum rest) 8 && Nat.ble (cl + mc) mcR && Nat.ble (sl + ms) msR)
  · rw [hb] at q1; cases q1
  · rw [hb, cond_true] at q1
    rw [Bool.and_eq_true, Bool.and_eq_true, Bool.and_eq_true] at hb
    obtain ⟨⟨⟨b1, b2⟩, b3⟩, b4⟩ := hb
    split at q1
    · cases q1
    · rename_i outs ho
      rw [ab_fn_eq, ab_fn_eq, ab_flK_eq] at q1
      obtain ⟨L, l1, l2, l3⟩ := ab_reXK_ok q1
      cases l1
      have hzc := (ab_cxE C).2.2.2.2.1
      have hcs2 := ab_csum_ok hzc q4
      have hct' := K mid _ hmi env nl aw as outs ho
      obtain ⟨b, cr, rfl, hcell⟩ := ab_recv (ab_cxE C) hR hc b1 q3
      have hlen : cr.length + 1 = na := by
        have h9 := ab_map_len q3
        rw [q5] at h9
        simpa using h9.symm
      have hM : vx_Met l y (Cond.code y cc' maxL (some ty) :: ab_TG) (ab_rm d mc ms) (ab_Pr X D aw z ws (.ref b :: cr)) (ab_Po X D (z, ws, aw.1.map ab_flg) outs (some ty)) (ab_Xo X D (z, ws, aw.1.map ab_flg) outs) mc ms (ab_Ar X) := hct' z ws (.ref b :: cr) hR.inn q3
      have q2' : cst = (Value.ref b :: cr).reverse ++ crest := q2
      rw [q2']
      have run := vx_runV (p := p) (e := e) (m := m) (below := below) (meth := meth) (H := H) (locs := locs) (cells := cl) (slots := sl) (As := cr) (rest := crest) (g := F0 m pc ls ((Value.ref b :: cr).reverse ++ crest)) ⟨C.1, C.2.1, C.2.2.1, C.2.2.2.1, C.2.2.2.2.1⟩ hM (cwV (C := cn) np C.2.2.2.2.1 (ab_good (fun w hw => by
        simp only [wsV, List.mem_append, List.mem_cons, List.not_mem_nil, or_false] at hw
        rcases hw with (rfl | rfl | rfl | rfl) | (rfl | hw)
        · exact hl1
        · exact hl2
        · exact hl3
        · exact hl4
        · exact hcode
        · exact hw)) rfl rfl rfl ⟨hcn, hyd⟩ ⟨by show 16 * d + 1 ≤ _; omega, by show 8 + (maxL + 11) + 200 * d ≤ _; omega⟩) ⟨ab_Pr_blind, hcell, ab_Pr_in (ab_cxE C) hR⟩ rfl (by omega) hl.1 (by simp) (lv_room (by rw [hcs2]; exact Nat.le_of_ble_eq_true b2)) dd ⟨Nat.le_trans (Nat.le_of_ble_eq_true b3) hmR, Nat.le_trans (Nat.le_of_ble_eq_true b4) hsR⟩
      refine vx_calli (A0 := ab_Ar X) (a := (Value.ref b :: cr).toArray) (post := ab_pi X (z, ws, aw.1.map ab_flg) outs) (B := ab_bu X D) (A1 := ab_Ar X) (px := ab_pu X (z, ws, aw.1.map ab_flg) outs 3) (BX := fun E u t => E = ab_Nm ∧ ab_bu X D u t) (AX := ab_Ar X) run hR.2.2.2.2.2.2.1 (fun _ _ h => h) (fun _ h => h) (fun _ _ h => h) (fun E ce q9 u t H1 locs1 ht hvm hp9 hB _ _ hS hce hcv hcl => ?_) (fun r0 u t H1 locs1 ht hvm hp9 hB _ _ hS => ?_)
      · obtain ⟨rfl, hB⟩ := hB
        refine vx_catch (own := own) (name := ab_Nm) C.2.2.2.1 [] ⟨0, eP, hP, ct⟩ [] htab (fun z hz => nomatch hz) hcov hct (C.2.2.2.2.1 _ hlk) (va_Nw.use (ab_nest_tab rfl) ((ab_cxE C).2.2.1 _ hcs rfl)) hce hcv hcl ?_
        obtain ⟨lc, g1, g2⟩ := (hl.ext hp9.2.2.1.1).list
        rcases dh with ⟨dh, rfl⟩ | ⟨k, hk4, dh, rfl⟩
        · refine lv_astore C.1 C.2.1 dh g1 hhi rfl (fun ls' hl' => ?_)
          exact hk _ (l3 u.1 hp9.1 hp9.2.1) u.2.1 u.2.2 H1 locs1 ls' [] (hR.back hp9 hB ht hvm hS) (ab_lR.drop1 hzc g2 hl') rfl
        · refine lv_astore_n C.1 C.2.1 dh hk4 g1 hhi rfl (fun ls' hl' => ?_)
          exact hk _ (l3 u.1 hp9.1 hp9.2.1) u.2.1 u.2.2 H1 locs1 ls' [] (hR.back hp9 hB ht hvm hS) (ab_lR.drop1 hzc g2 hl') rfl
      · obtain ⟨hp9, v, v1, v2⟩ := hp9
        exact hk _ (l2 u.1 hp9.1 v hp9.2.1 v1) u.2.1 u.2.2 H1 locs1 ls (.int r0 :: crest) (hR.back hp9 hB ht hvm hS) (hl.ext hp9.2.2.1.1) (by simp only [List.map_cons, v2, ab_evs.ext hp9.2.2.1.1 q4])
end
/-- the same for a method with handlers -/
noncomputable def ab_ts2 (l : Launch) (X : ab_X) (D : va_G) (d : Nat) (ME : List ab_ME) (y : MethodName) (cc : ByteArray) (own : String) (maxL mc ms : Nat) (hh : List (Nat × Nat × Nat × Nat)) (tab : ab_tab) : Prop :=
  ∀ (cal : ab_K), ab_cal l X D d ME cal → ∀ (p : Program) (e : Env) (R : Room) (s : State) (m : MethodId) (args : Array Value) (below : List Frame) (meth : Method) (c : Code) (Q : State → Prop) (z0 : ab_Z0), ab_cx p R s m args c cc own maxL X D → c.exceptionTable.toList = tableOf hh → 16 * (d + 1) ≤ R.frames → 200 * (d + 1) ≤ R.locals → mc ≤ R.cells → ms ≤ R.slots → ∀ b ∈ tab, ∀ q ∈ b, ab_tv p l e R s m args below meth c Q cc maxL X D z0 cal (fun _ => False) q
theorem ab_meth2 {l : Launch} {X : ab_X} {D : va_G} {d : Nat} {ME : List ab_ME} {y : MethodName} {cc : ByteArray} {own : String} {maxL mc ms : Nat} {ret : Option FieldType} {hh : List (Nat × Nat × Nat × Nat)} {tab : ab_tab} (hyo : y.cls = own) (hy : plainName y.cls = true) (hT : ab_ts2 l X D d ME y cc own maxL mc ms hh tab)
    {cal : ab_K} (hcal : ab_cal l X D d ME cal) {fuel : Nat} {env : ab_E} {nl : Nat} {aw : ab_H} {as : List ab_V} {os : List (Nat × ab_S)} {outs : List ab_O} (hcs : ab_csum as ≤ maxL) (hrun : ab_run tab cal fuel [((env, nl, aw, 0, 0), 0, ab_ent 0 as, [])] [] = some os) (hfin : ab_fin ret mc ms os (fun L => some L) = some outs) {kd : Nat} : ab_ctr l X D (d + 1) (y, cc, maxL, ret, mc, ms, kd + 2, hh, tab) env nl aw as outs := by
  intro z ws vs hin hs
  show Met l y (Cond.codeWith y cc maxL ret hh :: ab_TG) (ab_rm (d + 1) mc ms) (ab_Pr X D aw z ws vs) (ab_Po X D (z, ws, aw.1.map ab_flg) outs ret) mc ms (ab_Ar X)
  refine va_MetW (cc := cc) (maxL := maxL) (ret := ret) (hh := hh) hy rfl ?_
  intro p e s m args below meth c s₁ B hml hv
  obtain ⟨rfl, hE, hw, hP⟩ := hv
  have C : ab_cx p (headSpec (Cond.codeWith y cc maxL ret hh :: ab_TG) (ab_rm (d + 1) mc ms)).room s m vs.toArray c cc own maxL X D := ⟨B.exec, B.bytes, hml, hyo ▸ findClass_of_methodNamed B.named, fun w hw => atoms_spec (ws := Cond.codeWith y cc maxL ret hh :: ab_TG) B.pre w (List.mem_cons_of_mem _ hw), hE, by show 16 ≤ 16 * (d + 1); omega, by show 200 ≤ 200 * (d + 1); omega⟩
  have htab : c.exceptionTable.toList = tableOf hh := vx_table (x := y) B (atoms_spec (ws := Cond.codeWith y cc maxL ret hh :: ab_TG) B.pre _ List.mem_cons_self)
  have hTv := hT cal hcal p e (headSpec (Cond.codeWith y cc maxL ret hh :: ab_TG) (ab_rm (d + 1) mc ms)).room s m vs.toArray below meth c (MQ below (ab_Po X D (z, ws, aw.1.map ab_flg) outs ret) vs.toArray s mc ms (ab_Ar X)) (z, ws, aw.1.map ab_flg) C htab (Nat.le_refl _) (Nat.le_refl _) (Nat.le_refl _) (Nat.le_refl _)
  refine ab_first hE hin hs hw hP hcs ?_
  refine ab_run_ok hTv hrun (fun k pc S hS hpc hf => ?_) _ List.mem_cons_self
  subst hpc
  obtain ⟨f, b, hb1, hb2⟩ := hf
  have htv := hTv b hb1 _ hb2
  obtain ⟨L, h1, h2⟩ := ab_fin_ok hfin
  cases h1
  rcases h2 k S hS with g | g | ⟨rfl, -⟩
  · exact ab_stop C B.returns B.notSynchronized htv (Or.inl g)
  · exact ab_stop C B.returns B.notSynchronized htv (Or.inr g)
  · exact False.elim htv
/-- a method of the list is sound -/
noncomputable def ab_snd (l : Launch) (X : ab_X) (D : va_G) (ME : List ab_ME) (M : ab_ME) : Prop := ∀ d : Nat, match M with
  | (y, cc, maxL, _, mc, ms, kd, hh, tab) => plainName y.cls = true ∧ match kd with
    | 0 => ab_ts l X D d ME y cc y.cls maxL mc ms tab (fun _ _ _ _ _ _ _ _ _ _ _ => False)
    | 1 => y.cls = "SundialTreaty" ∧ ab_ts l X D d ME y cc "SundialTreaty" maxL mc ms tab (fun _ _ _ _ _ _ _ _ _ _ pc => ab_thr cc pc)
    | _ => ab_ts2 l X D d ME y cc y.cls maxL mc ms hh tab
theorem ab_all {l : Launch} (hst : l.stackTraces = false) {X : ab_X} {D : va_G} {ME : List ab_ME} (hME : ∀ M ∈ ME, ab_snd l X D ME M) (fuel : Nat) : ∀ d : Nat, ab_cal l X D d ME (ab_eval ME fuel d)
  | 0 => fun mid M hM env nl aw as outs h => by cases h
  | d + 1 => fun mid M hM env nl aw as outs h => by
    have ih := ab_all hst hME fuel d
    have hs := hME M (List.mem_of_getElem? hM) d
    obtain ⟨y, cc, maxL, ret, mc, ms, kd, hh, tab⟩ := M
    obtain ⟨hy, hs⟩ := hs
    simp only [ab_eval, ab_get_eq, hM] at h
    cases hb : Nat.ble (ab_csum as) maxL
    · rw [hb] at h; cases h
    · rw [hb, cond_true, ab_entK_eq] at h
      have hcs := Nat.le_of_ble_eq_true hb
      split at h
      · cases h
      · rename_i os hos
        match kd, hs with
        | 0, hs => exact ab_meth0 rfl hy hs ih hcs hos h
        | 1, hs => exact ab_meth1 hst hs.1 hy hs.2 ih hcs hos h
        | kd + 2, hs => exact ab_meth2 rfl hy hs ih hcs hos h
