/-! A contract out of a run. -/
theorem ab_ent_in {X : ab_X} {z : ab_Z} (hz : X.2.2.2.2.2.category = 1) : ∀ {i : Nat} {as : List ab_V} {vs : List Value}, as.map (ab_ev X z) = vs.map some → ∀ q ∈ ab_ent i as, ∃ v, ab_ev X z q.2 = some v ∧ (q.1, v) ∈ lv_args i vs
  | _, [], _, _, q, h => by cases h
  | _, _ :: _, [], e, q, h => by simp at e
  | i, a :: as, v :: vs, e, q, h => by
    simp only [List.map_cons, List.cons.injEq] at e
    have hc := ab_cat hz e.1
    rcases List.mem_cons.mp h with rfl | h
    · exact ⟨v, e.1, List.mem_cons_self⟩
    · obtain ⟨x, h1, h2⟩ := ab_ent_in hz e.2 q h
      refine ⟨x, h1, List.mem_cons_of_mem _ ?_⟩
      cases hg : ab_lg a
      · rw [hg] at hc h2
        rw [if_neg (by rw [hc]; decide)]; exact h2
      · rw [hg] at hc h2
        rw [if_pos (by rw [hc]; rfl)]; exact h2
theorem ab_sl_len : ∀ (vs : List Value), (lg_sl vs).length = (vs.map fun v => v.category).sum
  | [] => rfl
  | v :: vs => by
    have ih := ab_sl_len vs
    simp only [lg_sl, List.flatMap_cons, List.length_append, List.map_cons, List.sum_cons] at ih ⊢
    rw [ih]
    rcases lv_cat v with h | h
    · rw [h]; simp
    · rw [h]; simp
theorem ab_fin_ok {ret : Option FieldType} {mc ms : Nat} : ∀ {os : List (Nat × ab_S)} {k : List ab_O → Option (List ab_O)} {r : List ab_O}, ab_fin ret mc ms os k = some r → ∃ L, k L = some r ∧ ∀ (n : Nat) (S : ab_S), (n, S) ∈ os →
    (n = 1 ∧ ∃ ty a, ret = some ty ∧ S.2.2.2 = [.inl a] ∧ ab_fit ty S.1.1 (.inl a) = true ∧ S.1.2.2.2.1 ≤ mc ∧ S.1.2.2.2.2 ≤ ms ∧ (1, some (.inl a), (S.1.1, S.1.2.1, S.1.2.2.1, 0, 0)) ∈ L) ∨
    (n = 2 ∧ ret = none ∧ S.2.2.2 = [] ∧ S.1.2.2.2.1 ≤ mc ∧ S.1.2.2.2.2 ≤ ms ∧ (2, none, (S.1.1, S.1.2.1, S.1.2.2.1, 0, 0)) ∈ L) ∨
    (n = 3 ∧ S.2.2.2 = [] ∧ S.1.2.2.2.1 + 1 ≤ mc ∧ S.1.2.2.2.2 + 6 ≤ ms ∧ (3, none, (S.1.1, S.1.2.1, S.1.2.2.1, 0, 0)) ∈ L)
  | [], k, r, h => ⟨[], h, fun n S hS => by cases hS⟩
  | (n, ((env, nl, aw, cl, sl), pc, lv, st)) :: os, k, r, h => by
    simp only [ab_fin] at h
    split at h
    · split at h
      · rename_i ty a
        cases hb : (ab_fit ty env (.inl a) && Nat.ble cl mc && Nat.ble sl ms)
        · rw [hb] at h; cases h
        · rw [hb, cond_true] at h
          rw [Bool.and_eq_true, Bool.and_eq_true] at hb
          obtain ⟨L, h1, h2⟩ := ab_fin_ok h
          refine ⟨_, h1, fun n S hS => ?_⟩
          rcases List.mem_cons.mp hS with e | hS
          · cases e
            exact Or.inl ⟨rfl, ty, a, rfl, rfl, hb.1.1, Nat.le_of_ble_eq_true hb.1.2, Nat.le_of_ble_eq_true hb.2, List.mem_cons_self⟩
          · rcases h2 n S hS with ⟨g0, ty', a', g1, g2, g3, g4, g5, g6⟩ | ⟨g0, g1, g2, g3, g4, g5⟩ | ⟨g0, g1, g2, g3, g4⟩
            · exact Or.inl ⟨g0, ty', a', g1, g2, g3, g4, g5, List.mem_cons_of_mem _ g6⟩
            · exact Or.inr (Or.inl ⟨g0, g1, g2, g3, g4, List.mem_cons_of_mem _ g5⟩)
            · exact Or.inr (Or.inr ⟨g0, g1, g2, g3, List.mem_cons_of_mem _ g4⟩)
      · cases h
    · split at h
      · cases hb : (Nat.ble cl mc && Nat.ble sl ms)
        · rw [hb] at h; cases h
        · rw [hb, cond_true] at h
          rw [Bool.and_eq_true] at hb
          obtain ⟨L, h1, h2⟩ := ab_fin_ok h
          refine ⟨_, h1, fun n S hS => ?_⟩
          rcases List.mem_cons.mp hS with e | hS
          · cases e
            exact Or.inr (Or.inl ⟨rfl, rfl, rfl, Nat.le_of_ble_eq_true hb.1, Nat.le_of_ble_eq_true hb.2, List.mem_cons_self⟩)
          · rcases h2 n S hS with ⟨g0, ty', a', g1, g2, g3, g4, g5, g6⟩ | ⟨g0, g1, g2, g3, g4, g5⟩ | ⟨g0, g1, g2, g3, g4⟩
            · exact Or.inl ⟨g0, ty', a', g1, g2, g3, g4, g5, List.mem_cons_of_mem _ g6⟩
            · exact Or.inr (Or.inl ⟨g0, g1, g2, g3, g4, List.mem_cons_of_mem _ g5⟩)
            · exact Or.inr (Or.inr ⟨g0, g1, g2, g3, List.mem_cons_of_mem _ g4⟩)
      · cases h
    · split at h
      · cases hb : (Nat.ble (cl + 1) mc && Nat.ble (sl + 6) ms)
        · rw [hb] at h; cases h
        · rw [hb, cond_true] at h
          rw [Bool.and_eq_true] at hb
          obtain ⟨L, h1, h2⟩ := ab_fin_ok h
          refine ⟨_, h1, fun n S hS => ?_⟩
          rcases List.mem_cons.mp hS with e | hS
          · cases e
            exact Or.inr (Or.inr ⟨rfl, rfl, Nat.le_of_ble_eq_true hb.1, Nat.le_of_ble_eq_true hb.2, List.mem_cons_self⟩)
          · rcases h2 n S hS with ⟨g0, ty', a', g1, g2, g3, g4, g5, g6⟩ | ⟨g0, g1, g2, g3, g4, g5⟩ | ⟨g0, g1, g2, g3, g4⟩
            · exact Or.inl ⟨g0, ty', a', g1, g2, g3, g4, g5, List.mem_cons_of_mem _ g6⟩
            · exact Or.inr (Or.inl ⟨g0, g1, g2, g3, g4, List.mem_cons_of_mem _ g5⟩)
            · exact Or.inr (Or.inr ⟨g0, g1, g2, g3, List.mem_cons_of_mem _ g4⟩)
      · cases h
    · cases h
section
variable {p : Program} {l : Launch} {e : Env} {R : Room} {s : State} {m : MethodId} {args : Array Value} {below : List Frame} {meth : Method} {c : Code} {Q : State → Prop} {cc : ByteArray} {own : String} {nL : Nat} {X : ab_X} {D : va_G} {z0 : ab_Z0} {cal : ab_K} {pc : Nat}
/-- a stop that returns -/
theorem ab_stop (C : ab_cx p R s m args c cc own nL X D) {th : Nat → Prop} {ret : Option FieldType} {mc ms : Nat} {outs : List ab_O} {S : ab_S} {k : Nat} {f : ab_P} (hr : meth.sig.returnType = ret) (hlocks : meth.locks = false)
    (htv : ab_tv p l e R s m args below meth c (MQ below (ab_Po X D z0 outs ret) args s mc ms (ab_Ar X)) cc nL X D z0 cal th (S.2.1, k, f))
    (h : (k = 1 ∧ ∃ ty a, ret = some ty ∧ S.2.2.2 = [.inl a] ∧ ab_fit ty S.1.1 (.inl a) = true ∧ S.1.2.2.2.1 ≤ mc ∧ S.1.2.2.2.2 ≤ ms ∧ (1, some (.inl a), (S.1.1, S.1.2.1, S.1.2.2.1, 0, 0)) ∈ outs) ∨ (k = 2 ∧ ret = none ∧ S.2.2.2 = [] ∧ S.1.2.2.2.1 ≤ mc ∧ S.1.2.2.2.2 ≤ ms ∧ (2, none, (S.1.1, S.1.2.1, S.1.2.2.1, 0, 0)) ∈ outs)) :
    ab_ok p l e R s m args below meth c (MQ below (ab_Po X D z0 outs ret) args s mc ms (ab_Ar X)) nL X D z0 S := by
  intro z ws H locs ls cst hR hl hs
  rcases h with ⟨rfl, ty, a, rfl, h2, h3, h4, h5, h6⟩ | ⟨rfl, rfl, h2, h4, h5, h6⟩
  · rw [h2] at hs
    obtain ⟨x, r, rfl, g1, g2⟩ := ab_st1 hs
    cases r with
    | cons _ _ => simp at g2
    | nil =>
      obtain ⟨y, rfl, g3⟩ := ab_evi g1
      have hd : decode cc S.2.1 = .ok (.ireturn, 1) := htv
      refine W.widen h4 h5 ?_
      refine W.zret C.1 C.2.1 hr (ab_fit_ok hR.1 h3 g1).1 (fun t ht hW => ?_) hR.2.2.2.2.2.2.1.2.2 hd hlocks
      exact ⟨⟨y, ((1, some (.inl a), (S.1.1, S.1.2.1, S.1.2.2.1, 0, 0)), z, ws), rfl, ⟨⟨h6, rfl, hR.2.2.2.2.2.2.2.2, hR.1, hR.2.1, hR.2.2.1, hR.2.2.2.2.2.1, hR.2.2.2.2.2.2.2.1⟩, _, rfl, g1⟩, hR.2.2.2.1.moved hW.alike, by rw [ht]; exact hR.2.2.2.2.1⟩, hR.2.2.2.2.2.2.1.F ht⟩
  · rw [h2] at hs
    cases cst with
    | cons _ _ => simp at hs
    | nil =>
      have hd : decode cc S.2.1 = .ok (.return_, 1) := htv
      refine W.widen h4 h5 ?_
      refine W.vret C.1 C.2.1 hr (fun t ht hW => ?_) hR.2.2.2.2.2.2.1.2.2 hd hlocks
      exact ⟨⟨((2, none, (S.1.1, S.1.2.1, S.1.2.2.1, 0, 0)), z, ws), rfl, ⟨h6, rfl, hR.2.2.2.2.2.2.2.2, hR.1, hR.2.1, hR.2.2.1, hR.2.2.2.2.2.1, hR.2.2.2.2.2.2.2.1⟩, hR.2.2.2.1.moved hW.alike, by rw [ht]; exact hR.2.2.2.2.1⟩, hR.2.2.2.2.2.2.1.F ht⟩
/-- a method's first state -/
theorem ab_first {env : ab_E} {nl : Nat} {aw : ab_H} {as : List ab_V} {z : ab_Z} {ws : va_W} {vs : List Value} {maxL : Nat} (hE : ab_EX X D s s.heap) (hin : ab_inn X env nl z ws) (hs : as.map (ab_ev X z) = vs.map some) (hw : ab_wR X z s aw ws) (hP : va_P D vwCl ws s.heap) (hcs : ab_csum as ≤ maxL)
    (h : ab_ok p l e R s m args below meth c Q maxL X D (z, ws, aw.1.map ab_flg) ((env, nl, aw, 0, 0), 0, ab_ent 0 as, [])) : W p l e R s m args below meth c s.heap [] 0 0 Q (entryFrame m vs.toArray maxL) := by
  have hz := hE.2.2.2.2.1
  have hlen : (lg_sl vs).length ≤ maxL := by rw [ab_sl_len, ab_csum_ok hz hs]; exact hcs
  have hlv := lv_entry vs (n := maxL) hlen
  rw [lg_entry_eq]
  generalize (lg_sl vs ++ List.replicate (maxL - (lg_sl vs).length) Slot.unset).toArray = ls at hlv ⊢
  refine h z ws s.heap [] ls [] ⟨hin.1, hin.2.1, hin.2.2.1, hw, hP, hin.2.2.2.1, va_S.rf, hin.2.2.2.2, ab_ext.rf, ⟨[], by simp⟩, ab_fr.rf⟩ ⟨hlv.1, hlv.2.1, fun q hq => ?_⟩ rfl
  obtain ⟨v, h1, h2⟩ := ab_ent_in hz hs q hq
  exact ⟨v, h1, hlv.2.2 _ h2⟩
end
/-- a table is sound in every place where the method can stand -/
noncomputable def ab_ts (l : Launch) (X : ab_X) (D : va_G) (d : Nat) (ME : List ab_ME) (y : MethodName) (cc : ByteArray) (own : String) (maxL mc ms : Nat) (tab : ab_tab) (th : (Program → Env → Room → State → MethodId → Array Value → List Frame → Method → Code → (State → Prop) → Nat → Prop)) : Prop :=
  ∀ (cal : ab_K), ab_cal l X D d ME cal → ∀ (p : Program) (e : Env) (R : Room) (s : State) (m : MethodId) (args : Array Value) (below : List Frame) (meth : Method) (c : Code) (Q : State → Prop) (z0 : ab_Z0), ab_cx p R s m args c cc own maxL X D → meth.name = y.name → 16 * (d + 1) ≤ R.frames → 200 * (d + 1) ≤ R.locals → mc ≤ R.cells → ms ≤ R.slots → ∀ b ∈ tab, ∀ q ∈ b, ab_tv p l e R s m args below meth c Q cc maxL X D z0 cal (th p e R s m args below meth c Q) q
theorem ab_meth0 {l : Launch} {X : ab_X} {D : va_G} {d : Nat} {ME : List ab_ME} {y : MethodName} {cc : ByteArray} {own : String} {maxL mc ms : Nat} {ret : Option FieldType} {hh : List (Nat × Nat × Nat × Nat)} {tab : ab_tab} (hyo : y.cls = own) (hy : plainName y.cls = true) (hT : ab_ts l X D d ME y cc own maxL mc ms tab (fun _ _ _ _ _ _ _ _ _ _ _ => False))
    {cal : ab_K} (hcal : ab_cal l X D d ME cal) {fuel : Nat} {env : ab_E} {nl : Nat} {aw : ab_H} {as : List ab_V} {os : List (Nat × ab_S)} {outs : List ab_O} (hcs : ab_csum as ≤ maxL) (hrun : ab_run tab cal fuel [((env, nl, aw, 0, 0), 0, ab_ent 0 as, [])] [] = some os) (hfin : ab_fin ret mc ms os (fun L => some L) = some outs) : ab_ctr l X D (d + 1) (y, cc, maxL, ret, mc, ms, 0, hh, tab) env nl aw as outs := by
  intro z ws vs hin hs
  show Met l y (Cond.code y cc maxL ret :: ab_TG) (ab_rm (d + 1) mc ms) (ab_Pr X D aw z ws vs) (ab_Po X D (z, ws, aw.1.map ab_flg) outs ret) mc ms (ab_Ar X)
  refine Met.ofW (cc := cc) (maxL := maxL) (ret := ret) hy rfl ?_
  intro p e s m args below meth c s₁ B hml hv
  obtain ⟨rfl, hE, hw, hP⟩ := hv
  have C : ab_cx p (headSpec (Cond.code y cc maxL ret :: ab_TG) (ab_rm (d + 1) mc ms)).room s m vs.toArray c cc own maxL X D := ⟨B.exec, B.bytes, hml, hyo ▸ findClass_of_methodNamed B.named, fun w hw => atoms_spec (ws := Cond.code y cc maxL ret :: ab_TG) B.pre w (List.mem_cons_of_mem _ hw), hE, by show 16 ≤ 16 * (d + 1); omega, by show 200 ≤ 200 * (d + 1); omega⟩
  have hTv := hT cal hcal p e (headSpec (Cond.code y cc maxL ret :: ab_TG) (ab_rm (d + 1) mc ms)).room s m vs.toArray below meth c (MQ below (ab_Po X D (z, ws, aw.1.map ab_flg) outs ret) vs.toArray s mc ms (ab_Ar X)) (z, ws, aw.1.map ab_flg) C (name_of_methodNamed B.named B.method).1 (Nat.le_refl _) (Nat.le_refl _) (Nat.le_refl _) (Nat.le_refl _)
  refine ab_first hE hin hs hw hP hcs ?_
  refine ab_run_ok hTv hrun (fun k pc S hS hpc hf => ?_) _ List.mem_cons_self
  subst hpc
  obtain ⟨f, b, hb1, hb2⟩ := hf
  have htv := hTv b hb1 _ hb2
  obtain ⟨L, h1, h2⟩ := ab_fin_ok hfin
  cases h1
  rcases h2 k S hS with g | g | ⟨rfl, -⟩
  · exact ab_stop C B.returns B.notSynchronized htv (Or.inl g)
  · exact ab_stop C B.returns B.notSynchronized htv (Or.inr g)
  · exact False.elim htv
