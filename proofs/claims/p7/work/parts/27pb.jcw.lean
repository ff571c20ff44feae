/-! A static call of a method that catches, by the abstract contract and an exact one. -/
section
variable {p : Program} {l : Launch} {e : Env} {R : Room} {s : State} {m : MethodId} {args : Array Value} {below : List Frame} {meth : Method} {c : Code} {Q : State → Prop} {cc : ByteArray} {own : String} {nL : Nat} {X : ab_X} {D : va_G} {z0 : ab_Z0} {cal : ab_K} {pc : Nat}
variable {d : Nat} {ME : List ab_ME} {y : MethodName} {cc' : ByteArray} {maxL : Nat} {ty : FieldType} {mcR msR mid na i : Nat} {hh : List (Nat × Nat × Nat × Nat)} {tab : ab_tab}
set_option maxHeartbeats 1000000 in
theorem jc_callSW (C : ab_cx p R s m args c cc own nL X D) (K : ab_cal l X D d ME cal) {mc ms : Nat} (hmi : ME[mid]? = some (y, cc', maxL, some ty, mc, ms, 2, hh, tab)) (hmR : mcR ≤ R.cells) (hsR : msR ≤ R.slots) (hd1 : 16 * (d + 1) ≤ R.frames) (hd2 : 200 * (d + 1) ≤ R.locals) (hmx : maxL ≤ 150) {np : Nat} (hyd : y.cls ≠ "java/lang/invoke/MethodHandle" ∧ y.cls ≠ "java/lang/invoke/VarHandle" ∧ (parseMethodDescriptor y.desc).map (fun d => d.parameters.length) = some np) (hcode : Cond.codeWith y cc' maxL (some ty) hh ∈ ab_TG) (hnp : np = na) (hl1 : Cond.methodLink own i y ∈ ab_TG) (hl2 : Cond.static y ∈ ab_TG) (hl4 : Cond.initialized y.cls ∈ ab_TG) (dd : decode cc pc = .ok (.invokestatic i, 3))
    {env : ab_E} {nl : Nat} {aw : ab_H} {cl sl : Nat} {lv : List (Nat × ab_V)} {st : List ab_V} {r : List ab_S} (hr : op_call 0 mid na mc ms mcR msR (pc + 3) cal env nl aw cl sl lv st = some r)
    {z : ab_Z} {ws : va_W} {H : Heap} {locs : List Loc} {ls : Array Slot} {cst : List Value} (hR : ab_R X D s z0 env nl aw z ws H locs) (hl : ab_lR X z nL ls lv) (hs : st.map (ab_ev X z) = cst.map some)
    {A : ex_A} {we : va_W} {w : List ex_E} {vs rest : List Value} {Po : Int32 → List ex_E → Prop} (K2 : ex_ctrw l X D A d y cc' maxL (some ty) hh w vs Po mc ms) (hwe : ex_wR X A s w we) (hPe : va_P D vwCl we H) (hDe : va_D (ab_Ar X) we) (hcst : cst = (vs.map (ex_cv X A)).reverse ++ rest) (hvl : vs.length = na)
    (hk : ∀ S ∈ r, ∀ (z' : ab_Z) (ws' : va_W) (H1 : Heap) (locs1 : List Loc) (r0 : Int32) (u : ex_U), ab_R X D s (z, ws, aw.1.map ab_flg) S.1.1 S.1.2.1 S.1.2.2.1 z' ws' H1 locs1 → ab_lR X z' nL ls S.2.2.1 → S.2.2.2.map (ab_ev X z') = (Value.int r0 :: rest).map some → S.2.1 = pc + 3 → ab_ext z z' → Po r0 u.1 → ex_wR X A s u.1 u.2 → va_P D vwCl u.2 H1 → W p l e R s m args below meth c H1 locs1 S.1.2.2.2.1 S.1.2.2.2.2 Q (F0 m (pc + 3) ls (.int r0 :: rest))) :
    W p l e R s m args below meth c H locs cl sl Q (F0 m pc ls cst) := by
  unfold op_call at hr
  obtain ⟨as, restA, cas, crest, q1, q2, q3, q4, q5⟩ := ab_splK_ok (cacc := []) hr hs rfl
  cases hb : (ab_chk 0 as aw && Nat.ble (ab_csum restA) 8 && Nat.ble (cl + mc) mcR && Nat.ble (sl + ms) msR)
  · rw [hb] at q1; cases q1
  · rw [hb, cond_true] at q1
    rw [Bool.and_eq_true, Bool.and_eq_true, Bool.and_eq_true] at hb
    obtain ⟨⟨⟨b1, b2⟩, b3⟩, b4⟩ := hb
    split at q1
    · cases q1
    · rename_i outs ho
      rw [ab_fn_eq, ab_fn_eq] at q1
      obtain ⟨L, l1, l2, l3⟩ := ab_reK_ok q1
      cases l1
      have hcs := ab_csum_ok (ab_cxE C).2.2.2.2.1 q4
      have hcs2 : (crest.map fun v => v.category).sum ≤ 8 := by rw [hcs]; exact Nat.le_of_ble_eq_true b2
      have q2' : cst = cas.reverse ++ crest := q2
      have hlen1 : cas.length = na := by rw [← ab_map_len q3, q5]; rfl
      have hinj := List.append_inj (hcst.symm.trans q2') (by rw [List.length_reverse, List.length_reverse, List.length_map, hvl, hlen1])
      have hcas : cas = vs.map (ex_cv X A) := (List.reverse_inj.mp hinj.1).symm
      have hrest : crest = rest := hinj.2.symm
      have hM1 : Met l y (Cond.codeWith y cc' maxL (some ty) hh :: ab_TG) (ab_rm d mc ms) (ab_Pr X D aw z ws cas) (va_Qi (ab_pi X (z, ws, aw.1.map ab_flg) outs) (ab_bu X D) (ab_Ar X)) mc ms (ab_Ar X) := K mid _ hmi env nl aw as outs ho z ws cas hR.inn q3
      have hM2 : Met l y (Cond.codeWith y cc' maxL (some ty) hh :: ab_TG) (ab_rm d mc ms) (ex_Pr X D A w we vs) (va_Qi (fun r (u : ex_U) => Po r u.1) (ex_bu X D A) (ab_Ar X)) mc ms (ab_Ar X) := K2 we
      have hM := jn_meti hM1 hM2
      have hin : ∀ U : State, U.heap = H → s.WarmedH U.vm → (ab_Pr X D aw z ws cas cas.toArray U ∧ ex_Pr X D A w we vs cas.toArray U) := by
        intro U hU hW
        refine ⟨ab_Pr_in (ab_cxE C) hR U hU hW, ?_⟩
        rw [hcas]
        exact ex_Pr_in (ab_cxE C) (show ex_R X D s A w we H locs from ⟨hwe, hPe, hDe, hR.2.2.2.2.2.2.1⟩) U hU hW
      have run := vx_runSW (e := e) (below := below) (As := cas) (rest := crest) (g := F0 m pc ls cst) (cells := cl) (slots := sl) (locs := locs) (H := H) (meth := meth) (p := p) ⟨C.1, C.2.1, C.2.2.1, C.2.2.2.1, C.2.2.2.2.1⟩ hM (vx_cwSW np C.2.2.2.2.1 (ab_good (fun w hw => by
        simp only [va_wsS, List.mem_append, List.mem_cons, List.not_mem_nil, or_false] at hw
        rcases hw with (rfl | rfl | rfl) | (rfl | hw)
        · exact hl1
        · exact hl2
        · exact hl4
        · exact hcode
        · exact hw)) rfl rfl rfl hyd ⟨by show 16 * d + 1 ≤ _; omega, by show 8 + (maxL + 11) + 200 * d ≤ _; omega⟩) ⟨fun a U g mk h => ⟨ab_Pr_blind a U g mk h.1, ex_Pr_blind a U g mk h.2⟩, hin⟩ rfl (by omega) hl.1 q2' (lv_room hcs2) dd ⟨Nat.le_trans (Nat.le_of_ble_eq_true b3) hmR, Nat.le_trans (Nat.le_of_ble_eq_true b4) hsR⟩
      refine va_calli (A0 := ab_Ar X) (post := fun r (u : ab_U × ex_U) => ab_pi X (z, ws, aw.1.map ab_flg) outs r u.1 ∧ Po r u.2.1) (B := fun u t => ab_bu X D u.1 t ∧ ex_bu X D A u.2 t) (A1 := ab_Ar X) run hR.2.2.2.2.2.2.1 (fun _ _ h => h) (fun _ h => h) (fun r0 u t H1 locs1 ht hvm hp hB _ _ hS => ?_)
      obtain ⟨⟨hp1, v, v1, v2⟩, hp2⟩ := hp
      have hk9 := hk _ (l2 u.1.1 hp1.1 v hp1.2.1 v1) u.1.2.1 u.1.2.2 H1 locs1 r0 u.2 (hR.re.back hp1 hB.1 ht hvm hS) (hl.ext hp1.2.2.1.1) (by
        simp only [List.map_cons, v2]
        rw [ab_evs.ext hp1.2.2.1.1 q4, hrest]) rfl hp1.2.2.1.1 hp2 (hB.2.1.moved hvm.symm) (by rw [← ht]; exact hB.2.2.1)
      rw [hrest]
      exact hk9
end
