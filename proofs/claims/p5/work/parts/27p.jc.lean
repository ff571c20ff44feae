/-! A call by two contracts at once: the abstract one and an exact one. -/
theorem jn_meti {S1 S2 : Type} {l : Launch} {y : MethodName} {ws : List Cond} {rm : Room} {P1 P2 : Array Value → State → Prop} {po1 : Int32 → S1 → Prop} {po2 : Int32 → S2 → Prop} {B1 : S1 → State → Prop} {B2 : S2 → State → Prop} {A : Nat → Prop} {mc ms mc2 ms2 : Nat} {free free2 : Addr → Prop} (h1 : Met l y ws rm P1 (va_Qi po1 B1 A) mc ms free) (h2 : Met l y ws rm P2 (va_Qi po2 B2 A) mc2 ms2 free2) : Met l y ws rm (fun a s => P1 a s ∧ P2 a s) (va_Qi (fun r (u : S1 × S2) => po1 r u.1 ∧ po2 r u.2) (fun u t => B1 u.1 t ∧ B2 u.2 t) A) mc ms free := by
  intro p e ha hc hk s m args below hf happ hP hK
  obtain ⟨n, o, w, r, e1, ⟨q1, q2⟩, rest⟩ := jn_met h1 h2 p e ha hc hk s m args below hf happ hP hK
  obtain ⟨⟨r1, u1, o1, p1, b1⟩, F⟩ := q1
  obtain ⟨⟨r2, u2, o2, p2, b2⟩, -⟩ := q2
  have hr : r1 = r2 := by
    rw [o1] at o2
    injection o2 with o3
    injection o3 with o4
    injection o4
  subst hr
  exact ⟨n, o, w, r, e1, ⟨⟨r1, (u1, u2), o1, ⟨p1, p2⟩, ⟨b1, b2⟩⟩, F⟩, rest⟩
theorem ab_R.re {X : ab_X} {D : va_G} {s : State} {z0 : ab_Z0} {env : ab_E} {nl : Nat} {aw : ab_H} {z : ab_Z} {ws : va_W} {H : Heap} {locs : List Loc} (h : ab_R X D s z0 env nl aw z ws H locs) : ab_R X D s (z, ws, aw.1.map ab_flg) env nl aw z ws H locs := by
  obtain ⟨h1, h2, h3, h4, h5, h6, h7, h8, -⟩ := h
  exact ⟨h1, h2, h3, h4, h5, h6, h7, h8, ab_ext.rf, ⟨[], by simp⟩, ab_fr.rf⟩
theorem ab_R.no {X : ab_X} {D : va_G} {s : State} {z0 : ab_Z0} {env : ab_E} {nl : Nat} {aw : ab_H} {z : ab_Z} {ws : va_W} {H : Heap} {locs : List Loc} (h : ab_R X D s z0 env nl aw z ws H locs) : ab_R X D s (z, [], []) env nl aw z ws H locs := by
  obtain ⟨h1, h2, h3, h4, h5, h6, h7, h8, -⟩ := h
  exact ⟨h1, h2, h3, h4, h5, h6, h7, h8, ab_ext.rf, ⟨_, rfl⟩, fun k q0 h => by simp at h⟩
/-- a row's flag is set otherwise -/
noncomputable def ab_sfl (k : Nat) (b : Bool) (cs : List ab_C) : List ab_C := match ab_get cs k with
  | some (.inr (t, n, _, d, ov)) => cs.set k (.inr (t, n, b, d, ov))
  | _ => cs
theorem ab_R.sfl {X : ab_X} {D : va_G} {s : State} {z0 : ab_Z0} {env : ab_E} {nl : Nat} {aw : ab_H} {z : ab_Z} {ws : va_W} {H : Heap} {locs : List Loc} (h : ab_R X D s z0 env nl aw z ws H locs) (k : Nat) (b : Bool) : ab_R X D s (z, ws, (ab_sfl k b aw.1).map ab_flg) env nl (ab_sfl k b aw.1, aw.2) z ws H locs := by
  obtain ⟨h1, h2, h3, h4, h5, h6, h7, h8, -⟩ := h
  refine ⟨h1, h2, h3, ⟨?_, h4.2⟩, h5, h6, h7, h8, ab_ext.rf, ⟨[], by simp⟩, ab_fr.rf⟩
  unfold ab_sfl
  rw [ab_get_eq]
  split
  · rename_i t n b0 d ov hk
    refine ⟨by rw [List.length_set]; exact h4.1.1, fun j c hj => ?_⟩
    by_cases hjk : k = j
    · subst hjk
      rw [List.getElem?_set_self (List.getElem?_eq_some_iff.mp hk).1] at hj
      cases hj
      obtain ⟨q, q1, q2⟩ := h4.1.2 k _ hk
      exact ⟨q, q1, q2⟩
    · rw [List.getElem?_set_ne hjk] at hj
      exact h4.1.2 j c hj
  · exact h4.1
section
variable {p : Program} {l : Launch} {e : Env} {R : Room} {s : State} {m : MethodId} {args : Array Value} {below : List Frame} {meth : Method} {c : Code} {Q : State → Prop} {cc : ByteArray} {own : String} {nL : Nat} {X : ab_X} {D : va_G} {z0 : ab_Z0} {cal : ab_K} {pc : Nat}
variable {d : Nat} {ME : List ab_ME} {y : MethodName} {cc' : ByteArray} {maxL : Nat} {ty : FieldType} {mcR msR mid na i : Nat} {hh : List (Nat × Nat × Nat × Nat)} {tab : ab_tab}
set_option maxHeartbeats 1000000 in
theorem jc_call (C : ab_cx p R s m args c cc own nL X D) (K : ab_cal l X D d ME cal) (hmi : ME[mid]? = some (y, cc', maxL, some ty, 0, 0, 0, hh, tab)) (hmR : mcR ≤ R.cells) (hsR : msR ≤ R.slots) (hd1 : 16 * (d + 1) ≤ R.frames) (hd2 : 200 * (d + 1) ≤ R.locals) (hmx : maxL ≤ 150) {np : Nat} (hyd : y.cls ≠ "java/lang/invoke/MethodHandle" ∧ y.cls ≠ "java/lang/invoke/VarHandle" ∧ (parseMethodDescriptor y.desc).map (fun d => d.parameters.length) = some np) (hcode : Cond.code y cc' maxL (some ty) ∈ ab_TG) {ci N : Nat} {cn : String} {T : u_T} (hc : vwCl[ci]? = some (cn, T, N)) (hcn : y.cls = cn) (hnp : np + 1 = na) (hl1 : Cond.methodLink own i y ∈ ab_TG) (hl2 : Cond.instanceMethod y ∈ ab_TG) (hl3 : Cond.selects cn y y ∈ ab_TG) (hl4 : Cond.initialized cn ∈ ab_TG) (dd : decode cc pc = .ok (.invokevirtual i, 3))
    {env : ab_E} {nl : Nat} {aw : ab_H} {cl sl : Nat} {lv : List (Nat × ab_V)} {st : List ab_V} {r : List ab_S} (hr : op_call (ci + 2) mid na 0 0 mcR msR (pc + 3) cal env nl aw cl sl lv st = some r)
    {z : ab_Z} {ws : va_W} {H : Heap} {locs : List Loc} {ls : Array Slot} {cst : List Value} (hR : ab_R X D s z0 env nl aw z ws H locs) (hl : ab_lR X z nL ls lv) (hs : st.map (ab_ev X z) = cst.map some)
    {A : ex_A} {we : va_W} {w : List ex_E} {vs rest : List Value} {Po : Int32 → List ex_E → Prop} (K2 : ex_ctr l X D A d y cc' maxL (some ty) w vs Po) (hwe : ex_wR X A s w we) (hPe : va_P D vwCl we H) (hDe : va_D (ab_Ar X) we) (hcst : cst = (vs.map (ex_cv X A)).reverse ++ rest) (hvl : vs.length = na)
    (hk : ∀ S ∈ r, ∀ (z' : ab_Z) (ws' : va_W) (H1 : Heap) (locs1 : List Loc) (r0 : Int32) (u : ex_U), ab_R X D s (z, ws, aw.1.map ab_flg) S.1.1 S.1.2.1 S.1.2.2.1 z' ws' H1 locs1 → ab_lR X z' nL ls S.2.2.1 → S.2.2.2.map (ab_ev X z') = (Value.int r0 :: rest).map some → S.2.1 = pc + 3 → ab_ext z z' → Po r0 u.1 → ex_wR X A s u.1 u.2 → va_P D vwCl u.2 H1 → W p l e R s m args below meth c H1 locs1 S.1.2.2.2.1 S.1.2.2.2.2 Q (F0 m (pc + 3) ls (.int r0 :: rest))) :
    W p l e R s m args below meth c H locs cl sl Q (F0 m pc ls cst) := by
  unfold op_call at hr
  obtain ⟨as, restA, cas, crest, q1, q2, q3, q4, q5⟩ := ab_splK_ok (cacc := []) hr hs rfl
  cases hb : (ab_chk (ci + 2) as aw && Nat.ble (ab_csum restA) 8 && Nat.ble (cl + 0) mcR && Nat.ble (sl + 0) msR)
  · rw [hb] at q1; cases q1
  · rw [hb, cond_true] at q1
    rw [Bool.and_eq_true, Bool.and_eq_true, Bool.and_eq_true] at hb
    obtain ⟨⟨⟨b1, b2⟩, b3⟩, b4⟩ := hb
    split at q1
    · cases q1
    · rename_i outs ho
      rw [ab_fn_eq, ab_fn_eq] at q1
      obtain ⟨L, l1, l2, l3⟩ := ab_reK_ok q1
      cases l1
      have hcs := ab_csum_ok (ab_cxE C).2.2.2.2.1 q4
      have hcs2 : (crest.map fun v => v.category).sum ≤ 8 := by rw [hcs]; exact Nat.le_of_ble_eq_true b2
      have q2' : cst = cas.reverse ++ crest := q2
      have hlen1 : cas.length = na := by rw [← ab_map_len q3, q5]; rfl
      have hinj := List.append_inj (hcst.symm.trans q2') (by rw [List.length_reverse, List.length_reverse, List.length_map, hvl, hlen1])
      have hcas : cas = vs.map (ex_cv X A) := (List.reverse_inj.mp hinj.1).symm
      have hrest : crest = rest := hinj.2.symm
      obtain ⟨b, cr, hbc, hcell⟩ := ab_recv (ab_cxE C) hR hc b1 q3
      have hM1 : Met l y (Cond.code y cc' maxL (some ty) :: ab_TG) (ab_rm d 0 0) (ab_Pr X D aw z ws cas) (va_Qi (ab_pi X (z, ws, aw.1.map ab_flg) outs) (ab_bu X D) (ab_Ar X)) 0 0 (ab_Ar X) := K mid _ hmi env nl aw as outs ho z ws cas hR.inn q3
      have hM2 : Met l y (Cond.code y cc' maxL (some ty) :: ab_TG) (ab_rm d 0 0) (ex_Pr X D A w we vs) (va_Qi (fun r (u : ex_U) => Po r u.1) (ex_bu X D A) (ab_Ar X)) 0 0 (ab_Ar X) := K2 we
      have hM := jn_meti hM1 hM2
      have hcrl : cr.length = np := by
        have h9 := hlen1
        rw [hbc, List.length_cons] at h9
        omega
      have hin : ∀ U : State, U.heap = H → s.WarmedH U.vm → (ab_Pr X D aw z ws cas cas.toArray U ∧ ex_Pr X D A w we vs cas.toArray U) := by
        intro U hU hW
        refine ⟨ab_Pr_in (ab_cxE C) hR U hU hW, ?_⟩
        rw [hcas]
        exact ex_Pr_in (ab_cxE C) (show ex_R X D s A w we H locs from ⟨hwe, hPe, hDe, hR.2.2.2.2.2.2.1⟩) U hU hW
      have run := va_runV (e := e) (below := below) (As := cr) (rest := crest) (g := F0 m pc ls cst) (cells := cl) (slots := sl) (locs := locs) (H := H) (meth := meth) (p := p) ⟨C.1, C.2.1, C.2.2.1, C.2.2.2.1, C.2.2.2.2.1⟩ hM (cwV (C := cn) np C.2.2.2.2.1 (ab_good (fun w hw => by
        simp only [wsV, List.mem_append, List.mem_cons, List.not_mem_nil, or_false] at hw
        rcases hw with (rfl | rfl | rfl | rfl) | (rfl | hw)
        · exact hl1
        · exact hl2
        · exact hl3
        · exact hl4
        · exact hcode
        · exact hw)) rfl rfl rfl ⟨hcn, hyd⟩ ⟨by show 16 * d + 1 ≤ _; omega, by show 8 + (maxL + 11) + 200 * d ≤ _; omega⟩) (b := b) ⟨fun a U g mk h => ⟨ab_Pr_blind a U g mk h.1, ex_Pr_blind a U g mk h.2⟩, hcell, fun U hU hW => by rw [← hbc]; exact hin U hU hW⟩ rfl hcrl hl.1 (by show cst = _; rw [q2', hbc]; simp) (lv_room hcs2) dd ⟨Nat.le_trans (Nat.le_of_ble_eq_true b3) hmR, Nat.le_trans (Nat.le_of_ble_eq_true b4) hsR⟩
      refine va_calli (A0 := ab_Ar X) (post := fun r (u : ab_U × ex_U) => ab_pi X (z, ws, aw.1.map ab_flg) outs r u.1 ∧ Po r u.2.1) (B := fun u t => ab_bu X D u.1 t ∧ ex_bu X D A u.2 t) (A1 := ab_Ar X) run hR.2.2.2.2.2.2.1 (fun _ _ h => h) (fun _ h => h) (fun r0 u t H1 locs1 ht hvm hp hB _ _ hS => ?_)
      obtain ⟨⟨hp1, v, v1, v2⟩, hp2⟩ := hp
      have hk9 := hk _ (l2 u.1.1 hp1.1 v hp1.2.1 v1) u.1.2.1 u.1.2.2 H1 locs1 r0 u.2 (hR.re.back hp1 hB.1 ht hvm hS) (hl.ext hp1.2.2.1.1) (by
        simp only [List.map_cons, v2]
        rw [ab_evs.ext hp1.2.2.1.1 q4, hrest]) rfl hp1.2.2.1.1 hp2 (hB.2.1.moved hvm.symm) (by rw [← ht]; exact hB.2.2.1)
      rw [hrest]
      exact hk9
end
/-- two pictures of one row -/
theorem jc_row {D : va_G} {ws ws' : va_W} {H : Heap} {k j a : Nat} {n n' : Nat} {cA cA' : ClassId} {f f' : Nat → Int32} (h1 : va_P D vwCl ws H) (h2 : va_P D vwCl ws' H) (e1 : ws[k]? = some (a, .inl (cA, n, .inl f))) (e2 : ws'[j]? = some (a, .inl (cA', n', .inl f'))) : ∀ i, i < n → i < n' → f i = f' i := by
  intro i hi hi'
  have g1 : H[a]? = some (vp_cell cA (n, .inl f)) := h1 k _ e1
  have g2 : H[a]? = some (vp_cell cA' (n', .inl f')) := h2 j _ e2
  rw [g1] at g2
  have g3 := Option.some.inj g2
  rw [vp_cell_i, vp_cell_i] at g3
  have r1 := arrV_read cA (fun j => Value.int (f j)) hi
  have r2 := arrV_read cA' (fun j => Value.int (f' j)) hi'
  rw [g3, r2] at r1
  injection r1 with r3
  injection r3 with r4
  exact r4.symm
