/-! Contracts of contexts. -/
section
variable {p : Program} {l : Launch} {e : Env} {R : Room} {s : State} {m : MethodId} {args : Array Value} {below : List Frame} {meth : Method} {c : Code} {cc : ByteArray} {own : String} {nL : Nat} {X : ab_X} {D : va_G}
/-- a throw, by what is left behind -/
theorem ab_stopG (C : ab_cx p R s m args c cc own nL X D) (hst : l.stackTraces = false) (hown : own = "SundialTreaty") (hout : ∀ x ∈ c.exceptionTable.toList, False) (hlocks : meth.locks = false) {Qc : Array Value → State → Outcome → State → Prop} {XC : String → State → State → Prop} {mc ms cl sl pc : Nat} (hmc : mc ≤ R.cells) (hms : ms ≤ R.slots) (hth : ab_thr cc pc) {H : Heap} {locs : List Loc} {ls : Array Slot}
    (h3 : cl + 1 ≤ mc) (h4 : sl + 6 ≤ ms) (hS : va_S (ab_Ar X) s.heap H locs) (hls : ls.size = nL) (hx : ∀ t : State, s.vm.Alike t.vm → H.size ≤ t.heap.size → (∀ q : Nat, q < H.size → t.heap[q]? = H[q]?) → XC ab_Nm s t) :
    W p l e R s m args below meth c H locs cl sl (vx_MQ below Qc XC args s mc ms (ab_Ar X)) (F0 m pc ls []) := by
  subst hown
  obtain ⟨ik, is, j, tx, t1, t2, t3, t4, t5⟩ := hth
  have hE := ab_cxE C
  have hfr := C.2.2.2.2.2.2.1
  have hlo := C.2.2.2.2.2.2.2
  rcases t5 with ⟨t5, t6, t7⟩ | ⟨t5, t6, t7⟩
  · exact ab_throwS (A := ab_Ar X) C.1 C.2.1 hst C.2.2.2.1 (C.2.2.2.2.1 _ t2) (C.2.2.2.2.1 _ ab_ini) (hE.2.2.2.2.2.1 j _ t1) (ab_thw_at C) hE.2.2.2.2.2.2.2.2.2.2.2.1 hE.2.2.2.2.2.2.2.2.2.2.2.2.1 hS (hls.trans C.2.2.1.symm) t3 t4 t5 t6 t7 (fun x hx => (hout x hx).elim) (by show 2 + 3 < _; omega) (by show 0 + (13 * (2 + 1) + 43) ≤ _; omega) (Nat.le_trans h3 hmc) (Nat.le_trans h4 hms) hlocks hx hS.2.2 h3 h4
  · exact ab_throwSW (A := ab_Ar X) C.1 C.2.1 hst C.2.2.2.1 (C.2.2.2.2.1 _ t2) (C.2.2.2.2.1 _ ab_ini) (hE.2.2.2.2.2.1 j _ t1) (ab_thw_at C) hE.2.2.2.2.2.2.2.2.2.2.2.1 hE.2.2.2.2.2.2.2.2.2.2.2.2.1 hS (hls.trans C.2.2.1.symm) t3 t4 t5 t6 t7 (fun x hx => (hout x hx).elim) (by show 2 + 3 < _; omega) (by show 0 + (13 * (2 + 1) + 43) ≤ _; omega) (Nat.le_trans h3 hmc) (Nat.le_trans h4 hms) hlocks hx hS.2.2 h3 h4
end
set_option maxHeartbeats 1000000 in
theorem ab_meth3 {l : Launch} {X : ab_X} {D : va_G} {d : Nat} {ME : List ab_ME} {y : MethodName} {cc : ByteArray} {own : String} {maxL mc ms : Nat} {ret : Option FieldType} {hh : List (Nat × Nat × Nat × Nat)} {tab : ab_tab} (hyo : y.cls = own) (hy : plainName y.cls = true) (hT : ab_ts l X D d ME y cc own maxL mc ms tab (fun _ _ _ _ _ _ _ _ _ _ _ => False))
    {cal : ab_K} (hcal : ab_cal l X D d ME cal) {fuel : Nat} {M : ab_SM} (hC : ab_smC tab cal fuel ret mc ms 0 M = true) {env : ab_E} {nl : Nat} {aw : ab_H} {as : List ab_V} {outs : List ab_O} (hcs : ab_csum as ≤ maxL) (h : ab_smK ret M env nl aw as = some outs) : ab_ctr l X D (d + 1) (y, cc, maxL, ret, mc, ms, 0, hh, tab) env nl aw as outs := by
  intro z ws vs hin hs
  simp only [ab_smC, Bool.and_eq_true] at hC
  obtain ⟨⟨⟨hc1, hc2⟩, hc3⟩, hc4⟩ := hC
  split at hc1
  · rename_i os hos
    unfold ab_smK at h
    cases hb : (ab_subS ((env, nl, (ab_refs aw.1 M.2.2.1.1, aw.2), 0, 0), 0, ab_ent 0 as, []) (ab_smT M) (fun _ => true))
    · rw [hb] at h; cases h
    · rw [hb, cond_true] at h
      split at h
      · rename_i cs hmg
        cases h
        show Met l y (Cond.code y cc maxL ret :: ab_TG) (ab_rm (d + 1) mc ms) (ab_Pr X D aw z ws vs) (ab_Po X D (z, ws, aw.1.map ab_flg) (ab_smO ret M env nl cs aw.2) ret) mc ms (ab_Ar X)
        refine Met.ofW (cc := cc) (maxL := maxL) (ret := ret) hy rfl ?_
        intro p e s m args below meth c s₁ B hml hv
        obtain ⟨rfl, hE, hw, hP⟩ := hv
        have C : ab_cx p (headSpec (Cond.code y cc maxL ret :: ab_TG) (ab_rm (d + 1) mc ms)).room s m vs.toArray c cc own maxL X D := ⟨B.exec, B.bytes, hml, hyo ▸ findClass_of_methodNamed B.named, fun w hw => atoms_spec (ws := Cond.code y cc maxL ret :: ab_TG) B.pre w (List.mem_cons_of_mem _ hw), hE, by show 16 ≤ 16 * (d + 1); omega, by show 200 ≤ 200 * (d + 1); omega⟩
        have hTv := fun z0 => hT cal hcal p e (headSpec (Cond.code y cc maxL ret :: ab_TG) (ab_rm (d + 1) mc ms)).room s m vs.toArray below meth c (MQ below (ab_Po X D (z, ws, aw.1.map ab_flg) (ab_smO ret M env nl cs aw.2) ret) vs.toArray s mc ms (ab_Ar X)) z0 C (name_of_methodNamed B.named B.method).1 (Nat.le_refl _) (Nat.le_refl _) (Nat.le_refl _) (Nat.le_refl _)
        have hrf := ab_refs_ok (cs := aw.1) (gs := M.2.2.1.1)
        have hwr : ab_wR X z s (ab_refs aw.1 M.2.2.1.1, aw.2) ws := ⟨⟨by rw [hrf.1]; exact hw.1.1, fun k c' hk => by
          obtain ⟨c0, h1, h2⟩ := hrf.2 k c' hk
          obtain ⟨q, q1, q2⟩ := hw.1.2 k c0 h1
          exact ⟨q, q1, h2 _ _ _ _ q2⟩⟩, hw.2⟩
        refine ab_first (aw := (ab_refs aw.1 M.2.2.1.1, aw.2)) hE hin hs hwr hP hcs ?_
        intro z1 ws1 H1 locs1 ls1 cst1 hR1 hl1 hs1
        obtain ⟨z', sg, g1, g2, g3, g4, g5, g6, g7, g8, g9⟩ := ab_subS_ok hb hR1 hl1
        have hFL := g1.2.2.2.2.2.2.2.2.2.1
        have hFLl : ((ab_refs aw.1 M.2.2.1.1).map ab_flg).length = aw.1.length := by rw [List.length_map, hrf.1]
        have hend : ∀ (zz : ab_Z) (k : Nat) (S : ab_S), ab_pst ret M.2.2.1 mc ms (k, S) = true → (∃ f, ∃ b ∈ tab, (S.2.1, k, f) ∈ b) → ab_ok p l e (headSpec (Cond.code y cc maxL ret :: ab_TG) (ab_rm (d + 1) mc ms)).room s m vs.toArray below meth c (MQ below (ab_Po X D (z, ws, aw.1.map ab_flg) (ab_smO ret M env nl cs aw.2) ret) vs.toArray s mc ms (ab_Ar X)) maxL X D (zz, ws, (ab_refs aw.1 M.2.2.1.1).map ab_flg) S := by
          intro zz k S hp hf z2 ws2 H2 locs2 ls2 cst2 hR2 hl2 hs2
          obtain ⟨f, b, hb1, hb2⟩ := hf
          have htv := hTv (zz, ws, (ab_refs aw.1 M.2.2.1.1).map ab_flg) b hb1 _ hb2
          obtain ⟨⟨envS, nlS, awS, cl, sl⟩, pcS, lvS, st⟩ := S
          simp only [ab_pst, Bool.and_eq_true] at hp
          obtain ⟨⟨p1, p2⟩, p3⟩ := hp
          have U := fun (zu : ab_Z) (t : State) (h1 : ab_ext z zu) (h2 : zu.2.2 = z.2.2) (hvm : s.vm.Alike t.vm) => ab_ctxU (M := M) hin hw hmg hc3 hFL hFLl hR2 p1 p2 h1 h2 hvm
          dsimp only at hR2 hl2 hs2 htv ⊢
          split at p3
          · split at p3
            · rename_i ty a
              rw [Bool.and_eq_true, Bool.and_eq_true, Bool.and_eq_true] at p3
              obtain ⟨⟨⟨p4, p5⟩, p6⟩, p7⟩ := p3
              obtain ⟨x, r, rfl, e1, e2⟩ := ab_st1 hs2
              cases r with
              | cons _ _ => simp at e2
              | nil =>
                obtain ⟨yy, rfl, e3⟩ := ab_evi e1
                have hi := ab_iv_spec hR2.1 e3
                rw [ab_ivK_eq, Bool.and_eq_true, ab_le_iff, ab_le_iff] at p5
                have hd : decode cc pcS = .ok (.ireturn, 1) := htv
                refine W.widen (Nat.le_of_ble_eq_true p6) (Nat.le_of_ble_eq_true p7) ?_
                refine W.zret C.1 C.2.1 B.returns (ab_fit_ok hR2.1 p4 e1).1 (fun t ht hW => ?_) hR2.2.2.2.2.2.2.1.2.2 hd B.notSynchronized
                obtain ⟨u1, u2, u3⟩ := U (z.1 ++ [yy], z.2) t ab_ext_v rfl hW.alike
                have hev : ab_evI (z.1 ++ [yy]) (some env.length, 0) = some yy := by
                  simp only [ab_evI]
                  rw [List.getElem?_append_right (by rw [hin.1.1]; exact Nat.le_refl _), hin.1.1, Nat.sub_self]
                  simp
                exact ⟨⟨yy, ((1, some (.inl (some env.length, 0)), (env ++ [(M.2.2.1.2.2.1, M.2.2.1.2.2.2)], nl, (cs, ab_smF M aw.2), 0, 0)), (z.1 ++ [yy], z.2), ws2), rfl, ⟨⟨List.mem_cons_self, rfl, u2, hin.1.push (by dsimp only at *; omega) (by dsimp only at *; omega), hin.2.1, u1, hR2.2.2.2.2.2.1, trivial⟩, _, rfl, ab_evc (z := (z.1 ++ [yy], z.2)) hev⟩, u3, by rw [ht]; exact hR2.2.2.2.2.1⟩, hR2.2.2.2.2.2.2.1.F ht⟩
            · cases p3
          · split at p3
            · rw [Bool.and_eq_true] at p3
              obtain ⟨p6, p7⟩ := p3
              cases cst2 with
              | cons _ _ => simp at hs2
              | nil =>
                have hd : decode cc pcS = .ok (.return_, 1) := htv
                refine W.widen (Nat.le_of_ble_eq_true p6) (Nat.le_of_ble_eq_true p7) ?_
                refine W.vret C.1 C.2.1 B.returns (fun t ht hW => ?_) hR2.2.2.2.2.2.2.1.2.2 hd B.notSynchronized
                obtain ⟨u1, u2, u3⟩ := U z t ab_ext.rf rfl hW.alike
                exact ⟨⟨((2, none, (env, nl, (cs, ab_smF M aw.2), 0, 0)), z, ws2), rfl, ⟨List.mem_cons_self, rfl, u2, hin.1, hin.2.1, u1, hR2.2.2.2.2.2.1, trivial⟩, u3, by rw [ht]; exact hR2.2.2.2.2.1⟩, hR2.2.2.2.2.2.2.1.F ht⟩
            · cases p3
          · split at p3
            · exact False.elim htv
            · cases p3
          · cases p3
        have hloop := ab_loop (fuel := fuel) (cuts := M.2.2.2.1) hTv hend (ab_ckA_ok hc2)
        have hnil : cst1 = [] := by
          cases cst1 with
          | nil => rfl
          | cons _ _ => simp at hs1
        subst hnil
        exact ab_run_ok (hTv (z', ws, (ab_refs aw.1 M.2.2.1.1).map ab_flg)) hos (ab_outs_ok (z := z') (n := 0) hend hc1 (fun T hT => hloop 0 T hT) (fun m9 e9 => by cases e9) (fun _ T hT k => hloop k T hT)) (ab_smS M) List.mem_cons_self z' ws1 H1 locs1 ls1 [] g1 g2 rfl
      · cases h
  · cases hc1
set_option maxHeartbeats 1000000 in
theorem ab_meth4 {l : Launch} (hst : l.stackTraces = false) {X : ab_X} {D : va_G} {d : Nat} {ME : List ab_ME} {y : MethodName} {cc : ByteArray} {maxL mc ms : Nat} {ret : Option FieldType} {hh : List (Nat × Nat × Nat × Nat)} {tab : ab_tab} (hyo : y.cls = "SundialTreaty") (hy : plainName y.cls = true) (hT : ab_ts l X D d ME y cc "SundialTreaty" maxL mc ms tab (fun _ _ _ _ _ _ _ _ _ _ pc => ab_thr cc pc))
    {cal : ab_K} (hcal : ab_cal l X D d ME cal) {fuel : Nat} {M : ab_SM} (hC : ab_smC tab cal fuel ret mc ms 1 M = true) {env : ab_E} {nl : Nat} {aw : ab_H} {as : List ab_V} {outs : List ab_O} (hcs : ab_csum as ≤ maxL) (h : ab_smK ret M env nl aw as = some outs) : ab_ctr l X D (d + 1) (y, cc, maxL, ret, mc, ms, 1, hh, tab) env nl aw as outs := by
  intro z ws vs hin hs
  simp only [ab_smC, Bool.and_eq_true] at hC
  obtain ⟨⟨⟨hc1, hc2⟩, hc3⟩, hc4⟩ := hC
  split at hc1
  · rename_i os hos
    unfold ab_smK at h
    cases hb : (ab_subS ((env, nl, (ab_refs aw.1 M.2.2.1.1, aw.2), 0, 0), 0, ab_ent 0 as, []) (ab_smT M) (fun _ => true))
    · rw [hb] at h; cases h
    · rw [hb, cond_true] at h
      split at h
      · rename_i cs hmg
        cases h
        show vx_Met l y (Cond.code y cc maxL ret :: ab_TG) (ab_rm (d + 1) mc ms) (ab_Pr X D aw z ws vs) (ab_Po X D (z, ws, aw.1.map ab_flg) (ab_smO ret M env nl cs aw.2) ret) (ab_Xo X D (z, ws, aw.1.map ab_flg) (ab_smO ret M env nl cs aw.2)) mc ms (ab_Ar X)
        refine vx_ofW (cc := cc) (maxL := maxL) (ret := ret) hy rfl ?_
        intro p e s m args below meth c s₁ B hml hout hv
        obtain ⟨rfl, hE, hw, hP⟩ := hv
        have C : ab_cx p (headSpec (Cond.code y cc maxL ret :: ab_TG) (ab_rm (d + 1) mc ms)).room s m vs.toArray c cc "SundialTreaty" maxL X D := ⟨B.exec, B.bytes, hml, hyo ▸ findClass_of_methodNamed B.named, fun w hw => atoms_spec (ws := Cond.code y cc maxL ret :: ab_TG) B.pre w (List.mem_cons_of_mem _ hw), hE, by show 16 ≤ 16 * (d + 1); omega, by show 200 ≤ 200 * (d + 1); omega⟩
        have hTv := fun z0 => hT cal hcal p e (headSpec (Cond.code y cc maxL ret :: ab_TG) (ab_rm (d + 1) mc ms)).room s m vs.toArray below meth c (vx_MQ below (ab_Po X D (z, ws, aw.1.map ab_flg) (ab_smO ret M env nl cs aw.2) ret) (ab_Xo X D (z, ws, aw.1.map ab_flg) (ab_smO ret M env nl cs aw.2)) vs.toArray s mc ms (ab_Ar X)) z0 C (name_of_methodNamed B.named B.method).1 (Nat.le_refl _) (Nat.le_refl _) (Nat.le_refl _) (Nat.le_refl _)
        have hrf := ab_refs_ok (cs := aw.1) (gs := M.2.2.1.1)
        have hwr : ab_wR X z s (ab_refs aw.1 M.2.2.1.1, aw.2) ws := ⟨⟨by rw [hrf.1]; exact hw.1.1, fun k c' hk => by
          obtain ⟨c0, h1, h2⟩ := hrf.2 k c' hk
          obtain ⟨q, q1, q2⟩ := hw.1.2 k c0 h1
          exact ⟨q, q1, h2 _ _ _ _ q2⟩⟩, hw.2⟩
        refine ab_first (aw := (ab_refs aw.1 M.2.2.1.1, aw.2)) hE hin hs hwr hP hcs ?_
        intro z1 ws1 H1 locs1 ls1 cst1 hR1 hl1 hs1
        obtain ⟨z', sg, g1, g2, g3, g4, g5, g6, g7, g8, g9⟩ := ab_subS_ok hb hR1 hl1
        have hFL := g1.2.2.2.2.2.2.2.2.2.1
        have hFLl : ((ab_refs aw.1 M.2.2.1.1).map ab_flg).length = aw.1.length := by rw [List.length_map, hrf.1]
        have hend : ∀ (zz : ab_Z) (k : Nat) (S : ab_S), ab_pst ret M.2.2.1 mc ms (k, S) = true → (∃ f, ∃ b ∈ tab, (S.2.1, k, f) ∈ b) → ab_ok p l e (headSpec (Cond.code y cc maxL ret :: ab_TG) (ab_rm (d + 1) mc ms)).room s m vs.toArray below meth c (vx_MQ below (ab_Po X D (z, ws, aw.1.map ab_flg) (ab_smO ret M env nl cs aw.2) ret) (ab_Xo X D (z, ws, aw.1.map ab_flg) (ab_smO ret M env nl cs aw.2)) vs.toArray s mc ms (ab_Ar X)) maxL X D (zz, ws, (ab_refs aw.1 M.2.2.1.1).map ab_flg) S := by
          intro zz k S hp hf z2 ws2 H2 locs2 ls2 cst2 hR2 hl2 hs2
          obtain ⟨f, b, hb1, hb2⟩ := hf
          have htv := hTv (zz, ws, (ab_refs aw.1 M.2.2.1.1).map ab_flg) b hb1 _ hb2
          obtain ⟨⟨envS, nlS, awS, cl, sl⟩, pcS, lvS, st⟩ := S
          simp only [ab_pst, Bool.and_eq_true] at hp
          obtain ⟨⟨p1, p2⟩, p3⟩ := hp
          have U := fun (zu : ab_Z) (t : State) (h1 : ab_ext z zu) (h2 : zu.2.2 = z.2.2) (hvm : s.vm.Alike t.vm) => ab_ctxU (M := M) hin hw hmg hc3 hFL hFLl hR2 p1 p2 h1 h2 hvm
          dsimp only at hR2 hl2 hs2 htv ⊢
          split at p3
          · split at p3
            · rename_i ty a
              rw [Bool.and_eq_true, Bool.and_eq_true, Bool.and_eq_true] at p3
              obtain ⟨⟨⟨p4, p5⟩, p6⟩, p7⟩ := p3
              obtain ⟨x, r, rfl, e1, e2⟩ := ab_st1 hs2
              cases r with
              | cons _ _ => simp at e2
              | nil =>
                obtain ⟨yy, rfl, e3⟩ := ab_evi e1
                have hi := ab_iv_spec hR2.1 e3
                rw [ab_ivK_eq, Bool.and_eq_true, ab_le_iff, ab_le_iff] at p5
                have hd : decode cc pcS = .ok (.ireturn, 1) := htv
                refine vx_ret (W.widen (Nat.le_of_ble_eq_true p6) (Nat.le_of_ble_eq_true p7) ?_)
                refine W.zret C.1 C.2.1 B.returns (ab_fit_ok hR2.1 p4 e1).1 (fun t ht hW => ?_) hR2.2.2.2.2.2.2.1.2.2 hd B.notSynchronized
                obtain ⟨u1, u2, u3⟩ := U (z.1 ++ [yy], z.2) t ab_ext_v rfl hW.alike
                have hev : ab_evI (z.1 ++ [yy]) (some env.length, 0) = some yy := by
                  simp only [ab_evI]
                  rw [List.getElem?_append_right (by rw [hin.1.1]; exact Nat.le_refl _), hin.1.1, Nat.sub_self]
                  simp
                exact ⟨⟨yy, ((1, some (.inl (some env.length, 0)), (env ++ [(M.2.2.1.2.2.1, M.2.2.1.2.2.2)], nl, (cs, ab_smF M aw.2), 0, 0)), (z.1 ++ [yy], z.2), ws2), rfl, ⟨⟨List.mem_cons_self, rfl, u2, hin.1.push (by dsimp only at *; omega) (by dsimp only at *; omega), hin.2.1, u1, hR2.2.2.2.2.2.1, trivial⟩, _, rfl, ab_evc (z := (z.1 ++ [yy], z.2)) hev⟩, u3, by rw [ht]; exact hR2.2.2.2.2.1⟩, hR2.2.2.2.2.2.2.1.F ht⟩
            · cases p3
          · split at p3
            · rw [Bool.and_eq_true] at p3
              obtain ⟨p6, p7⟩ := p3
              cases cst2 with
              | cons _ _ => simp at hs2
              | nil =>
                have hd : decode cc pcS = .ok (.return_, 1) := htv
                refine vx_ret (W.widen (Nat.le_of_ble_eq_true p6) (Nat.le_of_ble_eq_true p7) ?_)
                refine W.vret C.1 C.2.1 B.returns (fun t ht hW => ?_) hR2.2.2.2.2.2.2.1.2.2 hd B.notSynchronized
                obtain ⟨u1, u2, u3⟩ := U z t ab_ext.rf rfl hW.alike
                exact ⟨⟨((2, none, (env, nl, (cs, ab_smF M aw.2), 0, 0)), z, ws2), rfl, ⟨List.mem_cons_self, rfl, u2, hin.1, hin.2.1, u1, hR2.2.2.2.2.2.1, trivial⟩, u3, by rw [ht]; exact hR2.2.2.2.2.1⟩, hR2.2.2.2.2.2.2.1.F ht⟩
            · cases p3
          · split at p3
            · rw [Bool.and_eq_true] at p3
              cases cst2 with
              | cons _ _ => simp at hs2
              | nil =>
                have hthr : M.2.2.2.2 = true := by simpa using hc4
                refine ab_stopG (own := "SundialTreaty") C hst rfl hout B.notSynchronized (Nat.le_refl _) (Nat.le_refl _) htv (Nat.le_of_ble_eq_true p3.1) (Nat.le_of_ble_eq_true p3.2) hR2.2.2.2.2.2.2.1 hl2.1 (fun t ha hz hq => ?_)
                obtain ⟨u1, u2, u3⟩ := U z t ab_ext.rf rfl ha
                refine ⟨((3, none, (env, nl, (cs, ab_smF M aw.2), 0, 0)), z, ws2), ⟨List.mem_cons_of_mem _ (by rw [hthr]; exact List.mem_cons_self), rfl, u2, hin.1, hin.2.1, u1, hR2.2.2.2.2.2.1, trivial⟩, ⟨rfl, u3, hR2.2.2.2.2.1.kept (fun k q hk => hq _ (vx_lt hR2.2.2.2.2.1 hk))⟩, Nat.le_trans hR2.2.2.2.2.2.2.1.1 hz, fun q h1 h2 => ?_⟩
                rw [hq q (Nat.lt_of_lt_of_le h1 hR2.2.2.2.2.2.2.1.1)]
                exact hR2.2.2.2.2.2.2.1.2.1 q h1 h2
            · cases p3
          · cases p3
        have hloop := ab_loop (fuel := fuel) (cuts := M.2.2.2.1) hTv hend (ab_ckA_ok hc2)
        have hnil : cst1 = [] := by
          cases cst1 with
          | nil => rfl
          | cons _ _ => simp at hs1
        subst hnil
        exact ab_run_ok (hTv (z', ws, (ab_refs aw.1 M.2.2.1.1).map ab_flg)) hos (ab_outs_ok (z := z') (n := 0) hend hc1 (fun T hT => hloop 0 T hT) (fun m9 e9 => by cases e9) (fun _ T hT k => hloop k T hT)) (ab_smS M) List.mem_cons_self z' ws1 H1 locs1 ls1 [] g1 g2 rfl
      · cases h
  · cases hc1
