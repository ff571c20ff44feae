/-! Throws, and calls whose throw is caught. -/
def ab_nms : List String := ["java/lang/RuntimeException", "java/lang/Exception"]
def ab_thr (cc : ByteArray) (pc : Nat) : Prop := ∃ (ik is j : Nat) (tx : String), ab_str[j]? = some ("SundialTreaty", is, tx) ∧ Cond.classLink "SundialTreaty" ik ab_Nm ∈ ab_TG ∧ decode cc pc = .ok (.new ik, 3) ∧ decode cc (pc + 3) = .ok (.dup, 1) ∧
  ((decode cc (pc + 4) = .ok (.ldc is, 2) ∧ decode cc (pc + 6) = .ok (.invokespecial 135, 3) ∧ decode cc (pc + 9) = .ok (.athrow, 1)) ∨ (decode cc (pc + 4) = .ok (.ldc_w is, 3) ∧ decode cc (pc + 7) = .ok (.invokespecial 135, 3) ∧ decode cc (pc + 10) = .ok (.athrow, 1)))
def ab_thw : List Cond := vx_atS "SundialTreaty" 135 ab_Nm ab_nms
theorem ab_thw_good0 : ∀ w ∈ ab_thw.filter goodWord, w ∈ lw_tbl := by decide +kernel
theorem ab_thw_good : ∀ w ∈ ab_thw.filter goodWord, w ∈ ab_TG := fun w h => List.mem_filter.mpr ⟨ab_thw_good0 w h, (List.mem_filter.mp h).2⟩
theorem ab_thw_nest0 : ∀ w ∈ ab_thw.filter (fun w => !goodWord w), w ∈ lw_tbl ∧ ab_nest w = true := by decide +kernel
theorem ab_thw_nest : ∀ w ∈ ab_thw.filter (fun w => !goodWord w), w ∈ lw_tbl.filter ab_nest := fun w h => List.mem_filter.mpr (ab_thw_nest0 w h)
theorem ab_nest_tab {w : Cond} (h : ab_nest w = true) : w.onTables = true := by
  unfold ab_nest at h
  split at h
  · rfl
  · rfl
  · rfl
  · rfl
  · cases h
theorem ab_thw_ot : ∀ w ∈ ab_thw, vx_ot w = true := by decide +kernel
theorem ab_ini : Cond.initialized ab_Nm ∈ ab_TG := List.mem_filter.mpr ⟨by decide +kernel, by decide +kernel⟩
section
variable {p : Program} {l : Launch} {e : Env} {R : Room} {s : State} {m : MethodId} {args : Array Value} {below : List Frame} {meth : Method} {c : Code} {Q : State → Prop} {cc : ByteArray} {own : String} {nL : Nat} {X : ab_X} {D : va_G} {z0 : ab_Z} {cal : ab_K} {pc : Nat}
theorem ab_thw_at (C : ab_cx p R s m args c cc own nL X D) : ∀ w ∈ ab_thw, w.before args s = true := by
  refine vx_hat (B := lw_tbl.filter ab_nest) (fun w h => C.2.2.2.2.1 w (ab_thw_good w h)) ab_thw_nest (fun w h => ?_)
  obtain ⟨h1, h2⟩ := List.mem_filter.mp h
  exact va_Nw.use (ab_nest_tab h2) ((ab_cxE C).2.2.1 w h1 h2)
/-- a stop that throws -/
theorem ab_stopX (C : ab_cx p R s m args c cc own nL X D) (hst : l.stackTraces = false) (hown : own = "SundialTreaty") (hout : ∀ x ∈ c.exceptionTable.toList, False) (hlocks : meth.locks = false) {Qc : Array Value → State → Outcome → State → Prop} {mc ms : Nat} (hmc : mc ≤ R.cells) (hms : ms ≤ R.slots) {outs : List ab_O} {S : ab_S} (hth : ab_thr cc S.2.1)
    (h2 : S.2.2.2 = []) (h3 : S.1.2.2.2.1 + 1 ≤ mc) (h4 : S.1.2.2.2.2 + 6 ≤ ms) (h5 : (3, none, (S.1.1, S.1.2.1, S.1.2.2.1, 0, 0)) ∈ outs) :
    ab_ok p l e R s m args below meth c (vx_MQ below Qc (ab_Xo X D z0 outs) args s mc ms (ab_Ar X)) nL X D z0 S := by
  intro z ws H locs ls cst hR hl hs
  rw [h2] at hs
  cases cst with
  | cons _ _ => simp at hs
  | nil =>
    subst hown
    obtain ⟨ik, is, j, tx, t1, t2, t3, t4, t5⟩ := hth
    have hE := ab_cxE C
    have hx : ∀ t : State, s.vm.Alike t.vm → H.size ≤ t.heap.size → (∀ q : Nat, q < H.size → t.heap[q]? = H[q]?) → ab_Xo X D z0 outs ab_Nm s t := by
      intro t ha hz hq
      refine ⟨((3, none, (S.1.1, S.1.2.1, S.1.2.2.1, 0, 0)), z, ws), ⟨h5, rfl, hR.2.2.2.2.2.2.2.2, hR.1, hR.2.1, hR.2.2.1, hR.2.2.2.2.2.1, hR.2.2.2.2.2.2.2.1⟩, ⟨rfl, hR.2.2.2.1.moved ha, hR.2.2.2.2.1.kept (fun k q hk => hq _ ((hR.2.2.2.2.1 k q hk).lt))⟩, Nat.le_trans hR.2.2.2.2.2.2.1.1 hz, fun q h1 h2 => ?_⟩
      rw [hq q (Nat.lt_of_lt_of_le h1 hR.2.2.2.2.2.2.1.1)]
      exact hR.2.2.2.2.2.2.1.2.1 q h1 h2
    have hgood : ∀ w ∈ Cond.classLink "SundialTreaty" ik ab_Nm :: Cond.initialized ab_Nm :: vx_atS "SundialTreaty" 135 ab_Nm ab_nms, vx_ot w = true := by
      intro w hw
      rcases List.mem_cons.mp hw with rfl | hw
      · rfl
      · rcases List.mem_cons.mp hw with rfl | hw
        · rfl
        · exact ab_thw_ot w hw
    have hfr := C.2.2.2.2.2.2.1
    have hlo := C.2.2.2.2.2.2.2
    rcases t5 with ⟨t5, t6, t7⟩ | ⟨t5, t6, t7⟩
    · exact vx_throwS (names := ab_nms) (A := ab_Ar X) C.1 C.2.1 hst C.2.2.2.1 (by decide +kernel) (by decide +kernel) (C.2.2.2.2.1 _ t2) (C.2.2.2.2.1 _ ab_ini) (hE.2.2.2.2.2.1 j _ t1) (ab_thw_at C) hgood hE.2.2.2.2.2.2.2.2.2.2.2.1 hE.2.2.2.2.2.2.2.2.2.2.2.2.1 hR.2.2.2.2.2.2.1 (hl.1.trans C.2.2.1.symm) t3 t4 t5 t6 t7 (fun x hx => (hout x hx).elim) (by show 2 + 3 < _; omega) (by show 0 + (13 * (2 + 1) + 43) ≤ _; omega) (Nat.le_trans h3 hmc) (Nat.le_trans h4 hms) hlocks hx hR.2.2.2.2.2.2.1.2.2 h3 h4
    · exact vx_throwSW (names := ab_nms) (A := ab_Ar X) C.1 C.2.1 hst C.2.2.2.1 (by decide +kernel) (by decide +kernel) (C.2.2.2.2.1 _ t2) (C.2.2.2.2.1 _ ab_ini) (hE.2.2.2.2.2.1 j _ t1) (ab_thw_at C) hgood hE.2.2.2.2.2.2.2.2.2.2.2.1 hE.2.2.2.2.2.2.2.2.2.2.2.2.1 hR.2.2.2.2.2.2.1 (hl.1.trans C.2.2.1.symm) t3 t4 t5 t6 t7 (fun x hx => (hout x hx).elim) (by show 2 + 3 < _; omega) (by show 0 + (13 * (2 + 1) + 43) ≤ _; omega) (Nat.le_trans h3 hmc) (Nat.le_trans h4 hms) hlocks hx hR.2.2.2.2.2.2.1.2.2 h3 h4
end
theorem ab_meth1 {l : Launch} (hst : l.stackTraces = false) {X : ab_X} {D : va_G} {d : Nat} {ME : List ab_ME} {y : MethodName} {cc : ByteArray} {maxL mc ms : Nat} {ret : Option FieldType} {hh : List (Nat × Nat × Nat × Nat)} {tab : ab_tab} (hyo : y.cls = "SundialTreaty") (hy : plainName y.cls = true) (hT : ab_ts l X D d ME y cc "SundialTreaty" maxL mc ms tab (fun _ _ _ _ _ _ _ _ _ _ pc => ab_thr cc pc))
    {cal : ab_K} (hcal : ab_cal l X D d ME cal) {fuel : Nat} {env : ab_E} {nl : Nat} {aw : List ab_C} {as : List ab_V} {os : List (Nat × ab_S)} {outs : List ab_O} (hcs : ab_csum as ≤ maxL) (hrun : ab_run tab cal fuel [((env, nl, aw, 0, 0), 0, ab_ent 0 as, [])] [] = some os) (hfin : ab_fin ret mc ms os (fun L => some L) = some outs) : ab_ctr l X D (d + 1) (y, cc, maxL, ret, mc, ms, 1, hh, tab) env nl aw as outs := by
  intro z ws vs hin hs
  show vx_Met l y (Cond.code y cc maxL ret :: ab_TG) (ab_rm (d + 1) mc ms) (ab_Pr X D aw z ws vs) (ab_Po X D z outs ret) (ab_Xo X D z outs) mc ms (ab_Ar X)
  refine vx_ofW (cc := cc) (maxL := maxL) (ret := ret) hy rfl ?_
  intro p e s m args below meth c s₁ B hml hout hv
  obtain ⟨rfl, hE, hw, hP⟩ := hv
  have C : ab_cx p (headSpec (Cond.code y cc maxL ret :: ab_TG) (ab_rm (d + 1) mc ms)).room s m vs.toArray c cc "SundialTreaty" maxL X D := ⟨B.exec, B.bytes, hml, hyo ▸ findClass_of_methodNamed B.named, fun w hw => atoms_spec (ws := Cond.code y cc maxL ret :: ab_TG) B.pre w (List.mem_cons_of_mem _ hw), hE, by show 16 ≤ 16 * (d + 1); omega, by show 200 ≤ 200 * (d + 1); omega⟩
  have hTv := hT cal hcal p e (headSpec (Cond.code y cc maxL ret :: ab_TG) (ab_rm (d + 1) mc ms)).room s m vs.toArray below meth c (vx_MQ below (ab_Po X D z outs ret) (ab_Xo X D z outs) vs.toArray s mc ms (ab_Ar X)) z C (name_of_methodNamed B.named B.method).1 (Nat.le_refl _) (Nat.le_refl _) (Nat.le_refl _) (Nat.le_refl _)
  refine ab_first hE hin hs hw hP hcs ?_
  refine ab_run_ok hTv hrun (fun k pc S hS hpc hf => ?_) _ List.mem_cons_self
  subst hpc
  obtain ⟨f, b, hb1, hb2⟩ := hf
  have htv := hTv b hb1 _ hb2
  obtain ⟨L, h1, h2⟩ := ab_fin_ok hfin
  cases h1
  rcases h2 k S hS with ⟨rfl, g⟩ | ⟨rfl, g⟩ | ⟨rfl, g1, g2, g3, g4⟩
  · intro z1 ws1 H1 locs1 ls1 cst1 hR1 hl1 hs1
    exact vx_ret (ab_stop (cal := cal) (th := fun _ => False) (k := 1) (f := f) C B.returns B.notSynchronized htv (Or.inl ⟨rfl, g⟩) z1 ws1 H1 locs1 ls1 cst1 hR1 hl1 hs1)
  · intro z1 ws1 H1 locs1 ls1 cst1 hR1 hl1 hs1
    exact vx_ret (ab_stop (cal := cal) (th := fun _ => False) (k := 2) (f := f) C B.returns B.notSynchronized htv (Or.inr ⟨rfl, g⟩) z1 ws1 H1 locs1 ls1 cst1 hR1 hl1 hs1)
  · exact ab_stopX C hst rfl hout B.notSynchronized (Nat.le_refl _) (Nat.le_refl _) htv g1 g2 g3 g4
