/-! Throws: the rows, a stop that throws, a contract. -/
noncomputable def ab_thr (cc : ByteArray) (pc : Nat) : Prop := ∃ (ik is j : Nat) (tx : String), ab_str[j]? = some ("SundialTreaty", is, tx) ∧ Cond.classLink "SundialTreaty" ik ab_Nm ∈ ab_TG ∧ decode cc pc = .ok (.new ik, 3) ∧ decode cc (pc + 3) = .ok (.dup, 1) ∧
  ((decode cc (pc + 4) = .ok (.ldc is, 2) ∧ decode cc (pc + 6) = .ok (.invokespecial 135, 3) ∧ decode cc (pc + 9) = .ok (.athrow, 1)) ∨ (decode cc (pc + 4) = .ok (.ldc_w is, 3) ∧ decode cc (pc + 7) = .ok (.invokespecial 135, 3) ∧ decode cc (pc + 10) = .ok (.athrow, 1)))
noncomputable def ab_thw : List Cond := ab_own0.filter vx_no
theorem ab_thw_good0 : ∀ w ∈ ab_thw.filter goodWord, w ∈ lw_tbl := by decide +kernel
theorem ab_thw_good : ∀ w ∈ ab_thw.filter goodWord, w ∈ ab_TG := fun w h => List.mem_filter.mpr ⟨ab_thw_good0 w h, (List.mem_filter.mp h).2⟩
theorem ab_thw_nest0 : ∀ w ∈ ab_thw.filter (fun w => !goodWord w), w ∈ lw_tbl ∧ ab_nest w = true := by decide +kernel
theorem ab_thw_nest : ∀ w ∈ ab_thw.filter (fun w => !goodWord w), w ∈ lw_tbl.filter ab_nest := fun w h => List.mem_filter.mpr (ab_thw_nest0 w h)
theorem ab_nest_tab {w : Cond} (h : ab_nest w = true) : w.onTables = true := by
  unfold ab_nest at h
  split at h
  · rfl
  · rfl
  · rfl
  · rfl
  · cases h
theorem ab_thw_ot : ∀ w ∈ ab_thw, vx_ot w = true := by decide +kernel
theorem ab_ini : Cond.initialized ab_Nm ∈ ab_TG := List.mem_filter.mpr ⟨by decide +kernel, by decide +kernel⟩
section
variable {p : Program} {l : Launch} {e : Env} {R : Room} {s : State} {m : MethodId} {args : Array Value} {below : List Frame} {meth : Method} {c : Code} {H : Heap} {locs : List Loc} {cells slots : Nat} {free : Addr → Prop} {ls : Array Slot} {rest : List Value} {Qc : Array Value → State → Outcome → State → Prop} {XC : String → State → State → Prop}
set_option maxHeartbeats 4000000 in
theorem ab_throwS {cc : ByteArray} {pc : Nat} (hexec : p.tables.exec = Jvm.exec) (hb : c.code = cc) (hl : l.stackTraces = false) {text : String} {ik is mc ms sa : Nat} {A : Nat → Prop}
    (hown : s.vm.findClass "SundialTreaty" = some m.cls)
    (hk : (Cond.classLink "SundialTreaty" ik ab_Nm).before args s = true) (hini : (Cond.initialized ab_Nm).before args s = true) (hstr : vk_R "SundialTreaty" is text sa s) (hat : ∀ w ∈ ab_thw, w.before args s = true)
    (hU : vx_Zq Bundle.tN "UNASSIGNED_STACK" Bundle.steD A s s.heap) (hN : vx_Zq Bundle.tN "SUPPRESSED_SENTINEL" Bundle.listD A s s.heap) (hS : va_S A s.heap H locs) (hsize : ls.size = c.maxLocals)
    (d0 : decode cc pc = .ok (.new ik, 3)) (d3 : decode cc (pc + 3) = .ok (.dup, 1)) (d4 : decode cc (pc + 4) = .ok (.ldc is, 2)) (d6 : decode cc (pc + 6) = .ok (.invokespecial 135, 3)) (d9 : decode cc (pc + 9) = .ok (.athrow, 1))
    (hout : ∀ x ∈ c.exceptionTable.toList, covers x (pc + 9) = false)
    (hRframes : 2 + 3 < R.frames) (hRlocals : (rest.map fun v => v.category).sum + (13 * (2 + 1) + 43) ≤ R.locals) (hRcells : cells + 1 ≤ R.cells) (hRslots : slots + 6 ≤ R.slots) (hlocks : meth.locks = false)
    (hx : ∀ t : State, s.vm.Alike t.vm → H.size ≤ t.heap.size → (∀ q : Nat, q < H.size → t.heap[q]? = H[q]?) → XC ab_Nm s t)
    (hf : ∀ z ∈ locs, free z.base) (hc : cells + 1 ≤ mc) (hs : slots + 6 ≤ ms) :
    W p l e R s m args below meth c H locs cells slots (vx_MQ below Qc XC args s mc ms free) (F0 m pc ls rest) := by
  intro T hT X
  have htr : e.platform.stackTraces = false := (show e.platform.stackTraces = l.stackTraces by rw [X.admits.platform]).trans hl
  have Y := vx_rebase X (R' := { frames := R.frames, locals := R.locals, cells := 1, slots := 6 }) (Nat.le_refl _) (Nat.le_refl _) hRcells hRslots
  obtain ⟨s', hA⟩ : ∃ z, z = (T.setVm s.vm).setFrames (.invoking m args :: below) := ⟨_, rfl⟩
  rw [← hA] at Y
  have hvm : s'.vm = s.vm := by rw [hA]; rfl
  have hhp : s'.heap = H := by rw [hA]; exact hT
  have hW0 : s.WarmedH s'.vm := by rw [hvm]; exact State.WarmedH.refl s
  have hat' : ∀ w ∈ ab_thw, w.before args s' = true := fun w hw => vx_ot_at hW0 hvm.symm (ab_thw_ot w hw) (hat w hw)
  have hk' : (Cond.classLink "SundialTreaty" ik ab_Nm).before args s' = true := vx_ot_at hW0 hvm.symm rfl hk
  have hini' : (Cond.initialized ab_Nm).before args s' = true := vx_ot_at hW0 hvm.symm rfl hini
  have hU' : vx_Zq Bundle.tN "UNASSIGNED_STACK" Bundle.steD A s' s'.heap := by rw [hhp]; exact vx_Zq.moved hW0.alike (hU.kept hS.2.1)
  have hN' : vx_Zq Bundle.tN "SUPPRESSED_SENTINEL" Bundle.listD A s' s'.heap := by rw [hhp]; exact vx_Zq.moved hW0.alike (hN.kept hS.2.1)
  have h : ∀ w ∈ ab_own0, w.before args s' = true := vx_own hat' (vx_isRefq hU'.1) (vx_isRefq hN'.1) hU'.2.word hN'.2.word
  have hown' : s'.vm.findClass "SundialTreaty" = some m.cls := by rw [hvm]; exact hown
  have hins : (Cond.instantiable ab_Nm 6).before args s' = true := h _ (by simp [ab_own0, Bundle.ownAtomsX])
  obtain ⟨vm₁, cX, kX, hfX, hkX, -, -, X₁, st1⟩ := Y.newCold hexec (own := "SundialTreaty") (C := ab_Nm) (index := ik) (n := 6) hown' hk' hins hini'
    (g := F0 m pc ls rest) rfl (by rw [hb]; exact d0) (Nat.le_refl _) (Nat.le_refl _)
  generalize hT1 : (T.setVm vm₁).pushCell { cls := cX, slots := kX.instanceTypes.map defaultValue, vm := .none } = T1 at X₁ st1
  have hcat : (Value.ref T.heap.size).category = 1 := rfl
  have hcellA : T1.heap[T.heap.size]? = some (freshCell cX kX) := by rw [← hT1]; exact State.heap_pushCell_size _ _
  have d3' : decode c.code (pc + 3) = .ok (.dup, 1) := by rw [hb]; exact d3
  have d4' : decode c.code (pc + 4) = .ok (.ldc is, 2) := by rw [hb]; exact d4
  have hstr' : vk_R "SundialTreaty" is text sa s' := vk_R.warm hW0 hstr
  obtain ⟨U, hsteps, hrun, hend, hW, hsame, ce, hce, hcv, hcl0⟩ := ab_ctorThrow X₁ hexec htr hown' h (fun x hx => nomatch hx) hfX hkX hcellA (by rw [hhp, hT]; exact Nat.le_refl _) (msg := .ref sa) rfl
    (g := { method := m, pc := pc + 6, locals := ls, stack := .ref sa :: .ref T.heap.size :: .ref T.heap.size :: rest, locked := none }) rfl hsize rfl rfl (rest := rest) rfl
    (by rw [hb]; exact d6) (by rw [hb]; exact d9) hout hRframes (by simp only [List.map_cons, List.sum_cons, hcat]; omega) hlocks
  obtain ⟨f1, f2⟩ := vx_frame hsame
  rw [hhp] at f1 f2
  have hWs : s.WarmedH U.vm := State.WarmedH.trans hW0 hW
  have hcl : s.vm.findClass ab_Nm = some ce.cls := by
    rw [hvm] at hcl0
    exact hcl0
  have hall : s.sameButNew ({ U with vm := s.vm } : State) locs mc ms := by
    subst hA
    obtain ⟨e1, e2⟩ := hsame
    rw [State.setFrames_setFrames] at e1
    have h2 : (T.setVm s.vm).sameButNew ({ U with vm := s.vm } : State) [] (0 + 1) (0 + 6) := ⟨e1, e2⟩
    have h3 := X.same.trans h2
    rw [List.append_nil] at h3
    exact h3.mono hc hs
  refine ⟨U, ?_, .threw T.heap.size, hrun, hend, Or.inr ⟨T.heap.size, rfl, ab_Nm, ce, locs, hx U hWs.alike f1 (fun q hq => f2 q hq (fun z hz => nomatch hz)), hce, hcv, hcl, hWs, hall, hf⟩⟩
  refine st1 _ ?_
  show Steps p.tables e below (T1.setTop { method := m, pc := pc + 3, locals := ls, stack := .ref T.heap.size :: rest, locked := none }) _
  jvm_step X₁.here [X₁.here.top, hexec, d3', Value.category]
  exact X₁.ldcString hexec (own := "SundialTreaty") (text := text) (index := is) (a := sa) hown' hstr'.1 hstr'.2
    (g := { method := m, pc := pc + 4, locals := ls, stack := .ref T.heap.size :: .ref T.heap.size :: rest, locked := none }) rfl d4' _ hsteps
set_option maxHeartbeats 4000000 in
theorem ab_throwSW {cc : ByteArray} {pc : Nat} (hexec : p.tables.exec = Jvm.exec) (hb : c.code = cc) (hl : l.stackTraces = false) {text : String} {ik is mc ms sa : Nat} {A : Nat → Prop}
    (hown : s.vm.findClass "SundialTreaty" = some m.cls)
    (hk : (Cond.classLink "SundialTreaty" ik ab_Nm).before args s = true) (hini : (Cond.initialized ab_Nm).before args s = true) (hstr : vk_R "SundialTreaty" is text sa s) (hat : ∀ w ∈ ab_thw, w.before args s = true)
    (hU : vx_Zq Bundle.tN "UNASSIGNED_STACK" Bundle.steD A s s.heap) (hN : vx_Zq Bundle.tN "SUPPRESSED_SENTINEL" Bundle.listD A s s.heap) (hS : va_S A s.heap H locs) (hsize : ls.size = c.maxLocals)
    (d0 : decode cc pc = .ok (.new ik, 3)) (d3 : decode cc (pc + 3) = .ok (.dup, 1)) (d4 : decode cc (pc + 4) = .ok (.ldc_w is, 3)) (d6 : decode cc (pc + 7) = .ok (.invokespecial 135, 3)) (d9 : decode cc (pc + 10) = .ok (.athrow, 1))
    (hout : ∀ x ∈ c.exceptionTable.toList, covers x (pc + 10) = false)
    (hRframes : 2 + 3 < R.frames) (hRlocals : (rest.map fun v => v.category).sum + (13 * (2 + 1) + 43) ≤ R.locals) (hRcells : cells + 1 ≤ R.cells) (hRslots : slots + 6 ≤ R.slots) (hlocks : meth.locks = false)
    (hx : ∀ t : State, s.vm.Alike t.vm → H.size ≤ t.heap.size → (∀ q : Nat, q < H.size → t.heap[q]? = H[q]?) → XC ab_Nm s t)
    (hf : ∀ z ∈ locs, free z.base) (hc : cells + 1 ≤ mc) (hs : slots + 6 ≤ ms) :
    W p l e R s m args below meth c H locs cells slots (vx_MQ below Qc XC args s mc ms free) (F0 m pc ls rest) := by
  intro T hT X
  have htr : e.platform.stackTraces = false := (show e.platform.stackTraces = l.stackTraces by rw [X.admits.platform]).trans hl
  have Y := vx_rebase X (R' := { frames := R.frames, locals := R.locals, cells := 1, slots := 6 }) (Nat.le_refl _) (Nat.le_refl _) hRcells hRslots
  obtain ⟨s', hA⟩ : ∃ z, z = (T.setVm s.vm).setFrames (.invoking m args :: below) := ⟨_, rfl⟩
  rw [← hA] at Y
  have hvm : s'.vm = s.vm := by rw [hA]; rfl
  have hhp : s'.heap = H := by rw [hA]; exact hT
  have hW0 : s.WarmedH s'.vm := by rw [hvm]; exact State.WarmedH.refl s
  have hat' : ∀ w ∈ ab_thw, w.before args s' = true := fun w hw => vx_ot_at hW0 hvm.symm (ab_thw_ot w hw) (hat w hw)
  have hk' : (Cond.classLink "SundialTreaty" ik ab_Nm).before args s' = true := vx_ot_at hW0 hvm.symm rfl hk
  have hini' : (Cond.initialized ab_Nm).before args s' = true := vx_ot_at hW0 hvm.symm rfl hini
  have hU' : vx_Zq Bundle.tN "UNASSIGNED_STACK" Bundle.steD A s' s'.heap := by rw [hhp]; exact vx_Zq.moved hW0.alike (hU.kept hS.2.1)
  have hN' : vx_Zq Bundle.tN "SUPPRESSED_SENTINEL" Bundle.listD A s' s'.heap := by rw [hhp]; exact vx_Zq.moved hW0.alike (hN.kept hS.2.1)
  have h : ∀ w ∈ ab_own0, w.before args s' = true := vx_own hat' (vx_isRefq hU'.1) (vx_isRefq hN'.1) hU'.2.word hN'.2.word
  have hown' : s'.vm.findClass "SundialTreaty" = some m.cls := by rw [hvm]; exact hown
  have hins : (Cond.instantiable ab_Nm 6).before args s' = true := h _ (by simp [ab_own0, Bundle.ownAtomsX])
  obtain ⟨vm₁, cX, kX, hfX, hkX, -, -, X₁, st1⟩ := Y.newCold hexec (own := "SundialTreaty") (C := ab_Nm) (index := ik) (n := 6) hown' hk' hins hini'
    (g := F0 m pc ls rest) rfl (by rw [hb]; exact d0) (Nat.le_refl _) (Nat.le_refl _)
  generalize hT1 : (T.setVm vm₁).pushCell { cls := cX, slots := kX.instanceTypes.map defaultValue, vm := .none } = T1 at X₁ st1
  have hcat : (Value.ref T.heap.size).category = 1 := rfl
  have hcellA : T1.heap[T.heap.size]? = some (freshCell cX kX) := by rw [← hT1]; exact State.heap_pushCell_size _ _
  have d3' : decode c.code (pc + 3) = .ok (.dup, 1) := by rw [hb]; exact d3
  have d4' : decode c.code (pc + 4) = .ok (.ldc_w is, 3) := by rw [hb]; exact d4
  have hstr' : vk_R "SundialTreaty" is text sa s' := vk_R.warm hW0 hstr
  obtain ⟨U, hsteps, hrun, hend, hW, hsame, ce, hce, hcv, hcl0⟩ := ab_ctorThrow X₁ hexec htr hown' h (fun x hx => nomatch hx) hfX hkX hcellA (by rw [hhp, hT]; exact Nat.le_refl _) (msg := .ref sa) rfl
    (g := { method := m, pc := pc + 7, locals := ls, stack := .ref sa :: .ref T.heap.size :: .ref T.heap.size :: rest, locked := none }) rfl hsize rfl rfl (rest := rest) rfl
    (by rw [hb]; exact d6) (by rw [hb]; exact d9) hout hRframes (by simp only [List.map_cons, List.sum_cons, hcat]; omega) hlocks
  obtain ⟨f1, f2⟩ := vx_frame hsame
  rw [hhp] at f1 f2
  have hWs : s.WarmedH U.vm := State.WarmedH.trans hW0 hW
  have hcl : s.vm.findClass ab_Nm = some ce.cls := by
    rw [hvm] at hcl0
    exact hcl0
  have hall : s.sameButNew ({ U with vm := s.vm } : State) locs mc ms := by
    subst hA
    obtain ⟨e1, e2⟩ := hsame
    rw [State.setFrames_setFrames] at e1
    have h2 : (T.setVm s.vm).sameButNew ({ U with vm := s.vm } : State) [] (0 + 1) (0 + 6) := ⟨e1, e2⟩
    have h3 := X.same.trans h2
    rw [List.append_nil] at h3
    exact h3.mono hc hs
  refine ⟨U, ?_, .threw T.heap.size, hrun, hend, Or.inr ⟨T.heap.size, rfl, ab_Nm, ce, locs, hx U hWs.alike f1 (fun q hq => f2 q hq (fun z hz => nomatch hz)), hce, hcv, hcl, hWs, hall, hf⟩⟩
  refine st1 _ ?_
  show Steps p.tables e below (T1.setTop { method := m, pc := pc + 3, locals := ls, stack := .ref T.heap.size :: rest, locked := none }) _
  jvm_step X₁.here [X₁.here.top, hexec, d3', Value.category]
  exact X₁.ldcStringW hexec (own := "SundialTreaty") (text := text) (index := is) (a := sa) hown' hstr'.1 hstr'.2
    (g := { method := m, pc := pc + 4, locals := ls, stack := .ref T.heap.size :: .ref T.heap.size :: rest, locked := none }) rfl d4' _ hsteps
end
section
variable {p : Program} {l : Launch} {e : Env} {R : Room} {s : State} {m : MethodId} {args : Array Value} {below : List Frame} {meth : Method} {c : Code} {Q : State → Prop} {cc : ByteArray} {own : String} {nL : Nat} {X : ab_X} {D : va_G} {z0 : ab_Z0} {cal : ab_K} {pc : Nat}
theorem ab_thw_at (C : ab_cx p R s m args c cc own nL X D) : ∀ w ∈ ab_thw, w.before args s = true := by
  refine vx_hat (B := lw_tbl.filter ab_nest) (fun w h => C.2.2.2.2.1 w (ab_thw_good w h)) ab_thw_nest (fun w h => ?_)
  obtain ⟨h1, h2⟩ := List.mem_filter.mp h
  exact va_Nw.use (ab_nest_tab h2) ((ab_cxE C).2.2.1 w h1 h2)
/-- a stop that throws -/
theorem ab_stopX (C : ab_cx p R s m args c cc own nL X D) (hst : l.stackTraces = false) (hown : own = "SundialTreaty") (hout : ∀ x ∈ c.exceptionTable.toList, False) (hlocks : meth.locks = false) {Qc : Array Value → State → Outcome → State → Prop} {mc ms : Nat} (hmc : mc ≤ R.cells) (hms : ms ≤ R.slots) {outs : List ab_O} {S : ab_S} (hth : ab_thr cc S.2.1)
    (h2 : S.2.2.2 = []) (h3 : S.1.2.2.2.1 + 1 ≤ mc) (h4 : S.1.2.2.2.2 + 6 ≤ ms) (h5 : (3, none, (S.1.1, S.1.2.1, S.1.2.2.1, 0, 0)) ∈ outs) :
    ab_ok p l e R s m args below meth c (vx_MQ below Qc (ab_Xo X D z0 outs) args s mc ms (ab_Ar X)) nL X D z0 S := by
  intro z ws H locs ls cst hR hl hs
  rw [h2] at hs
  cases cst with
  | cons _ _ => simp at hs
  | nil =>
    subst hown
    obtain ⟨ik, is, j, tx, t1, t2, t3, t4, t5⟩ := hth
    have hE := ab_cxE C
    have hx : ∀ t : State, s.vm.Alike t.vm → H.size ≤ t.heap.size → (∀ q : Nat, q < H.size → t.heap[q]? = H[q]?) → ab_Xo X D z0 outs ab_Nm s t := by
      intro t ha hz hq
      refine ⟨((3, none, (S.1.1, S.1.2.1, S.1.2.2.1, 0, 0)), z, ws), ⟨h5, rfl, hR.2.2.2.2.2.2.2.2, hR.1, hR.2.1, hR.2.2.1, hR.2.2.2.2.2.1, hR.2.2.2.2.2.2.2.1⟩, ⟨rfl, hR.2.2.2.1.moved ha, hR.2.2.2.2.1.kept (fun k q hk => hq _ (vx_lt hR.2.2.2.2.1 hk))⟩, Nat.le_trans hR.2.2.2.2.2.2.1.1 hz, fun q h1 h2 => ?_⟩
      rw [hq q (Nat.lt_of_lt_of_le h1 hR.2.2.2.2.2.2.1.1)]
      exact hR.2.2.2.2.2.2.1.2.1 q h1 h2
    have hfr := C.2.2.2.2.2.2.1
    have hlo := C.2.2.2.2.2.2.2
    rcases t5 with ⟨t5, t6, t7⟩ | ⟨t5, t6, t7⟩
    · exact ab_throwS (A := ab_Ar X) C.1 C.2.1 hst C.2.2.2.1 (C.2.2.2.2.1 _ t2) (C.2.2.2.2.1 _ ab_ini) (hE.2.2.2.2.2.1 j _ t1) (ab_thw_at C) hE.2.2.2.2.2.2.2.2.2.2.2.1 hE.2.2.2.2.2.2.2.2.2.2.2.2.1 hR.2.2.2.2.2.2.1 (hl.1.trans C.2.2.1.symm) t3 t4 t5 t6 t7 (fun x hx => (hout x hx).elim) (by show 2 + 3 < _; omega) (by show 0 + (13 * (2 + 1) + 43) ≤ _; omega) (Nat.le_trans h3 hmc) (Nat.le_trans h4 hms) hlocks hx hR.2.2.2.2.2.2.1.2.2 h3 h4
    · exact ab_throwSW (A := ab_Ar X) C.1 C.2.1 hst C.2.2.2.1 (C.2.2.2.2.1 _ t2) (C.2.2.2.2.1 _ ab_ini) (hE.2.2.2.2.2.1 j _ t1) (ab_thw_at C) hE.2.2.2.2.2.2.2.2.2.2.2.1 hE.2.2.2.2.2.2.2.2.2.2.2.2.1 hR.2.2.2.2.2.2.1 (hl.1.trans C.2.2.1.symm) t3 t4 t5 t6 t7 (fun x hx => (hout x hx).elim) (by show 2 + 3 < _; omega) (by show 0 + (13 * (2 + 1) + 43) ≤ _; omega) (Nat.le_trans h3 hmc) (Nat.le_trans h4 hms) hlocks hx hR.2.2.2.2.2.2.1.2.2 h3 h4
end
theorem ab_meth1 {l : Launch} (hst : l.stackTraces = false) {X : ab_X} {D : va_G} {d : Nat} {ME : List ab_ME} {y : MethodName} {cc : ByteArray} {maxL mc ms : Nat} {ret : Option FieldType} {hh : List (Nat × Nat × Nat × Nat)} {tab : ab_tab} (hyo : y.cls = "SundialTreaty") (hy : plainName y.cls = true) (hT : ab_ts l X D d ME y cc "SundialTreaty" maxL mc ms tab (fun _ _ _ _ _ _ _ _ _ _ pc => ab_thr cc pc))
    {cal : ab_K} (hcal : ab_cal l X D d ME cal) {fuel : Nat} {env : ab_E} {nl : Nat} {aw : ab_H} {as : List ab_V} {os : List (Nat × ab_S)} {outs : List ab_O} (hcs : ab_csum as ≤ maxL) (hrun : ab_run tab cal fuel [((env, nl, aw, 0, 0), 0, ab_ent 0 as, [])] [] = some os) (hfin : ab_fin ret mc ms os (fun L => some L) = some outs) : ab_ctr l X D (d + 1) (y, cc, maxL, ret, mc, ms, 1, hh, tab) env nl aw as outs := by
  intro z ws vs hin hs
  show vx_Met l y (Cond.code y cc maxL ret :: ab_TG) (ab_rm (d + 1) mc ms) (ab_Pr X D aw z ws vs) (ab_Po X D (z, ws, aw.1.map ab_flg) outs ret) (ab_Xo X D (z, ws, aw.1.map ab_flg) outs) mc ms (ab_Ar X)
  refine vx_ofW (cc := cc) (maxL := maxL) (ret := ret) hy rfl ?_
  intro p e s m args below meth c s₁ B hml hout hv
  obtain ⟨rfl, hE, hw, hP⟩ := hv
  have C : ab_cx p (headSpec (Cond.code y cc maxL ret :: ab_TG) (ab_rm (d + 1) mc ms)).room s m vs.toArray c cc "SundialTreaty" maxL X D := ⟨B.exec, B.bytes, hml, hyo ▸ findClass_of_methodNamed B.named, fun w hw => atoms_spec (ws := Cond.code y cc maxL ret :: ab_TG) B.pre w (List.mem_cons_of_mem _ hw), hE, by show 16 ≤ 16 * (d + 1); omega, by show 200 ≤ 200 * (d + 1); omega⟩
  have hTv := hT cal hcal p e (headSpec (Cond.code y cc maxL ret :: ab_TG) (ab_rm (d + 1) mc ms)).room s m vs.toArray below meth c (vx_MQ below (ab_Po X D (z, ws, aw.1.map ab_flg) outs ret) (ab_Xo X D (z, ws, aw.1.map ab_flg) outs) vs.toArray s mc ms (ab_Ar X)) (z, ws, aw.1.map ab_flg) C (name_of_methodNamed B.named B.method).1 (Nat.le_refl _) (Nat.le_refl _) (Nat.le_refl _) (Nat.le_refl _)
  refine ab_first hE hin hs hw hP hcs ?_
  refine ab_run_ok hTv hrun (fun k pc S hS hpc hf => ?_) _ List.mem_cons_self
  subst hpc
  obtain ⟨f, b, hb1, hb2⟩ := hf
  have htv := hTv b hb1 _ hb2
  obtain ⟨L, h1, h2⟩ := ab_fin_ok hfin
  cases h1
  rcases h2 k S hS with ⟨rfl, g⟩ | ⟨rfl, g⟩ | ⟨rfl, g1, g2, g3, g4⟩
  · intro z1 ws1 H1 locs1 ls1 cst1 hR1 hl1 hs1
    exact vx_ret (ab_stop (cal := cal) (th := fun _ => False) (k := 1) (f := f) C B.returns B.notSynchronized htv (Or.inl ⟨rfl, g⟩) z1 ws1 H1 locs1 ls1 cst1 hR1 hl1 hs1)
  · intro z1 ws1 H1 locs1 ls1 cst1 hR1 hl1 hs1
    exact vx_ret (ab_stop (cal := cal) (th := fun _ => False) (k := 2) (f := f) C B.returns B.notSynchronized htv (Or.inr ⟨rfl, g⟩) z1 ws1 H1 locs1 ls1 cst1 hR1 hl1 hs1)
  · exact ab_stopX C hst rfl hout B.notSynchronized (Nat.le_refl _) (Nat.le_refl _) htv g1 g2 g3 g4
