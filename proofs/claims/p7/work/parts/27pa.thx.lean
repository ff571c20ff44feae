/-! Exact contracts of methods that throw, and of a method that catches. -/
noncomputable def ex_Xo (X : ab_X) (D : va_G) (A : ex_A) (Xp : List ex_E → Prop) : String → State → State → Prop := vx_X (fun u : ex_U => Xp u.1) (fun E u t => E = ab_Nm ∧ ex_bu X D A u t) (ab_Ar X)
noncomputable def ex_ctrx (l : Launch) (X : ab_X) (D : va_G) (A : ex_A) (d : Nat) (y : MethodName) (cc : ByteArray) (maxL : Nat) (ret : Option FieldType) (w : List ex_E) (vs : List Value) (Po : Int32 → List ex_E → Prop) (Xp : List ex_E → Prop) (mc ms : Nat) : Prop :=
  ∀ ws : va_W, vx_Met l y (Cond.code y cc maxL ret :: ab_TG) (ab_rm d mc ms) (ex_Pr X D A w ws vs) (ex_Po X D A Po ret) (ex_Xo X D A Xp) mc ms (ab_Ar X)
noncomputable def ex_ctrw (l : Launch) (X : ab_X) (D : va_G) (A : ex_A) (d : Nat) (y : MethodName) (cc : ByteArray) (maxL : Nat) (ret : Option FieldType) (hh : List (Nat × Nat × Nat × Nat)) (w : List ex_E) (vs : List Value) (Po : Int32 → List ex_E → Prop) (mc ms : Nat) : Prop :=
  ∀ ws : va_W, Met l y (Cond.codeWith y cc maxL ret hh :: ab_TG) (ab_rm d mc ms) (ex_Pr X D A w ws vs) (ex_Po X D A Po ret) mc ms (ab_Ar X)
section
variable {p : Program} {l : Launch} {e : Env} {R : Room} {s : State} {m : MethodId} {args : Array Value} {below : List Frame} {meth : Method} {c : Code} {cl sl : Nat} {Q : State → Prop} {cc : ByteArray} {own : String} {nL : Nat} {X : ab_X} {D : va_G} {A : ex_A} {pc : Nat} {w : List ex_E} {lv : List (Nat × Value)} {st : List Value}
theorem ex_throw (C : ab_cx p R s m args c cc own nL X D) (hst : l.stackTraces = false) (hown : own = "SundialTreaty") (hout : ∀ x ∈ c.exceptionTable.toList, False) (hlocks : meth.locks = false) {Qc : Array Value → State → Outcome → State → Prop} {Xp : List ex_E → Prop} {mc ms : Nat} (hmc : mc ≤ R.cells) (hms : ms ≤ R.slots) (hth : ab_thr cc pc) (h3 : cl + 1 ≤ mc) (h4 : sl + 6 ≤ ms) (hX : Xp w) : ex_ok p l e R s m args below meth c cl sl (vx_MQ below Qc (ex_Xo X D A Xp) args s mc ms (ab_Ar X)) nL X D A w pc lv [] := fun ws H locs ls hR hl => by
  subst hown
  obtain ⟨ik, is, j, tx, t1, t2, t3, t4, t5⟩ := hth
  have hE := ab_cxE C
  have hx : ∀ t : State, s.vm.Alike t.vm → H.size ≤ t.heap.size → (∀ q : Nat, q < H.size → t.heap[q]? = H[q]?) → ex_Xo X D A Xp ab_Nm s t := by
    intro t ha hz hq
    refine ⟨(w, ws), hX, ⟨rfl, hR.1.moved ha, hR.2.1.kept (fun k q hk => hq _ (vx_lt hR.2.1 hk)), hR.2.2.1⟩, Nat.le_trans hR.2.2.2.1 hz, fun q h1 h2 => ?_⟩
    rw [hq q (Nat.lt_of_lt_of_le h1 hR.2.2.2.1)]
    exact hR.2.2.2.2.1 q h1 h2
  have hfr := C.2.2.2.2.2.2.1
  have hlo := C.2.2.2.2.2.2.2
  rcases t5 with ⟨t5, t6, t7⟩ | ⟨t5, t6, t7⟩
  · exact ab_throwS (A := ab_Ar X) C.1 C.2.1 hst C.2.2.2.1 (C.2.2.2.2.1 _ t2) (C.2.2.2.2.1 _ ab_ini) (hE.2.2.2.2.2.1 j _ t1) (ab_thw_at C) hE.2.2.2.2.2.2.2.2.2.2.2.1 hE.2.2.2.2.2.2.2.2.2.2.2.2.1 hR.2.2.2 (hl.1.trans C.2.2.1.symm) t3 t4 t5 t6 t7 (fun x hx => (hout x hx).elim) (by show 2 + 3 < _; omega) (by show 0 + (13 * (2 + 1) + 43) ≤ _; omega) (Nat.le_trans h3 hmc) (Nat.le_trans h4 hms) hlocks hx hR.2.2.2.2.2 h3 h4
  · exact ab_throwSW (A := ab_Ar X) C.1 C.2.1 hst C.2.2.2.1 (C.2.2.2.2.1 _ t2) (C.2.2.2.2.1 _ ab_ini) (hE.2.2.2.2.2.1 j _ t1) (ab_thw_at C) hE.2.2.2.2.2.2.2.2.2.2.2.1 hE.2.2.2.2.2.2.2.2.2.2.2.2.1 hR.2.2.2 (hl.1.trans C.2.2.1.symm) t3 t4 t5 t6 t7 (fun x hx => (hout x hx).elim) (by show 2 + 3 < _; omega) (by show 0 + (13 * (2 + 1) + 43) ≤ _; omega) (Nat.le_trans h3 hmc) (Nat.le_trans h4 hms) hlocks hx hR.2.2.2.2.2 h3 h4
theorem ex_iretx (C : ab_cx p R s m args c cc own nL X D) {ty : FieldType} {Po : Int32 → List ex_E → Prop} {Xp : List ex_E → Prop} {mc ms : Nat} (hr : meth.sig.returnType = some ty) (hlocks : meth.locks = false) {r : Int32} (d : decode cc pc = .ok (.ireturn, 1)) (hn : narrow ty (.int r) = .int r) (h1 : cl ≤ mc) (h2 : sl ≤ ms) (h : Po r w) : ex_ok p l e R s m args below meth c cl sl (vx_MQ below (ex_Po X D A Po (some ty)) (ex_Xo X D A Xp) args s mc ms (ab_Ar X)) nL X D A w pc lv [.int r] := fun ws H locs ls hR hl =>
  vx_ret (ex_iret C hr hlocks d hn h1 h2 h ws H locs ls hR hl)
end
/-- a throwing method's contract out of a walk -/
theorem ex_methx {l : Launch} {X : ab_X} {D : va_G} {A : ex_A} {d : Nat} {y : MethodName} {cc : ByteArray} {own : String} {maxL mc ms : Nat} {ret : Option FieldType} {w : List ex_E} {vs : List Value} {Po : Int32 → List ex_E → Prop} {Xp : List ex_E → Prop} (hyo : y.cls = own) (hy : plainName y.cls = true) (hcs : ex_cs vs ≤ maxL)
    (h : ∀ (p : Program) (e : Env) (R : Room) (s : State) (m : MethodId) (below : List Frame) (meth : Method) (c : Code), ab_cx p R s m (vs.map (ex_cv X A)).toArray c cc own maxL X D → (∀ x ∈ c.exceptionTable.toList, False) → meth.sig.returnType = ret → meth.locks = false → 16 * (d + 1) ≤ R.frames → 200 * (d + 1) ≤ R.locals → mc ≤ R.cells → ms ≤ R.slots → ex_ok p l e R s m (vs.map (ex_cv X A)).toArray below meth c 0 0 (vx_MQ below (ex_Po X D A Po ret) (ex_Xo X D A Xp) (vs.map (ex_cv X A)).toArray s mc ms (ab_Ar X)) maxL X D A w 0 (ex_ent 0 vs) []) : ex_ctrx l X D A (d + 1) y cc maxL ret w vs Po Xp mc ms := by
  intro ws
  refine vx_ofW (cc := cc) (maxL := maxL) (ret := ret) hy rfl ?_
  intro p e s m args below meth c s₁ B hml hout hv
  obtain ⟨rfl, hE, hw, hP, hD⟩ := hv
  have C : ab_cx p (headSpec (Cond.code y cc maxL ret :: ab_TG) (ab_rm (d + 1) mc ms)).room s m (vs.map (ex_cv X A)).toArray c cc own maxL X D := ⟨B.exec, B.bytes, hml, hyo ▸ findClass_of_methodNamed B.named, fun w hw => atoms_spec (ws := Cond.code y cc maxL ret :: ab_TG) B.pre w (List.mem_cons_of_mem _ hw), hE, by show 16 ≤ 16 * (d + 1); omega, by show 200 ≤ 200 * (d + 1); omega⟩
  exact ex_first hw hP hD hcs (h p e _ s m below meth c C hout B.returns B.notSynchronized (Nat.le_refl _) (Nat.le_refl _) (Nat.le_refl _) (Nat.le_refl _))
/-- a catching method's contract out of a walk -/
theorem ex_methw {l : Launch} {X : ab_X} {D : va_G} {A : ex_A} {d : Nat} {y : MethodName} {cc : ByteArray} {own : String} {maxL mc ms : Nat} {ret : Option FieldType} {hh : List (Nat × Nat × Nat × Nat)} {w : List ex_E} {vs : List Value} {Po : Int32 → List ex_E → Prop} (hyo : y.cls = own) (hy : plainName y.cls = true) (hcs : ex_cs vs ≤ maxL)
    (h : ∀ (p : Program) (e : Env) (R : Room) (s : State) (m : MethodId) (below : List Frame) (meth : Method) (c : Code), ab_cx p R s m (vs.map (ex_cv X A)).toArray c cc own maxL X D → c.exceptionTable.toList = tableOf hh → meth.sig.returnType = ret → meth.locks = false → 16 * (d + 1) ≤ R.frames → 200 * (d + 1) ≤ R.locals → mc ≤ R.cells → ms ≤ R.slots → ex_ok p l e R s m (vs.map (ex_cv X A)).toArray below meth c 0 0 (MQ below (ex_Po X D A Po ret) (vs.map (ex_cv X A)).toArray s mc ms (ab_Ar X)) maxL X D A w 0 (ex_ent 0 vs) []) : ex_ctrw l X D A (d + 1) y cc maxL ret hh w vs Po mc ms := by
  intro ws
  refine va_MetW (cc := cc) (maxL := maxL) (ret := ret) (hh := hh) hy rfl ?_
  intro p e s m args below meth c s₁ B hml hv
  obtain ⟨rfl, hE, hw, hP, hD⟩ := hv
  have C : ab_cx p (headSpec (Cond.codeWith y cc maxL ret hh :: ab_TG) (ab_rm (d + 1) mc ms)).room s m (vs.map (ex_cv X A)).toArray c cc own maxL X D := ⟨B.exec, B.bytes, hml, hyo ▸ findClass_of_methodNamed B.named, fun w hw => atoms_spec (ws := Cond.codeWith y cc maxL ret hh :: ab_TG) B.pre w (List.mem_cons_of_mem _ hw), hE, by show 16 ≤ 16 * (d + 1); omega, by show 200 ≤ 200 * (d + 1); omega⟩
  have htab : c.exceptionTable.toList = tableOf hh := vx_table (x := y) B (atoms_spec (ws := Cond.codeWith y cc maxL ret hh :: ab_TG) B.pre _ List.mem_cons_self)
  exact ex_first hw hP hD hcs (h p e _ s m below meth c C htab B.returns B.notSynchronized (Nat.le_refl _) (Nat.le_refl _) (Nat.le_refl _) (Nat.le_refl _))
section
variable {p : Program} {l : Launch} {e : Env} {R : Room} {s : State} {m : MethodId} {args : Array Value} {below : List Frame} {meth : Method} {c : Code} {cl sl : Nat} {Q : State → Prop} {cc : ByteArray} {own : String} {nL : Nat} {X : ab_X} {D : va_G} {A : ex_A} {pc : Nat} {w : List ex_E} {lv : List (Nat × Value)} {st : List Value}
variable {y : MethodName} {cc1 : ByteArray} {maxL d i : Nat} {ty : FieldType} {vs rest : List Value} {Po : Int32 → List ex_E → Prop} {Xp : List ex_E → Prop}
/-- a call that may throw, caught here -/
theorem ex_callx (C : ab_cx p R s m args c cc own nL X D) {mc ms : Nat} (K : ex_ctrx l X D A d y cc1 maxL (some ty) w vs Po Xp mc ms) (hd1 : 16 * (d + 1) ≤ R.frames) (hd2 : 200 * (d + 1) ≤ R.locals) (hmx : maxL ≤ 150) {np : Nat} (hyd : y.cls ≠ "java/lang/invoke/MethodHandle" ∧ y.cls ≠ "java/lang/invoke/VarHandle" ∧ (parseMethodDescriptor y.desc).map (fun d => d.parameters.length) = some np) (hcode : Cond.code y cc1 maxL (some ty) ∈ ab_TG) {ci N : Nat} {cn : String} {T : u_T} (hc : vwCl[ci]? = some (cn, T, N)) {j : Nat} {fs cr : List Value} (hvs : vs = .ref j :: cr) (hj : w[j]? = some (.inl (ci, fs))) (hnp : cr.length = np) (hst : st = cr.reverse ++ .ref j :: rest) (hrs : ex_cs rest ≤ 8) (hcn : y.cls = cn) (hl1 : Cond.methodLink own i y ∈ ab_TG) (hl2 : Cond.instanceMethod y ∈ ab_TG) (hl3 : Cond.selects cn y y ∈ ab_TG) (hl4 : Cond.initialized cn ∈ ab_TG) (dd : decode cc pc = .ok (.invokevirtual i, 3)) (hcl : cl + mc ≤ R.cells) (hsl : sl + ms ≤ R.slots)
    {eP hP ct hi hp : Nat} (htab : c.exceptionTable.toList = tableOf [(0, eP, hP, ct)]) (hcov : covers ⟨0, eP, hP, ct⟩ pc = true) (hct : ct ≠ 0) (hlk : Cond.classLink own ct ab_Nm ∈ ab_TG) (hcs : Cond.castable ab_Nm ab_Nm ∈ lw_tbl) (hhi : hi < nL) (dh : decode cc hP = .ok (.astore hi, 2)) (hhp : hP + 2 = hp) {np2 : Nat} (hnp2 : pc + 3 = np2) {lv1 : List (Nat × Value)} (hlv : ex_f1 hi lv = lv1)
    (k : ∀ (r : Int32) (w1 : List ex_E), Po r w1 → ex_ok p l e R s m args below meth c (cl + mc) (sl + ms) Q nL X D A w1 np2 lv (.int r :: rest)) (kx : ∀ w1 : List ex_E, Xp w1 → ex_ok p l e R s m args below meth c (cl + mc) (sl + ms) Q nL X D A w1 hp lv1 []) : ex_ok p l e R s m args below meth c cl sl Q nL X D A w pc lv st := fun ws H locs ls hR hl => by
  subst hvs hst hnp2 hhp hlv
  obtain ⟨e0, c1, rfl⟩ := hR.cell hj
  have hM : vx_Met l y (Cond.code y cc1 maxL (some ty) :: ab_TG) (ab_rm d mc ms) (ex_Pr X D A w ws (.ref j :: cr)) (ex_Po X D A Po (some ty)) (ex_Xo X D A Xp) mc ms (ab_Ar X) := K ws
  have hcell : ∃ cell : Cell, H[ex_ad X A j]? = some cell ∧ cell.vm.isStatics = false ∧ s.vm.findClass cn = some cell.cls := va_recv (ab_cxE C).2.1 hR.2.1 hc c1
  have run := vx_runV (p := p) (e := e) (m := m) (below := below) (meth := meth) (H := H) (locs := locs) (cells := cl) (slots := sl) (As := cr.map (ex_cv X A)) (rest := rest.map (ex_cv X A)) (g := F0 m pc ls ((cr.reverse ++ .ref j :: rest).map (ex_cv X A))) ⟨C.1, C.2.1, C.2.2.1, C.2.2.2.1, C.2.2.2.2.1⟩ hM (cwV (C := cn) np C.2.2.2.2.1 (ab_good (fun w hw => by
    simp only [wsV, List.mem_append, List.mem_cons, List.not_mem_nil, or_false] at hw
    rcases hw with (rfl | rfl | rfl | rfl) | (rfl | hw)
    · exact hl1
    · exact hl2
    · exact hl3
    · exact hl4
    · exact hcode
    · exact hw)) rfl rfl rfl ⟨hcn, hyd⟩ ⟨by show 16 * d + 1 ≤ _; omega, by show 8 + (maxL + 11) + 200 * d ≤ _; omega⟩) ⟨ex_Pr_blind, hcell, ex_Pr_in (ab_cxE C) hR⟩ rfl (by rw [List.length_map]; exact hnp) hl.1 (by show (cr.reverse ++ Value.ref j :: rest).map (ex_cv X A) = _; rw [List.map_append, List.map_reverse]; rfl) (lv_room (by rw [ex_cs_ok]; exact hrs)) dd ⟨hcl, hsl⟩
  refine vx_calli (A0 := ab_Ar X) (a := ((.ref j :: cr).map (ex_cv X A)).toArray) (post := fun r (u : ex_U) => Po r u.1) (B := ex_bu X D A) (A1 := ab_Ar X) (px := fun u : ex_U => Xp u.1) (BX := fun E u t => E = ab_Nm ∧ ex_bu X D A u t) (AX := ab_Ar X) run hR.2.2.2 (fun _ _ h => h) (fun _ h => h) (fun _ _ h => h) (fun E ce q9 u t H1 locs1 ht hvm hp9 hB _ _ hS hce hcv hcl => ?_) (fun r0 u t H1 locs1 ht hvm hp9 hB _ _ hS => ?_)
  · obtain ⟨rfl, hB⟩ := hB
    refine vx_catch (own := own) (name := ab_Nm) C.2.2.2.1 [] ⟨0, eP, hP, ct⟩ [] htab (fun z hz => nomatch hz) hcov hct (C.2.2.2.2.1 _ hlk) (va_Nw.use (ab_nest_tab rfl) ((ab_cxE C).2.2.1 _ hcs rfl)) hce hcv hcl ?_
    refine lv_astore C.1 C.2.1 dh hl hhi rfl (fun ls' hl' => ?_)
    have hfe := (List.cons.inj (ex_f1_mp X A hi (.ref 0) lv)).2
    exact kx u.1 hp9 u.2 H1 locs1 ls' (ex_R.back hB ht hvm hS) ⟨hl'.1, hl'.2.1, fun q hq => hl'.2.2 q (List.mem_cons_of_mem _ (by rw [hfe]; exact hq))⟩
  · exact k r0 u.1 hp9 u.2 H1 locs1 ls (ex_R.back hB ht hvm hS) hl
end
/-- the first place from k on, n places at most, whose term is a town's and holds on a day: its number; else nf -/
noncomputable def ex_dn (nf : Int32) (tt tf tto tb : Nat → Int32) (t day : Int32) : Nat → Nat → Int32
  | 0, _ => nf
  | n + 1, k => if tt k = t then (if (tf k).toInt ≤ day.toInt then (if day.toInt ≤ (tto k).toInt then tb k else ex_dn nf tt tf tto tb t day n (k + 1)) else ex_dn nf tt tf tto tb t day n (k + 1)) else ex_dn nf tt tf tto tb t day n (k + 1)
theorem ex_dn_s {nf : Int32} {tt tf tto tb : Nat → Int32} {t day : Int32} {n k : Nat} : ex_dn nf tt tf tto tb t day (n + 1) k = if tt k = t then (if (tf k).toInt ≤ day.toInt then (if day.toInt ≤ (tto k).toInt then tb k else ex_dn nf tt tf tto tb t day n (k + 1)) else ex_dn nf tt tf tto tb t day n (k + 1)) else ex_dn nf tt tf tto tb t day n (k + 1) := rfl
/-- both rows of terms alike: the same number, or none on both sides -/
theorem ex_dn_eq {nf nf' : Int32} {tt tf tto tb tt' tf' tto' tb' : Nat → Int32} {t day : Int32} : ∀ (n k : Nat), (∀ j : Nat, k ≤ j → j < k + n → tt j = tt' j ∧ tf j = tf' j ∧ tto j = tto' j ∧ tb j = tb' j) → (ex_dn nf tt tf tto tb t day n k = nf ∧ ex_dn nf' tt' tf' tto' tb' t day n k = nf') ∨ ∃ j : Nat, k ≤ j ∧ j < k + n ∧ ex_dn nf tt tf tto tb t day n k = tb j ∧ ex_dn nf' tt' tf' tto' tb' t day n k = tb j
  | 0, _, _ => Or.inl ⟨rfl, rfl⟩
  | n + 1, k, h => by
    obtain ⟨h1, h2, h3, h4⟩ := h k (Nat.le_refl _) (by omega)
    have ih : (ex_dn nf tt tf tto tb t day n (k + 1) = nf ∧ ex_dn nf' tt' tf' tto' tb' t day n (k + 1) = nf') ∨ ∃ j : Nat, k ≤ j ∧ j < k + (n + 1) ∧ ex_dn nf tt tf tto tb t day n (k + 1) = tb j ∧ ex_dn nf' tt' tf' tto' tb' t day n (k + 1) = tb j := by
      rcases ex_dn_eq n (k + 1) (fun j g1 g2 => h j (by omega) (by omega)) with g | ⟨j, g1, g2, g3⟩
      · exact Or.inl g
      · exact Or.inr ⟨j, by omega, by omega, g3⟩
    rw [ex_dn_s, ex_dn_s, ← h1, ← h2, ← h3, ← h4]
    by_cases c1 : tt k = t
    · rw [if_pos c1, if_pos c1]
      by_cases c2 : (tf k).toInt ≤ day.toInt
      · rw [if_pos c2, if_pos c2]
        by_cases c3 : day.toInt ≤ (tto k).toInt
        · rw [if_pos c3, if_pos c3]
          exact Or.inr ⟨k, Nat.le_refl _, by omega, rfl, rfl⟩
        · rw [if_neg c3, if_neg c3]
          exact ih
      · rw [if_neg c2, if_neg c2]
        exact ih
    · rw [if_neg c1, if_neg c1]
      exact ih
