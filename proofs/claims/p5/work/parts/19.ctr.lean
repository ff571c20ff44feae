/-! Contracts of contexts. -/
section
variable {p : Program} {l : Launch} {e : Env} {R : Room} {s : State} {m : MethodId} {args : Array Value} {below : List Frame} {meth : Method} {c : Code} {cc : ByteArray} {own : String} {nL : Nat} {X : ab_X} {D : va_G}
/-- a throw, by what is left behind -/
theorem ab_stopG (C : ab_cx p R s m args c cc own nL X D) (hst : l.stackTraces = false) (hown : own = "SundialTreaty") (hout : ∀ x ∈ c.exceptionTable.toList, False) (hlocks : meth.locks = false) {Qc : Array Value → State → Outcome → State → Prop} {XC : String → State → State → Prop} {mc ms cl sl pc : Nat} (hmc : mc ≤ R.cells) (hms : ms ≤ R.slots) (hth : ab_thr cc pc) {H : Heap} {locs : List Loc} {ls : Array Slot}
    (h3 : cl + 1 ≤ mc) (h4 : sl + 6 ≤ ms) (hS : va_S (ab_Ar X) s.heap H locs) (hls : ls.size = nL) (hx : ∀ t : State, s.vm.Alike t.vm → H.size ≤ t.heap.size → (∀ q : Nat, q < H.size → t.heap[q]? = H[q]?) → XC ab_Nm s t) :
    W p l e R s m args below meth c H locs cl sl (vx_MQ below Qc XC args s mc ms (ab_Ar X)) (F0 m pc ls []) := by
  subst hown
  obtain ⟨ik, is, j, tx, t1, t2, t3, t4, t5⟩ := hth
  have hE := ab_cxE C
  have hfr := C.2.2.2.2.2.2.1
  have hlo := C.2.2.2.2.2.2.2
  rcases t5 with ⟨t5, t6, t7⟩ | ⟨t5, t6, t7⟩
  · exact ab_throwS (A := ab_Ar X) C.1 C.2.1 hst C.2.2.2.1 (C.2.2.2.2.1 _ t2) (C.2.2.2.2.1 _ ab_ini) (hE.2.2.2.2.2.1 j _ t1) (ab_thw_at C) hE.2.2.2.2.2.2.2.2.2.2.2.1 hE.2.2.2.2.2.2.2.2.2.2.2.2.1 hS (hls.trans C.2.2.1.symm) t3 t4 t5 t6 t7 (fun x hx => (hout x hx).elim) (by show 2 + 3 < _; omega) (by show 0 + (13 * (2 + 1) + 43) ≤ _; omega) (Nat.le_trans h3 hmc) (Nat.le_trans h4 hms) hlocks hx hS.2.2 h3 h4
  · exact ab_throwSW (A := ab_Ar X) C.1 C.2.1 hst C.2.2.2.1 (C.2.2.2.2.1 _ t2) (C.2.2.2.2.1 _ ab_ini) (hE.2.2.2.2.2.1 j _ t1) (ab_thw_at C) hE.2.2.2.2.2.2.2.2.2.2.2.1 hE.2.2.2.2.2.2.2.2.2.2.2.2.1 hS (hls.trans C.2.2.1.symm) t3 t4 t5 t6 t7 (fun x hx => (hout x hx).elim) (by show 2 + 3 < _; omega) (by show 0 + (13 * (2 + 1) + 43) ≤ _; omega) (Nat.le_trans h3 hmc) (Nat.le_trans h4 hms) hlocks hx hS.2.2 h3 h4
end
section
variable {p : Program} {l : Launch} {e : Env} {R : Room} {s : State} {m : MethodId} {args : Array Value} {below : List Frame} {meth : Method} {c : Code} {Q : State → Prop} {X : ab_X} {D : va_G}
theorem ab_first2 {env : ab_E} {nl : Nat} {as : List ab_V} {z : ab_Z} {ws : va_W} {vs : List Value} {maxL : Nat} (hE : ab_EX X D s s.heap) (hs : as.map (ab_ev X z) = vs.map some) (hcs : ab_csum as ≤ maxL)
    (h : ∀ ls : Array Slot, ab_lR X z maxL ls (ab_ent 0 as) → W p l e R s m args below meth c s.heap [] 0 0 Q (F0 m 0 ls [])) : W p l e R s m args below meth c s.heap [] 0 0 Q (entryFrame m vs.toArray maxL) := by
  have hz := hE.2.2.2.2.1
  have hlen : (lg_sl vs).length ≤ maxL := by rw [ab_sl_len, ab_csum_ok hz hs]; exact hcs
  have hlv := lv_entry vs (n := maxL) hlen
  rw [lg_entry_eq]
  generalize (lg_sl vs ++ List.replicate (maxL - (lg_sl vs).length) Slot.unset).toArray = ls at hlv ⊢
  refine h ls ⟨hlv.1, hlv.2.1, fun q hq => ?_⟩
  obtain ⟨v, h1, h2⟩ := ab_ent_in hz hs q hq
  exact ⟨v, h1, hlv.2.2 _ h2⟩
end
theorem ab_sg_at {aw : ab_H} {lv : List (Nat × ab_V)} : ∀ {xl : List (Nat × Nat × Nat)} {ls : List ab_I}, ab_sg aw lv xl = some ls → ls.length = xl.length ∧ ∀ (i : Nat) (q : Nat × Nat × Nat), xl[i]? = some q → ∃ a, ls[i]? = some a ∧ ab_lcg aw lv q = some a
  | [], ls, h => by
    simp only [ab_sg, ab_sgK, Option.some.injEq] at h
    subst h
    exact ⟨rfl, fun i q h => by simp at h⟩
  | q0 :: r, ls, h => by
    simp only [ab_sg, ab_sgK] at h
    split at h
    · rename_i a ha
      rw [ab_sgK_eq] at h
      split at h
      · rename_i t ht
        cases h
        obtain ⟨i1, i2⟩ := ab_sg_at ht
        refine ⟨by simp [i1], fun i q hq => ?_⟩
        cases i with
        | zero =>
          simp only [List.getElem?_cons_zero, Option.some.injEq] at hq
          subst hq
          exact ⟨a, rfl, ha⟩
        | succ i => simpa using i2 i q (by simpa using hq)
      · cases h
    · cases h
theorem ab_gh_map {rho V : List Int32} : ∀ {n i : Nat}, (∀ j : Nat, j < n → ∃ x, rho[i + j]? = some x ∧ V[j]? = some x) → (ab_gh i n).map (ab_evI rho) = (V.take n).map some
  | 0, i, _ => by simp [ab_gh]
  | n + 1, i, h => by
    obtain ⟨x, h1, h2⟩ := h 0 (by omega)
    cases V with
    | nil => simp at h2
    | cons y V =>
      simp only [List.getElem?_cons_zero, Option.some.injEq] at h2
      subst h2
      have ih := ab_gh_map (V := V) (n := n) (i := i + 1) (fun j hj => by
        obtain ⟨x', a1, a2⟩ := h (j + 1) (by omega)
        exact ⟨x', by rw [show i + 1 + j = i + (j + 1) by omega]; exact a1, by simpa using a2⟩)
      simp only [ab_gh, List.map_cons, List.take_succ_cons, ih]
      congr 1
      simp only [Nat.add_zero] at h1
      simp only [ab_evI, h1, Option.map_some]; simp
theorem ab_gh_len : ∀ {n i : Nat}, (ab_gh i n).length = n
  | 0, i => rfl
  | n + 1, i => by simp [ab_gh, ab_gh_len]
theorem ab_eR.app {e1 e2 : ab_E} {r1 r2 : List Int32} (h1 : ab_eR e1 r1) (h2 : ab_eR e2 r2) : ab_eR (e1 ++ e2) (r1 ++ r2) := by
  refine ⟨by rw [List.length_append, List.length_append, h1.1, h2.1], fun v q hv => ?_⟩
  by_cases hl : v < e1.length
  · rw [List.getElem?_append_left hl] at hv
    rw [List.getElem?_append_left (by rw [h1.1]; exact hl)]
    exact h1.2 v q hv
  · rw [List.getElem?_append_right (by omega)] at hv
    rw [List.getElem?_append_right (by rw [h1.1]; omega), h1.1]
    exact h2.2 _ q hv
section
variable {s : State} {X : ab_X} {D : va_G} {M : ab_SM} {env : ab_E} {nl : Nat} {aw : ab_H} {z : ab_Z} {ws : va_W} {cs : List ab_C}
/-- the ends' variables: their values; the facts over them -/
theorem ab_xok_ok {z0 : ab_Z0} {z1 : ab_Z} {S : ab_S} {ws1 : va_W} {H1 : Heap} {locs1 : List Loc} {gv rr : List Int32} {ra : List ab_I} {q : ab_Q} (hR1 : ab_R X D s z0 S.1.1 S.1.2.1 S.1.2.2.1 z1 ws1 H1 locs1) (hgh : ab_ghp q.2.1.1 gv z1.1) (hx : ab_xok S.1.1 S.1.2.2.1 q ra = true) (hra : ra.map (ab_evI z1.1) = rr.map some) :
    ∃ xs : List Int32, ab_eR q.2.1.2.2.1 xs ∧ xs.length = q.2.1.2.1.length ∧ (∀ (i : Nat) (p : Nat × Nat × Nat), q.2.1.2.1[i]? = some p → ∃ x, xs[i]? = some x ∧ ab_lcw ws1 p x) ∧ ∀ f ∈ q.2.1.2.2.2, ab_fs (gv.take q.2.1.1 ++ (xs ++ rr), z1.2) ws1 f := by
  unfold ab_xok at hx
  split at hx
  · rename_i ls hls
    rw [Bool.and_eq_true, Bool.and_eq_true, ab_lenK_eq, Nat.zero_add, Bool.and_eq_true] at hx
    obtain ⟨⟨x1, x2, x3⟩, x4⟩ := hx
    obtain ⟨xs, e1, e2⟩ := ab_subE_ok hR1.1 x3
    obtain ⟨l1, l2⟩ := ab_sg_at hls
    have hlen : xs.length = ls.length := by
      have := congrArg List.length e1
      simpa using this.symm
    refine ⟨xs, e2, hlen.trans l1, fun i p hp => ?_, ?_⟩
    · obtain ⟨a, a1, a2⟩ := l2 i p hp
      obtain ⟨x, b1, b2⟩ := ab_lc_w (fun k c hk => hR1.2.2.2.1.1.2 k c hk) a2 (List.all_eq_true.mp x1 p (List.mem_of_getElem? hp))
      obtain ⟨x', c1, c2⟩ := ab_map_at e1 a1
      rw [b1] at c1
      cases c1
      exact ⟨x, c2, b2⟩
    · have hm : (ab_gh 0 q.2.1.1 ++ (ls ++ ra)).map (ab_evI z1.1) = (gv.take q.2.1.1 ++ (xs ++ rr)).map some := by
        rw [List.map_append, List.map_append, List.map_append, List.map_append, e1, hra]
        congr 1
        refine ab_gh_map (fun j hj => ?_)
        have h9 := hgh.2 j hj
        have hj2 : j < z1.1.length := Nat.lt_of_lt_of_le hj hgh.1
        refine ⟨z1.1[j], by rw [Nat.zero_add]; exact List.getElem?_eq_getElem hj2, ?_⟩
        rw [← h9]
        exact List.getElem?_eq_getElem hj2
      exact ab_subFx_ok (z := z1) (z' := (gv.take q.2.1.1 ++ (xs ++ rr), z1.2)) ⟨rfl, fun u a hu => ab_map_at hm hu⟩ hR1.2.2.2.1.2 x4
  · cases hx
/-- and with them what the caller knows -/
theorem ab_xput_all {zu zV : ab_Z} {t : State} {ws1 : va_W} {sg raU : List ab_I} {gv rr xs : List Int32} {b : Nat} {q : ab_Q} {cs2 : List ab_C} {f2 kf : List ab_Y} (hw : ab_wR X zu t (cs, kf) ws1) (hp : ab_xput b q.2.1.2.1 cs = some cs2) (hr : ab_rnFs (sg.take q.2.1.1 ++ (ab_gh b q.2.1.2.1.length ++ raU)) q.2.1.2.2.2 = some f2) (hxl : xs.length = q.2.1.2.1.length) (hxs : ∀ (i : Nat) (p : Nat × Nat × Nat), q.2.1.2.1[i]? = some p → ∃ x, xs[i]? = some x ∧ ab_lcw ws1 p x) (hat : ∀ i : Nat, i < xs.length → zu.1[b + i]? = xs[i]?)
    (hfx : ∀ f ∈ q.2.1.2.2.2, ab_fs (gv.take q.2.1.1 ++ (xs ++ rr), zV.2) ws1 f) (hsg : sg.map (ab_evI zu.1) = gv.map some) (hraU : raU.map (ab_evI zu.1) = rr.map some) : ab_wR X zu t (cs2, f2 ++ kf) ws1 ∧ cs2.map ab_flg = cs.map ab_flg := by
  obtain ⟨g1, g2⟩ := ab_xput_ok (X := X) (zu := zu) (t := t) hp hw.1 (fun i p hi => by
    obtain ⟨x, a1, a2⟩ := hxs i p hi
    refine ⟨x, ?_, a2⟩
    rw [hat i (by exact (List.getElem?_eq_some_iff.mp a1).1)]
    exact a1)
  refine ⟨⟨g1, fun f hf => ?_⟩, g2⟩
  rcases List.mem_append.mp hf with hf | hf
  · have hm : (sg.take q.2.1.1 ++ (ab_gh b q.2.1.2.1.length ++ raU)).map (ab_evI zu.1) = (gv.take q.2.1.1 ++ (xs ++ rr)).map some := by
      rw [List.map_append, List.map_append, List.map_append, List.map_append, hraU, List.map_take, hsg, List.map_take]
      congr 2
      rw [ab_gh_map (V := xs) (fun j hj => ?_)]
      · rw [← hxl, List.take_length]
      · have hj2 : j < xs.length := by rw [hxl]; exact hj
        exact ⟨xs[j], by rw [hat j hj2]; exact List.getElem?_eq_getElem hj2, List.getElem?_eq_getElem hj2⟩
    exact ab_rnFs_ok (zV := (gv.take q.2.1.1 ++ (xs ++ rr), zV.2)) (fun u a hu => ab_map_at hm hu) hr hfx f hf
  · exact hw.2 f hf
theorem ab_smO_1 {ty : FieldType} {sg : List ab_I} {kf : List ab_Y} {outs : List ab_O} (h : ab_smO (some ty) M env nl cs sg kf = some outs) : ∃ cs2 f2, ab_xput (env.length + 1) M.2.2.1.2.1.2.1 cs = some cs2 ∧ ab_rnFs (sg.take M.2.2.1.2.1.1 ++ (ab_gh (env.length + 1) M.2.2.1.2.1.2.1.length ++ [(some env.length, 0)])) M.2.2.1.2.1.2.2.2 = some f2 ∧ (1, some (.inl (some env.length, 0)), ((env ++ [(M.2.2.1.2.2.1, M.2.2.1.2.2.2)]) ++ M.2.2.1.2.1.2.2.1, nl, (cs2, f2 ++ kf), 0, 0)) ∈ outs ∧ (M.2.2.2.2 = true → (3, none, (env, nl, (cs, kf), 0, 0)) ∈ outs) := by
  simp only [ab_smO, ab_lenK_eq, Nat.zero_add, ab_appK_eq, ab_fn_eq, ab_smX] at h
  split at h
  · rename_i cs2 h1
    split at h
    · rename_i f2 h2
      rw [ab_catK_eq, ab_catK_eq] at h
      cases h
      refine ⟨cs2, f2, h1, h2, List.mem_cons_self, fun ht => List.mem_cons_of_mem _ ?_⟩
      rw [ht]; exact List.mem_cons_self
    · cases h
  · cases h
theorem ab_smO_2 {sg : List ab_I} {kf : List ab_Y} {outs : List ab_O} (h : ab_smO none M env nl cs sg kf = some outs) : ∃ cs2 f2, ab_xput env.length M.2.2.1.2.1.2.1 cs = some cs2 ∧ ab_rnFs (sg.take M.2.2.1.2.1.1 ++ (ab_gh env.length M.2.2.1.2.1.2.1.length ++ [])) M.2.2.1.2.1.2.2.2 = some f2 ∧ (2, none, (env ++ M.2.2.1.2.1.2.2.1, nl, (cs2, f2 ++ kf), 0, 0)) ∈ outs ∧ (M.2.2.2.2 = true → (3, none, (env, nl, (cs, kf), 0, 0)) ∈ outs) := by
  simp only [ab_smO, ab_lenK_eq, Nat.zero_add, ab_smX] at h
  split at h
  · rename_i cs2 h1
    split at h
    · rename_i f2 h2
      rw [ab_catK_eq, ab_catK_eq] at h
      cases h
      refine ⟨cs2, f2, h1, h2, List.mem_cons_self, fun ht => List.mem_cons_of_mem _ ?_⟩
      rw [ht]; exact List.mem_cons_self
    · cases h
  · cases h
theorem ab_smO_3 {ret : Option FieldType} {sg : List ab_I} {kf : List ab_Y} {outs : List ab_O} (h : ab_smO ret M env nl cs sg kf = some outs) (ht : M.2.2.2.2 = true) : (3, none, (env, nl, (cs, kf), 0, 0)) ∈ outs := by
  cases ret with
  | none => obtain ⟨_, _, -, -, -, h5⟩ := ab_smO_2 h; exact h5 ht
  | some ty => obtain ⟨_, _, -, -, -, h5⟩ := ab_smO_1 h; exact h5 ht
end
set_option maxHeartbeats 1000000 in
theorem ab_meth3 {l : Launch} {X : ab_X} {D : va_G} {d : Nat} {ME : List ab_ME} {y : MethodName} {cc : ByteArray} {own : String} {maxL mc ms : Nat} {ret : Option FieldType} {hh : List (Nat × Nat × Nat × Nat)} {tab : ab_tab} (hyo : y.cls = own) (hy : plainName y.cls = true) (hT : ab_ts l X D d ME y cc own maxL mc ms tab (fun _ _ _ _ _ _ _ _ _ _ _ => False))
    {cal : ab_K} (hcal : ab_cal l X D d ME cal) {fuel : Nat} {M : ab_SM} (hC : ab_smC tab cal fuel ret mc ms 0 M = true) {env : ab_E} {nl : Nat} {aw : ab_H} {as : List ab_V} {outs : List ab_O} (hcs : ab_csum as ≤ maxL) (h : ab_smK ret M env nl aw as = some outs) : ab_ctr l X D (d + 1) (y, cc, maxL, ret, mc, ms, 0, hh, tab) env nl aw as outs := by
  intro z ws vs hin hs
  rw [ab_smC, ab_anyK_eq, ab_mxsK_eq, Bool.and_eq_true, Bool.and_eq_true, Bool.and_eq_true, Bool.and_eq_true, Bool.and_eq_true] at hC
  obtain ⟨⟨⟨⟨⟨hc1, hc2⟩, hc3⟩, hc5⟩, hc6⟩, hc4⟩ := hC
  have hgnl := Nat.le_of_ble_eq_true hc5
  split at hc1
  · rename_i os hos
    unfold ab_smK at h
    rw [ab_sgK_eq] at h
    split at h
    case h_2 => cases h
    rename_i sg0 hsg0
    cases hb : (ab_subS ((env, nl, (ab_refs aw.1 M.2.2.1.1, aw.2), 0, 0), 0, ab_ent 0 as, []) (ab_smT M) (ab_eqLI sg0))
    · rw [hb] at h; cases h
    · rw [hb, cond_true] at h
      split at h
      · rename_i cs hmg
        rw [ab_kfK_eq] at h
        show Met l y (Cond.code y cc maxL ret :: ab_TG) (ab_rm (d + 1) mc ms) (ab_Pr X D aw z ws vs) (ab_Po X D (z, ws, aw.1.map ab_flg) outs ret) mc ms (ab_Ar X)
        refine Met.ofW (cc := cc) (maxL := maxL) (ret := ret) hy rfl ?_
        intro p e s m args below meth c s₁ B hml hv
        obtain ⟨rfl, hE, hw, hP⟩ := hv
        have C : ab_cx p (headSpec (Cond.code y cc maxL ret :: ab_TG) (ab_rm (d + 1) mc ms)).room s m vs.toArray c cc own maxL X D := ⟨B.exec, B.bytes, hml, hyo ▸ findClass_of_methodNamed B.named, fun w hw => atoms_spec (ws := Cond.code y cc maxL ret :: ab_TG) B.pre w (List.mem_cons_of_mem _ hw), hE, by show 16 ≤ 16 * (d + 1); omega, by show 200 ≤ 200 * (d + 1); omega⟩
        have hTv := fun z0 => hT cal hcal p e (headSpec (Cond.code y cc maxL ret :: ab_TG) (ab_rm (d + 1) mc ms)).room s m vs.toArray below meth c (MQ below (ab_Po X D (z, ws, aw.1.map ab_flg) outs ret) vs.toArray s mc ms (ab_Ar X)) z0 C (name_of_methodNamed B.named B.method).1 (Nat.le_refl _) (Nat.le_refl _) (Nat.le_refl _) (Nat.le_refl _)
        have hrf := ab_refs_ok (cs := aw.1) (gs := M.2.2.1.1)
        have hwr : ab_wR X z s (ab_refs aw.1 M.2.2.1.1, aw.2) ws := ⟨⟨by rw [hrf.1]; exact hw.1.1, fun k c' hk => by
          obtain ⟨c0, h1, h2⟩ := hrf.2 k c' hk
          obtain ⟨q, q1, q2⟩ := hw.1.2 k c0 h1
          exact ⟨q, q1, h2 _ _ _ _ q2⟩⟩, hw.2⟩
        refine ab_first2 (env := env) (nl := nl) (ws := ws) hE hs hcs ?_
        intro ls1 hl1
        have hR1 : ab_R X D s (z, ws, (ab_refs aw.1 M.2.2.1.1).map ab_flg) env nl (ab_refs aw.1 M.2.2.1.1, aw.2) z ws s.heap [] := ⟨hin.1, hin.2.1, hin.2.2.1, hwr, hP, hin.2.2.2.1, va_S.rf, hin.2.2.2.2, ab_ext.rf, ⟨[], by simp⟩, ab_fr.rf⟩
        obtain ⟨z', sg, g1, g2, g3, g4, g5, g6, g7, g8, g9⟩ := ab_subS_ok hb hR1 hl1
        have esg := ab_eqLI_eq g5
        subst esg
        have hgn' : M.2.2.1.2.1.1 ≤ z'.1.length := by rw [g1.1.1]; exact hgnl
        obtain ⟨w1, w2⟩ := ab_smH_ok (m := M) hc6 (X := X) (s := s) g1.1
        have hFL : ∃ t, M.2.2.1.1.map ab_flg = (ab_refs aw.1 M.2.2.1.1).map ab_flg ++ t := by
          obtain ⟨t, ht⟩ := g1.2.2.2.2.2.2.2.2.2.1
          refine ⟨t, Eq.trans ?_ ht⟩
          apply List.ext_getElem?
          intro j
          rw [List.getElem?_map, List.getElem?_map]
          cases hj : M.2.2.1.1[j]? with
          | none => rw [List.getElem?_eq_none (by show (ab_smH M).length ≤ j; rw [← w1]; exact List.getElem?_eq_none_iff.mp hj)]
          | some g =>
            obtain ⟨c9, e1, e2⟩ := w2 j g hj
            obtain ⟨q9, e3, e4⟩ := g1.2.2.2.1.1.2 j c9 e1
            have e5 : (ab_smT M).2.2.1.1[j]? = some c9 := e1
            rw [e5]
            simp [(e2 _ e4).2]
        have hFLl : ((ab_refs aw.1 M.2.2.1.1).map ab_flg).length = aw.1.length := by rw [List.length_map, hrf.1]
        have hend : ∀ (zz : ab_Z) (k : Nat) (S : ab_S), ab_ghp M.2.2.1.2.1.1 z'.1 zz.1 → ab_pst (M.2.2.1.1.map ab_any) ret M.2.2.1 mc ms (k, S) = true → (∃ f, ∃ b ∈ tab, (S.2.1, k, f) ∈ b) → ab_ok p l e (headSpec (Cond.code y cc maxL ret :: ab_TG) (ab_rm (d + 1) mc ms)).room s m vs.toArray below meth c (MQ below (ab_Po X D (z, ws, aw.1.map ab_flg) outs ret) vs.toArray s mc ms (ab_Ar X)) maxL X D (zz, ws, (ab_refs aw.1 M.2.2.1.1).map ab_flg) S := by
          intro zz k S hgz hp hf z2 ws2 H2 locs2 ls2 cst2 hR2 hl2 hs2
          have hgh2 : ab_ghp M.2.2.1.2.1.1 z'.1 z2.1 := by
            obtain ⟨⟨t2, ht2⟩, -, -⟩ := hR2.2.2.2.2.2.2.2.2.1
            dsimp only at ht2
            rw [ht2]; exact hgz.ext
          obtain ⟨f, b, hb1, hb2⟩ := hf
          have htv := hTv (zz, ws, (ab_refs aw.1 M.2.2.1.1).map ab_flg) b hb1 _ hb2
          obtain ⟨⟨envS, nlS, awS, cl, sl⟩, pcS, lvS, st⟩ := S
          simp only [ab_pst, Bool.and_eq_true] at hp
          obtain ⟨p1, p3⟩ := hp
          have U := fun (zu : ab_Z) (t : State) (h1 : ab_ext z zu) (h2 : zu.2.2 = z.2.2) (hvm : s.vm.Alike t.vm) => ab_ctxU (M := M) hin hw hmg hFL hFLl hR2 p1 h1 h2 hvm
          dsimp only at hR2 hl2 hs2 htv ⊢
          split at p3
          · split at p3
            · rename_i ty a
              rw [Bool.and_eq_true, Bool.and_eq_true, Bool.and_eq_true, Bool.and_eq_true] at p3
              obtain ⟨⟨⟨⟨p4, p5⟩, p6⟩, p7⟩, p8⟩ := p3
              obtain ⟨x, r, rfl, e1, e2⟩ := ab_st1 hs2
              cases r with
              | cons _ _ => simp at e2
              | nil =>
                obtain ⟨yy, rfl, e3⟩ := ab_evi e1
                have hi := ab_iv_spec hR2.1 e3
                rw [ab_ivK_eq, Bool.and_eq_true, ab_le_iff, ab_le_iff] at p5
                have hd : decode cc pcS = .ok (.ireturn, 1) := htv
                refine W.widen (Nat.le_of_ble_eq_true p6) (Nat.le_of_ble_eq_true p7) ?_
                refine W.zret C.1 C.2.1 B.returns (ab_fit_ok hR2.1 p4 e1).1 (fun t ht hW => ?_) hR2.2.2.2.2.2.2.1.2.2 hd B.notSynchronized
                obtain ⟨xs, x1, x2, x3, x4⟩ := ab_xok_ok (S := ((envS, nlS, awS, cl, sl), pcS, lvS, [.inl a])) (q := M.2.2.1) (rr := [yy]) hR2 hgh2 p8 (by simp [e3])
                obtain ⟨cs2, f2, o1, o2, o3, -⟩ := ab_smO_1 h
                obtain ⟨u1, u2, u3⟩ := U ((z.1 ++ [yy]) ++ xs, z.2) t (ab_ext_v.tr (ab_ext_v (z := (z.1 ++ [yy], z.2)))) rfl hW.alike
                have hzl : z.1.length = env.length := hin.1.1
                have hev : ab_evI ((z.1 ++ [yy]) ++ xs) (some env.length, 0) = some yy := by
                  simp only [ab_evI]
                  rw [List.append_assoc, List.getElem?_append_right (by rw [hzl]; exact Nat.le_refl _), hzl, Nat.sub_self]
                  simp
                obtain ⟨y1, y2⟩ := ab_xput_all (sg := sg0) (gv := z'.1) (rr := [yy]) (xs := xs) (zV := z2) (q := M.2.2.1) u3 o1 o2 x2 x3 (fun i hi => by
                  show ((z.1 ++ [yy]) ++ xs)[env.length + 1 + i]? = xs[i]?
                  rw [List.getElem?_append_right (by simp [hzl])]
                  congr 1
                  simp [hzl]) x4 (by
                  exact ab_evIs.ext (z := z) (z' := ((z.1 ++ [yy]) ++ xs, z.2)) (ab_ext_v.tr (ab_ext_v (z := (z.1 ++ [yy], z.2)))) g3) (by simp only [List.map_cons, List.map_nil]; exact congrArg (fun q => [q]) hev)
                refine ⟨⟨yy, ((1, some (.inl (some env.length, 0)), ((env ++ [(M.2.2.1.2.2.1, M.2.2.1.2.2.2)]) ++ M.2.2.1.2.1.2.2.1, nl, (cs2, f2 ++ aw.2.filter (fun f => ab_kfn M.2.2.1.1 (ab_nc f.1) f.2)), 0, 0)), ((z.1 ++ [yy]) ++ xs, z.2), ws2), rfl, ⟨⟨o3, rfl, ⟨u2.1, ?_, u2.2.2⟩, (hin.1.push (by dsimp only at *; omega) (by dsimp only at *; omega)).app x1, hin.2.1, u1, hR2.2.2.2.2.2.1, trivial⟩, _, rfl, ab_evc (z := ((z.1 ++ [yy]) ++ xs, z.2)) hev⟩, y1, by rw [ht]; exact hR2.2.2.2.2.1⟩, hR2.2.2.2.2.2.2.1.F ht⟩
                obtain ⟨tt, htt⟩ := u2.2.1
                exact ⟨tt, by dsimp only at htt ⊢; rw [y2]; exact htt⟩
            · cases p3
          · split at p3
            · rw [Bool.and_eq_true, Bool.and_eq_true] at p3
              obtain ⟨⟨p6, p7⟩, p8⟩ := p3
              cases cst2 with
              | cons _ _ => simp at hs2
              | nil =>
                have hd : decode cc pcS = .ok (.return_, 1) := htv
                refine W.widen (Nat.le_of_ble_eq_true p6) (Nat.le_of_ble_eq_true p7) ?_
                refine W.vret C.1 C.2.1 B.returns (fun t ht hW => ?_) hR2.2.2.2.2.2.2.1.2.2 hd B.notSynchronized
                obtain ⟨xs, x1, x2, x3, x4⟩ := ab_xok_ok (S := ((envS, nlS, awS, cl, sl), pcS, lvS, [])) (q := M.2.2.1) (rr := []) hR2 hgh2 p8 rfl
                obtain ⟨cs2, f2, o1, o2, o3, -⟩ := ab_smO_2 h
                obtain ⟨u1, u2, u3⟩ := U (z.1 ++ xs, z.2) t ab_ext_v rfl hW.alike
                have hzl : z.1.length = env.length := hin.1.1
                obtain ⟨y1, y2⟩ := ab_xput_all (sg := sg0) (gv := z'.1) (rr := []) (xs := xs) (zV := z2) (q := M.2.2.1) u3 o1 o2 x2 x3 (fun i hi => by
                  show (z.1 ++ xs)[env.length + i]? = xs[i]?
                  rw [List.getElem?_append_right (by rw [hzl]; omega)]
                  congr 1
                  rw [hzl]; omega) x4 (by
                  exact ab_evIs.ext (z := z) (z' := (z.1 ++ xs, z.2)) ab_ext_v g3) rfl
                refine ⟨⟨((2, none, (env ++ M.2.2.1.2.1.2.2.1, nl, (cs2, f2 ++ aw.2.filter (fun f => ab_kfn M.2.2.1.1 (ab_nc f.1) f.2)), 0, 0)), (z.1 ++ xs, z.2), ws2), rfl, ⟨o3, rfl, ⟨u2.1, ?_, u2.2.2⟩, hin.1.app x1, hin.2.1, u1, hR2.2.2.2.2.2.1, trivial⟩, y1, by rw [ht]; exact hR2.2.2.2.2.1⟩, hR2.2.2.2.2.2.2.1.F ht⟩
                obtain ⟨tt, htt⟩ := u2.2.1
                exact ⟨tt, by dsimp only at htt ⊢; rw [y2]; exact htt⟩
            · cases p3
          · split at p3
            · exact False.elim htv
            · cases p3
          · cases p3
        have hGl : z'.2.2.length = M.2.2.1.1.length := by rw [w1]; exact g1.num
        have hbs : ab_bas X s z'.2.2 M.2.2.1.1 (ws, (ab_refs aw.1 M.2.2.1.1).map ab_flg) := ⟨hFL, by dsimp only; rw [hFLl]; exact (ab_mgs_at hmg).2.1.symm, fun k g hk hg => ⟨List.all_eq_true.mp hc3 g (List.mem_of_getElem? hk), by
          obtain ⟨c9, e1, e2⟩ := w2 k g hk
          obtain ⟨q, q1, q2⟩ := g1.2.2.2.1.1.2 k c9 e1
          exact ⟨q, z', q1, rfl, (e2 _ q2).1⟩⟩⟩
        have hag : ∀ T ∈ M.2.2.2.1.map (ab_mxT (M.2.2.1.1.map ab_any) M.2.2.1.1), ∀ (j : Nat) (g : ab_C), M.2.2.1.1[j]? = some g → ab_any g = false → T.2.2.1.1[j]? = some g := by
          intro T hT j g hj hg
          obtain ⟨T0, -, rfl⟩ := List.mem_map.mp hT
          exact ab_mix_at j g hj (by rw [List.getElem?_map, hj]; simp [hg])
        have hloop := ab_loop (fuel := fuel) (gv := z'.1) (cuts := M.2.2.2.1.map (ab_mxT (M.2.2.1.1.map ab_any) M.2.2.1.1)) hbs hGl hag hTv hend (ab_ckA_ok hc2)
        exact ab_run_ok (hTv (z', ws, (ab_refs aw.1 M.2.2.1.1).map ab_flg)) hos (ab_outs_ok (z := z') (n := 0) (gv := z'.1) hbs hGl hag rfl ⟨hgn', fun j _ => rfl⟩ hend hc1 (fun T hT => hloop 0 T hT) (fun m9 e9 => by cases e9) (fun _ T hT k => hloop k T hT)) (ab_smS M) List.mem_cons_self z' ws s.heap [] ls1 [] g1 g2 rfl
      · cases h
  · cases hc1
set_option maxHeartbeats 1000000 in
theorem ab_meth4 {l : Launch} (hst : l.stackTraces = false) {X : ab_X} {D : va_G} {d : Nat} {ME : List ab_ME} {y : MethodName} {cc : ByteArray} {maxL mc ms : Nat} {ret : Option FieldType} {hh : List (Nat × Nat × Nat × Nat)} {tab : ab_tab} (hyo : y.cls = "SundialTreaty") (hy : plainName y.cls = true) (hT : ab_ts l X D d ME y cc "SundialTreaty" maxL mc ms tab (fun _ _ _ _ _ _ _ _ _ _ pc => ab_thr cc pc))
    {cal : ab_K} (hcal : ab_cal l X D d ME cal) {fuel : Nat} {M : ab_SM} (hC : ab_smC tab cal fuel ret mc ms 1 M = true) {env : ab_E} {nl : Nat} {aw : ab_H} {as : List ab_V} {outs : List ab_O} (hcs : ab_csum as ≤ maxL) (h : ab_smK ret M env nl aw as = some outs) : ab_ctr l X D (d + 1) (y, cc, maxL, ret, mc, ms, 1, hh, tab) env nl aw as outs := by
  intro z ws vs hin hs
  rw [ab_smC, ab_anyK_eq, ab_mxsK_eq, Bool.and_eq_true, Bool.and_eq_true, Bool.and_eq_true, Bool.and_eq_true, Bool.and_eq_true] at hC
  obtain ⟨⟨⟨⟨⟨hc1, hc2⟩, hc3⟩, hc5⟩, hc6⟩, hc4⟩ := hC
  have hgnl := Nat.le_of_ble_eq_true hc5
  split at hc1
  · rename_i os hos
    unfold ab_smK at h
    rw [ab_sgK_eq] at h
    split at h
    case h_2 => cases h
    rename_i sg0 hsg0
    cases hb : (ab_subS ((env, nl, (ab_refs aw.1 M.2.2.1.1, aw.2), 0, 0), 0, ab_ent 0 as, []) (ab_smT M) (ab_eqLI sg0))
    · rw [hb] at h; cases h
    · rw [hb, cond_true] at h
      split at h
      · rename_i cs hmg
        rw [ab_kfK_eq] at h
        show vx_Met l y (Cond.code y cc maxL ret :: ab_TG) (ab_rm (d + 1) mc ms) (ab_Pr X D aw z ws vs) (ab_Po X D (z, ws, aw.1.map ab_flg) outs ret) (ab_Xo X D (z, ws, aw.1.map ab_flg) outs) mc ms (ab_Ar X)
        refine vx_ofW (cc := cc) (maxL := maxL) (ret := ret) hy rfl ?_
        intro p e s m args below meth c s₁ B hml hout hv
        obtain ⟨rfl, hE, hw, hP⟩ := hv
        have C : ab_cx p (headSpec (Cond.code y cc maxL ret :: ab_TG) (ab_rm (d + 1) mc ms)).room s m vs.toArray c cc "SundialTreaty" maxL X D := ⟨B.exec, B.bytes, hml, hyo ▸ findClass_of_methodNamed B.named, fun w hw => atoms_spec (ws := Cond.code y cc maxL ret :: ab_TG) B.pre w (List.mem_cons_of_mem _ hw), hE, by show 16 ≤ 16 * (d + 1); omega, by show 200 ≤ 200 * (d + 1); omega⟩
        have hTv := fun z0 => hT cal hcal p e (headSpec (Cond.code y cc maxL ret :: ab_TG) (ab_rm (d + 1) mc ms)).room s m vs.toArray below meth c (vx_MQ below (ab_Po X D (z, ws, aw.1.map ab_flg) outs ret) (ab_Xo X D (z, ws, aw.1.map ab_flg) outs) vs.toArray s mc ms (ab_Ar X)) z0 C (name_of_methodNamed B.named B.method).1 (Nat.le_refl _) (Nat.le_refl _) (Nat.le_refl _) (Nat.le_refl _)
        have hrf := ab_refs_ok (cs := aw.1) (gs := M.2.2.1.1)
        have hwr : ab_wR X z s (ab_refs aw.1 M.2.2.1.1, aw.2) ws := ⟨⟨by rw [hrf.1]; exact hw.1.1, fun k c' hk => by
          obtain ⟨c0, h1, h2⟩ := hrf.2 k c' hk
          obtain ⟨q, q1, q2⟩ := hw.1.2 k c0 h1
          exact ⟨q, q1, h2 _ _ _ _ q2⟩⟩, hw.2⟩
        refine ab_first2 (env := env) (nl := nl) (ws := ws) hE hs hcs ?_
        intro ls1 hl1
        have hR1 : ab_R X D s (z, ws, (ab_refs aw.1 M.2.2.1.1).map ab_flg) env nl (ab_refs aw.1 M.2.2.1.1, aw.2) z ws s.heap [] := ⟨hin.1, hin.2.1, hin.2.2.1, hwr, hP, hin.2.2.2.1, va_S.rf, hin.2.2.2.2, ab_ext.rf, ⟨[], by simp⟩, ab_fr.rf⟩
        obtain ⟨z', sg, g1, g2, g3, g4, g5, g6, g7, g8, g9⟩ := ab_subS_ok hb hR1 hl1
        have esg := ab_eqLI_eq g5
        subst esg
        have hgn' : M.2.2.1.2.1.1 ≤ z'.1.length := by rw [g1.1.1]; exact hgnl
        obtain ⟨w1, w2⟩ := ab_smH_ok (m := M) hc6 (X := X) (s := s) g1.1
        have hFL : ∃ t, M.2.2.1.1.map ab_flg = (ab_refs aw.1 M.2.2.1.1).map ab_flg ++ t := by
          obtain ⟨t, ht⟩ := g1.2.2.2.2.2.2.2.2.2.1
          refine ⟨t, Eq.trans ?_ ht⟩
          apply List.ext_getElem?
          intro j
          rw [List.getElem?_map, List.getElem?_map]
          cases hj : M.2.2.1.1[j]? with
          | none => rw [List.getElem?_eq_none (by show (ab_smH M).length ≤ j; rw [← w1]; exact List.getElem?_eq_none_iff.mp hj)]
          | some g =>
            obtain ⟨c9, e1, e2⟩ := w2 j g hj
            obtain ⟨q9, e3, e4⟩ := g1.2.2.2.1.1.2 j c9 e1
            have e5 : (ab_smT M).2.2.1.1[j]? = some c9 := e1
            rw [e5]
            simp [(e2 _ e4).2]
        have hFLl : ((ab_refs aw.1 M.2.2.1.1).map ab_flg).length = aw.1.length := by rw [List.length_map, hrf.1]
        have hend : ∀ (zz : ab_Z) (k : Nat) (S : ab_S), ab_ghp M.2.2.1.2.1.1 z'.1 zz.1 → ab_pst (M.2.2.1.1.map ab_any) ret M.2.2.1 mc ms (k, S) = true → (∃ f, ∃ b ∈ tab, (S.2.1, k, f) ∈ b) → ab_ok p l e (headSpec (Cond.code y cc maxL ret :: ab_TG) (ab_rm (d + 1) mc ms)).room s m vs.toArray below meth c (vx_MQ below (ab_Po X D (z, ws, aw.1.map ab_flg) outs ret) (ab_Xo X D (z, ws, aw.1.map ab_flg) outs) vs.toArray s mc ms (ab_Ar X)) maxL X D (zz, ws, (ab_refs aw.1 M.2.2.1.1).map ab_flg) S := by
          intro zz k S hgz hp hf z2 ws2 H2 locs2 ls2 cst2 hR2 hl2 hs2
          have hgh2 : ab_ghp M.2.2.1.2.1.1 z'.1 z2.1 := by
            obtain ⟨⟨t2, ht2⟩, -, -⟩ := hR2.2.2.2.2.2.2.2.2.1
            dsimp only at ht2
            rw [ht2]; exact hgz.ext
          obtain ⟨f, b, hb1, hb2⟩ := hf
          have htv := hTv (zz, ws, (ab_refs aw.1 M.2.2.1.1).map ab_flg) b hb1 _ hb2
          obtain ⟨⟨envS, nlS, awS, cl, sl⟩, pcS, lvS, st⟩ := S
          simp only [ab_pst, Bool.and_eq_true] at hp
          obtain ⟨p1, p3⟩ := hp
          have U := fun (zu : ab_Z) (t : State) (h1 : ab_ext z zu) (h2 : zu.2.2 = z.2.2) (hvm : s.vm.Alike t.vm) => ab_ctxU (M := M) hin hw hmg hFL hFLl hR2 p1 h1 h2 hvm
          dsimp only at hR2 hl2 hs2 htv ⊢
          split at p3
          · split at p3
            · rename_i ty a
              rw [Bool.and_eq_true, Bool.and_eq_true, Bool.and_eq_true, Bool.and_eq_true] at p3
              obtain ⟨⟨⟨⟨p4, p5⟩, p6⟩, p7⟩, p8⟩ := p3
              obtain ⟨x, r, rfl, e1, e2⟩ := ab_st1 hs2
              cases r with
              | cons _ _ => simp at e2
              | nil =>
                obtain ⟨yy, rfl, e3⟩ := ab_evi e1
                have hi := ab_iv_spec hR2.1 e3
                rw [ab_ivK_eq, Bool.and_eq_true, ab_le_iff, ab_le_iff] at p5
                have hd : decode cc pcS = .ok (.ireturn, 1) := htv
                refine vx_ret (W.widen (Nat.le_of_ble_eq_true p6) (Nat.le_of_ble_eq_true p7) ?_)
                refine W.zret C.1 C.2.1 B.returns (ab_fit_ok hR2.1 p4 e1).1 (fun t ht hW => ?_) hR2.2.2.2.2.2.2.1.2.2 hd B.notSynchronized
                obtain ⟨xs, x1, x2, x3, x4⟩ := ab_xok_ok (S := ((envS, nlS, awS, cl, sl), pcS, lvS, [.inl a])) (q := M.2.2.1) (rr := [yy]) hR2 hgh2 p8 (by simp [e3])
                obtain ⟨cs2, f2, o1, o2, o3, -⟩ := ab_smO_1 h
                obtain ⟨u1, u2, u3⟩ := U ((z.1 ++ [yy]) ++ xs, z.2) t (ab_ext_v.tr (ab_ext_v (z := (z.1 ++ [yy], z.2)))) rfl hW.alike
                have hzl : z.1.length = env.length := hin.1.1
                have hev : ab_evI ((z.1 ++ [yy]) ++ xs) (some env.length, 0) = some yy := by
                  simp only [ab_evI]
                  rw [List.append_assoc, List.getElem?_append_right (by rw [hzl]; exact Nat.le_refl _), hzl, Nat.sub_self]
                  simp
                obtain ⟨y1, y2⟩ := ab_xput_all (sg := sg0) (gv := z'.1) (rr := [yy]) (xs := xs) (zV := z2) (q := M.2.2.1) u3 o1 o2 x2 x3 (fun i hi => by
                  show ((z.1 ++ [yy]) ++ xs)[env.length + 1 + i]? = xs[i]?
                  rw [List.getElem?_append_right (by simp [hzl])]
                  congr 1
                  simp [hzl]) x4 (by
                  exact ab_evIs.ext (z := z) (z' := ((z.1 ++ [yy]) ++ xs, z.2)) (ab_ext_v.tr (ab_ext_v (z := (z.1 ++ [yy], z.2)))) g3) (by simp only [List.map_cons, List.map_nil]; exact congrArg (fun q => [q]) hev)
                refine ⟨⟨yy, ((1, some (.inl (some env.length, 0)), ((env ++ [(M.2.2.1.2.2.1, M.2.2.1.2.2.2)]) ++ M.2.2.1.2.1.2.2.1, nl, (cs2, f2 ++ aw.2.filter (fun f => ab_kfn M.2.2.1.1 (ab_nc f.1) f.2)), 0, 0)), ((z.1 ++ [yy]) ++ xs, z.2), ws2), rfl, ⟨⟨o3, rfl, ⟨u2.1, ?_, u2.2.2⟩, (hin.1.push (by dsimp only at *; omega) (by dsimp only at *; omega)).app x1, hin.2.1, u1, hR2.2.2.2.2.2.1, trivial⟩, _, rfl, ab_evc (z := ((z.1 ++ [yy]) ++ xs, z.2)) hev⟩, y1, by rw [ht]; exact hR2.2.2.2.2.1⟩, hR2.2.2.2.2.2.2.1.F ht⟩
                obtain ⟨tt, htt⟩ := u2.2.1
                exact ⟨tt, by dsimp only at htt ⊢; rw [y2]; exact htt⟩
            · cases p3
          · split at p3
            · rw [Bool.and_eq_true, Bool.and_eq_true] at p3
              obtain ⟨⟨p6, p7⟩, p8⟩ := p3
              cases cst2 with
              | cons _ _ => simp at hs2
              | nil =>
                have hd : decode cc pcS = .ok (.return_, 1) := htv
                refine vx_ret (W.widen (Nat.le_of_ble_eq_true p6) (Nat.le_of_ble_eq_true p7) ?_)
                refine W.vret C.1 C.2.1 B.returns (fun t ht hW => ?_) hR2.2.2.2.2.2.2.1.2.2 hd B.notSynchronized
                obtain ⟨xs, x1, x2, x3, x4⟩ := ab_xok_ok (S := ((envS, nlS, awS, cl, sl), pcS, lvS, [])) (q := M.2.2.1) (rr := []) hR2 hgh2 p8 rfl
                obtain ⟨cs2, f2, o1, o2, o3, -⟩ := ab_smO_2 h
                obtain ⟨u1, u2, u3⟩ := U (z.1 ++ xs, z.2) t ab_ext_v rfl hW.alike
                have hzl : z.1.length = env.length := hin.1.1
                obtain ⟨y1, y2⟩ := ab_xput_all (sg := sg0) (gv := z'.1) (rr := []) (xs := xs) (zV := z2) (q := M.2.2.1) u3 o1 o2 x2 x3 (fun i hi => by
                  show (z.1 ++ xs)[env.length + i]? = xs[i]?
                  rw [List.getElem?_append_right (by rw [hzl]; omega)]
                  congr 1
                  rw [hzl]; omega) x4 (by
                  exact ab_evIs.ext (z := z) (z' := (z.1 ++ xs, z.2)) ab_ext_v g3) rfl
                refine ⟨⟨((2, none, (env ++ M.2.2.1.2.1.2.2.1, nl, (cs2, f2 ++ aw.2.filter (fun f => ab_kfn M.2.2.1.1 (ab_nc f.1) f.2)), 0, 0)), (z.1 ++ xs, z.2), ws2), rfl, ⟨o3, rfl, ⟨u2.1, ?_, u2.2.2⟩, hin.1.app x1, hin.2.1, u1, hR2.2.2.2.2.2.1, trivial⟩, y1, by rw [ht]; exact hR2.2.2.2.2.1⟩, hR2.2.2.2.2.2.2.1.F ht⟩
                obtain ⟨tt, htt⟩ := u2.2.1
                exact ⟨tt, by dsimp only at htt ⊢; rw [y2]; exact htt⟩
            · cases p3
          · split at p3
            · rw [Bool.and_eq_true] at p3
              cases cst2 with
              | cons _ _ => simp at hs2
              | nil =>
                have hthr : M.2.2.2.2 = true := by simpa using hc4
                refine ab_stopG (own := "SundialTreaty") C hst rfl hout B.notSynchronized (Nat.le_refl _) (Nat.le_refl _) htv (Nat.le_of_ble_eq_true p3.1) (Nat.le_of_ble_eq_true p3.2) hR2.2.2.2.2.2.2.1 hl2.1 (fun t ha hz hq => ?_)
                obtain ⟨u1, u2, u3⟩ := U z t ab_ext.rf rfl ha
                refine ⟨((3, none, (env, nl, (cs, aw.2.filter (fun f => ab_kfn M.2.2.1.1 (ab_nc f.1) f.2)), 0, 0)), z, ws2), ⟨ab_smO_3 h hthr, rfl, u2, hin.1, hin.2.1, u1, hR2.2.2.2.2.2.1, trivial⟩, ⟨rfl, u3, hR2.2.2.2.2.1.kept (fun k q hk => hq _ (vx_lt hR2.2.2.2.2.1 hk))⟩, Nat.le_trans hR2.2.2.2.2.2.2.1.1 hz, fun q h1 h2 => ?_⟩
                rw [hq q (Nat.lt_of_lt_of_le h1 hR2.2.2.2.2.2.2.1.1)]
                exact hR2.2.2.2.2.2.2.1.2.1 q h1 h2
            · cases p3
          · cases p3
        have hGl : z'.2.2.length = M.2.2.1.1.length := by rw [w1]; exact g1.num
        have hbs : ab_bas X s z'.2.2 M.2.2.1.1 (ws, (ab_refs aw.1 M.2.2.1.1).map ab_flg) := ⟨hFL, by dsimp only; rw [hFLl]; exact (ab_mgs_at hmg).2.1.symm, fun k g hk hg => ⟨List.all_eq_true.mp hc3 g (List.mem_of_getElem? hk), by
          obtain ⟨c9, e1, e2⟩ := w2 k g hk
          obtain ⟨q, q1, q2⟩ := g1.2.2.2.1.1.2 k c9 e1
          exact ⟨q, z', q1, rfl, (e2 _ q2).1⟩⟩⟩
        have hag : ∀ T ∈ M.2.2.2.1.map (ab_mxT (M.2.2.1.1.map ab_any) M.2.2.1.1), ∀ (j : Nat) (g : ab_C), M.2.2.1.1[j]? = some g → ab_any g = false → T.2.2.1.1[j]? = some g := by
          intro T hT j g hj hg
          obtain ⟨T0, -, rfl⟩ := List.mem_map.mp hT
          exact ab_mix_at j g hj (by rw [List.getElem?_map, hj]; simp [hg])
        have hloop := ab_loop (fuel := fuel) (gv := z'.1) (cuts := M.2.2.2.1.map (ab_mxT (M.2.2.1.1.map ab_any) M.2.2.1.1)) hbs hGl hag hTv hend (ab_ckA_ok hc2)
        exact ab_run_ok (hTv (z', ws, (ab_refs aw.1 M.2.2.1.1).map ab_flg)) hos (ab_outs_ok (z := z') (n := 0) (gv := z'.1) hbs hGl hag rfl ⟨hgn', fun j _ => rfl⟩ hend hc1 (fun T hT => hloop 0 T hT) (fun m9 e9 => by cases e9) (fun _ T hT k => hloop k T hT)) (ab_smS M) List.mem_cons_self z' ws s.heap [] ls1 [] g1 g2 rfl
      · cases h
  · cases hc1
