/-! What may not be written stays: only the other cells are compared. -/
noncomputable def ab_any (c : ab_C) : Bool := match c with
  | .inl o => o.2.any Prod.fst
  | .inr a => a.2.2.1
noncomputable def ab_anyK {β : Type} (l : List ab_C) (k : List Bool → β) : β := List.rec (motive := fun _ => (List Bool → β) → β) (fun k => k []) (fun c _ ih k => match ab_any c with
  | true => ih (fun t => k (true :: t))
  | false => ih (fun t => k (false :: t))) l k
theorem ab_anyK_eq {β : Type} : ∀ (l : List ab_C) (k : List Bool → β), ab_anyK l k = k (l.map ab_any)
  | [], k => rfl
  | c :: r, k => by
    have h : ab_anyK (c :: r) k = (match ab_any c with
      | true => ab_anyK r (fun t => k (true :: t))
      | false => ab_anyK r (fun t => k (false :: t))) := rfl
    rw [h]
    cases hc : ab_any c
    · simp only [List.map_cons, hc]; exact ab_anyK_eq r _
    · simp only [List.map_cons, hc]; exact ab_anyK_eq r _
noncomputable def ab_subCf (env : ab_E) (sg : List ab_I) (l : List Bool) : List ab_C → List ab_C → Bool := List.rec (motive := fun _ => List ab_C → List ab_C → Bool) (fun cs ct => match cs, ct with
  | [], [] => true
  | _, _ => false) (fun b _ ih cs ct => match cs, ct with
  | c :: cs, c' :: ct => (bif b then ab_subC env sg c c' else true) && ih cs ct
  | _, _ => false) l
theorem ab_subCf_ok {env : ab_E} {sg : List ab_I} : ∀ {l : List Bool} {cs ct : List ab_C}, ab_subCf env sg l cs ct = true → cs.length = l.length ∧ ct.length = l.length ∧ ∀ (k : Nat) (c' : ab_C), ct[k]? = some c' → l[k]? = some true → ∃ c, cs[k]? = some c ∧ ab_subC env sg c c' = true
  | [], [], [], _ => ⟨rfl, rfl, fun k c' h => by simp at h⟩
  | [], [], _ :: _, h => (Bool.noConfusion (show false = true from h))
  | [], _ :: _, [], h => (Bool.noConfusion (show false = true from h))
  | [], _ :: _, _ :: _, h => (Bool.noConfusion (show false = true from h))
  | b :: l, [], [], h => (Bool.noConfusion (show false = true from h))
  | b :: l, [], _ :: _, h => (Bool.noConfusion (show false = true from h))
  | b :: l, _ :: _, [], h => (Bool.noConfusion (show false = true from h))
  | b :: l, c :: cs, c' :: ct, h => by
    have h0 : ((bif b then ab_subC env sg c c' else true) && ab_subCf env sg l cs ct) = true := h
    rw [Bool.and_eq_true] at h0
    obtain ⟨i1, i2, i3⟩ := ab_subCf_ok h0.2
    refine ⟨by simp [i1], by simp [i2], fun k d hd hk => ?_⟩
    cases k with
    | zero =>
      simp only [List.getElem?_cons_zero, Option.some.injEq] at hd hk
      subst hd hk
      exact ⟨c, rfl, h0.1⟩
    | succ k => simpa using i3 k d (by simpa using hd) (by simpa using hk)
/-- a template tells only the cells that may be written, in their order -/
noncomputable def ab_mixK {β : Type} (l : List Bool) : List ab_C → List ab_C → (List ab_C → β) → β := List.rec (motive := fun _ => List ab_C → List ab_C → (List ab_C → β) → β) (fun _ _ k => k []) (fun b _ ih G tl k => match G with
  | [] => k []
  | g :: G => (match b with
    | true => (match tl with
      | t :: tl => ih G tl (fun r => k (t :: r))
      | [] => ih G [] (fun r => k (g :: r)))
    | false => ih G tl (fun r => k (g :: r)))) l
noncomputable def ab_mix (l : List Bool) (G tl : List ab_C) : List ab_C := ab_mixK l G tl (fun r => r)
theorem ab_mixK_eq {β : Type} : ∀ (l : List Bool) (G tl : List ab_C) (k : List ab_C → β), ab_mixK l G tl k = k (ab_mix l G tl)
  | [], G, tl, k => rfl
  | b :: l, [], tl, k => rfl
  | true :: l, g :: G, t :: tl, k => by
    have h : ∀ {γ : Type} (k : List ab_C → γ), ab_mixK (true :: l) (g :: G) (t :: tl) k = ab_mixK l G tl (fun r => k (t :: r)) := fun _ => rfl
    rw [ab_mix, h, h, ab_mixK_eq l G tl, ab_mixK_eq l G tl]
  | true :: l, g :: G, [], k => by
    have h : ∀ {γ : Type} (k : List ab_C → γ), ab_mixK (true :: l) (g :: G) [] k = ab_mixK l G [] (fun r => k (g :: r)) := fun _ => rfl
    rw [ab_mix, h, h, ab_mixK_eq l G [], ab_mixK_eq l G []]
  | false :: l, g :: G, tl, k => by
    have h : ∀ {γ : Type} (k : List ab_C → γ), ab_mixK (false :: l) (g :: G) tl k = ab_mixK l G tl (fun r => k (g :: r)) := fun _ => rfl
    rw [ab_mix, h, h, ab_mixK_eq l G tl, ab_mixK_eq l G tl]
theorem ab_mix_at : ∀ {l : List Bool} {G tl : List ab_C}, ∀ (k : Nat) (g : ab_C), G[k]? = some g → l[k]? = some false → (ab_mix l G tl)[k]? = some g
  | [], G, tl, k, g, _, h => by simp at h
  | b :: l, [], tl, k, g, h, _ => by simp at h
  | true :: l, g0 :: G, t :: tl, k, g, h, hk => by
    have e : ab_mix (true :: l) (g0 :: G) (t :: tl) = t :: ab_mix l G tl := by
      have h : ab_mix (true :: l) (g0 :: G) (t :: tl) = ab_mixK l G tl (fun r => t :: r) := rfl
      rw [h, ab_mixK_eq]
    rw [e]
    cases k with
    | zero => simp at hk
    | succ k => simpa using ab_mix_at (tl := tl) k g (by simpa using h) (by simpa using hk)
  | true :: l, g0 :: G, [], k, g, h, hk => by
    have e : ab_mix (true :: l) (g0 :: G) [] = g0 :: ab_mix l G [] := by
      have h : ab_mix (true :: l) (g0 :: G) [] = ab_mixK l G [] (fun r => g0 :: r) := rfl
      rw [h, ab_mixK_eq]
    rw [e]
    cases k with
    | zero => simp at hk
    | succ k => simpa using ab_mix_at (tl := []) k g (by simpa using h) (by simpa using hk)
  | false :: l, g0 :: G, tl, k, g, h, hk => by
    have e : ab_mix (false :: l) (g0 :: G) tl = g0 :: ab_mix l G tl := by
      have h : ab_mix (false :: l) (g0 :: G) tl = ab_mixK l G tl (fun r => g0 :: r) := rfl
      rw [h, ab_mixK_eq]
    rw [e]
    cases k with
    | zero => simpa using h
    | succ k => simpa using ab_mix_at (tl := tl) k g (by simpa using h) (by simpa using hk)
/-- no variable stands in a cell -/
noncomputable def ab_nvC (c : ab_C) : Bool := match c with
  | .inl o => o.2.all (fun f => ab_eqw f.2 f.2)
  | .inr a => ab_eqw a.2.2.2.1 a.2.2.2.1 && ab_eqo a.2.2.2.2 a.2.2.2.2
theorem ab_nvC_ok {X : ab_X} {z z' : ab_Z} (hz : z'.2.2 = z.2.2) {s : State} {c : ab_C} {e : va_E} (h : ab_nvC c = true) (hc : ab_cR X z s c e) : ab_cR X z' s c e := by
  rcases c with o | a
  · obtain ⟨vs, rfl, h2, h3⟩ := hc
    refine ⟨vs, rfl, h2, fun j f v hf hv => ?_⟩
    exact ab_eqw_ok hz (List.all_eq_true.mp h f (List.mem_of_getElem? hf)) (h3 j f v hf hv)
  · obtain ⟨cA, x, rfl, h2, h3, h4⟩ := hc
    simp only [ab_nvC, Bool.and_eq_true] at h
    exact ⟨cA, x, rfl, h2, h3, fun j hj => ab_eqo_ok hz h.1 h.2 (h4 j hj)⟩
theorem ab_flg_all {c : ab_C} (h : ab_any c = false) : ∀ b ∈ ab_flg c, b = false := by
  rcases c with o | a
  · intro b hb
    simp only [ab_flg, List.mem_map] at hb
    obtain ⟨f, hf, rfl⟩ := hb
    have := List.any_eq_false.mp (show o.2.any Prod.fst = false from h) f hf
    cases hq : f.1
    · rfl
    · rw [hq] at this; exact absurd rfl this
  · intro b hb
    rw [ab_flg_f (a := a) h, List.mem_singleton] at hb
    exact hb
/-- a cell that may not be written is the same -/
theorem ab_frz {X : ab_X} {z zb : ab_Z} {s s' : State} {c g : ab_C} {e e0 : va_E} (hg : ab_any g = false) (hc0 : ab_cR X zb s' g e0) (hc : ab_cR X z s c e) (hfl : ab_flg c = ab_flg g) (hf : ab_fC (ab_flg g) e e0) : e = e0 := by
  have hall := ab_flg_all hg
  rcases g with o | a
  · obtain ⟨vs0, rfl, g2, -⟩ := hc0
    obtain ⟨vs, rfl, h2⟩ := hf
    rcases c with oc | ac
    · obtain ⟨vs1, e1, g4, -⟩ := hc
      simp only [Sum.inr.injEq, Prod.mk.injEq] at e1
      obtain ⟨-, rfl⟩ := e1
      have hlen : vs.length = vs0.length := by
        have := congrArg List.length hfl
        simp only [ab_flg, List.length_map] at this
        rw [← g4, ← g2, this]
      have : vs = vs0 := by
        apply List.ext_getElem?
        intro j
        by_cases hj : j < o.2.length
        · have hj2 : j < (o.2.map Prod.fst).length := by simpa using hj
          refine h2 j ?_
          show (o.2.map Prod.fst)[j]? = some false
          rw [List.getElem?_eq_getElem hj2]
          exact congrArg some (hall _ (List.getElem_mem hj2))
        · rw [List.getElem?_eq_none (by rw [hlen, ← g2]; omega), List.getElem?_eq_none (by rw [← g2]; omega)]
      rw [this]
    · obtain ⟨cA, x, e1, -⟩ := hc
      cases e1
  · obtain ⟨cA, x, rfl, -⟩ := hc0
    exact hf.1 (ab_flg_f hg)
/-- what the start told of the cells that may not be written -/
noncomputable def ab_bas (X : ab_X) (s : State) (adr : List Nat) (G : List ab_C) (wf : va_W × List (List Bool)) : Prop := (∃ t, G.map ab_flg = wf.2 ++ t) ∧ wf.2.length = G.length ∧ ∀ (k : Nat) (g : ab_C), G[k]? = some g → ab_any g = false → ab_nvC g = true ∧ ∃ (q0 : Nat × va_E) (zb : ab_Z), wf.1[k]? = some q0 ∧ zb.2.2 = adr ∧ ab_cR X zb s g q0.2
/-- and so of the world now -/
theorem ab_bas.now {X : ab_X} {D : va_G} {s : State} {wf : va_W × List (List Bool)} {zz : ab_Z} {env : ab_E} {nl : Nat} {aw : ab_H} {z : ab_Z} {ws : va_W} {H : Heap} {locs : List Loc} {G : List ab_C} (hb : ab_bas X s z.2.2 G wf) (hR : ab_R X D s (zz, wf) env nl aw z ws H locs) {k : Nat} {g : ab_C} (hk : G[k]? = some g) (hg : ab_any g = false) {z' : ab_Z} (hz : z'.2.2 = z.2.2) : ∃ q, ws[k]? = some q ∧ ab_cR X z' s g q.2 ∧ ∃ c, aw.1[k]? = some c ∧ ab_flg c = ab_flg g := by
  obtain ⟨⟨t, ht⟩, hl, hb⟩ := hb
  obtain ⟨hnv, q0, zb, h1, h2, h3⟩ := hb k g hk hg
  obtain ⟨r1, r2, r3, r4, r5, r6, r7, r8, r9, ⟨tt, rt⟩, r11⟩ := hR
  obtain ⟨q, d1, d2, d3⟩ := r11 k q0 h1
  have hkl : k < wf.2.length := by rw [hl]; exact (List.getElem?_eq_some_iff.mp hk).1
  have hfk : wf.2[k]? = some (ab_flg g) := by
    have h9 : (G.map ab_flg)[k]? = some (ab_flg g) := by rw [List.getElem?_map, hk]; rfl
    rw [ht, List.getElem?_append_left hkl] at h9
    exact h9
  have hsk : (aw.1.map ab_flg)[k]? = some (ab_flg g) := by
    rw [rt, List.getElem?_append_left hkl]; exact hfk
  rw [List.getElem?_map] at hsk
  cases hc : aw.1[k]? with
  | none => rw [hc] at hsk; cases hsk
  | some c =>
    rw [hc] at hsk
    have hfc : ab_flg c = ab_flg g := by simpa using hsk
    obtain ⟨q', e1, e2⟩ := r4.1.2 k c hc
    cases Option.some.inj (e1.symm.trans d1)
    have := ab_frz hg h3 e2 hfc (d3 _ hfk)
    rw [← this] at h3
    exact ⟨_, d1, ab_nvC_ok (hz.trans h2.symm) hnv h3, c, rfl, hfc⟩
noncomputable def ab_subSf (fl : List Bool) (S : ab_S) (T : ab_T) (k : List ab_I → Bool) : Bool := match S, T with
  | ((env, _, aw, cl, sl), pc, lv, st), (envT, nlT, awT, pcT, lvT, loc, llc, _, _) => Nat.beq pc pcT && Nat.beq cl 0 && Nat.beq sl 0 && (match st with
    | [] => true
    | _ => false) && Nat.beq nlT llc.length && ab_lgs lv llc && ab_sgK aw lv loc (fun sg => ab_lenK env 0 (fun n => ab_subE env n sg envT) && ab_subL env sg llc lv lvT && ab_subCf env sg fl aw.1 awT.1 && ab_subFx sg aw.2 awT.2 && k sg) false
theorem ab_subSf_ok {X : ab_X} {D : va_G} {s : State} {z0 : ab_Z0} {z : ab_Z} {ws : va_W} {H : Heap} {locs : List Loc} {nL : Nat} {ls : Array Slot} {G : List ab_C} {S : ab_S} {T : ab_T} {k : List ab_I → Bool} (h : ab_subSf (G.map ab_any) S T k = true) (hbs : ab_bas X s z.2.2 G z0.2) (hag : ∀ (j : Nat) (g : ab_C), G[j]? = some g → ab_any g = false → T.2.2.1.1[j]? = some g) (hR : ab_R X D s z0 S.1.1 S.1.2.1 S.1.2.2.1 z ws H locs) (hl : ab_lR X z nL ls S.2.2.1) :
    ∃ (z' : ab_Z) (sg : List ab_I), ab_R X D s (z', z0.2) T.1 T.2.1 T.2.2.1 z' ws H locs ∧ ab_lR X z' nL ls T.2.2.2.2.1 ∧ sg.map (ab_evI z.1) = z'.1.map some ∧ z'.2.2 = z.2.2 ∧ k sg = true ∧ S.2.2.2 = [] ∧ S.2.1 = T.2.2.2.1 ∧ S.1.2.2.2.1 = 0 ∧ S.1.2.2.2.2 = 0 := by
  obtain ⟨⟨env, nl, aw, cl, sl⟩, pc, lv, st⟩ := S
  obtain ⟨envT, nlT, awT, pcT, lvT, loc, llc, m0, ms⟩ := T
  dsimp only at hR hl hag ⊢
  simp only [ab_subSf] at h
  rw [Bool.and_eq_true, Bool.and_eq_true, Bool.and_eq_true, Bool.and_eq_true, Bool.and_eq_true, Bool.and_eq_true] at h
  obtain ⟨⟨⟨⟨⟨⟨h1, h2⟩, h3⟩, h4⟩, h5⟩, h6⟩, h7⟩ := h
  rw [ab_sgK_eq] at h7
  split at h7
  · rename_i sg hsg
    rw [Bool.and_eq_true, Bool.and_eq_true, Bool.and_eq_true, Bool.and_eq_true, ab_lenK_eq, Nat.zero_add] at h7
    obtain ⟨⟨⟨⟨g1, g4⟩, g2⟩, g3⟩, g5⟩ := h7
    obtain ⟨vs, v1, v2⟩ := ab_subE_ok hR.1 g1
    obtain ⟨ys, y1, y2⟩ := ab_lgs_ok hl h6
    have hvr : ab_vr z (vs, ys, z.2.2) sg := ⟨rfl, fun u a hu => ab_map_at v1 hu⟩
    obtain ⟨c1, c2, c3⟩ := ab_subCf_ok g2
    have hnow := fun (j : Nat) (g : ab_C) (hj : G[j]? = some g) (hg : ab_any g = false) => hbs.now (z' := (vs, ys, z.2.2)) hR hj hg rfl
    have hR0 := hR
    obtain ⟨r1, r2, r3, r4, r5, r6, r7, r8, r9, ⟨t, ht⟩, r11⟩ := hR
    have hGl : (G.map ab_any).length = G.length := List.length_map _
    have cell : ∀ (j : Nat) (c' : ab_C), awT.1[j]? = some c' → ∃ c q, aw.1[j]? = some c ∧ ws[j]? = some q ∧ ab_cR X (vs, ys, z.2.2) s c' q.2 ∧ ab_flg c' = ab_flg c := by
      intro j c' hj
      have hjl : j < G.length := by rw [← hGl, ← c2]; exact (List.getElem?_eq_some_iff.mp hj).1
      obtain ⟨g, hg⟩ : ∃ g, G[j]? = some g := ⟨_, List.getElem?_eq_getElem hjl⟩
      cases ha : ab_any g
      · have e9 := hag j g hg ha
        rw [hj] at e9
        cases e9
        obtain ⟨q, n1, n2, c, n3, n4⟩ := hnow j _ hg ha
        exact ⟨c, q, n3, n1, n2, n4.symm⟩
      · obtain ⟨c, e1, e2⟩ := c3 j c' hj (by rw [List.getElem?_map, hg]; simp [ha])
        obtain ⟨q, q1, q2⟩ := r4.1.2 j c e1
        obtain ⟨x1, x2⟩ := ab_subC_ok r1 hvr e2 q2
        exact ⟨c, q, e1, q1, x1, x2⟩
    have hfl : awT.1.map ab_flg = aw.1.map ab_flg := by
      apply List.ext_getElem?
      intro j
      rw [List.getElem?_map, List.getElem?_map]
      cases hj : awT.1[j]? with
      | none =>
        have : aw.1.length ≤ j := by rw [c1, ← c2]; exact List.getElem?_eq_none_iff.mp hj
        rw [List.getElem?_eq_none this]
      | some c' =>
        obtain ⟨c, q, e1, -, -, e4⟩ := cell j c' hj
        rw [e1]
        simp [e4]
    refine ⟨(vs, ys, z.2.2), sg, ⟨v2, by rw [y1]; exact (Nat.eq_of_beq_eq_true h5).symm, r3, ⟨⟨by rw [c2, ← c1]; exact r4.1.1, fun j c' hj => ?_⟩, ab_subFx_ok hvr r4.2 g3⟩, r5, r6, r7, trivial, ab_ext.rf, ⟨t, by rw [hfl]; exact ht⟩, r11⟩, ⟨hl.1, hl.2.1, ab_subL_ok r1 hvr hl y2 g4⟩, v1, rfl, g5, ?_, Nat.eq_of_beq_eq_true h1, Nat.eq_of_beq_eq_true h2, Nat.eq_of_beq_eq_true h3⟩
    · obtain ⟨c, q, -, e2, e3, -⟩ := cell j c' hj
      exact ⟨q, e2, e3⟩
    · cases st with
      | nil => rfl
      | cons _ _ => cases h4
  · cases h7
theorem ab_evI_v0 {rho : List Int32} {v : Nat} {x : Int32} (h : ab_evI rho (some v, 0) = some x) : rho[v]? = some x := by
  simp only [ab_evI] at h
  cases hv : rho[v]? with
  | none => rw [hv] at h; cases h
  | some y => rw [hv] at h; simpa using h
/-- variables that a run carries along from its start -/
noncomputable def ab_ghp (gn : Nat) (gv rho : List Int32) : Prop := gn ≤ rho.length ∧ ∀ j : Nat, j < gn → rho[j]? = gv[j]?
theorem ab_ghp.ext {gn : Nat} {gv rho t : List Int32} (h : ab_ghp gn gv rho) : ab_ghp gn gv (rho ++ t) := ⟨by rw [List.length_append]; have := h.1; omega, fun j hj => by rw [List.getElem?_append_left (by have := h.1; omega)]; exact h.2 j hj⟩
noncomputable def ab_ghB : Nat → Nat → List ab_I → Bool
  | _, 0, _ => true
  | i, n + 1, (some v, c) :: r => Nat.beq v i && ab_ie c 0 && ab_ghB (i + 1) n r
  | _, _ + 1, _ => false
theorem ab_ghB_ok {rho : List Int32} : ∀ {i n : Nat} {sg : List ab_I} {vs : List Int32}, ab_ghB i n sg = true → sg.map (ab_evI rho) = vs.map some → n ≤ vs.length ∧ ∀ j : Nat, j < n → vs[j]? = rho[i + j]?
  | i, 0, sg, vs, _, _ => ⟨Nat.zero_le _, fun j hj => absurd hj (Nat.not_lt_zero _)⟩
  | i, n + 1, [], vs, h, _ => by simp [ab_ghB] at h
  | i, n + 1, (none, c) :: r, vs, h, _ => by simp [ab_ghB] at h
  | i, n + 1, (some v, c) :: r, [], h, e => by simp at e
  | i, n + 1, (some v, c) :: r, x :: vs, h, e => by
    simp only [ab_ghB, Bool.and_eq_true, ab_ie_iff] at h
    obtain ⟨⟨h1, h2⟩, h3⟩ := h
    have h1 := Nat.eq_of_beq_eq_true h1
    simp only [List.map_cons, List.cons.injEq] at e
    obtain ⟨e1, e2⟩ := e
    obtain ⟨i1, i2⟩ := ab_ghB_ok h3 e2
    refine ⟨by simp; omega, fun j hj => ?_⟩
    cases j with
    | zero =>
      subst h1 h2
      simp only [List.getElem?_cons_zero, Nat.add_zero]
      have e3 := ab_evI_v0 e1
      exact e3.symm
    | succ j =>
      have := i2 j (by omega)
      simp only [List.getElem?_cons_succ]
      rw [this]
      congr 1
      omega
