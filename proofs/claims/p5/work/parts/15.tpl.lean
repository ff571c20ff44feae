/-! A whole state told by a template; measures. -/
/-- a template: variables, longs, heap, place, locals; where its variables stand; its longs' locals; its measure -/
abbrev ab_T : Type := ab_E × Nat × ab_H × Nat × List (Nat × ab_V) × List (Nat × Nat × Nat) × List Nat × Int × List Int
noncomputable def ab_lc (aw : ab_H) (lv : List (Nat × ab_V)) (q : Nat × Nat × Nat) : Option ab_I := match q with
  | (0, i, _) => (match ab_lk lv i with
    | some (.inl a) => some a
    | _ => none)
  | (1, c, k) => (match ab_get aw.1 c with
    | some (.inl (_, fs)) => (match ab_get fs k with
      | some (_, .inl (.inl a)) => some a
      | _ => none)
    | _ => none)
  | (_, c, j) => (match ab_get aw.1 c with
    | some (.inr (_, _, _, d, ov)) => (match ab_at d ov j with
      | .inl (.inl a) => some a
      | _ => none)
    | _ => none)
/-- with them: a variable by its number -/
noncomputable def ab_lcg (aw : ab_H) (lv : List (Nat × ab_V)) (q : Nat × Nat × Nat) : Option ab_I := match q.1 with
  | 3 => some (some q.2.1, 0)
  | _ => ab_lc aw lv q
noncomputable def ab_sgK {β : Type} (aw : ab_H) (lv : List (Nat × ab_V)) : List (Nat × Nat × Nat) → (List ab_I → β) → β → β
  | [], k, _ => k []
  | q :: r, k, no => (match ab_lcg aw lv q with
    | some a => ab_sgK aw lv r (fun t => k (a :: t)) no
    | none => no)
noncomputable def ab_sg (aw : ab_H) (lv : List (Nat × ab_V)) (l : List (Nat × Nat × Nat)) : Option (List ab_I) := ab_sgK aw lv l (fun t => some t) none
theorem ab_sgK_eq {β : Type} {aw : ab_H} {lv : List (Nat × ab_V)} : ∀ (l : List (Nat × Nat × Nat)) (k : List ab_I → β) (no : β), ab_sgK aw lv l k no = (match ab_sg aw lv l with
    | some t => k t
    | none => no)
  | [], k, no => rfl
  | q :: r, k, no => by
    simp only [ab_sg, ab_sgK]
    cases ab_lcg aw lv q with
    | none => rfl
    | some a =>
      simp only
      rw [ab_sgK_eq r (fun t => k (a :: t)) no, ab_sgK_eq r (fun t => some (a :: t)) none]
      cases ab_sg aw lv r <;> rfl
noncomputable def ab_wfI (n : Nat) (a : ab_I) : Bool := match a with
  | (none, _) => true
  | (some v, _) => Nat.blt v n
noncomputable def ab_subE (env : ab_E) (n : Nat) : List ab_I → ab_E → Bool
  | [], [] => true
  | a :: r, (lo, hi) :: t => ab_wfI n a && ab_ivK env a (fun x y => ab_le lo x && ab_le y hi) && ab_subE env n r t
  | _, _ => false
noncomputable def ab_subL (env : ab_E) (sg : List ab_I) (llc : List Nat) (lvS : List (Nat × ab_V)) : List (Nat × ab_V) → Bool
  | [] => true
  | (i, w) :: r => (match ab_lk lvS i with
    | some v => (match w with
      | .inr (.inl (.inr n)) => (match ab_get llc n with
        | some j => Nat.beq j i
        | none => false)
      | _ => ab_subV env sg v w)
    | none => false) && ab_subL env sg llc lvS r
noncomputable def ab_lgs (lvS : List (Nat × ab_V)) : List Nat → Bool
  | [] => true
  | i :: r => (match ab_lk lvS i with
    | some (.inr (.inl _)) => true
    | _ => false) && ab_lgs lvS r
noncomputable def ab_subS (S : ab_S) (T : ab_T) (k : List ab_I → Bool) : Bool := match S, T with
  | ((env, _, aw, cl, sl), pc, lv, st), (envT, nlT, awT, pcT, lvT, loc, llc, _, _) => Nat.beq pc pcT && Nat.beq cl 0 && Nat.beq sl 0 && (match st with
    | [] => true
    | _ => false) && Nat.beq nlT llc.length && ab_lgs lv llc && ab_sgK aw lv loc (fun sg => ab_lenK env 0 (fun n => ab_subE env n sg envT) && ab_subL env sg llc lv lvT && ab_subCs env sg aw.1 awT.1 && ab_subFx sg aw.2 awT.2 && k sg) false
theorem ab_subE_ok {env : ab_E} {rho : List Int32} (hR : ab_eR env rho) : ∀ {sg : List ab_I} {t : ab_E}, ab_subE env env.length sg t = true → ∃ vs : List Int32, sg.map (ab_evI rho) = vs.map some ∧ ab_eR t vs
  | [], [], _ => ⟨[], rfl, rfl, fun v q h => by simp at h⟩
  | [], _ :: _, h => by simp [ab_subE] at h
  | _ :: _, [], h => by simp [ab_subE] at h
  | a :: r, (lo, hi) :: t, h => by
    simp only [ab_subE, Bool.and_eq_true] at h
    obtain ⟨⟨h1, h2⟩, h3⟩ := h
    obtain ⟨vs, g1, g2⟩ := ab_subE_ok hR h3
    have he : ∃ x, ab_evI rho a = some x := by
      obtain ⟨v, c⟩ := a
      cases v with
      | none => exact ⟨_, rfl⟩
      | some v =>
        have hv : v < env.length := Nat.le_of_ble_eq_true h1
        obtain ⟨y, hy, -⟩ := hR.2 v _ (List.getElem?_eq_getElem hv)
        exact ⟨y + Int32.ofInt c, by simp only [ab_evI, hy, Option.map_some]⟩
    obtain ⟨x, hx⟩ := he
    have hi := ab_iv_spec hR hx
    rw [ab_ivK_eq, Bool.and_eq_true, ab_le_iff, ab_le_iff] at h2
    refine ⟨x :: vs, by simp only [List.map_cons, hx, g1], by simp [g2.1], fun v q hq => ?_⟩
    cases v with
    | zero =>
      simp only [List.getElem?_cons_zero, Option.some.injEq] at hq
      subst hq
      exact ⟨x, rfl, by dsimp only; omega, by dsimp only; omega⟩
    | succ v =>
      obtain ⟨y, y1, y2⟩ := g2.2 v q (by simpa using hq)
      exact ⟨y, by simpa using y1, y2⟩
theorem ab_map_at {α β : Type} {f : α → Option β} : ∀ {l : List α} {vs : List β} {u : Nat} {a : α}, l.map f = vs.map some → l[u]? = some a → ∃ x, f a = some x ∧ vs[u]? = some x
  | [], _, u, a, _, h => by simp at h
  | _ :: _, [], u, a, e, h => by simp at e
  | b :: l, x :: vs, 0, a, e, h => by
    simp only [List.map_cons, List.cons.injEq] at e
    simp only [List.getElem?_cons_zero, Option.some.injEq] at h
    subst h
    exact ⟨x, e.1, rfl⟩
  | b :: l, x :: vs, u + 1, a, e, h => by
    simp only [List.map_cons, List.cons.injEq] at e
    obtain ⟨y, y1, y2⟩ := ab_map_at e.2 (show l[u]? = some a by simpa using h)
    exact ⟨y, y1, by simpa using y2⟩
theorem ab_lgs_ok {X : ab_X} {z : ab_Z} {nL : Nat} {ls : Array Slot} {lv : List (Nat × ab_V)} (hl : ab_lR X z nL ls lv) : ∀ {llc : List Nat}, ab_lgs lv llc = true → ∃ ys : List Int64, ys.length = llc.length ∧ ∀ (n i : Nat), llc[n]? = some i → ∃ y, ys[n]? = some y ∧ ls[i]? = some (.val (.long y))
  | [], _ => ⟨[], rfl, fun n i h => by simp at h⟩
  | j :: r, h => by
    simp only [ab_lgs, Bool.and_eq_true] at h
    obtain ⟨ys, g1, g2⟩ := ab_lgs_ok hl h.2
    have h1 := h.1
    split at h1
    · rename_i a ha
      obtain ⟨x, x1, x2⟩ := hl.at ha
      obtain ⟨y, rfl, -⟩ := ab_evl x1
      refine ⟨y :: ys, by simp [g1], fun n i hn => ?_⟩
      cases n with
      | zero =>
        simp only [List.getElem?_cons_zero, Option.some.injEq] at hn
        subst hn
        exact ⟨y, rfl, x2⟩
      | succ n =>
        obtain ⟨y', a1, a2⟩ := g2 n i (by simpa using hn)
        exact ⟨y', by simpa using a1, a2⟩
    · cases h1
theorem ab_subL_ok {X : ab_X} {z z' : ab_Z} {env : ab_E} {sg : List ab_I} {llc : List Nat} {nL : Nat} {ls : Array Slot} {lv : List (Nat × ab_V)} (hR : ab_eR env z.1) (hv : ab_vr z z' sg) (hl : ab_lR X z nL ls lv) (hy : ∀ (n i : Nat), llc[n]? = some i → ∃ y, z'.2.1[n]? = some y ∧ ls[i]? = some (.val (.long y))) : ∀ {lt : List (Nat × ab_V)}, ab_subL env sg llc lv lt = true → ∀ q ∈ lt, ∃ v, ab_ev X z' q.2 = some v ∧ ls[q.1]? = some (.val v)
  | [], _, q, hq => by cases hq
  | (i, w) :: r, h, q, hq => by
    simp only [ab_subL, Bool.and_eq_true] at h
    rcases List.mem_cons.mp hq with rfl | hq
    · have h1 := h.1
      split at h1
      · rename_i v hv9
        obtain ⟨x, x1, x2⟩ := hl.at hv9
        split at h1
        · rename_i n
          rw [ab_get_eq] at h1
          split at h1
          · rename_i j hj
            have e := Nat.eq_of_beq_eq_true h1
            subst e
            obtain ⟨y, y1, y2⟩ := hy n _ hj
            exact ⟨.long y, by simp only [ab_ev, ab_evL, y1, Option.map_some], y2⟩
          · cases h1
        · exact ⟨x, ab_subV_ok hR hv h1 x1, x2⟩
      · cases h1
    · exact ab_subL_ok hR hv hl hy h.2 q hq
/-- a state that a template tells -/
theorem ab_subS_ok {X : ab_X} {D : va_G} {s : State} {z0 : ab_Z0} {z : ab_Z} {ws : va_W} {H : Heap} {locs : List Loc} {nL : Nat} {ls : Array Slot} {S : ab_S} {T : ab_T} {k : List ab_I → Bool} (h : ab_subS S T k = true) (hR : ab_R X D s z0 S.1.1 S.1.2.1 S.1.2.2.1 z ws H locs) (hl : ab_lR X z nL ls S.2.2.1) :
    ∃ (z' : ab_Z) (sg : List ab_I), ab_R X D s (z', z0.2) T.1 T.2.1 T.2.2.1 z' ws H locs ∧ ab_lR X z' nL ls T.2.2.2.2.1 ∧ sg.map (ab_evI z.1) = z'.1.map some ∧ z'.2.2 = z.2.2 ∧ k sg = true ∧ S.2.2.2 = [] ∧ S.2.1 = T.2.2.2.1 ∧ S.1.2.2.2.1 = 0 ∧ S.1.2.2.2.2 = 0 := by
  obtain ⟨⟨env, nl, aw, cl, sl⟩, pc, lv, st⟩ := S
  obtain ⟨envT, nlT, awT, pcT, lvT, loc, llc, m0, ms⟩ := T
  dsimp only at hR hl ⊢
  simp only [ab_subS] at h
  rw [Bool.and_eq_true, Bool.and_eq_true, Bool.and_eq_true, Bool.and_eq_true, Bool.and_eq_true, Bool.and_eq_true] at h
  obtain ⟨⟨⟨⟨⟨⟨h1, h2⟩, h3⟩, h4⟩, h5⟩, h6⟩, h7⟩ := h
  rw [ab_sgK_eq] at h7
  split at h7
  · rename_i sg hsg
    rw [Bool.and_eq_true, Bool.and_eq_true, Bool.and_eq_true, Bool.and_eq_true, ab_lenK_eq, Nat.zero_add] at h7
    obtain ⟨⟨⟨⟨g1, g4⟩, g2⟩, g3⟩, g5⟩ := h7
    obtain ⟨vs, v1, v2⟩ := ab_subE_ok hR.1 g1
    obtain ⟨ys, y1, y2⟩ := ab_lgs_ok hl h6
    have hvr : ab_vr z (vs, ys, z.2.2) sg := ⟨rfl, fun u a hu => ab_map_at v1 hu⟩
    obtain ⟨c1, -, c3⟩ := ab_subCs_ok (X := X) (s := s) hR.1 hvr g2
    obtain ⟨r1, r2, r3, r4, r5, r6, r7, r8, r9, ⟨t, ht⟩, r11⟩ := hR
    have hlen : sg.length = vs.length := by
      have := congrArg List.length v1
      simpa using this
    have hfl : awT.1.map ab_flg = aw.1.map ab_flg := by
      apply List.ext_getElem?
      intro j
      rw [List.getElem?_map, List.getElem?_map]
      cases hj : awT.1[j]? with
      | none =>
        have : aw.1.length ≤ j := by rw [← c1]; exact List.getElem?_eq_none_iff.mp hj
        rw [List.getElem?_eq_none this]
      | some c' =>
        obtain ⟨c, e1, e2⟩ := c3 j c' hj
        obtain ⟨q, q1, q2⟩ := r4.1.2 j c e1
        rw [e1]
        simp [(e2 q.2 q2).2]
    refine ⟨(vs, ys, z.2.2), sg, ⟨v2, by rw [y1]; exact (Nat.eq_of_beq_eq_true h5).symm, r3, ⟨⟨by rw [c1]; exact r4.1.1, fun j c' hj => ?_⟩, ab_subFx_ok hvr r4.2 g3⟩, r5, r6, r7, trivial, ab_ext.rf, ⟨t, by rw [hfl]; exact ht⟩, r11⟩, ⟨hl.1, hl.2.1, ab_subL_ok r1 hvr hl y2 g4⟩, v1, rfl, g5, ?_, Nat.eq_of_beq_eq_true h1, Nat.eq_of_beq_eq_true h2, Nat.eq_of_beq_eq_true h3⟩
    · obtain ⟨c, e1, e2⟩ := c3 j c' hj
      obtain ⟨q, q1, q2⟩ := r4.1.2 j c e1
      exact ⟨q, q1, (e2 q.2 q2).1⟩
    · cases st with
      | nil => rfl
      | cons _ _ => cases h4
  · cases h7
/-- sums of ints -/
noncomputable def ab_dot : List Int → List Int32 → Int
  | c :: cs, x :: rho => c * x.toInt + ab_dot cs rho
  | _, _ => 0
noncomputable def ab_addC : List Int → Nat → Int → List Int
  | [], 0, c => [c]
  | [], u + 1, c => 0 :: ab_addC [] u c
  | x :: r, 0, c => (x + c) :: r
  | x :: r, u + 1, c => x :: ab_addC r u c
theorem ab_dot_add : ∀ {cs : List Int} {u : Nat} {c : Int} {rho : List Int32} {x : Int32}, rho[u]? = some x → ab_dot (ab_addC cs u c) rho = ab_dot cs rho + c * x.toInt
  | [], 0, c, [], x, h => by simp at h
  | [], 0, c, y :: rho, x, h => by
    simp only [List.getElem?_cons_zero, Option.some.injEq] at h
    subst h
    simp [ab_addC, ab_dot]
  | [], u + 1, c, [], x, h => by simp at h
  | [], u + 1, c, y :: rho, x, h => by
    have ih := ab_dot_add (cs := []) (u := u) (c := c) (rho := rho) (x := x) (by simpa using h)
    simp only [ab_addC, ab_dot] at ih ⊢
    omega
  | a :: r, 0, c, [], x, h => by simp at h
  | a :: r, 0, c, y :: rho, x, h => by
    simp only [List.getElem?_cons_zero, Option.some.injEq] at h
    subst h
    simp only [ab_addC, ab_dot]
    rw [Int.add_mul]; omega
  | a :: r, u + 1, c, [], x, h => by simp at h
  | a :: r, u + 1, c, y :: rho, x, h => by
    have ih := ab_dot_add (cs := r) (u := u) (c := c) (rho := rho) (x := x) (by simpa using h)
    simp only [ab_addC, ab_dot]
    omega
noncomputable def ab_subd : List Int → List Int → List Int
  | cs, [] => cs
  | [], d :: ds => (0 - d) :: ab_subd [] ds
  | c :: cs, d :: ds => (c - d) :: ab_subd cs ds
theorem ab_dot_sub : ∀ {cs ds : List Int} {rho : List Int32}, ab_dot (ab_subd cs ds) rho = ab_dot cs rho - ab_dot ds rho
  | cs, [], rho => by simp [ab_subd, ab_dot]
  | [], d :: ds, [] => by simp [ab_subd, ab_dot]
  | [], d :: ds, x :: rho => by
    have ih := ab_dot_sub (cs := []) (ds := ds) (rho := rho)
    simp only [ab_subd, ab_dot] at ih ⊢
    rw [ih, Int.sub_mul]; omega
  | c :: cs, d :: ds, [] => by simp [ab_subd, ab_dot]
  | c :: cs, d :: ds, x :: rho => by
    have ih := ab_dot_sub (cs := cs) (ds := ds) (rho := rho)
    simp only [ab_subd, ab_dot]
    rw [ih, Int.sub_mul]; omega
/-- no sum is above; none is below -/
noncomputable def ab_ub : List Int → ab_E → Int
  | c :: cs, (lo, hi) :: env => (bif ab_le 0 c then c * hi else c * lo) + ab_ub cs env
  | _, _ => 0
noncomputable def ab_lb : List Int → ab_E → Int
  | c :: cs, (lo, hi) :: env => (bif ab_le 0 c then c * lo else c * hi) + ab_lb cs env
  | _, _ => 0
theorem ab_eR_cons {q : Int × Int} {env : ab_E} {x : Int32} {rho : List Int32} (h : ab_eR (q :: env) (x :: rho)) : (q.1 ≤ x.toInt ∧ x.toInt ≤ q.2) ∧ ab_eR env rho := by
  refine ⟨?_, by simpa using h.1, fun v q hq => ?_⟩
  · obtain ⟨y, y1, y2⟩ := h.2 0 q rfl
    simp only [List.getElem?_cons_zero, Option.some.injEq] at y1
    subst y1
    exact y2
  · obtain ⟨y, y1, y2⟩ := h.2 (v + 1) q (by simpa using hq)
    exact ⟨y, by simpa using y1, y2⟩
theorem ab_dot_in : ∀ {cs : List Int} {env : ab_E} {rho : List Int32}, ab_eR env rho → ab_lb cs env ≤ ab_dot cs rho ∧ ab_dot cs rho ≤ ab_ub cs env
  | [], env, rho, h => by simp [ab_lb, ab_ub, ab_dot]
  | c :: cs, [], [], h => by simp [ab_lb, ab_ub, ab_dot]
  | c :: cs, [], _ :: _, h => by have := h.1; simp at this
  | c :: cs, _ :: _, [], h => by have := h.1; simp at this
  | c :: cs, (lo, hi) :: env, x :: rho, h => by
    obtain ⟨h1, h2⟩ := ab_eR_cons h
    have ih := ab_dot_in (cs := cs) h2
    dsimp only at h1
    simp only [ab_lb, ab_ub, ab_dot]
    cases hc : ab_le 0 c
    · rw [ab_le_false] at hc
      simp only [cond_false]
      have m1 : c * hi ≤ c * x.toInt := Int.mul_le_mul_of_nonpos_left (by omega) h1.2
      have m2 : c * x.toInt ≤ c * lo := Int.mul_le_mul_of_nonpos_left (by omega) h1.1
      omega
    · rw [ab_le_iff] at hc
      simp only [cond_true]
      have m1 : c * lo ≤ c * x.toInt := Int.mul_le_mul_of_nonneg_left h1.1 hc
      have m2 : c * x.toInt ≤ c * hi := Int.mul_le_mul_of_nonneg_left h1.2 hc
      omega
/-- a measure of the template, over the state's variables; none: an int may wrap -/
noncomputable def ab_cmp (env : ab_E) : List ab_I → List Int → Int → List Int → Option (Int × List Int)
  | a :: r, c :: cs, k, acc => bif ab_ie c 0 then ab_cmp env r cs k acc else (match a with
    | (none, d) => bif ab_le (-2147483648) d && ab_le d 2147483647 then ab_cmp env r cs (k + c * d) acc else none
    | (some u, d) => (match ab_get env u with
      | some (lo, hi) => bif ab_le (-2147483648) (lo + d) && ab_le (hi + d) 2147483647 then ab_cmp env r cs (k + c * d) (ab_addC acc u c) else none
      | none => none))
  | _, _, k, acc => some (k, acc)
theorem ab_cmp_ok {env : ab_E} {rho : List Int32} (hR : ab_eR env rho) : ∀ {sg : List ab_I} {cs : List Int} {k : Int} {acc : List Int} {vs : List Int32} {k' : Int} {acc' : List Int}, ab_cmp env sg cs k acc = some (k', acc') → sg.map (ab_evI rho) = vs.map some → k' + ab_dot acc' rho = k + ab_dot acc rho + ab_dot cs vs
  | [], cs, k, acc, vs, k', acc', h, e => by
    simp only [ab_cmp, Option.some.injEq, Prod.mk.injEq] at h
    obtain ⟨rfl, rfl⟩ := h
    cases vs with
    | nil => cases cs <;> simp [ab_dot]
    | cons _ _ => simp at e
  | a :: r, [], k, acc, vs, k', acc', h, e => by
    simp only [ab_cmp, Option.some.injEq, Prod.mk.injEq] at h
    obtain ⟨rfl, rfl⟩ := h
    simp [ab_dot]
  | a :: r, c :: cs, k, acc, [], k', acc', h, e => by simp at e
  | a :: r, c :: cs, k, acc, x :: vs, k', acc', h, e => by
    simp only [List.map_cons, List.cons.injEq] at e
    simp only [ab_cmp] at h
    simp only [ab_dot]
    cases hc : ab_ie c 0
    · rw [hc, cond_false] at h
      split at h
      · rename_i d
        cases hb : (ab_le (-2147483648) d && ab_le d 2147483647)
        · rw [hb] at h; cases h
        · rw [hb, cond_true] at h
          rw [Bool.and_eq_true, ab_le_iff, ab_le_iff] at hb
          have ih := ab_cmp_ok hR h e.2
          have e1 := e.1
          simp only [ab_evI, Option.some.injEq] at e1
          have e2 : x.toInt = d := by rw [← e1, ab_of d hb.1 hb.2]
          rw [e2]; omega
      · rename_i u d
        rw [ab_get_eq] at h
        split at h
        · rename_i lo hi hu
          cases hb : (ab_le (-2147483648) (lo + d) && ab_le (hi + d) 2147483647)
          · rw [hb] at h; cases h
          · rw [hb, cond_true] at h
            rw [Bool.and_eq_true, ab_le_iff, ab_le_iff] at hb
            have ih := ab_cmp_ok hR h e.2
            obtain ⟨y, y1, y2, y3⟩ := hR.2 u _ hu
            dsimp only at y2 y3
            have e1 := e.1
            simp only [ab_evI, y1, Option.map_some, Option.some.injEq] at e1
            have e2 : x.toInt = y.toInt + d := by rw [← e1, ab_addI y d (by omega) (by omega)]
            rw [ab_dot_add y1] at ih
            rw [e2, Int.mul_add]; omega
        · cases h
    · rw [hc, cond_true] at h
      rw [ab_ie_iff] at hc
      subst hc
      have ih := ab_cmp_ok hR h e.2
      omega
/-- the template's measure is not below 0, and below the one given -/
noncomputable def ab_mchk (env : ab_E) (sg : List ab_I) (m' m : Int × List Int) : Bool := match ab_cmp env sg m'.2 m'.1 [] with
  | some (k, cs) => ab_le 0 (k + ab_lb cs env) && ab_le (k - m.1 + ab_ub (ab_subd cs m.2) env) (-1)
  | none => false
theorem ab_mchk_ok {env : ab_E} {rho vs : List Int32} (hR : ab_eR env rho) {sg : List ab_I} {m' m : Int × List Int} (h : ab_mchk env sg m' m = true) (e : sg.map (ab_evI rho) = vs.map some) : 0 ≤ m'.1 + ab_dot m'.2 vs ∧ m'.1 + ab_dot m'.2 vs < m.1 + ab_dot m.2 rho := by
  unfold ab_mchk at h
  split at h
  · rename_i k cs hk
    rw [Bool.and_eq_true, ab_le_iff, ab_le_iff] at h
    have h1 := ab_cmp_ok hR hk e
    have h2 := ab_dot_in (cs := cs) hR
    have h3 := ab_dot_in (cs := ab_subd cs m.2) hR
    rw [ab_dot_sub] at h3
    have h4 : ab_dot [] rho = 0 := by simp [ab_dot]
    rw [h4] at h1
    omega
  · cases h
theorem ab_dot_app : ∀ {cs : List Int} {rho t : List Int32}, cs.length ≤ rho.length → ab_dot cs (rho ++ t) = ab_dot cs rho
  | [], rho, t, _ => by simp [ab_dot]
  | c :: cs, [], t, h => by simp at h
  | c :: cs, x :: rho, t, h => by
    simp only [List.cons_append, ab_dot]
    rw [ab_dot_app (by simpa using h)]
