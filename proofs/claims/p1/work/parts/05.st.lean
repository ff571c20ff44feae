/-! Cells, worlds, locals, and what it is to be right at a state. -/
abbrev ab_ct : Type := (Nat → Int32) ⊕ (Nat → Int64) ⊕ (Nat → UInt32) ⊕ (Nat → UInt64) ⊕ (Nat → Option Nat)
def ab_cv (x : ab_ct) (j : Nat) : Value := match x with
  | .inl f => .int (f j)
  | .inr (.inl f) => .long (f j)
  | .inr (.inr (.inl f)) => .float (f j)
  | .inr (.inr (.inr (.inl f))) => .double (f j)
  | .inr (.inr (.inr (.inr f))) => va_rf (f j)
def ab_ft (t : Nat) : FieldType := match t with
  | 0 => .int
  | 1 => .long
  | 2 => .byte
  | 3 => .boolean
  | n + 4 => match vwCl[n]? with
    | some q => .object q.1
    | none => .int
def ab_km (t : Nat) (x : ab_ct) : Prop := match t with
  | 0 => ∃ f, x = .inl f
  | 1 => ∃ f, x = .inr (.inl f)
  | 2 => ∃ f, x = .inl f
  | 3 => ∃ f, x = .inl f
  | _ + 4 => ∃ f, x = .inr (.inr (.inr (.inr f)))
def ab_cR (X : ab_X) (z : ab_Z) (s : State) (c : ab_C) (e : va_E) : Prop := match c with
  | .inl o => ∃ vs, e = .inr (o.1, vs) ∧ o.2.map (ab_ev X z) = vs.map some
  | .inr a => ∃ (cA : ClassId) (x : ab_ct), e = .inl (cA, a.2.1, x) ∧ ab_km a.1 x ∧ (ArrOfT s cA (ab_ft a.1) ∧ va_RA s cA (ab_ft a.1)) ∧ ∀ j : Nat, j < a.2.1 → ab_ev X z (ab_at a.2.2.1 a.2.2.2 j) = some (ab_cv x j)
theorem ab_cR.ext {X : ab_X} {z z' : ab_Z} {s : State} {c : ab_C} {e : va_E} (h : ab_ext z z') (hc : ab_cR X z s c e) : ab_cR X z' s c e := by
  rcases c with o | a
  · obtain ⟨vs, h1, h2⟩ := hc
    exact ⟨vs, h1, ab_evs.ext h h2⟩
  · obtain ⟨cA, x, h1, h2, h3, h4⟩ := hc
    exact ⟨cA, x, h1, h2, h3, fun j hj => ab_ev.ext h (h4 j hj)⟩
theorem ab_cR.moved {X : ab_X} {z : ab_Z} {s U : State} {c : ab_C} {e : va_E} (h : s.vm.Alike U.vm) (hc : ab_cR X z s c e) : ab_cR X z U c e := by
  rcases c with o | a
  · exact hc
  · obtain ⟨cA, x, h1, h2, h3, h4⟩ := hc
    exact ⟨cA, x, h1, h2, ⟨arrOfT_moved h h3.1, h3.2.moved h⟩, h4⟩
def ab_wR (X : ab_X) (z : ab_Z) (s : State) (aw : List ab_C) (ws : va_W) : Prop := aw.length = ws.length ∧ ∀ (k : Nat) (c : ab_C), aw[k]? = some c → ∃ q, ws[k]? = some q ∧ ab_cR X z s c q.2
theorem ab_wR.ext {X : ab_X} {z z' : ab_Z} {s : State} {aw : List ab_C} {ws : va_W} (h : ab_ext z z') (hw : ab_wR X z s aw ws) : ab_wR X z' s aw ws :=
  ⟨hw.1, fun k c hk => by obtain ⟨q, h1, h2⟩ := hw.2 k c hk; exact ⟨q, h1, h2.ext h⟩⟩
theorem ab_wR.moved {X : ab_X} {z : ab_Z} {s U : State} {aw : List ab_C} {ws : va_W} (h : s.vm.Alike U.vm) (hw : ab_wR X z s aw ws) : ab_wR X z U aw ws :=
  ⟨hw.1, fun k c hk => by obtain ⟨q, h1, h2⟩ := hw.2 k c hk; exact ⟨q, h1, h2.moved h⟩⟩
theorem ab_wR.set {X : ab_X} {z : ab_Z} {s : State} {aw : List ab_C} {ws : va_W} (hw : ab_wR X z s aw ws) {k a : Nat} {c : ab_C} {e : va_E} (hc : ab_cR X z s c e) : ab_wR X z s (aw.set k c) (ws.set k (a, e)) := by
  refine ⟨by simp [hw.1], fun j d hj => ?_⟩
  by_cases hjk : j = k
  · subst hjk
    by_cases hl : j < aw.length
    · rw [List.getElem?_set_self hl] at hj
      cases hj
      exact ⟨(a, e), List.getElem?_set_self (by rw [← hw.1]; exact hl), hc⟩
    · rw [List.getElem?_eq_none (by simp; omega)] at hj
      cases hj
  · rw [List.getElem?_set_ne (Ne.symm hjk)] at hj ⊢
    exact hw.2 j d hj
theorem ab_wR.push {X : ab_X} {z : ab_Z} {s : State} {aw : List ab_C} {ws : va_W} (hw : ab_wR X z s aw ws) {a : Nat} {c : ab_C} {e : va_E} (hc : ab_cR X z s c e) : ab_wR X z s (aw ++ [c]) (ws ++ [(a, e)]) := by
  refine ⟨by simp [hw.1], fun j d hj => ?_⟩
  by_cases hl : j < aw.length
  · rw [List.getElem?_append_left hl] at hj
    obtain ⟨q, h1, h2⟩ := hw.2 j d hj
    exact ⟨q, ab_get_app h1, h2⟩
  · rw [List.getElem?_append_right (by omega)] at hj
    have hz : j - aw.length < 1 := (List.getElem?_eq_some_iff.mp hj).1
    have e0 : j = aw.length := by omega
    subst e0
    rw [Nat.sub_self] at hj
    cases hj
    refine ⟨(a, e), ?_, hc⟩
    rw [List.getElem?_append_right (by rw [hw.1]; exact Nat.le_refl _), hw.1, Nat.sub_self]; rfl
theorem ab_fst_set {ws : va_W} {k a : Nat} {e0 e : va_E} (h : ws[k]? = some (a, e0)) : (ws.set k (a, e)).map Prod.fst = ws.map Prod.fst := by
  apply List.ext_getElem?
  intro j
  rw [List.getElem?_map, List.getElem?_map]
  by_cases hj : j = k
  · subst hj
    rw [List.getElem?_set_self (List.getElem?_eq_some_iff.mp h).1, h]; rfl
  · rw [List.getElem?_set_ne (Ne.symm hj)]
def ab_sc (X : ab_X) (rho : List Int32) : Prop := (∀ j : Nat, j < 6 → rho[j]? = some (X.2.1 j)) ∧ rho[6]? = some (Int32.ofNat X.1.2.1)
theorem ab_sc.ext {X : ab_X} {rho t : List Int32} (h : ab_sc X rho) : ab_sc X (rho ++ t) := ⟨fun j hj => ab_get_app (h.1 j hj), ab_get_app h.2⟩
/-- the state's meaning: variables, cells, the heap -/
def ab_R (X : ab_X) (D : va_G) (s : State) (z0 : ab_Z) (env : ab_E) (nl : Nat) (aw : List ab_C) (z : ab_Z) (ws : va_W) (H : Heap) (locs : List Loc) : Prop :=
  ab_eR env z.1 ∧ z.2.1.length = nl ∧ ws.map Prod.fst = z.2.2 ∧ ab_wR X z s aw ws ∧ va_P D vwCl ws H ∧ va_D (ab_Ar X) ws ∧ va_S (ab_Ar X) s.heap H locs ∧ ab_sc X z.1 ∧ ab_ext z0 z
section
variable {X : ab_X} {D : va_G} {s : State} {z0 : ab_Z} {env env' : ab_E} {nl : Nat} {aw : List ab_C} {z : ab_Z} {ws : va_W} {H : Heap} {locs : List Loc}
theorem ab_ext_v {t : List Int32} : ab_ext z (z.1 ++ t, z.2) := ⟨⟨t, rfl⟩, ⟨[], by simp⟩, ⟨[], by simp⟩⟩
theorem ab_R.vars (h : ab_R X D s z0 env nl aw z ws H locs) {t : List Int32} (he : ab_eR env' (z.1 ++ t)) : ab_R X D s z0 env' nl aw (z.1 ++ t, z.2) ws H locs := by
  obtain ⟨h1, h2, h3, h4, h5, h6, h7, h8, h9⟩ := h
  exact ⟨he, h2, h3, h4.ext ab_ext_v, h5, h6, h7, h8.ext, h9.tr ab_ext_v⟩
theorem ab_R.ref (h : ab_R X D s z0 env nl aw z ws H locs) (he : ab_eR env' z.1) : ab_R X D s z0 env' nl aw z ws H locs := by
  obtain ⟨h1, h2, h3, h4, h5, h6, h7, h8, h9⟩ := h
  exact ⟨he, h2, h3, h4, h5, h6, h7, h8, h9⟩
theorem ab_ext_l {y : Int64} : ab_ext z (z.1, z.2.1 ++ [y], z.2.2) := ⟨⟨[], by simp⟩, ⟨[y], rfl⟩, ⟨[], by simp⟩⟩
theorem ab_R.lng (h : ab_R X D s z0 env nl aw z ws H locs) (y : Int64) : ab_R X D s z0 env (nl + 1) aw (z.1, z.2.1 ++ [y], z.2.2) ws H locs := by
  obtain ⟨h1, h2, h3, h4, h5, h6, h7, h8, h9⟩ := h
  exact ⟨h1, by simp [h2], h3, h4.ext ab_ext_l, h5, h6, h7, h8, h9.tr ab_ext_l⟩
theorem ab_ext_a {q : Nat} : ab_ext z (z.1, z.2.1, z.2.2 ++ [q]) := ⟨⟨[], by simp⟩, ⟨[], by simp⟩, ⟨[q], rfl⟩⟩
/-- a cell of the world by its number -/
theorem ab_R.cell (h : ab_R X D s z0 env nl aw z ws H locs) {k : Nat} {c : ab_C} (hk : aw[k]? = some c) : ∃ (a : Nat) (e : va_E), ws[k]? = some (a, e) ∧ z.2.2[k]? = some a ∧ ab_cR X z s c e := by
  obtain ⟨⟨a, e⟩, h1, h2⟩ := h.2.2.2.1.2 k c hk
  refine ⟨a, e, h1, ?_, h2⟩
  rw [← h.2.2.1, List.getElem?_map, h1]; rfl
theorem ab_R.set (h : ab_R X D s z0 env nl aw z ws H locs) {k a : Nat} {c : ab_C} {e0 e : va_E} {H1 : Heap} {locs1 : List Loc} (hk : ws[k]? = some (a, e0)) (hc : ab_cR X z s c e) (hP : va_P D vwCl (ws.set k (a, e)) H1) (hD : va_D (ab_Ar X) (ws.set k (a, e))) (hS : va_S (ab_Ar X) s.heap H1 locs1) : ab_R X D s z0 env nl (aw.set k c) z (ws.set k (a, e)) H1 locs1 := by
  obtain ⟨h1, h2, h3, h4, h5, h6, h7, h8, h9⟩ := h
  exact ⟨h1, h2, (ab_fst_set hk).trans h3, h4.set hc, hP, hD, hS, h8, h9⟩
theorem ab_R.push (h : ab_R X D s z0 env nl aw z ws H locs) {a : Nat} {c : ab_C} {e : va_E} {H1 : Heap} {locs1 : List Loc} (hc : ab_cR X (z.1, z.2.1, z.2.2 ++ [a]) s c e) (hP : va_P D vwCl (ws ++ [(a, e)]) H1) (hD : va_D (ab_Ar X) (ws ++ [(a, e)])) (hS : va_S (ab_Ar X) s.heap H1 locs1) : ab_R X D s z0 env nl (aw ++ [c]) (z.1, z.2.1, z.2.2 ++ [a]) (ws ++ [(a, e)]) H1 locs1 := by
  obtain ⟨h1, h2, h3, h4, h5, h6, h7, h8, h9⟩ := h
  exact ⟨h1, h2, by rw [List.map_append, h3]; rfl, (h4.ext ab_ext_a).push hc, hP, hD, hS, h8, h9.tr ab_ext_a⟩
theorem ab_R.num (h : ab_R X D s z0 env nl aw z ws H locs) : z.2.2.length = aw.length := by rw [← h.2.2.1, List.length_map, h.2.2.2.1.1]
end
/-- the locals -/
def ab_lR (X : ab_X) (z : ab_Z) (nL : Nat) (ls : Array Slot) (lv : List (Nat × ab_V)) : Prop := ls.size = nL ∧ lv_wf ls ∧ ∀ q ∈ lv, ∃ v, ab_ev X z q.2 = some v ∧ ls[q.1]? = some (.val v)
theorem ab_lR.ext {X : ab_X} {z z' : ab_Z} {nL : Nat} {ls : Array Slot} {lv : List (Nat × ab_V)} (h : ab_ext z z') (hl : ab_lR X z nL ls lv) : ab_lR X z' nL ls lv :=
  ⟨hl.1, hl.2.1, fun q hq => by obtain ⟨v, h1, h2⟩ := hl.2.2 q hq; exact ⟨v, ab_ev.ext h h1, h2⟩⟩
def ab_lk : List (Nat × ab_V) → Nat → Option ab_V
  | [], _ => none
  | (j, v) :: r, i => bif Nat.beq j i then some v else ab_lk r i
theorem ab_lk_mem : ∀ {lv : List (Nat × ab_V)} {i : Nat} {v : ab_V}, ab_lk lv i = some v → (i, v) ∈ lv
  | [], i, v, h => by cases h
  | (j, w) :: r, i, v, h => by
    simp only [ab_lk] at h
    cases hb : Nat.beq j i
    · rw [hb] at h; exact List.mem_cons_of_mem _ (ab_lk_mem h)
    · rw [hb] at h
      cases h
      rw [Nat.eq_of_beq_eq_true hb]; exact List.mem_cons_self
theorem ab_lR.at {X : ab_X} {z : ab_Z} {nL i : Nat} {ls : Array Slot} {lv : List (Nat × ab_V)} {v : ab_V} (hl : ab_lR X z nL ls lv) (h : ab_lk lv i = some v) : ∃ x, ab_ev X z v = some x ∧ ls[i]? = some (.val x) := hl.2.2 (i, v) (ab_lk_mem h)
def ab_lg (v : ab_V) : Bool := match v with
  | .inr (.inl _) => true
  | _ => false
/-- what a store at place i leaves of the others; two: of a long -/
def ab_kp (two : Bool) (i : Nat) (q : Nat × ab_V) : Bool := !(Nat.beq q.1 i) && !(ab_lg q.2 && Nat.beq (Nat.succ q.1) i) && !(two && Nat.beq q.1 (Nat.succ i))
def ab_flK {β : Type} (two : Bool) (i : Nat) : List (Nat × ab_V) → (List (Nat × ab_V) → β) → β
  | [], k => k []
  | (j, v) :: r, k => bif ab_kp two i (j, v) then ab_flK two i r (fun t => k ((j, v) :: t)) else ab_flK two i r k
theorem ab_flK_eq {β : Type} (two : Bool) (i : Nat) : ∀ (l : List (Nat × ab_V)) (k : List (Nat × ab_V) → β), ab_flK two i l k = k (l.filter (ab_kp two i))
  | [], k => rfl
  | (j, v) :: r, k => by
    simp only [ab_flK, List.filter]
    cases ab_kp two i (j, v)
    · simp only [cond_false]; exact ab_flK_eq two i r k
    · simp only [cond_true]; exact ab_flK_eq two i r _
theorem ab_cat {X : ab_X} {z : ab_Z} {v : ab_V} {x : Value} (hz : X.2.2.2.2.2.category = 1) (h : ab_ev X z v = some x) : x.category = if ab_lg v = true then 2 else 1 := by
  rcases v with a | l | ⟨t, k⟩
  · simp only [ab_ev, Option.map_eq_some_iff] at h
    obtain ⟨y, -, rfl⟩ := h; rfl
  · simp only [ab_ev, Option.map_eq_some_iff] at h
    obtain ⟨y, -, rfl⟩ := h; rfl
  · match t, h with
    | 0, h => cases h; rfl
    | 1, h => cases h; rfl
    | 2, h =>
      simp only [ab_ev, ab_evR, Option.map_eq_some_iff] at h
      obtain ⟨y, -, rfl⟩ := h; rfl
    | 3, h => cases h; rfl
    | 4, h => cases h; rfl
    | 5, h => cases h; rfl
    | _ + 6, h => cases h; exact hz
/-- the locals as a list of values -/
theorem ab_lR.list {X : ab_X} {z : ab_Z} {nL : Nat} {ls : Array Slot} {lv : List (Nat × ab_V)} (hl : ab_lR X z nL ls lv) : ∃ lc : List (Nat × Value), lv_has ls nL lc ∧ ∀ q ∈ lv, ∃ v, ab_ev X z q.2 = some v ∧ (q.1, v) ∈ lc := by
  refine ⟨lv.filterMap (fun q => (ab_ev X z q.2).map (fun v => (q.1, v))), ⟨hl.1, hl.2.1, fun q hq => ?_⟩, fun q hq => ?_⟩
  · obtain ⟨a, ha, h2⟩ := List.mem_filterMap.mp hq
    rw [Option.map_eq_some_iff] at h2
    obtain ⟨v, h3, rfl⟩ := h2
    obtain ⟨w, g1, g2⟩ := hl.2.2 a ha
    cases Option.some.inj (g1.symm.trans h3)
    exact g2
  · obtain ⟨w, g1, g2⟩ := hl.2.2 q hq
    exact ⟨w, g1, List.mem_filterMap.mpr ⟨q, hq, by rw [g1]; rfl⟩⟩
theorem ab_bq (a b : Nat) : (a == b) = Nat.beq a b := by
  cases h : Nat.beq a b
  · exact beq_eq_false_iff_ne.mpr (fun e => by rw [e, Nat.beq_refl] at h; cases h)
  · exact beq_iff_eq.mpr (Nat.eq_of_beq_eq_true h)
theorem ab_lR.put1 {X : ab_X} {z : ab_Z} {nL i : Nat} {ls' : Array Slot} {lv : List (Nat × ab_V)} {lc : List (Nat × Value)} {v : ab_V} {x : Value} (hz : X.2.2.2.2.2.category = 1) (hv : ab_ev X z v = some x) (hlc : ∀ q ∈ lv, ∃ v, ab_ev X z q.2 = some v ∧ (q.1, v) ∈ lc)
    (h : lv_has ls' nL ((i, x) :: lc.filter (fun q => !(q.1 == i) && !(q.1 + 1 == i && q.2.category == 2)))) : ab_lR X z nL ls' ((i, v) :: lv.filter (ab_kp false i)) := by
  refine ⟨h.1, h.2.1, fun q hq => ?_⟩
  rcases List.mem_cons.mp hq with rfl | hq
  · exact ⟨x, hv, h.2.2 (i, x) List.mem_cons_self⟩
  · obtain ⟨h1, h2⟩ := List.mem_filter.mp hq
    obtain ⟨w, g1, g2⟩ := hlc q h1
    refine ⟨w, g1, h.2.2 (q.1, w) (List.mem_cons_of_mem _ (List.mem_filter.mpr ⟨g2, ?_⟩))⟩
    have hc := ab_cat hz g1
    simp only [ab_kp, Bool.and_eq_true, Bool.not_eq_true', Bool.and_eq_false_iff] at h2
    obtain ⟨⟨a1, a2⟩, -⟩ := h2
    have b1 : (q.1 == i) = false := (ab_bq _ _).trans a1
    have b2 : (q.1 + 1 == i && w.category == 2) = false := by
      rcases a2 with a2 | a2
      · rw [a2] at hc
        rw [show w.category = 1 from hc]; simp
      · rw [show (q.1 + 1 == i) = false from (ab_bq _ _).trans a2]; rfl
    simp only [b1, b2]; rfl
theorem ab_lR.put2 {X : ab_X} {z : ab_Z} {nL i : Nat} {ls' : Array Slot} {lv : List (Nat × ab_V)} {lc : List (Nat × Value)} {v : ab_V} {x : Value} (hz : X.2.2.2.2.2.category = 1) (hv : ab_ev X z v = some x) (hlc : ∀ q ∈ lv, ∃ v, ab_ev X z q.2 = some v ∧ (q.1, v) ∈ lc)
    (h : lv_has ls' nL ((i, x) :: lc.filter (fun q => !(q.1 == i) && (!(q.1 == i + 1) && !(q.1 + 1 == i && q.2.category == 2))))) : ab_lR X z nL ls' ((i, v) :: lv.filter (ab_kp true i)) := by
  refine ⟨h.1, h.2.1, fun q hq => ?_⟩
  rcases List.mem_cons.mp hq with rfl | hq
  · exact ⟨x, hv, h.2.2 (i, x) List.mem_cons_self⟩
  · obtain ⟨h1, h2⟩ := List.mem_filter.mp hq
    obtain ⟨w, g1, g2⟩ := hlc q h1
    refine ⟨w, g1, h.2.2 (q.1, w) (List.mem_cons_of_mem _ (List.mem_filter.mpr ⟨g2, ?_⟩))⟩
    have hc := ab_cat hz g1
    simp only [ab_kp, Bool.and_eq_true, Bool.not_eq_true', Bool.and_eq_false_iff, Bool.true_and] at h2
    obtain ⟨⟨a1, a2⟩, a3⟩ := h2
    have b1 : (q.1 == i) = false := (ab_bq _ _).trans a1
    have b3 : (q.1 == i + 1) = false := (ab_bq _ _).trans a3
    have b2 : (q.1 + 1 == i && w.category == 2) = false := by
      rcases a2 with a2 | a2
      · rw [a2] at hc
        rw [show w.category = 1 from hc]; simp
      · rw [show (q.1 + 1 == i) = false from (ab_bq _ _).trans a2]; rfl
    simp only [b1, b2, b3]; rfl
