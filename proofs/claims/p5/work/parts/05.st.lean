/-! Cells, worlds, locals, and what it is to be right at a state. -/
abbrev ab_ct : Type := (Nat → Int32) ⊕ (Nat → Int64) ⊕ (Nat → UInt32) ⊕ (Nat → UInt64) ⊕ (Nat → Option Nat)
noncomputable def ab_cv (x : ab_ct) (j : Nat) : Value := match x with
  | .inl f => .int (f j)
  | .inr (.inl f) => .long (f j)
  | .inr (.inr (.inl f)) => .float (f j)
  | .inr (.inr (.inr (.inl f))) => .double (f j)
  | .inr (.inr (.inr (.inr f))) => va_rf (f j)
noncomputable def ab_ft (t : Nat) : FieldType := match t with
  | 0 => .int
  | 1 => .long
  | 2 => .byte
  | 3 => .boolean
  | n + 4 => match vwCl[n]? with
    | some q => .object q.1
    | none => .int
noncomputable def ab_km (t : Nat) (x : ab_ct) : Prop := match t with
  | 0 => ∃ f, x = .inl f
  | 1 => ∃ f, x = .inr (.inl f)
  | 2 => ∃ f, x = .inl f
  | 3 => ∃ f, x = .inl f
  | _ + 4 => ∃ f, x = .inr (.inr (.inr (.inr f)))
/-- what a place holds, and the value there -/
noncomputable def ab_ho (X : ab_X) (z : ab_Z) (w : ab_w) (x : Value) : Prop := match w with
  | .inl v => ab_ev X z v = some x
  | .inr (.inl q) => ∃ n : Int32, x = .int n ∧ q.1 ≤ n.toInt ∧ n.toInt ≤ q.2
  | .inr (.inr none) => ∃ n : Int64, x = .long n
  | .inr (.inr (some ks)) => ∃ k ∈ ks, ∃ a, z.2.2[k]? = some a ∧ x = .ref a
theorem ab_ho.ext {X : ab_X} {z z' : ab_Z} (h : ab_ext z z') {w : ab_w} {x : Value} (e : ab_ho X z w x) : ab_ho X z' w x := by
  rcases w with v | q | o
  · exact ab_ev.ext h e
  · exact e
  · cases o with
    | none => exact e
    | some ks =>
      obtain ⟨k, hk, a, h1, h2⟩ := e
      obtain ⟨-, -, ⟨t, ht⟩⟩ := h
      exact ⟨k, hk, a, by rw [ht]; exact ab_get_app h1, h2⟩
noncomputable def ab_cR (X : ab_X) (z : ab_Z) (s : State) (c : ab_C) (e : va_E) : Prop := match c with
  | .inl o => ∃ vs, e = .inr (o.1, vs) ∧ o.2.length = vs.length ∧ ∀ (j : Nat) (f : ab_F) (v : Value), o.2[j]? = some f → vs[j]? = some v → ab_ho X z f.2 v
  | .inr a => ∃ (cA : ClassId) (x : ab_ct), e = .inl (cA, a.2.1, x) ∧ ab_km a.1 x ∧ (ArrOfT s cA (ab_ft a.1) ∧ va_RA s cA (ab_ft a.1)) ∧ ∀ j : Nat, j < a.2.1 → ab_ho X z (ab_at a.2.2.2.1 a.2.2.2.2 j) (ab_cv x j)
theorem ab_cR.ext {X : ab_X} {z z' : ab_Z} {s : State} {c : ab_C} {e : va_E} (h : ab_ext z z') (hc : ab_cR X z s c e) : ab_cR X z' s c e := by
  rcases c with o | a
  · obtain ⟨vs, h1, h2, h3⟩ := hc
    exact ⟨vs, h1, h2, fun j f v hf hv => (h3 j f v hf hv).ext h⟩
  · obtain ⟨cA, x, h1, h2, h3, h4⟩ := hc
    exact ⟨cA, x, h1, h2, h3, fun j hj => (h4 j hj).ext h⟩
theorem ab_cR.moved {X : ab_X} {z : ab_Z} {s U : State} {c : ab_C} {e : va_E} (h : s.vm.Alike U.vm) (hc : ab_cR X z s c e) : ab_cR X z U c e := by
  rcases c with o | a
  · exact hc
  · obtain ⟨cA, x, h1, h2, h3, h4⟩ := hc
    exact ⟨cA, x, h1, h2, ⟨arrOfT_moved h h3.1, h3.2.moved h⟩, h4⟩
/-- a row of ints of the world -/
noncomputable def ab_arr (ws : va_W) (k : Nat) : Option (Nat × (Nat → Int32)) := match ws[k]? with
  | some (_, .inl (_, n, .inl f)) => some (n, f)
  | _ => none
noncomputable def ab_lin : List Int32 → Int
  | c :: x :: r => c.toInt * x.toInt + ab_lin r
  | c :: [] => c.toInt
  | [] => 0
/-- how many cells a fact speaks of (its first numbers) -/
noncomputable def ab_nc (kd : Nat) : Nat := match kd with
  | 0 => 0
  | 1 => 1
  | _ => 2
/-- what a fact says: 0: a sum is not below 0; 1: a place of a row holds an int; from 2 on: ab_fk -/
noncomputable def ab_fm (kd : Nat) (xs : List Int32) (ws : va_W) : Prop := match kd with
  | 0 => 0 ≤ ab_lin xs
  | 1 => ∃ (k i v : Int32) (n : Nat) (f : Nat → Int32), xs = [k, i, v] ∧ ab_arr ws k.toNatClampNeg = some (n, f) ∧ 0 ≤ i.toInt ∧ i.toInt < n ∧ f i.toNatClampNeg = v
  | kd + 2 => ab_fk kd (xs.drop 2) ((xs.take 2).map (fun x => ab_arr ws x.toNatClampNeg))
theorem ab_fm.frame {kd : Nat} {xs : List Int32} {ws ws' : va_W} (h : ∀ x ∈ xs.take (ab_nc kd), ab_arr ws' x.toNatClampNeg = ab_arr ws x.toNatClampNeg) (hf : ab_fm kd xs ws) : ab_fm kd xs ws' := by
  match kd, h, hf with
  | 0, _, hf => exact hf
  | 1, h, hf =>
    obtain ⟨k, i, v, n, f, rfl, h1, h2⟩ := hf
    exact ⟨k, i, v, n, f, rfl, by rw [h k (by simp [ab_nc])]; exact h1, h2⟩
  | kd + 2, h, hf =>
    have e : (xs.take 2).map (fun x => ab_arr ws' x.toNatClampNeg) = (xs.take 2).map (fun x => ab_arr ws x.toNatClampNeg) := List.map_congr_left (fun x hx => h x hx)
    show ab_fk kd (xs.drop 2) _
    rw [e]; exact hf
noncomputable def ab_fs (z : ab_Z) (ws : va_W) (f : ab_Y) : Prop := ∃ xs : List Int32, f.2.map (ab_evI z.1) = xs.map some ∧ ab_fm f.1 xs ws
theorem ab_evIs.ext {z z' : ab_Z} (h : ab_ext z z') : ∀ {l : List ab_I} {c : List Int32}, l.map (ab_evI z.1) = c.map some → l.map (ab_evI z'.1) = c.map some
  | [], [], _ => rfl
  | [], _ :: _, e => by simp at e
  | _ :: _, [], e => by simp at e
  | a :: l, x :: c, e => by
    simp only [List.map_cons, List.cons.injEq] at e ⊢
    exact ⟨ab_evI.ext h e.1, ab_evIs.ext h e.2⟩
theorem ab_fs.ext {z z' : ab_Z} {ws : va_W} {f : ab_Y} (h : ab_ext z z') (hf : ab_fs z ws f) : ab_fs z' ws f := by
  obtain ⟨xs, h1, h2⟩ := hf
  exact ⟨xs, ab_evIs.ext h h1, h2⟩
/-- the facts that don't speak of cell k: the cells stand as constants -/
noncomputable def ab_sp (k n : Nat) (l : List ab_I) : Bool := match n, l with
  | 0, _ => true
  | n + 1, (none, c) :: r => bif ab_ie c k then false else (bif ab_le 0 c && ab_le c 2147483647 then ab_sp k n r else false)
  | _ + 1, _ => false
theorem ab_sp_ok {k : Nat} (hk : k < 2147483648) {rho : List Int32} : ∀ {n : Nat} {l : List ab_I} {xs : List Int32}, ab_sp k n l = true → l.map (ab_evI rho) = xs.map some → ∀ x ∈ xs.take n, x.toNatClampNeg ≠ k
  | 0, _, _, _, _, x, hx => by simp at hx
  | n + 1, [], xs, h, _, _, _ => by simp [ab_sp] at h
  | n + 1, (some v, c) :: r, xs, h, _, _, _ => by simp [ab_sp] at h
  | n + 1, (none, c) :: r, [], h, e, _, _ => by simp at e
  | n + 1, (none, c) :: r, y :: xs, h, e, x, hx => by
    simp only [ab_sp] at h
    cases h1 : ab_ie c k
    · rw [h1, cond_false] at h
      cases h2 : (ab_le 0 c && ab_le c 2147483647)
      · rw [h2] at h; cases h
      · rw [h2, cond_true] at h
        simp only [List.map_cons, List.cons.injEq, ab_evI, Option.some.injEq] at e
        rw [Bool.and_eq_true, ab_le_iff, ab_le_iff] at h2
        rw [List.take_succ_cons] at hx
        rcases List.mem_cons.mp hx with rfl | hx
        · have e1 := ab_of c (by omega) h2.2
          rw [e.1] at e1
          intro e2
          have e3 : ab_ie c k = true := by
            rw [ab_ie_iff]
            have : (x.toNatClampNeg : Int) = x.toInt := by
              rw [Int32.toNatClampNeg, Int.toNat_of_nonneg (by omega)]
            omega
          rw [h1] at e3; cases e3
        · exact ab_sp_ok hk h e.2 x hx
    · rw [h1] at h; cases h
noncomputable def ab_dropK {β : Type} (k : Nat) : List ab_Y → (List ab_Y → β) → β
  | [], c => c []
  | (kd, l) :: r, c => bif ab_sp k (ab_nc kd) l then ab_dropK k r (fun t => c ((kd, l) :: t)) else ab_dropK k r c
noncomputable def ab_drop (k : Nat) (l : List ab_Y) : List ab_Y := ab_dropK k l (fun t => t)
theorem ab_dropK_eq {β : Type} (k : Nat) : ∀ (l : List ab_Y) (c : List ab_Y → β), ab_dropK k l c = c (l.filter (fun f => ab_sp k (ab_nc f.1) f.2))
  | [], c => rfl
  | (kd, l) :: r, c => by
    simp only [ab_dropK, List.filter]
    cases ab_sp k (ab_nc kd) l
    · simp only [cond_false]; exact ab_dropK_eq k r c
    · simp only [cond_true]; exact ab_dropK_eq k r _
noncomputable def ab_wR (X : ab_X) (z : ab_Z) (s : State) (aw : ab_H) (ws : va_W) : Prop := (aw.1.length = ws.length ∧ ∀ (k : Nat) (c : ab_C), aw.1[k]? = some c → ∃ q, ws[k]? = some q ∧ ab_cR X z s c q.2) ∧ ∀ f ∈ aw.2, ab_fs z ws f
theorem ab_wR.ext {X : ab_X} {z z' : ab_Z} {s : State} {aw : ab_H} {ws : va_W} (h : ab_ext z z') (hw : ab_wR X z s aw ws) : ab_wR X z' s aw ws :=
  ⟨⟨hw.1.1, fun k c hk => by obtain ⟨q, h1, h2⟩ := hw.1.2 k c hk; exact ⟨q, h1, h2.ext h⟩⟩, fun f hf => (hw.2 f hf).ext h⟩
theorem ab_wR.moved {X : ab_X} {z : ab_Z} {s U : State} {aw : ab_H} {ws : va_W} (h : s.vm.Alike U.vm) (hw : ab_wR X z s aw ws) : ab_wR X z U aw ws :=
  ⟨⟨hw.1.1, fun k c hk => by obtain ⟨q, h1, h2⟩ := hw.1.2 k c hk; exact ⟨q, h1, h2.moved h⟩⟩, hw.2⟩
/-- one cell is another one now, told otherwise -/
theorem ab_wR.set {X : ab_X} {z : ab_Z} {s : State} {aw : ab_H} {ws : va_W} (hw : ab_wR X z s aw ws) {k a : Nat} {c : ab_C} {e : va_E} (hc : ab_cR X z s c e) {fx : List ab_Y} (hfx : ∀ f ∈ fx, ab_fs z (ws.set k (a, e)) f) : ab_wR X z s (aw.1.set k c, fx) (ws.set k (a, e)) := by
  refine ⟨⟨by simp [hw.1.1], fun j d hj => ?_⟩, hfx⟩
  by_cases hjk : j = k
  · subst hjk
    by_cases hl : j < aw.1.length
    · rw [List.getElem?_set_self hl] at hj
      cases hj
      exact ⟨(a, e), List.getElem?_set_self (by rw [← hw.1.1]; exact hl), hc⟩
    · rw [List.getElem?_eq_none (by simp; omega)] at hj
      cases hj
  · rw [List.getElem?_set_ne (Ne.symm hjk)] at hj ⊢
    exact hw.1.2 j d hj
theorem ab_arr_set {ws : va_W} {k j : Nat} {q : Nat × va_E} (h : j ≠ k) : ab_arr (ws.set k q) j = ab_arr ws j := by
  unfold ab_arr
  rw [List.getElem?_set_ne (Ne.symm h)]
/-- facts that don't speak of cell k outlive its change -/
theorem ab_fs.set {z : ab_Z} {ws : va_W} {k : Nat} {q : Nat × va_E} (hk : k < 2147483648) {fx : List ab_Y} (h : ∀ f ∈ fx, ab_fs z ws f) : ∀ f ∈ fx.filter (fun f => ab_sp k (ab_nc f.1) f.2), ab_fs z (ws.set k q) f := by
  intro f hf
  obtain ⟨h1, h2⟩ := List.mem_filter.mp hf
  obtain ⟨xs, h3, h4⟩ := h f h1
  exact ⟨xs, h3, h4.frame (fun x hx => ab_arr_set (ab_sp_ok hk h2 h3 x hx))⟩
/-- an object's change touches no row -/
theorem ab_arr_obj {ws : va_W} {k a c0 : Nat} {vs vs' : List Value} (h : ws[k]? = some (a, .inr (c0, vs))) (j : Nat) : ab_arr (ws.set k (a, .inr (c0, vs'))) j = ab_arr ws j := by
  by_cases hj : j = k
  · subst hj
    unfold ab_arr
    rw [List.getElem?_set_self (List.getElem?_eq_some_iff.mp h).1, h]
  · exact ab_arr_set hj
theorem ab_fs.obj {z : ab_Z} {ws : va_W} {k a c0 : Nat} {vs vs' : List Value} (hk : ws[k]? = some (a, .inr (c0, vs))) {f : ab_Y} (h : ab_fs z ws f) : ab_fs z (ws.set k (a, .inr (c0, vs'))) f := by
  obtain ⟨xs, h3, h4⟩ := h
  exact ⟨xs, h3, h4.frame (fun x _ => ab_arr_obj hk _)⟩
/-- a row of 305 ints whose default is told as an interval: its first 100 places stay -/
noncomputable def ab_ism (t n : Nat) (d : ab_w) : Bool := match t with
  | 0 => bif Nat.beq n 305 then (match d with
    | .inr (.inl _) => true
    | _ => false) else false
  | _ + 1 => false
noncomputable def ab_mkl (b : Bool) : List Bool := bif b then [false] else []
/-- which fields may be written -/
noncomputable def ab_flg (c : ab_C) : List Bool := match c with
  | .inl o => o.2.map Prod.fst
  | .inr a => match a.2.2.1 with
    | false => [false]
    | true => true :: ab_mkl (ab_ism a.1 a.2.1 a.2.2.2.1)
/-- rows alike below place 100 -/
noncomputable def ab_al (e e0 : va_E) : Prop := ∀ (cA : ClassId) (n : Nat) (f0 : Nat → Int32), e0 = .inl (cA, n, .inl f0) → ∃ f, e = .inl (cA, n, .inl f) ∧ ∀ j : Nat, j < 100 → f j = f0 j
theorem ab_al.rf {e : va_E} : ab_al e e := fun _ _ f0 h => ⟨f0, h, fun _ _ => rfl⟩
theorem ab_al.tr {e e1 e2 : va_E} (h1 : ab_al e e1) (h2 : ab_al e1 e2) : ab_al e e2 := fun cA n f0 h => by
  obtain ⟨f1, a1, a2⟩ := h2 cA n f0 h
  obtain ⟨f, b1, b2⟩ := h1 cA n f1 a1
  exact ⟨f, b1, fun j hj => (b2 j hj).trans (a2 j hj)⟩
noncomputable def ab_fC (fl : List Bool) (e e0 : va_E) : Prop := match e0 with
  | .inr (c0, vs0) => ∃ vs, e = .inr (c0, vs) ∧ ∀ (j : Nat), fl[j]? = some false → vs[j]? = vs0[j]?
  | .inl _ => (fl = [false] → e = e0) ∧ (fl = [true, false] → ab_al e e0)
theorem ab_ism_ne {t n : Nat} {d : ab_w} (h : n ≠ 305) : ab_ism t n d = false := by
  unfold ab_ism
  split
  · cases hb : Nat.beq n 305
    · rfl
    · exact absurd (Nat.eq_of_beq_eq_true hb) h
  · rfl
theorem ab_flg_f {a : Nat × Nat × Bool × ab_w × List (Nat × Nat × ab_w)} (h : a.2.2.1 = false) : ab_flg (.inr a) = [false] := by
  unfold ab_flg
  simp only [h]
theorem ab_fC_nm {t n : Nat} {d : ab_w} {ov : List (Nat × Nat × ab_w)} {q q0 : ClassId × vp_A} (h : ab_ism t n d = false) : ab_fC (ab_flg (.inr (t, n, true, d, ov))) (.inl q) (.inl q0) := by
  have e : ab_flg (.inr (t, n, true, d, ov)) = [true] := by
    show true :: ab_mkl (ab_ism t n d) = [true]
    rw [h]; rfl
  rw [e]
  exact ⟨fun h9 => (by cases h9), fun h9 => (by cases h9)⟩
theorem ab_flg_ne {t n : Nat} {d d' : ab_w} {ov ov' : List (Nat × Nat × ab_w)} (h : n ≠ 305) : ab_flg (.inr (t, n, true, d, ov)) = ab_flg (.inr (t, n, true, d', ov')) := by
  show true :: ab_mkl (ab_ism t n d) = true :: ab_mkl (ab_ism t n d')
  rw [ab_ism_ne h, ab_ism_ne h]
noncomputable def ab_b5 (n : Nat) : Bool := Nat.ble n 100000 && !(Nat.beq n 305)
theorem ab_b5_ok {n : Nat} (h : ab_b5 n = true) : n ≤ 100000 ∧ n ≠ 305 := by
  unfold ab_b5 at h
  rw [Bool.and_eq_true, Bool.not_eq_true'] at h
  exact ⟨Nat.le_of_ble_eq_true h.1, fun e => by rw [e] at h; cases h.2⟩
/-- a place of a row whose beginning stays lies behind it -/
noncomputable def ab_b6 (env : ab_E) (i : ab_I) (n : Nat) (d : ab_w) : Bool := Nat.ble n 100000 && (bif ab_ism 0 n d then ab_ivK env i (fun lo _ => ab_le 100 lo) else true)
theorem ab_b6_ok {env : ab_E} {i : ab_I} {n : Nat} {d : ab_w} (h : ab_b6 env i n d = true) : n ≤ 100000 ∧ (ab_ism 0 n d = true → 100 ≤ (ab_iv env i).1) := by
  unfold ab_b6 at h
  rw [Bool.and_eq_true] at h
  refine ⟨Nat.le_of_ble_eq_true h.1, fun e => ?_⟩
  have h2 := h.2
  rw [e, cond_true, ab_ivK_eq, ab_le_iff] at h2
  exact h2
theorem ab_fC_st {n k : Nat} {d : ab_w} {ov : List (Nat × Nat × ab_w)} {cA : ClassId} {f : Nat → Int32} {v : Int32} (h : ab_ism 0 n d = true → 100 ≤ k) : ab_fC (ab_flg (.inr (0, n, true, d, ov))) (.inl (cA, n, .inl (upd f k v))) (.inl (cA, n, .inl f)) := by
  cases hm : ab_ism 0 n d
  · exact ab_fC_nm hm
  · refine ⟨fun h9 => (by cases h9), fun _ cA' n' f0 h9 => ?_⟩
    cases h9
    refine ⟨_, rfl, fun j hj => ?_⟩
    have := h hm
    unfold upd
    rw [if_neg (by omega)]
/-- since the world ws0 nothing changed that might not -/
noncomputable def ab_fr (fls : List (List Bool)) (ws0 ws : va_W) : Prop := ∀ (k : Nat) (q0 : Nat × va_E), ws0[k]? = some q0 → ∃ q, ws[k]? = some q ∧ q.1 = q0.1 ∧ ∀ fl, fls[k]? = some fl → ab_fC fl q.2 q0.2
theorem ab_fC.rf {fl : List Bool} {e : va_E} : ab_fC fl e e := by
  unfold ab_fC
  split
  · exact ⟨_, rfl, fun _ _ => rfl⟩
  · exact ⟨fun _ => rfl, fun _ => ab_al.rf⟩
theorem ab_fr.rf {fls : List (List Bool)} {ws : va_W} : ab_fr fls ws ws := fun k q0 h => ⟨q0, h, rfl, fun _ _ => ab_fC.rf⟩
theorem ab_fC.tr {fl : List Bool} {e e1 e2 : va_E} (h1 : ab_fC fl e e1) (h2 : ab_fC fl e1 e2) : ab_fC fl e e2 := by
  unfold ab_fC at h2 ⊢
  split
  · obtain ⟨vs, rfl, h3⟩ := h2
    obtain ⟨vs', rfl, h4⟩ := h1
    exact ⟨vs', rfl, fun j hj => (h4 j hj).trans (h3 j hj)⟩
  · rename_i q
    refine ⟨fun hf => ?_, fun hf => ?_⟩
    · have h3 := h2.1 hf
      subst h3
      unfold ab_fC at h1
      exact h1.1 hf
    · have h3 := h2.2 hf
      cases e1 with
      | inl q1 =>
        unfold ab_fC at h1
        exact (h1.2 hf).tr h3
      | inr q1 =>
        intro cA n f0 h9
        obtain ⟨f, g1, -⟩ := h3 cA n f0 h9
        cases g1
theorem ab_fr.tr {fls t : List (List Bool)} {ws0 ws ws' : va_W} (h1 : ab_fr fls ws0 ws) (h2 : ab_fr (fls ++ t) ws ws') : ab_fr fls ws0 ws' := by
  intro k q0 hk
  obtain ⟨q, a1, a2, a3⟩ := h1 k q0 hk
  obtain ⟨q', b1, b2, b3⟩ := h2 k q a1
  refine ⟨q', b1, b2.trans a2, fun fl hfl => ?_⟩
  exact (b3 fl (ab_get_app hfl)).tr (a3 fl hfl)
abbrev ab_Z0 : Type := ab_Z × va_W × List (List Bool)
/-- behind the start: more variables; the flags; the frame -/
noncomputable def ab_e0 (z0 : ab_Z0) (aw : ab_H) (z : ab_Z) (ws : va_W) : Prop := ab_ext z0.1 z ∧ (∃ t, aw.1.map ab_flg = z0.2.2 ++ t) ∧ ab_fr z0.2.2 z0.2.1 ws
theorem ab_fst_set {ws : va_W} {k a : Nat} {e0 e : va_E} (h : ws[k]? = some (a, e0)) : (ws.set k (a, e)).map Prod.fst = ws.map Prod.fst := by
  apply List.ext_getElem?
  intro j
  rw [List.getElem?_map, List.getElem?_map]
  by_cases hj : j = k
  · subst hj
    rw [List.getElem?_set_self (List.getElem?_eq_some_iff.mp h).1, h]; rfl
  · rw [List.getElem?_set_ne (Ne.symm hj)]
noncomputable def ab_sc (_ : ab_X) (_ : List Int32) : Prop := True
theorem ab_sc.ext {X : ab_X} {rho t : List Int32} (_ : ab_sc X rho) : ab_sc X (rho ++ t) := trivial
/-- the state's meaning: variables, cells, the heap -/
noncomputable def ab_R (X : ab_X) (D : va_G) (s : State) (z0 : ab_Z0) (env : ab_E) (nl : Nat) (aw : ab_H) (z : ab_Z) (ws : va_W) (H : Heap) (locs : List Loc) : Prop :=
  ab_eR env z.1 ∧ z.2.1.length = nl ∧ ws.map Prod.fst = z.2.2 ∧ ab_wR X z s aw ws ∧ va_P D vwCl ws H ∧ va_D (ab_Ar X) ws ∧ va_S (ab_Ar X) s.heap H locs ∧ ab_sc X z.1 ∧ ab_e0 z0 aw z ws
section
variable {X : ab_X} {D : va_G} {s : State} {z0 : ab_Z0} {env env' : ab_E} {nl : Nat} {aw : ab_H} {z : ab_Z} {ws : va_W} {H : Heap} {locs : List Loc}
theorem ab_e0.ext {z' : ab_Z} (h : ab_e0 z0 aw z ws) (h2 : ab_ext z z') : ab_e0 z0 aw z' ws := ⟨h.1.tr h2, h.2⟩
theorem ab_ext_v {t : List Int32} : ab_ext z (z.1 ++ t, z.2) := ⟨⟨t, rfl⟩, ⟨[], by simp⟩, ⟨[], by simp⟩⟩
theorem ab_R.vars (h : ab_R X D s z0 env nl aw z ws H locs) {t : List Int32} (he : ab_eR env' (z.1 ++ t)) : ab_R X D s z0 env' nl aw (z.1 ++ t, z.2) ws H locs := by
  obtain ⟨h1, h2, h3, h4, h5, h6, h7, h8, h9⟩ := h
  exact ⟨he, h2, h3, h4.ext ab_ext_v, h5, h6, h7, h8.ext, h9.ext ab_ext_v⟩
theorem ab_R.ref (h : ab_R X D s z0 env nl aw z ws H locs) (he : ab_eR env' z.1) : ab_R X D s z0 env' nl aw z ws H locs := by
  obtain ⟨h1, h2, h3, h4, h5, h6, h7, h8, h9⟩ := h
  exact ⟨he, h2, h3, h4, h5, h6, h7, h8, h9⟩
theorem ab_ext_l {y : Int64} : ab_ext z (z.1, z.2.1 ++ [y], z.2.2) := ⟨⟨[], by simp⟩, ⟨[y], rfl⟩, ⟨[], by simp⟩⟩
theorem ab_R.lng (h : ab_R X D s z0 env nl aw z ws H locs) (y : Int64) : ab_R X D s z0 env (nl + 1) aw (z.1, z.2.1 ++ [y], z.2.2) ws H locs := by
  obtain ⟨h1, h2, h3, h4, h5, h6, h7, h8, h9⟩ := h
  exact ⟨h1, by simp [h2], h3, h4.ext ab_ext_l, h5, h6, h7, h8, h9.ext ab_ext_l⟩
theorem ab_ext_a {q : Nat} : ab_ext z (z.1, z.2.1, z.2.2 ++ [q]) := ⟨⟨[], by simp⟩, ⟨[], by simp⟩, ⟨[q], rfl⟩⟩
/-- a cell of the world by its number -/
theorem ab_R.cell (h : ab_R X D s z0 env nl aw z ws H locs) {k : Nat} {c : ab_C} (hk : aw.1[k]? = some c) : ∃ (a : Nat) (e : va_E), ws[k]? = some (a, e) ∧ z.2.2[k]? = some a ∧ ab_cR X z s c e := by
  obtain ⟨⟨a, e⟩, h1, h2⟩ := h.2.2.2.1.1.2 k c hk
  refine ⟨a, e, h1, ?_, h2⟩
  rw [← h.2.2.1, List.getElem?_map, h1]; rfl
theorem ab_map_set_same {α β : Type} {f : α → β} {l : List α} {k : Nat} {c c' : α} (h : l[k]? = some c) (hf : f c' = f c) : (l.set k c').map f = l.map f := by
  apply List.ext_getElem?
  intro j
  rw [List.getElem?_map, List.getElem?_map]
  by_cases hj : j = k
  · subst hj
    rw [List.getElem?_set_self (List.getElem?_eq_some_iff.mp h).1, h]; simp [hf]
  · rw [List.getElem?_set_ne (Ne.symm hj)]
/-- a cell is told otherwise, and may be another one: flags and frame are kept -/
theorem ab_R.set (h : ab_R X D s z0 env nl aw z ws H locs) {k a : Nat} {c0 c : ab_C} {e0 e : va_E} {H1 : Heap} {locs1 : List Loc} {fx : List ab_Y} (hk0 : aw.1[k]? = some c0) (hk : ws[k]? = some (a, e0)) (hc : ab_cR X z s c e) (hfl : ab_flg c = ab_flg c0) (hfc : ab_fC (ab_flg c0) e e0) (hfx : ∀ f ∈ fx, ab_fs z (ws.set k (a, e)) f) (hP : va_P D vwCl (ws.set k (a, e)) H1) (hD : va_D (ab_Ar X) (ws.set k (a, e))) (hS : va_S (ab_Ar X) s.heap H1 locs1) : ab_R X D s z0 env nl (aw.1.set k c, fx) z (ws.set k (a, e)) H1 locs1 := by
  obtain ⟨h1, h2, h3, h4, h5, h6, h7, h8, h9, ⟨t, ht⟩, h10⟩ := h
  refine ⟨h1, h2, (ab_fst_set hk).trans h3, h4.set hc hfx, hP, hD, hS, h8, h9, ⟨t, by rw [← ht]; exact ab_map_set_same hk0 hfl⟩, fun j q0 hj => ?_⟩
  obtain ⟨q, a1, a2, a3⟩ := h10 j q0 hj
  by_cases hjk : j = k
  · subst hjk
    cases Option.some.inj (a1.symm.trans hk)
    refine ⟨(a, e), List.getElem?_set_self (List.getElem?_eq_some_iff.mp hk).1, a2, fun fl hfl2 => ?_⟩
    have e1 : (aw.1.map ab_flg)[j]? = some fl := by rw [ht]; exact ab_get_app hfl2
    rw [List.getElem?_map, hk0] at e1
    cases e1
    exact hfc.tr (a3 _ hfl2)
  · exact ⟨q, by rw [List.getElem?_set_ne (Ne.symm hjk)]; exact a1, a2, a3⟩
theorem ab_wR.push {a : Nat} {c : ab_C} {e : va_E} (hw : ab_wR X z s aw ws) (hc : ab_cR X z s c e) : ab_wR X z s (aw.1 ++ [c], []) (ws ++ [(a, e)]) := by
  refine ⟨⟨by simp [hw.1.1], fun j d hj => ?_⟩, fun f hf => by cases hf⟩
  by_cases hl : j < aw.1.length
  · rw [List.getElem?_append_left hl] at hj
    obtain ⟨q, h1, h2⟩ := hw.1.2 j d hj
    exact ⟨q, ab_get_app h1, h2⟩
  · rw [List.getElem?_append_right (by omega)] at hj
    have hz : j - aw.1.length < 1 := (List.getElem?_eq_some_iff.mp hj).1
    have e0 : j = aw.1.length := by omega
    subst e0
    rw [Nat.sub_self] at hj
    cases hj
    refine ⟨(a, e), ?_, hc⟩
    rw [List.getElem?_append_right (by rw [hw.1.1]; exact Nat.le_refl _), hw.1.1, Nat.sub_self]; rfl
theorem ab_R.push (h : ab_R X D s z0 env nl aw z ws H locs) {a : Nat} {c : ab_C} {e : va_E} {H1 : Heap} {locs1 : List Loc} (hc : ab_cR X (z.1, z.2.1, z.2.2 ++ [a]) s c e) (hP : va_P D vwCl (ws ++ [(a, e)]) H1) (hD : va_D (ab_Ar X) (ws ++ [(a, e)])) (hS : va_S (ab_Ar X) s.heap H1 locs1) : ab_R X D s z0 env nl (aw.1 ++ [c], []) (z.1, z.2.1, z.2.2 ++ [a]) (ws ++ [(a, e)]) H1 locs1 := by
  obtain ⟨h1, h2, h3, h4, h5, h6, h7, h8, h9, ⟨t, ht⟩, h10⟩ := h
  refine ⟨h1, h2, by rw [List.map_append, h3]; rfl, (h4.ext ab_ext_a).push hc, hP, hD, hS, h8, h9.tr ab_ext_a, ⟨t ++ [ab_flg c], by rw [List.map_append, ht, List.append_assoc]; rfl⟩, fun j q0 hj => ?_⟩
  obtain ⟨q, a1, a2, a3⟩ := h10 j q0 hj
  exact ⟨q, ab_get_app a1, a2, a3⟩
theorem ab_R.num (h : ab_R X D s z0 env nl aw z ws H locs) : z.2.2.length = aw.1.length := by rw [← h.2.2.1, List.length_map, h.2.2.2.1.1.1]
end
/-- the locals -/
noncomputable def ab_lR (X : ab_X) (z : ab_Z) (nL : Nat) (ls : Array Slot) (lv : List (Nat × ab_V)) : Prop := ls.size = nL ∧ lv_wf ls ∧ ∀ q ∈ lv, ∃ v, ab_ev X z q.2 = some v ∧ ls[q.1]? = some (.val v)
theorem ab_lR.ext {X : ab_X} {z z' : ab_Z} {nL : Nat} {ls : Array Slot} {lv : List (Nat × ab_V)} (h : ab_ext z z') (hl : ab_lR X z nL ls lv) : ab_lR X z' nL ls lv :=
  ⟨hl.1, hl.2.1, fun q hq => by obtain ⟨v, h1, h2⟩ := hl.2.2 q hq; exact ⟨v, ab_ev.ext h h1, h2⟩⟩
noncomputable def ab_lk (l : List (Nat × ab_V)) : Nat → Option ab_V := fun i => List.rec (motive := fun _ => Option ab_V) none (fun q _ ih => match q with
  | (j, v) => bif Nat.beq j i then some v else ih) l
theorem ab_lk_c {j i : Nat} {v : ab_V} {r : List (Nat × ab_V)} : ab_lk ((j, v) :: r) i = bif Nat.beq j i then some v else ab_lk r i := rfl
theorem ab_lk_mem : ∀ {lv : List (Nat × ab_V)} {i : Nat} {v : ab_V}, ab_lk lv i = some v → (i, v) ∈ lv
  | [], i, v, h => by cases h
  | (j, w) :: r, i, v, h => by
    rw [ab_lk_c] at h
    cases hb : Nat.beq j i
    · rw [hb] at h; exact List.mem_cons_of_mem _ (ab_lk_mem h)
    · rw [hb] at h
      cases h
      rw [Nat.eq_of_beq_eq_true hb]; exact List.mem_cons_self
theorem ab_lR.at {X : ab_X} {z : ab_Z} {nL i : Nat} {ls : Array Slot} {lv : List (Nat × ab_V)} {v : ab_V} (hl : ab_lR X z nL ls lv) (h : ab_lk lv i = some v) : ∃ x, ab_ev X z v = some x ∧ ls[i]? = some (.val x) := hl.2.2 (i, v) (ab_lk_mem h)
noncomputable def ab_lg (v : ab_V) : Bool := match v with
  | .inr (.inl _) => true
  | _ => false
/-- what a store at place i leaves of the others; two: of a long -/
noncomputable def ab_kp (two : Bool) (i : Nat) (q : Nat × ab_V) : Bool := !(Nat.beq q.1 i) && !(ab_lg q.2 && Nat.beq (Nat.succ q.1) i) && !(two && Nat.beq q.1 (Nat.succ i))
noncomputable def ab_flK {β : Type} (two : Bool) (i : Nat) (l : List (Nat × ab_V)) : (List (Nat × ab_V) → β) → β := List.rec (motive := fun _ => (List (Nat × ab_V) → β) → β) (fun k => k []) (fun q _ ih k => match q with
  | (j, v) => bif ab_kp two i (j, v) then ih (fun t => k ((j, v) :: t)) else ih k) l
theorem ab_flK_c {β : Type} {two : Bool} {i j : Nat} {v : ab_V} {r : List (Nat × ab_V)} {k : List (Nat × ab_V) → β} : ab_flK two i ((j, v) :: r) k = bif ab_kp two i (j, v) then ab_flK two i r (fun t => k ((j, v) :: t)) else ab_flK two i r k := rfl
theorem ab_flK_eq {β : Type} (two : Bool) (i : Nat) : ∀ (l : List (Nat × ab_V)) (k : List (Nat × ab_V) → β), ab_flK two i l k = k (l.filter (ab_kp two i))
  | [], k => rfl
  | (j, v) :: r, k => by
    rw [ab_flK_c]; simp only [List.filter]
    cases ab_kp two i (j, v)
    · simp only [cond_false]; exact ab_flK_eq two i r k
    · simp only [cond_true]; exact ab_flK_eq two i r _
theorem ab_cat {X : ab_X} {z : ab_Z} {v : ab_V} {x : Value} (hz : X.2.2.2.2.2.category = 1) (h : ab_ev X z v = some x) : x.category = if ab_lg v = true then 2 else 1 := by
  rcases v with a | l | ⟨t, k⟩
  · simp only [ab_ev, Option.map_eq_some_iff] at h
    obtain ⟨y, -, rfl⟩ := h; rfl
  · simp only [ab_ev, Option.map_eq_some_iff] at h
    obtain ⟨y, -, rfl⟩ := h; rfl
  · match t, h with
    | 0, h => cases h; rfl
    | 1, h => cases h; rfl
    | 2, h =>
      simp only [ab_ev, ab_evR, Option.map_eq_some_iff] at h
      obtain ⟨y, -, rfl⟩ := h; rfl
    | 3, h => cases h; rfl
    | 4, h => cases h; rfl
    | 5, h => cases h; rfl
    | _ + 6, h => cases h; exact hz
/-- the locals as a list of values -/
theorem ab_lR.list {X : ab_X} {z : ab_Z} {nL : Nat} {ls : Array Slot} {lv : List (Nat × ab_V)} (hl : ab_lR X z nL ls lv) : ∃ lc : List (Nat × Value), lv_has ls nL lc ∧ ∀ q ∈ lv, ∃ v, ab_ev X z q.2 = some v ∧ (q.1, v) ∈ lc := by
  refine ⟨lv.filterMap (fun q => (ab_ev X z q.2).map (fun v => (q.1, v))), ⟨hl.1, hl.2.1, fun q hq => ?_⟩, fun q hq => ?_⟩
  · obtain ⟨a, ha, h2⟩ := List.mem_filterMap.mp hq
    rw [Option.map_eq_some_iff] at h2
    obtain ⟨v, h3, rfl⟩ := h2
    obtain ⟨w, g1, g2⟩ := hl.2.2 a ha
    cases Option.some.inj (g1.symm.trans h3)
    exact g2
  · obtain ⟨w, g1, g2⟩ := hl.2.2 q hq
    exact ⟨w, g1, List.mem_filterMap.mpr ⟨q, hq, by rw [g1]; rfl⟩⟩
theorem ab_bq (a b : Nat) : (a == b) = Nat.beq a b := by
  cases h : Nat.beq a b
  · exact beq_eq_false_iff_ne.mpr (fun e => by rw [e, Nat.beq_refl] at h; cases h)
  · exact beq_iff_eq.mpr (Nat.eq_of_beq_eq_true h)
theorem ab_lR.put1 {X : ab_X} {z : ab_Z} {nL i : Nat} {ls' : Array Slot} {lv : List (Nat × ab_V)} {lc : List (Nat × Value)} {v : ab_V} {x : Value} (hz : X.2.2.2.2.2.category = 1) (hv : ab_ev X z v = some x) (hlc : ∀ q ∈ lv, ∃ v, ab_ev X z q.2 = some v ∧ (q.1, v) ∈ lc)
    (h : lv_has ls' nL ((i, x) :: lc.filter (fun q => !(q.1 == i) && !(q.1 + 1 == i && q.2.category == 2)))) : ab_lR X z nL ls' ((i, v) :: lv.filter (ab_kp false i)) := by
  refine ⟨h.1, h.2.1, fun q hq => ?_⟩
  rcases List.mem_cons.mp hq with rfl | hq
  · exact ⟨x, hv, h.2.2 (i, x) List.mem_cons_self⟩
  · obtain ⟨h1, h2⟩ := List.mem_filter.mp hq
    obtain ⟨w, g1, g2⟩ := hlc q h1
    refine ⟨w, g1, h.2.2 (q.1, w) (List.mem_cons_of_mem _ (List.mem_filter.mpr ⟨g2, ?_⟩))⟩
    have hc := ab_cat hz g1
    simp only [ab_kp, Bool.and_eq_true, Bool.not_eq_true', Bool.and_eq_false_iff] at h2
    obtain ⟨⟨a1, a2⟩, -⟩ := h2
    have b1 : (q.1 == i) = false := (ab_bq _ _).trans a1
    have b2 : (q.1 + 1 == i && w.category == 2) = false := by
      rcases a2 with a2 | a2
      · rw [a2] at hc
        rw [show w.category = 1 from hc]; simp
      · rw [show (q.1 + 1 == i) = false from (ab_bq _ _).trans a2]; rfl
    simp only [b1, b2]; rfl
theorem ab_lR.put2 {X : ab_X} {z : ab_Z} {nL i : Nat} {ls' : Array Slot} {lv : List (Nat × ab_V)} {lc : List (Nat × Value)} {v : ab_V} {x : Value} (hz : X.2.2.2.2.2.category = 1) (hv : ab_ev X z v = some x) (hlc : ∀ q ∈ lv, ∃ v, ab_ev X z q.2 = some v ∧ (q.1, v) ∈ lc)
    (h : lv_has ls' nL ((i, x) :: lc.filter (fun q => !(q.1 == i) && (!(q.1 == i + 1) && !(q.1 + 1 == i && q.2.category == 2))))) : ab_lR X z nL ls' ((i, v) :: lv.filter (ab_kp true i)) := by
  refine ⟨h.1, h.2.1, fun q hq => ?_⟩
  rcases List.mem_cons.mp hq with rfl | hq
  · exact ⟨x, hv, h.2.2 (i, x) List.mem_cons_self⟩
  · obtain ⟨h1, h2⟩ := List.mem_filter.mp hq
    obtain ⟨w, g1, g2⟩ := hlc q h1
    refine ⟨w, g1, h.2.2 (q.1, w) (List.mem_cons_of_mem _ (List.mem_filter.mpr ⟨g2, ?_⟩))⟩
    have hc := ab_cat hz g1
    simp only [ab_kp, Bool.and_eq_true, Bool.not_eq_true', Bool.and_eq_false_iff, Bool.true_and] at h2
    obtain ⟨⟨a1, a2⟩, a3⟩ := h2
    have b1 : (q.1 == i) = false := (ab_bq _ _).trans a1
    have b3 : (q.1 == i + 1) = false := (ab_bq _ _).trans a3
    have b2 : (q.1 + 1 == i && w.category == 2) = false := by
      rcases a2 with a2 | a2
      · rw [a2] at hc
        rw [show w.category = 1 from hc]; simp
      · rw [show (q.1 + 1 == i) = false from (ab_bq _ _).trans a2]; rfl
    simp only [b1, b2, b3]; rfl
