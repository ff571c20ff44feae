/-! A state told more coarsely: templates. -/
noncomputable def ab_bq2 (a b : Bool) : Bool := match a, b with
  | true, true => true
  | false, false => true
  | _, _ => false
theorem ab_bq2_eq {a b : Bool} (h : ab_bq2 a b = true) : a = b := by cases a <;> cases b <;> first | rfl | cases h
noncomputable def ab_subV (env : ab_E) (sg : List ab_I) (v w : ab_V) : Bool := match w with
  | .inl (some u, c) => (match v with
    | .inl a => (match ab_get sg u with
      | some b => ab_ie c 0 && ab_eqI a b
      | none => false)
    | _ => false)
  | .inl (none, c) => (match v with
    | .inl a => ab_ivK env a (fun lo hi => ab_ie lo c && ab_ie hi c)
    | _ => false)
  | .inr (.inl (.inl (none, c))) => (match v with
    | .inr (.inl (.inl (none, d))) => ab_ie c d
    | _ => false)
  | .inr (.inl _) => false
  | .inr (.inr (t, k)) => (match v with
    | .inr (.inr (t', k')) => Nat.beq t' t && Nat.beq k' k
    | _ => false)
noncomputable def ab_subN : List Nat → List Nat → Bool
  | [], _ => true
  | q :: r, ks => ab_memb q ks && ab_subN r ks
theorem ab_subN_ok : ∀ {qs ks : List Nat}, ab_subN qs ks = true → ∀ q ∈ qs, q ∈ ks
  | [], _, _, q, h => by cases h
  | a :: r, ks, h, q, hq => by
    simp only [ab_subN, Bool.and_eq_true] at h
    rcases List.mem_cons.mp hq with rfl | hq
    · exact ab_memb_ok h.1
    · exact ab_subN_ok h.2 q hq
noncomputable def ab_subW (env : ab_E) (sg : List ab_I) (w wt : ab_w) : Bool := match wt with
  | .inl v' => (match w with
    | .inl v => ab_subV env sg v v'
    | _ => false)
  | .inr (.inl (lo, hi)) => ab_wivK env w (fun x y => ab_le lo x && ab_le y hi) false
  | .inr (.inr none) => (match w with
    | .inl (.inr (.inl _)) => true
    | .inr (.inr none) => true
    | _ => false)
  | .inr (.inr (some ks)) => (match w with
    | .inl (.inr (.inr (2, q))) => ab_memb q ks
    | .inr (.inr (some qs)) => ab_subN qs ks
    | _ => false)
/-- the template's variables are these of the state's ints -/
noncomputable def ab_vr (z z' : ab_Z) (sg : List ab_I) : Prop := z'.2.2 = z.2.2 ∧ ∀ (u : Nat) (a : ab_I), sg[u]? = some a → ∃ x, ab_evI z.1 a = some x ∧ z'.1[u]? = some x
section
variable {X : ab_X} {z z' : ab_Z} {env : ab_E} {sg : List ab_I}
theorem ab_subV_ok (hR : ab_eR env z.1) (hv : ab_vr z z' sg) {v w : ab_V} (h : ab_subV env sg v w = true) {x : Value} (hx : ab_ev X z v = some x) : ab_ev X z' w = some x := by
  unfold ab_subV at h
  split at h
  · rename_i u c
    split at h
    · rename_i a
      rw [ab_get_eq] at h
      split at h
      · rename_i b hb
        rw [Bool.and_eq_true, ab_ie_iff] at h
        obtain ⟨h1, h2⟩ := h
        subst h1
        cases ab_eqI_eq h2
        obtain ⟨y, y1, y2⟩ := hv.2 u a hb
        obtain ⟨y', rfl, y3⟩ := ab_evi hx
        cases Option.some.inj (y1.symm.trans y3)
        refine ab_evc ?_
        simp only [ab_evI, y2, Option.map_some]; simp
      · cases h
    · cases h
  · rename_i c
    split at h
    · rename_i a
      rw [ab_ivK_eq, Bool.and_eq_true, ab_ie_iff, ab_ie_iff] at h
      obtain ⟨y, rfl, y3⟩ := ab_evi hx
      have hi := ab_iv_spec hR y3
      have e : y.toInt = c := by omega
      refine ab_evc ?_
      simp only [ab_evI]
      rw [← e, Int32.ofInt_toInt]
    · cases h
  · rename_i c
    split at h
    · rename_i d
      rw [ab_ie_iff] at h
      subst h
      exact hx
    · cases h
  · cases h
  · rename_i t k
    split at h
    · rename_i t' k'
      rw [Bool.and_eq_true] at h
      cases Nat.eq_of_beq_eq_true h.1
      cases Nat.eq_of_beq_eq_true h.2
      have e : ab_ev X z' (.inr (.inr (t, k))) = ab_ev X z (.inr (.inr (t, k))) := by
        simp only [ab_ev]
        unfold ab_evR
        split <;> first | rfl | rw [hv.1]
      rw [e]; exact hx
    · cases h
theorem ab_wivB_ok (hR : ab_eR env z.1) {w : ab_w} {k : Int → Int → Bool} (h : ab_wivK env w k false = true) : ∃ x y, k x y = true ∧ ∀ v, ab_ho X z w v → ∃ n : Int32, v = .int n ∧ x ≤ n.toInt ∧ n.toInt ≤ y := by
  unfold ab_wivK at h
  split at h
  · rename_i a
    rw [ab_ivK_eq] at h
    refine ⟨_, _, h, fun v hv => ?_⟩
    obtain ⟨n, rfl, h2⟩ := ab_evi (X := X) hv
    exact ⟨n, rfl, ab_iv_spec hR h2⟩
  · rename_i lo hi
    exact ⟨_, _, h, fun v hv => hv⟩
  · cases h
theorem ab_subW_ok (hR : ab_eR env z.1) (hv : ab_vr z z' sg) {w wt : ab_w} (h : ab_subW env sg w wt = true) {x : Value} (hx : ab_ho X z w x) : ab_ho X z' wt x := by
  unfold ab_subW at h
  split at h
  · split at h
    · exact ab_subV_ok hR hv h hx
    · cases h
  · rename_i lo hi
    obtain ⟨a, b, h1, h2⟩ := ab_wivB_ok (X := X) hR h
    rw [Bool.and_eq_true, ab_le_iff, ab_le_iff] at h1
    obtain ⟨n, rfl, h3, h4⟩ := h2 x hx
    exact ⟨n, rfl, by omega, by omega⟩
  · split at h
    · obtain ⟨y, rfl, -⟩ := ab_evl (X := X) hx
      exact ⟨y, rfl⟩
    · exact hx
    · cases h
  · rename_i ks
    split at h
    · rename_i q
      obtain ⟨a, rfl, h3⟩ := ab_ref2 hx
      exact ⟨q, ab_memb_ok h, a, by rw [hv.1]; exact h3, rfl⟩
    · rename_i qs
      obtain ⟨q, hq, a, h1, h2⟩ := hx
      exact ⟨q, ab_subN_ok h q hq, a, by rw [hv.1]; exact h1, h2⟩
    · cases h
end
/-- fields; with flags -/
noncomputable def ab_subFs (env : ab_E) (sg : List ab_I) (l : List ab_F) : List ab_F → Bool := List.rec (motive := fun _ => List ab_F → Bool) (fun t => match t with
  | [] => true
  | _ :: _ => false) (fun q _ ih t => match t with
  | (b', w') :: r' => ab_bq2 q.1 b' && ab_subW env sg q.2 w' && ih r'
  | [] => false) l
theorem ab_subFs_c {env : ab_E} {sg : List ab_I} {b b' : Bool} {w w' : ab_w} {r r' : List ab_F} : ab_subFs env sg ((b, w) :: r) ((b', w') :: r') = (ab_bq2 b b' && ab_subW env sg w w' && ab_subFs env sg r r') := rfl
/-- the places a..a+n of a row -/
noncomputable def ab_subR (env : ab_E) (sg : List ab_I) (w dt : ab_w) (ot : List (Nat × Nat × ab_w)) : Nat → Nat → Bool
  | _, 0 => true
  | a, n + 1 => ab_subW env sg w (ab_at dt ot a) && ab_fn (a + 1) (fun a => ab_subR env sg w dt ot a n)
noncomputable def ab_eqn : List Nat → List Nat → Bool
  | [], [] => true
  | a :: r, b :: t => Nat.beq a b && ab_eqn r t
  | _, _ => false
theorem ab_eqn_eq : ∀ {l m : List Nat}, ab_eqn l m = true → l = m
  | [], [], _ => rfl
  | [], _ :: _, h => by simp [ab_eqn] at h
  | _ :: _, [], h => by simp [ab_eqn] at h
  | a :: r, b :: t, h => by
    simp only [ab_eqn, Bool.and_eq_true] at h
    rw [Nat.eq_of_beq_eq_true h.1, ab_eqn_eq h.2]
/-- the same, and without variables -/
noncomputable def ab_eqw (a b : ab_w) : Bool := match a, b with
  | .inl (.inl (none, c)), .inl (.inl (none, d)) => ab_ie c d
  | .inl (.inr (.inr (t, k))), .inl (.inr (.inr (u, j))) => Nat.beq t u && Nat.beq k j
  | .inr (.inl (x, y)), .inr (.inl (u, v)) => ab_ie x u && ab_ie y v
  | .inr (.inr none), .inr (.inr none) => true
  | .inr (.inr (some ks)), .inr (.inr (some qs)) => ab_eqn ks qs
  | _, _ => false
theorem ab_eqw_ok {X : ab_X} {z z' : ab_Z} (hz : z'.2.2 = z.2.2) {a b : ab_w} (h : ab_eqw a b = true) {x : Value} (hx : ab_ho X z a x) : ab_ho X z' b x := by
  unfold ab_eqw at h
  split at h
  · rw [ab_ie_iff] at h; subst h; exact hx
  · rename_i t k u j
    rw [Bool.and_eq_true] at h
    cases Nat.eq_of_beq_eq_true h.1
    cases Nat.eq_of_beq_eq_true h.2
    have e : ab_ev X z' (.inr (.inr (t, k))) = ab_ev X z (.inr (.inr (t, k))) := by
      simp only [ab_ev]
      unfold ab_evR
      split <;> first | rfl | rw [hz]
    show ab_ev X z' _ = _
    rw [e]; exact hx
  · rw [Bool.and_eq_true, ab_ie_iff, ab_ie_iff] at h
    obtain ⟨rfl, rfl⟩ := h; exact hx
  · exact hx
  · cases ab_eqn_eq h
    obtain ⟨q, hq, a, h1, h2⟩ := hx
    exact ⟨q, hq, a, by rw [hz]; exact h1, h2⟩
  · cases h
noncomputable def ab_eqo (l : List (Nat × Nat × ab_w)) : List (Nat × Nat × ab_w) → Bool := List.rec (motive := fun _ => List (Nat × Nat × ab_w) → Bool) (fun t => match t with
  | [] => true
  | _ :: _ => false) (fun q _ ih t => match t with
  | (c, d, v) :: t => Nat.beq q.1 c && Nat.beq q.2.1 d && ab_eqw q.2.2 v && ih t
  | [] => false) l
theorem ab_eqo_c {a b c d : Nat} {w v : ab_w} {r t : List (Nat × Nat × ab_w)} : ab_eqo ((a, b, w) :: r) ((c, d, v) :: t) = (Nat.beq a c && Nat.beq b d && ab_eqw w v && ab_eqo r t) := rfl
theorem ab_eqo_ok {X : ab_X} {z z' : ab_Z} (hz : z'.2.2 = z.2.2) {d dt : ab_w} (hd : ab_eqw d dt = true) {x : Value} {j : Nat} : ∀ {o o' : List (Nat × Nat × ab_w)}, ab_eqo o o' = true → ab_ho X z (ab_at d o j) x → ab_ho X z' (ab_at dt o' j) x
  | [], [], _, hx => ab_eqw_ok hz hd hx
  | [], _ :: _, h, _ => (Bool.noConfusion (show false = true from h))
  | _ :: _, [], h, _ => (Bool.noConfusion (show false = true from h))
  | (a, b, w) :: r, (c, e, v) :: t, h, hx => by
    rw [ab_eqo_c] at h
    simp only [Bool.and_eq_true] at h
    obtain ⟨⟨⟨h1, h2⟩, h3⟩, h4⟩ := h
    cases Nat.eq_of_beq_eq_true h1
    cases Nat.eq_of_beq_eq_true h2
    simp only [ab_at] at hx ⊢
    cases hb : (Nat.ble a j && Nat.ble j b)
    · rw [hb, cond_false] at hx
      exact ab_eqo_ok hz hd h4 hx
    · rw [hb, cond_true] at hx
      exact ab_eqw_ok hz h3 hx
/-- places told already -/
noncomputable def ab_cvd : List (Nat × Nat) → Nat → Bool
  | [], _ => false
  | (a, b) :: r, j => (Nat.ble a j && Nat.ble j b) || ab_cvd r j
noncomputable def ab_subRc (env : ab_E) (sg : List ab_I) (pre : List (Nat × Nat)) (w dt : ab_w) (ot : List (Nat × Nat × ab_w)) : Nat → Nat → Bool := fun a n => Nat.rec (motive := fun _ => Nat → Bool) (fun _ => true) (fun _ ih a => (ab_subW env sg w (ab_at dt ot a) || ab_cvd pre a) && ab_fn (a + 1) (fun a => ih a)) n a
theorem ab_subRc_s {env : ab_E} {sg : List ab_I} {pre : List (Nat × Nat)} {w dt : ab_w} {ot : List (Nat × Nat × ab_w)} {a n : Nat} : ab_subRc env sg pre w dt ot a (n + 1) = ((ab_subW env sg w (ab_at dt ot a) || ab_cvd pre a) && ab_fn (a + 1) (fun a => ab_subRc env sg pre w dt ot a n)) := rfl
noncomputable def ab_subA (env : ab_E) (sg : List ab_I) (n : Nat) (d dt : ab_w) (ot : List (Nat × Nat × ab_w)) (pre : List (Nat × Nat)) : List (Nat × Nat × ab_w) → Bool
  | [] => bif ab_eqo [] ot && ab_eqw d dt then true else ab_subRc env sg pre d dt ot 0 n
  | (a, b, w) :: r => bif ab_eqo ((a, b, w) :: r) ot && ab_eqw d dt then true else ab_subRc env sg pre w dt ot a (b + 1 - a) && ab_subA env sg n d dt ot ((a, b) :: pre) r
section
variable {X : ab_X} {z z' : ab_Z} {env : ab_E} {sg : List ab_I}
theorem ab_subRc_ok {pre : List (Nat × Nat)} {w dt : ab_w} {ot : List (Nat × Nat × ab_w)} : ∀ {a n : Nat}, ab_subRc env sg pre w dt ot a n = true → ∀ j : Nat, a ≤ j → j < a + n → ab_cvd pre j = false → ab_subW env sg w (ab_at dt ot j) = true
  | a, 0, _, j, h1, h2, _ => by omega
  | a, n + 1, h, j, h1, h2, h3 => by
    rw [ab_subRc_s] at h
    simp only [Bool.and_eq_true, ab_fn_eq] at h
    by_cases hj : j = a
    · subst hj
      have h4 := h.1
      rw [h3, Bool.or_false] at h4
      exact h4
    · exact ab_subRc_ok h.2 j (by omega) (by omega) h3
theorem ab_subA_ok (hR : ab_eR env z.1) (hv : ab_vr z z' sg) {n : Nat} {d dt : ab_w} {ot : List (Nat × Nat × ab_w)} {j : Nat} (hj : j < n) {x : Value} : ∀ {ov : List (Nat × Nat × ab_w)} {pre : List (Nat × Nat)}, ab_cvd pre j = false → ab_subA env sg n d dt ot pre ov = true → ab_ho X z (ab_at d ov j) x → ab_ho X z' (ab_at dt ot j) x
  | [], pre, hp, h, hx => by
    simp only [ab_subA] at h
    cases hb : (ab_eqo [] ot && ab_eqw d dt)
    · rw [hb, cond_false] at h
      exact ab_subW_ok hR hv (ab_subRc_ok h j (Nat.zero_le _) (by omega) hp) hx
    · rw [Bool.and_eq_true] at hb
      exact ab_eqo_ok hv.1 hb.2 hb.1 hx
  | (a, b, w) :: r, pre, hp, h, hx => by
    simp only [ab_subA] at h
    cases hb : (ab_eqo ((a, b, w) :: r) ot && ab_eqw d dt)
    · rw [hb, cond_false, Bool.and_eq_true] at h
      simp only [ab_at] at hx
      cases hc : (Nat.ble a j && Nat.ble j b)
      · rw [hc, cond_false] at hx
        exact ab_subA_ok hR hv hj (pre := (a, b) :: pre) (by simp only [ab_cvd, hc, hp, Bool.or_false]) h.2 hx
      · rw [hc, cond_true] at hx
        rw [Bool.and_eq_true] at hc
        have c1 := Nat.le_of_ble_eq_true hc.1
        have c2 := Nat.le_of_ble_eq_true hc.2
        exact ab_subW_ok hR hv (ab_subRc_ok h.1 j c1 (by omega) hp) hx
    · rw [Bool.and_eq_true] at hb
      exact ab_eqo_ok hv.1 hb.2 hb.1 hx
theorem ab_subFs_ok (hR : ab_eR env z.1) (hv : ab_vr z z' sg) : ∀ {fs gs : List ab_F} {vs : List Value}, ab_subFs env sg fs gs = true → fs.length = vs.length → (∀ (j : Nat) (f : ab_F) (v : Value), fs[j]? = some f → vs[j]? = some v → ab_ho X z f.2 v) → gs.length = vs.length ∧ gs.map Prod.fst = fs.map Prod.fst ∧ ∀ (j : Nat) (f : ab_F) (v : Value), gs[j]? = some f → vs[j]? = some v → ab_ho X z' f.2 v
  | [], [], vs, _, hl, _ => ⟨hl, rfl, fun j f v hf => by simp at hf⟩
  | [], _ :: _, _, h, _, _ => (Bool.noConfusion (show false = true from h))
  | _ :: _, [], _, h, _, _ => (Bool.noConfusion (show false = true from h))
  | (b, w) :: r, (b', w') :: r', [], h, hl, _ => by simp at hl
  | (b, w) :: r, (b', w') :: r', v0 :: vs, h, hl, hh => by
    rw [ab_subFs_c] at h
    simp only [Bool.and_eq_true] at h
    obtain ⟨⟨h1, h2⟩, h3⟩ := h
    obtain ⟨g1, g2, g3⟩ := ab_subFs_ok hR hv (vs := vs) h3 (by simpa using hl) (fun j f v hf hv9 => hh (j + 1) f v (by simpa using hf) (by simpa using hv9))
    refine ⟨by simp [g1], by simp [g2, ab_bq2_eq h1], fun j f v hf hv9 => ?_⟩
    cases j with
    | zero =>
      simp only [List.getElem?_cons_zero, Option.some.injEq] at hf hv9
      subst hf hv9
      exact ab_subW_ok hR hv h2 (hh 0 _ _ rfl rfl)
    | succ j => exact g3 j f v (by simpa using hf) (by simpa using hv9)
end
noncomputable def ab_subC (env : ab_E) (sg : List ab_I) (c ct : ab_C) : Bool := match c, ct with
  | .inl (i, fs), .inl (j, gs) => Nat.beq i j && ab_subFs env sg fs gs
  | .inr (t, n, fl, d, ov), .inr (t', n', fl', dt, ot) => Nat.beq t t' && Nat.beq n n' && (ab_bq2 fl fl' && (!fl || ab_bq2 (ab_ism t n d) (ab_ism t n dt))) && ab_subA env sg n d dt ot [] ov
  | _, _ => false
noncomputable def ab_subCs (env : ab_E) (sg : List ab_I) (l : List ab_C) : List ab_C → Bool := List.rec (motive := fun _ => List ab_C → Bool) (fun t => match t with
  | [] => true
  | _ :: _ => false) (fun c _ ih t => match t with
  | c' :: r' => ab_subC env sg c c' && ih r'
  | [] => false) l
theorem ab_subCs_c {env : ab_E} {sg : List ab_I} {c c' : ab_C} {r r' : List ab_C} : ab_subCs env sg (c :: r) (c' :: r') = (ab_subC env sg c c' && ab_subCs env sg r r') := rfl
section
variable {X : ab_X} {z z' : ab_Z} {env : ab_E} {sg : List ab_I}
theorem ab_subC_ok (hR : ab_eR env z.1) (hv : ab_vr z z' sg) {s : State} {c ct : ab_C} (h : ab_subC env sg c ct = true) {e : va_E} (hc : ab_cR X z s c e) : ab_cR X z' s ct e ∧ ab_flg ct = ab_flg c := by
  unfold ab_subC at h
  split at h
  · rename_i i fs j gs
    rw [Bool.and_eq_true] at h
    cases Nat.eq_of_beq_eq_true h.1
    obtain ⟨vs, rfl, h2, h3⟩ := hc
    obtain ⟨g1, g2, g3⟩ := ab_subFs_ok hR hv h.2 h2 h3
    exact ⟨⟨vs, rfl, g1, g3⟩, g2⟩
  · rename_i t n fl d ov t' n' fl' dt ot
    rw [Bool.and_eq_true, Bool.and_eq_true, Bool.and_eq_true] at h
    obtain ⟨⟨⟨h1, h2⟩, h3⟩, h4⟩ := h
    rw [Bool.and_eq_true] at h3
    obtain ⟨h3, h5⟩ := h3
    cases Nat.eq_of_beq_eq_true h1
    cases Nat.eq_of_beq_eq_true h2
    cases ab_bq2_eq h3
    have hfl : ab_flg (.inr (t, n, fl, dt, ot)) = ab_flg (.inr (t, n, fl, d, ov)) := by
      cases fl
      · rfl
      · have h6 : ab_ism t n d = ab_ism t n dt := ab_bq2_eq h5
        show true :: ab_mkl (ab_ism t n dt) = true :: ab_mkl (ab_ism t n d)
        rw [h6]
    obtain ⟨cA, x, rfl, g2, g3, g4⟩ := hc
    exact ⟨⟨cA, x, rfl, g2, g3, fun j hj => ab_subA_ok hR hv hj rfl h4 (g4 j hj)⟩, hfl⟩
  · cases h
theorem ab_subCs_ok (hR : ab_eR env z.1) (hv : ab_vr z z' sg) {s : State} : ∀ {cs ct : List ab_C}, ab_subCs env sg cs ct = true → ct.length = cs.length ∧ True ∧ ∀ (k : Nat) (c' : ab_C), ct[k]? = some c' → ∃ c, cs[k]? = some c ∧ ∀ e, ab_cR X z s c e → ab_cR X z' s c' e ∧ ab_flg c' = ab_flg c
  | [], [], _ => ⟨rfl, trivial, fun k c' h => by simp at h⟩
  | [], _ :: _, h => (Bool.noConfusion (show false = true from h))
  | _ :: _, [], h => (Bool.noConfusion (show false = true from h))
  | c :: r, c' :: r', h => by
    rw [ab_subCs_c] at h
    simp only [Bool.and_eq_true] at h
    obtain ⟨g1, -, g3⟩ := ab_subCs_ok hR hv (s := s) h.2
    refine ⟨by simp [g1], trivial, fun k d hd => ?_⟩
    cases k with
    | zero =>
      simp only [List.getElem?_cons_zero, Option.some.injEq] at hd
      subst hd
      exact ⟨c, rfl, fun e he => ab_subC_ok hR hv h.1 he⟩
    | succ k =>
      obtain ⟨c0, h1, h2⟩ := g3 k d (by simpa using hd)
      exact ⟨c0, by simpa using h1, h2⟩
end
/-- a template's int as one of the state -/
noncomputable def ab_rn (sg : List ab_I) (a : ab_I) : Option ab_I := match a with
  | (none, c) => some (none, c)
  | (some u, c) => bif ab_ie c 0 then ab_get sg u else none
noncomputable def ab_subI (sg : List ab_I) : List ab_I → List ab_I → Bool
  | [], [] => true
  | a :: r, b :: t => (match ab_rn sg b with
    | some a' => ab_eqI a a'
    | none => false) && ab_subI sg r t
  | _, _ => false
noncomputable def ab_subF (sg : List ab_I) (fs : List ab_Y) (f : ab_Y) : Bool := match fs with
  | [] => false
  | (kd, l) :: r => bif Nat.beq kd f.1 && ab_subI sg l f.2 then true else ab_subF sg r f
noncomputable def ab_subFx (sg : List ab_I) (fs : List ab_Y) : List ab_Y → Bool
  | [] => true
  | f :: r => ab_subF sg fs f && ab_subFx sg fs r
section
variable {X : ab_X} {z z' : ab_Z} {env : ab_E} {sg : List ab_I}
theorem ab_subI_ok (hv : ab_vr z z' sg) : ∀ {l t : List ab_I} {xs : List Int32}, ab_subI sg l t = true → l.map (ab_evI z.1) = xs.map some → t.map (ab_evI z'.1) = xs.map some
  | [], [], xs, _, e => e
  | [], _ :: _, _, h, _ => by simp [ab_subI] at h
  | _ :: _, [], _, h, _ => by simp [ab_subI] at h
  | a :: r, b :: t, [], _, e => by simp at e
  | a :: r, b :: t, x :: xs, h, e => by
    simp only [ab_subI, Bool.and_eq_true] at h
    simp only [List.map_cons, List.cons.injEq] at e ⊢
    refine ⟨?_, ab_subI_ok hv h.2 e.2⟩
    have h1 := h.1
    split at h1
    · rename_i a' ha
      cases ab_eqI_eq h1
      obtain ⟨u, c⟩ := b
      cases u with
      | none =>
        simp only [ab_rn, Option.some.injEq] at ha
        subst ha
        exact e.1
      | some u =>
        simp only [ab_rn] at ha
        cases hc : ab_ie c 0
        · rw [hc] at ha; cases ha
        · rw [hc, cond_true, ab_get_eq] at ha
          rw [ab_ie_iff] at hc
          subst hc
          obtain ⟨y, y1, y2⟩ := hv.2 u a ha
          rw [y1] at e
          cases e.1
          simp only [ab_evI, y2, Option.map_some]; simp
    · cases h1
theorem ab_subF_ok (hv : ab_vr z z' sg) {ws : va_W} {f : ab_Y} : ∀ {fs : List ab_Y}, ab_subF sg fs f = true → (∀ g ∈ fs, ab_fs z ws g) → ab_fs z' ws f
  | [], h, _ => by cases h
  | (kd, l) :: r, h, hh => by
    simp only [ab_subF] at h
    cases hb : (Nat.beq kd f.1 && ab_subI sg l f.2)
    · rw [hb, cond_false] at h
      exact ab_subF_ok hv h (fun g hg => hh g (List.mem_cons_of_mem _ hg))
    · rw [Bool.and_eq_true] at hb
      obtain ⟨xs, h1, h2⟩ := hh (kd, l) List.mem_cons_self
      have e := Nat.eq_of_beq_eq_true hb.1
      exact ⟨xs, ab_subI_ok hv hb.2 h1, e ▸ h2⟩
theorem ab_subFx_ok (hv : ab_vr z z' sg) {ws : va_W} {fs : List ab_Y} (hh : ∀ g ∈ fs, ab_fs z ws g) : ∀ {ft : List ab_Y}, ab_subFx sg fs ft = true → ∀ f ∈ ft, ab_fs z' ws f
  | [], _, f, hf => by cases hf
  | g :: r, h, f, hf => by
    simp only [ab_subFx, Bool.and_eq_true] at h
    rcases List.mem_cons.mp hf with rfl | hf
    · exact ab_subF_ok hv h.1 hh
    · exact ab_subFx_ok hv hh h.2 f hf
end
