/-! A method told by its context: what it may write, what its cells hold ahead and behind. -/
noncomputable def ab_refF : List ab_F → List ab_F → List ab_F
  | (_, w) :: r, (b, _) :: t => (b, w) :: ab_refF r t
  | fs, [] => fs
  | [], _ :: _ => []
noncomputable def ab_refC (c g : ab_C) : ab_C := match c, g with
  | .inl (i, fs), .inl (_, gs) => .inl (i, ab_refF fs gs)
  | .inr (t, n, _, d, ov), .inr (_, _, fl, _, _) => .inr (t, n, fl, d, ov)
  | c, _ => c
noncomputable def ab_refs : List ab_C → List ab_C → List ab_C
  | c :: r, g :: t => ab_refC c g :: ab_refs r t
  | cs, [] => cs
  | [], _ :: _ => []
theorem ab_refF_ok : ∀ {fs gs : List ab_F}, (ab_refF fs gs).length = fs.length ∧ ∀ (j : Nat) (f : ab_F), (ab_refF fs gs)[j]? = some f → ∃ b, fs[j]? = some (b, f.2)
  | [], [] => ⟨rfl, fun j f h => by simp [ab_refF] at h⟩
  | [], _ :: _ => ⟨rfl, fun j f h => by simp [ab_refF] at h⟩
  | (a, w) :: r, [] => ⟨rfl, fun j f h => ⟨f.1, h⟩⟩
  | (a, w) :: r, (b, x) :: t => by
    obtain ⟨h1, h2⟩ := ab_refF_ok (fs := r) (gs := t)
    refine ⟨by simp [ab_refF, h1], fun j f h => ?_⟩
    cases j with
    | zero =>
      simp only [ab_refF, List.getElem?_cons_zero, Option.some.injEq] at h
      subst h
      exact ⟨a, rfl⟩
    | succ j => exact h2 j f (by simpa [ab_refF] using h)
theorem ab_refC_ok {X : ab_X} {z : ab_Z} {s : State} {c g : ab_C} {e : va_E} (h : ab_cR X z s c e) : ab_cR X z s (ab_refC c g) e := by
  unfold ab_refC
  split
  · rename_i i fs j gs
    obtain ⟨vs, rfl, h2, h3⟩ := h
    obtain ⟨r1, r2⟩ := ab_refF_ok (fs := fs) (gs := gs)
    refine ⟨vs, rfl, r1.trans h2, fun jj f v hf hv => ?_⟩
    obtain ⟨b, hb⟩ := r2 jj f hf
    exact h3 jj (b, f.2) v hb hv
  · exact h
  · exact h
theorem ab_refs_ok : ∀ {cs gs : List ab_C}, (ab_refs cs gs).length = cs.length ∧ ∀ (k : Nat) (c' : ab_C), (ab_refs cs gs)[k]? = some c' → ∃ c, cs[k]? = some c ∧ ∀ (X : ab_X) (z : ab_Z) (s : State) (e : va_E), ab_cR X z s c e → ab_cR X z s c' e
  | [], [] => ⟨rfl, fun k c h => by simp [ab_refs] at h⟩
  | [], _ :: _ => ⟨rfl, fun k c h => by simp [ab_refs] at h⟩
  | c :: r, [] => ⟨rfl, fun k c' h => ⟨c', h, fun _ _ _ _ h => h⟩⟩
  | c :: r, g :: t => by
    obtain ⟨h1, h2⟩ := ab_refs_ok (cs := r) (gs := t)
    refine ⟨by simp [ab_refs, h1], fun k c' h => ?_⟩
    cases k with
    | zero =>
      simp only [ab_refs, List.getElem?_cons_zero, Option.some.injEq] at h
      subst h
      exact ⟨c, rfl, fun _ _ _ _ h => ab_refC_ok h⟩
    | succ k => exact h2 k c' (by simpa [ab_refs] using h)
/-- what the caller knows behind the call -/
noncomputable def ab_mgF : List ab_F → List ab_F → Option (List ab_F)
  | [], [] => some []
  | (b, w) :: r, (b', w') :: t => (match ab_mgF r t with
    | some l => bif b' then (bif b && ab_eqw w' w' then some ((b, w') :: l) else none) else some ((b, w) :: l)
    | none => none)
  | _, _ => none
noncomputable def ab_mgC (c g : ab_C) : Option ab_C := match c, g with
  | .inl (i, fs), .inl (_, gs) => (match ab_mgF fs gs with
    | some l => some (.inl (i, l))
    | none => none)
  | .inr (t, n, fl, d, ov), .inr (t', n', fl', dg, og) => bif Nat.beq t t' && Nat.beq n n' then (bif fl' then (bif (fl && ab_bq2 (ab_ism t n d) (ab_ism t n dg)) && ab_eqw dg dg && ab_eqo og og then some (.inr (t, n, fl, dg, og)) else none) else some (.inr (t, n, fl, d, ov))) else none
  | _, _ => none
noncomputable def ab_mgs : List ab_C → List ab_C → Option (List ab_C)
  | [], [] => some []
  | c :: r, g :: t => (match ab_mgC c g with
    | some c' => (match ab_mgs r t with
      | some l => some (c' :: l)
      | none => none)
    | none => none)
  | _, _ => none
theorem ab_mgF_ok {X : ab_X} {z z1 zu : ab_Z} (hz1 : zu.2.2 = z1.2.2) (hz : ab_ext z zu) : ∀ {fs gs l : List ab_F} {vs vs1 : List Value}, ab_mgF fs gs = some l → fs.length = vs.length → gs.length = vs1.length →
    (∀ (j : Nat) (f : ab_F) (v : Value), fs[j]? = some f → vs[j]? = some v → ab_ho X z f.2 v) → (∀ (j : Nat) (f : ab_F) (v : Value), gs[j]? = some f → vs1[j]? = some v → ab_ho X z1 f.2 v) → (∀ j : Nat, (gs.map Prod.fst)[j]? = some false → vs1[j]? = vs[j]?) →
    l.map Prod.fst = fs.map Prod.fst ∧ l.length = vs1.length ∧ ∀ (j : Nat) (f : ab_F) (v : Value), l[j]? = some f → vs1[j]? = some v → ab_ho X zu f.2 v
  | [], [], l, vs, vs1, h, hl, hl1, _, _, _ => by
    simp only [ab_mgF, Option.some.injEq] at h
    subst h
    exact ⟨rfl, hl1, fun j f v hf => by simp at hf⟩
  | [], _ :: _, _, _, _, h, _, _, _, _, _ => by simp [ab_mgF] at h
  | _ :: _, [], _, _, _, h, _, _, _, _, _ => by simp [ab_mgF] at h
  | (b, w) :: r, (b', w') :: t, l, [], vs1, h, hl, hl1, _, _, _ => by simp at hl
  | (b, w) :: r, (b', w') :: t, l, v0 :: vs, [], h, hl, hl1, _, _, _ => by simp at hl1
  | (b, w) :: r, (b', w') :: t, l, v0 :: vs, u0 :: us, h, hl, hl1, h1, h2, h3 => by
    simp only [ab_mgF] at h
    split at h
    · rename_i l0 hl0
      have ih := ab_mgF_ok hz1 hz hl0 (vs := vs) (vs1 := us) (by simpa using hl) (by simpa using hl1) (fun j f v hf hv => h1 (j + 1) f v (by simpa using hf) (by simpa using hv)) (fun j f v hf hv => h2 (j + 1) f v (by simpa using hf) (by simpa using hv)) (fun j hj => by simpa using h3 (j + 1) (by simpa using hj))
      obtain ⟨i1, i2, i3⟩ := ih
      cases hb : b'
      · rw [hb, cond_false] at h
        cases h
        refine ⟨by simp [i1], by simp [i2], fun j f v hf hv => ?_⟩
        cases j with
        | zero =>
          simp only [List.getElem?_cons_zero, Option.some.injEq] at hf hv
          subst hf hv
          have e := h3 0 (by simp [hb])
          simp only [List.getElem?_cons_zero, Option.some.injEq] at e
          subst e
          exact (h1 0 _ _ rfl rfl).ext hz
        | succ j => exact i3 j f v (by simpa using hf) (by simpa using hv)
      · rw [hb, cond_true] at h
        cases hc : (b && ab_eqw w' w')
        · rw [hc] at h; cases h
        · rw [hc, cond_true] at h
          cases h
          rw [Bool.and_eq_true] at hc
          refine ⟨by simp [i1], by simp [i2], fun j f v hf hv => ?_⟩
          cases j with
          | zero =>
            simp only [List.getElem?_cons_zero, Option.some.injEq] at hf hv
            subst hf hv
            exact ab_eqw_ok hz1 hc.2 (h2 0 _ _ rfl rfl)
          | succ j => exact i3 j f v (by simpa using hf) (by simpa using hv)
    · cases h
theorem ab_mgC_ok {X : ab_X} {z z1 zu : ab_Z} (hz1 : zu.2.2 = z1.2.2) (hz : ab_ext z zu) {s t : State} (hvm : s.vm.Alike t.vm) {c g c' : ab_C} {e e1 : va_E} (h : ab_mgC c g = some c') (hc : ab_cR X z s c e) (hg : ab_cR X z1 t g e1) (hf : ab_fC (ab_flg g) e1 e) : ab_cR X zu t c' e1 ∧ ab_flg c' = ab_flg c := by
  unfold ab_mgC at h
  split at h
  · rename_i i fs j gs
    split at h
    · rename_i l hl
      cases h
      obtain ⟨vs, rfl, h2, h3⟩ := hc
      obtain ⟨vs1, e9, g2, g3⟩ := hg
      subst e9
      obtain ⟨vs9, e8, f2⟩ := hf
      cases e8
      obtain ⟨m1, m2, m3⟩ := ab_mgF_ok hz1 hz hl h2 g2 h3 g3 f2
      exact ⟨⟨_, rfl, m2, m3⟩, m1⟩
    · cases h
  · rename_i t1 n fl d ov t2 n2 fl' dg og
    cases hb : (Nat.beq t1 t2 && Nat.beq n n2)
    · rw [hb] at h; cases h
    · rw [hb, cond_true] at h
      rw [Bool.and_eq_true] at hb
      cases Nat.eq_of_beq_eq_true hb.1
      cases Nat.eq_of_beq_eq_true hb.2
      cases hfl : fl'
      · rw [hfl, cond_false] at h
        cases h
        obtain ⟨cA, x, rfl, h2, h3, h4⟩ := hc
        have e9 : e1 = .inl (cA, n, x) := hf.1 (ab_flg_f hfl)
        subst e9
        exact ⟨⟨cA, x, rfl, h2, ⟨arrOfT_moved hvm h3.1, h3.2.moved hvm⟩, fun jj hj => (h4 jj hj).ext hz⟩, rfl⟩
      · rw [hfl, cond_true] at h
        cases hd : ((fl && ab_bq2 (ab_ism t1 n d) (ab_ism t1 n dg)) && ab_eqw dg dg && ab_eqo og og)
        · rw [hd] at h; cases h
        · rw [hd, cond_true] at h
          cases h
          rw [Bool.and_eq_true, Bool.and_eq_true, Bool.and_eq_true] at hd
          obtain ⟨cA, x, rfl, h2, h3, h4⟩ := hg
          refine ⟨⟨cA, x, rfl, h2, h3, fun jj hj => ab_eqo_ok hz1 hd.1.2 hd.2 (h4 jj hj)⟩, ?_⟩
          have h6 : ab_ism t1 n d = ab_ism t1 n dg := ab_bq2_eq hd.1.1.2
          have h7 : fl = true := hd.1.1.1
          subst h7
          show true :: ab_mkl (ab_ism t1 n dg) = true :: ab_mkl (ab_ism t1 n d)
          rw [h6]
  · cases h
theorem ab_mgs_at : ∀ {cs gs l : List ab_C}, ab_mgs cs gs = some l → l.length = cs.length ∧ gs.length = cs.length ∧ ∀ (k : Nat) (c' : ab_C), l[k]? = some c' → ∃ c g, cs[k]? = some c ∧ gs[k]? = some g ∧ ab_mgC c g = some c'
  | [], [], l, h => by
    simp only [ab_mgs, Option.some.injEq] at h
    subst h
    exact ⟨rfl, rfl, fun k c h => by simp at h⟩
  | [], _ :: _, _, h => by simp [ab_mgs] at h
  | _ :: _, [], _, h => by simp [ab_mgs] at h
  | c :: r, g :: t, l, h => by
    simp only [ab_mgs] at h
    split at h
    · rename_i c' hc
      split at h
      · rename_i l0 hl
        cases h
        obtain ⟨h1, h2, h3⟩ := ab_mgs_at hl
        refine ⟨by simp [h1], by simp [h2], fun k d hd => ?_⟩
        cases k with
        | zero =>
          simp only [List.getElem?_cons_zero, Option.some.injEq] at hd
          subst hd
          exact ⟨c, g, rfl, rfl, hc⟩
        | succ k =>
          obtain ⟨c0, g0, a1, a2, a3⟩ := h3 k d (by simpa using hd)
          exact ⟨c0, g0, by simpa using a1, by simpa using a2, a3⟩
      · cases h
    · cases h
/-- no row is written -/
noncomputable def ab_nwa : List ab_C → Bool
  | [] => true
  | .inr (_, _, true, _, _) :: _ => false
  | _ :: r => ab_nwa r
theorem ab_nwa_at : ∀ {l : List ab_C}, ab_nwa l = true → ∀ (k : Nat) (t n : Nat) (fl : Bool) (d : ab_w) (ov : List (Nat × Nat × ab_w)), l[k]? = some (.inr (t, n, fl, d, ov)) → fl = false
  | [], _, k, t, n, fl, d, ov, h => by simp at h
  | .inl o :: r, hn, k, t, n, fl, d, ov, h => by
    cases k with
    | zero => simp at h
    | succ k => exact ab_nwa_at (l := r) hn k t n fl d ov (by simpa using h)
  | .inr (t0, n0, true, d0, o0) :: r, hn, k, t, n, fl, d, ov, h => by simp [ab_nwa] at hn
  | .inr (t0, n0, false, d0, o0) :: r, hn, k, t, n, fl, d, ov, h => by
    cases k with
    | zero =>
      simp only [List.getElem?_cons_zero, Option.some.injEq, Sum.inr.injEq, Prod.mk.injEq] at h
      exact h.2.2.1.symm
    | succ k => exact ab_nwa_at (l := r) hn k t n fl d ov (by simpa using h)
/-- the frame, and flags that allow more -/
theorem ab_fr.len {fls : List (List Bool)} {ws ws1 : va_W} (h : ab_fr fls ws ws1) (hl : ws1.length = ws.length) : ws1.map Prod.fst = ws.map Prod.fst := by
  apply List.ext_getElem?
  intro j
  rw [List.getElem?_map, List.getElem?_map]
  cases hj : ws[j]? with
  | none => rw [List.getElem?_eq_none (by rw [hl]; exact List.getElem?_eq_none_iff.mp hj)]
  | some q0 =>
    obtain ⟨q, h1, h2, -⟩ := h j q0 hj
    rw [h1]; simp [h2]
/-- what a context may not write, its caller may not have it write -/
theorem ab_mgF_fl : ∀ {fs gs l : List ab_F}, ab_mgF fs gs = some l → ∀ j : Nat, (fs.map Prod.fst)[j]? = some false → (gs.map Prod.fst)[j]? = some false
  | [], [], _, _, j, h => by simp at h
  | [], _ :: _, _, h, _, _ => by simp [ab_mgF] at h
  | _ :: _, [], _, h, _, _ => by simp [ab_mgF] at h
  | (b, w) :: r, (b', w') :: t, l, h, j, hj => by
    simp only [ab_mgF] at h
    split at h
    · rename_i l0 hl0
      cases j with
      | zero =>
        simp only [List.map_cons, List.getElem?_cons_zero, Option.some.injEq] at hj ⊢
        subst hj
        cases b'
        · rfl
        · simp at h
      | succ j => simpa using ab_mgF_fl hl0 j (by simpa using hj)
    · cases h
theorem ab_fC_mono {X : ab_X} {z : ab_Z} {s : State} {c g c' : ab_C} (h : ab_mgC c g = some c') {e e0 : va_E} (hc0 : ab_cR X z s c e0) (hf : ab_fC (ab_flg g) e e0) : ab_fC (ab_flg c) e e0 := by
  unfold ab_mgC at h
  split at h
  · rename_i i fs j gs
    split at h
    · rename_i l hl
      obtain ⟨vs0, rfl, -, -⟩ := hc0
      obtain ⟨vs, h1, h2⟩ := hf
      exact ⟨vs, h1, fun jj hjj => h2 jj (ab_mgF_fl hl jj hjj)⟩
    · cases h
  · rename_i t1 n fl d ov t2 n2 fl' dg og
    obtain ⟨cA0, x0, rfl, -⟩ := hc0
    cases hb : (Nat.beq t1 t2 && Nat.beq n n2)
    · rw [hb] at h; cases h
    · rw [hb, cond_true] at h
      rw [Bool.and_eq_true] at hb
      have b1 := Nat.eq_of_beq_eq_true hb.1
      have b2 := Nat.eq_of_beq_eq_true hb.2
      subst b1 b2
      cases hfl : fl'
      · subst hfl
        have e9 := hf.1 rfl
        subst e9
        exact ⟨fun _ => rfl, fun _ => ab_al.rf⟩
      · rw [hfl, cond_true] at h
        cases hd : ((fl && ab_bq2 (ab_ism t1 n d) (ab_ism t1 n dg)) && ab_eqw dg dg && ab_eqo og og)
        · rw [hd] at h; cases h
        · rw [Bool.and_eq_true, Bool.and_eq_true, Bool.and_eq_true] at hd
          have h7 : fl = true := hd.1.1.1
          subst hfl h7
          have h6 : ab_ism t1 n d = ab_ism t1 n dg := ab_bq2_eq hd.1.1.2
          have e : ab_flg (.inr (t1, n, true, d, ov)) = ab_flg (.inr (t1, n, true, dg, og)) := by
            show true :: ab_mkl (ab_ism t1 n d) = true :: ab_mkl (ab_ism t1 n dg)
            rw [h6]
          rw [e]; exact hf
  · cases h
