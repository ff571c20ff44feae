/-! The law's loop, with both tapes alike. -/
theorem lw_e0 {z : ab_Z} {v : Nat} {x : Int32} (h : z.1[v]? = some x) : ab_evI z.1 (some v, 0) = some x := by
  simp only [ab_evI, h, Option.map_some]
  have : Int32.ofInt 0 = 0 := rfl
  rw [this, Int32.add_zero]
theorem lw_fm {α : Type} : ∀ l : List α, (l.map some).filterMap id = l
  | [] => rfl
  | x :: r => by simp only [List.map_cons, List.filterMap_cons, id]; rw [lw_fm r]
/-- a sum's fact -/
theorem lw_fact {z : ab_Z} {ws : va_W} {a b : ab_I} (h : ab_fs z ws (0, [(none, 1), a, (none, -1), b, (none, 0)])) {x y : Int32} (ea : ab_evI z.1 a = some x) (eb : ab_evI z.1 b = some y) : y.toInt ≤ x.toInt := by
  obtain ⟨xs, h1, h2⟩ := h
  have h3 := congrArg (List.filterMap id) h1
  rw [lw_fm] at h3
  have e1 : ab_evI z.1 (none, 1) = some (Int32.ofInt 1) := rfl
  have e2 : ab_evI z.1 (none, -1) = some (Int32.ofInt (-1)) := rfl
  have e3 : ab_evI z.1 (none, 0) = some (Int32.ofInt 0) := rfl
  simp only [List.map_cons, List.map_nil, ea, eb, e1, e2, e3, List.filterMap_cons, List.filterMap_nil, id] at h3
  subst h3
  have h4 : (0 : Int) ≤ ab_lin [Int32.ofInt 1, x, Int32.ofInt (-1), y, Int32.ofInt 0] := h2
  have f1 : (Int32.ofInt 1).toInt = 1 := ab_of 1 (by omega) (by omega)
  have f2 : (Int32.ofInt (-1)).toInt = -1 := ab_of (-1) (by omega) (by omega)
  have f3 : (Int32.ofInt 0).toInt = 0 := ab_of 0 (by omega) (by omega)
  simp only [ab_lin, f1, f2, f3] at h4
  omega
theorem lw_szc_ok {z : ab_Z} {ws : va_W} {env : ab_E} {fx : List ab_Y} {e : ab_I} (h : lw_szc env fx e = true) (hE : ab_eR env z.1) (hfx : ∀ f ∈ fx, ab_fs z ws f) {x y : Int32} (h1 : z.1[1]? = some x) (he : ab_evI z.1 e = some y) : y.toInt ≤ x.toInt ∨ y.toInt ≤ 0 := by
  unfold lw_szc at h
  rw [Bool.or_eq_true, Bool.or_eq_true] at h
  rcases h with h | h | h
  · rw [ab_eqI_eq h, lw_e0 h1] at he
    cases he
    exact Or.inl (Int.le_refl _)
  · rw [ab_ivK_eq, ab_le_iff] at h
    have h2 := ab_iv_spec hE he
    exact Or.inr (by omega)
  · obtain ⟨f, hf, h2⟩ := List.any_eq_true.mp h
    rw [Bool.and_eq_true] at h2
    obtain ⟨kd, fl⟩ := f
    have e1 : kd = 0 := Nat.eq_of_beq_eq_true h2.1
    have e2 := ab_eqLI_eq h2.2
    try dsimp only at e1 e2
    subst e1 e2
    exact Or.inl (lw_fact (hfx _ hf) (lw_e0 h1) he)
theorem cu_ck_ok {X : ab_X} {z : ab_Z} {s : State} {env : ab_E} {cs : List ab_C} {ws : va_W} {ks : List Nat} (h : cu_ck ks env cs = true) (hE : ab_eR env z.1) (hv : ∃ x0 x1 x2, z.1[0]? = some x0 ∧ z.1[1]? = some x1 ∧ z.1[2]? = some x2) (hw : ∀ (k : Nat) (c : ab_C), cs[k]? = some c → ∃ q, ws[k]? = some q ∧ ab_cR X z s c q.2) : ∀ (k : Nat) (c : ab_C), k ∈ ks → gl_L[k]? = some c → ∃ q, ws[k]? = some q ∧ ab_cR X z s c q.2 := by
  intro k t hk ht
  have h1 := List.all_eq_true.mp h k hk
  try dsimp only at h1
  rw [ab_get_eq, ab_get_eq, ht] at h1
  cases hc : cs[k]? with
  | none => rw [hc] at h1; cases h1
  | some c =>
    rw [hc] at h1
    try dsimp only at h1
    obtain ⟨q, q1, q2⟩ := hw k c hc
    obtain ⟨x0, x1, x2, e0, e1, e2⟩ := hv
    have hvr : ab_vr z z [(some 0, 0), (some 1, 0), (some 2, 0)] := ⟨rfl, fun u a hu => by
      match u, hu with
      | 0, hu => cases hu; exact ⟨x0, lw_e0 e0, e0⟩
      | 1, hu => cases hu; exact ⟨x1, lw_e0 e1, e1⟩
      | 2, hu => cases hu; exact ⟨x2, lw_e0 e2, e2⟩
      | u + 3, hu => simp at hu⟩
    exact ⟨q, q1, (ab_subC_ok hE hvr h1 q2).1⟩
theorem lw_flk_ok {ks : List (Nat × Nat × Nat)} {cs : List ab_C} (h : lw_flk ks cs = true) {k t n : Nat} (hk : (k, t, n) ∈ ks) : ∃ d ov, cs[k]? = some (.inr (t, n, false, d, ov)) := by
  have h1 := List.all_eq_true.mp h _ hk
  try dsimp only at h1
  rw [ab_get_eq] at h1
  split at h1
  · rename_i t' n' d ov hc
    rw [Bool.and_eq_true] at h1
    cases Nat.eq_of_beq_eq_true h1.1
    cases Nat.eq_of_beq_eq_true h1.2
    exact ⟨d, ov, hc⟩
  · cases h1
theorem lw_sh0 {X : ab_X} {z : ab_Z} {s : State} {cs : List ab_C} {ws : va_W} (hw : ∀ (k : Nat) (c : ab_C), cs[k]? = some c → ∃ q, ws[k]? = some q ∧ ab_cR X z s c q.2) {k t n : Nat} {fl : Bool} {d : ab_w} {ov : List (Nat × Nat × ab_w)} (hc : cs[k]? = some (.inr (t, n, fl, d, ov))) (ht : t = 0 ∨ t = 2) : ∃ a cA f, ws[k]? = some (a, .inl (cA, n, .inl f)) := by
  obtain ⟨⟨a, e⟩, q1, cA, x, h1, h2, -⟩ := hw k _ hc
  try dsimp only at h1 h2
  subst h1
  rcases ht with rfl | rfl
  · obtain ⟨f, rfl⟩ := h2
    exact ⟨a, cA, f, q1⟩
  · obtain ⟨f, rfl⟩ := h2
    exact ⟨a, cA, f, q1⟩
theorem lw_sh1 {X : ab_X} {z : ab_Z} {s : State} {cs : List ab_C} {ws : va_W} (hw : ∀ (k : Nat) (c : ab_C), cs[k]? = some c → ∃ q, ws[k]? = some q ∧ ab_cR X z s c q.2) {k n : Nat} {fl : Bool} {d : ab_w} {ov : List (Nat × Nat × ab_w)} (hc : cs[k]? = some (.inr (1, n, fl, d, ov))) : ∃ a cA f, ws[k]? = some (a, .inl (cA, n, .inr (.inl f))) := by
  obtain ⟨⟨a, e⟩, q1, cA, x, h1, h2, -⟩ := hw k _ hc
  try dsimp only at h1 h2
  subst h1
  obtain ⟨f, rfl⟩ := h2
  exact ⟨a, cA, f, q1⟩
theorem lw_keep {fls : List (List Bool)} {ws ws' : va_W} (h : ab_fr fls ws ws') {k : Nat} (hf : fls[k]? = some [false]) {a : Nat} {q : ClassId × vp_A} (e : ws[k]? = some (a, .inl q)) : ws'[k]? = some (a, .inl q) := by
  obtain ⟨⟨a', e'⟩, h1, h2, h3⟩ := h k _ e
  have h4 := h3 _ hf
  have h5 : e' = .inl q := h4 rfl
  try dsimp only at h2
  rw [h1, h2, h5]
theorem lw_kf {X : ab_X} {z : ab_Z} {s : State} {cs : List ab_C} {ws ws' : va_W} (hw : ∀ (k : Nat) (c : ab_C), cs[k]? = some c → ∃ q, ws[k]? = some q ∧ ab_cR X z s c q.2) {ks : List (Nat × Nat × Nat)} (h : lw_flk ks cs = true) (hfr : ab_fr (cs.map ab_flg) ws ws') {k t n : Nat} (hk : (k, t, n) ∈ ks) (ht : t = 0 ∨ t = 2) : cu_f ws' k = cu_f ws k ∧ ∃ a cA f, ws[k]? = some (a, .inl (cA, n, .inl f)) ∧ ws'[k]? = some (a, .inl (cA, n, .inl f)) := by
  obtain ⟨d, ov, hc⟩ := lw_flk_ok h hk
  obtain ⟨a, cA, f, e1⟩ := lw_sh0 hw hc ht
  have e2 := lw_keep hfr (show (cs.map ab_flg)[k]? = some [false] by rw [List.getElem?_map, hc]; rfl) e1
  exact ⟨(cu_f_of e2).trans (cu_f_of e1).symm, a, cA, f, e1, e2⟩
theorem lw_kq {X : ab_X} {z : ab_Z} {s : State} {cs : List ab_C} {ws ws' : va_W} (hw : ∀ (k : Nat) (c : ab_C), cs[k]? = some c → ∃ q, ws[k]? = some q ∧ ab_cR X z s c q.2) {ks : List (Nat × Nat × Nat)} (h : lw_flk ks cs = true) (hfr : ab_fr (cs.map ab_flg) ws ws') {k n : Nat} (hk : (k, 1, n) ∈ ks) : cu_q ws' k = cu_q ws k := by
  obtain ⟨d, ov, hc⟩ := lw_flk_ok h hk
  obtain ⟨a, cA, f, e1⟩ := lw_sh1 hw hc
  have e2 := lw_keep hfr (show (cs.map ab_flg)[k]? = some [false] by rw [List.getElem?_map, hc]; rfl) e1
  exact (cu_q_of e2).trans (cu_q_of e1).symm
/-- both know the words -/
noncomputable def lw_Wd (ws : va_W) : Prop := (∀ j, j < 22 → cu_q ws 38 j = ex_wd j) ∧ (∀ j, j < 22 → cu_q ws 150 j = ex_wd j)
/-- both tapes are alike as far as they reach -/
noncomputable def lw_J (ws : va_W) (x : Int32) : Prop := (∀ j : Nat, (j : Int) < x.toInt → cu_f ws 17 j = cu_f ws 4 j &&& 255) ∧ lw_Wd ws
theorem lw_Wd.keep {X : ab_X} {z : ab_Z} {s : State} {cs : List ab_C} {ws ws' : va_W} (h : lw_Wd ws) (hw : ∀ (k : Nat) (c : ab_C), cs[k]? = some c → ∃ q, ws[k]? = some q ∧ ab_cR X z s c q.2) {ks : List (Nat × Nat × Nat)} (hk : lw_flk ks cs = true) (hfr : ab_fr (cs.map ab_flg) ws ws') (h1 : (38, 1, 22) ∈ ks) (h2 : (150, 1, 22) ∈ ks) : lw_Wd ws' := by
  unfold lw_Wd
  rw [lw_kq hw hk hfr h1, lw_kq hw hk hfr h2]
  exact h
theorem lw_J.keep {X : ab_X} {z : ab_Z} {s : State} {cs : List ab_C} {ws ws' : va_W} {x y : Int32} (h : lw_J ws x) (hw : ∀ (k : Nat) (c : ab_C), cs[k]? = some c → ∃ q, ws[k]? = some q ∧ ab_cR X z s c q.2) (hk : lw_flk lw_R4 cs = true) (hfr : ab_fr (cs.map ab_flg) ws ws') (hy : y.toInt ≤ x.toInt ∨ y.toInt ≤ 0) : lw_J ws' y := by
  refine ⟨fun j hj => ?_, h.2.keep hw hk hfr (by decide) (by decide)⟩
  rw [(lw_kf hw hk hfr (k := 17) (t := 0) (n := 940) (by decide) (Or.inl rfl)).1, (lw_kf hw hk hfr (k := 4) (t := 2) (n := 940) (by decide) (Or.inr rfl)).1]
  exact h.1 j (by omega)
theorem lw_fact2 {z : ab_Z} {ws : va_W} {a b : ab_I} (h : ab_fs z ws (0, [(none, -1), a, (none, 1), b, (none, 0)])) {x y : Int32} (ea : ab_evI z.1 a = some x) (eb : ab_evI z.1 b = some y) : x.toInt ≤ y.toInt := by
  obtain ⟨xs, h1, h2⟩ := h
  have h3 := congrArg (List.filterMap id) h1
  rw [lw_fm] at h3
  have e1 : ab_evI z.1 (none, 1) = some (Int32.ofInt 1) := rfl
  have e2 : ab_evI z.1 (none, -1) = some (Int32.ofInt (-1)) := rfl
  have e3 : ab_evI z.1 (none, 0) = some (Int32.ofInt 0) := rfl
  simp only [List.map_cons, List.map_nil, ea, eb, e1, e2, e3, List.filterMap_cons, List.filterMap_nil, id] at h3
  subst h3
  have h4 : (0 : Int) ≤ ab_lin [Int32.ofInt (-1), x, Int32.ofInt 1, y, Int32.ofInt 0] := h2
  have f1 : (Int32.ofInt 1).toInt = 1 := ab_of 1 (by omega) (by omega)
  have f2 : (Int32.ofInt (-1)).toInt = -1 := ab_of (-1) (by omega) (by omega)
  have f3 : (Int32.ofInt 0).toInt = 0 := ab_of 0 (by omega) (by omega)
  simp only [ab_lin, f1, f2, f3] at h4
  omega
/-- the loop's variables -/
noncomputable def lw_zv (X : ab_X) (i : Nat) (z : ab_Z) (x : Int32) : Prop := z.1[0]? = some (nI i) ∧ (∀ j : Nat, j < 6 → z.1[j + 3]? = some (X.2.1 (i + j))) ∧ z.1[1]? = some x ∧ z.1[2]? = some x ∧ 0 ≤ x.toInt ∧ x.toInt ≤ 940
theorem lw_zv.ext {X : ab_X} {i : Nat} {z z' : ab_Z} {x : Int32} (h : lw_zv X i z x) (he : ab_ext z z') : lw_zv X i z' x := by
  obtain ⟨⟨t, ht⟩, -, -⟩ := he
  unfold lw_zv
  rw [ht]
  exact ⟨ab_get_app h.1, fun j hj => ab_get_app (h.2.1 j hj), ab_get_app h.2.2.1, ab_get_app h.2.2.2.1, h.2.2.2.2⟩
theorem lw_zv.three {X : ab_X} {i : Nat} {z : ab_Z} {x : Int32} (h : lw_zv X i z x) : ∃ x0 x1 x2, z.1[0]? = some x0 ∧ z.1[1]? = some x1 ∧ z.1[2]? = some x2 := ⟨_, _, _, h.1, h.2.2.1, h.2.2.2.1⟩
/-- as many bytes on both tapes -/
theorem lw_eq {X : ab_X} {D : va_G} {s : State} {z0 : ab_Z0} {z : ab_Z} {ws : va_W} {H : Heap} {locs : List Loc} (hR : ab_R X D s z0 ab_lT.1 0 (gl_L, ab_FX) z ws H locs) : ∃ x, z.1[1]? = some x ∧ z.1[2]? = some x ∧ 0 ≤ x.toInt ∧ x.toInt ≤ 940 := by
  obtain ⟨x1, a1, a2, a3⟩ := hR.1.2 1 (0, 940) rfl
  obtain ⟨x2, b1, b2, b3⟩ := hR.1.2 2 (0, 940) rfl
  have f1 := hR.2.2.2.1.2 (0, [(none, 1), (some 1, 0), (none, -1), (some 2, 0), (none, 0)]) (by decide +kernel)
  have f2 := hR.2.2.2.1.2 (0, [(none, -1), (some 1, 0), (none, 1), (some 2, 0), (none, 0)]) (by decide +kernel)
  have h1 := lw_fact f1 (lw_e0 a1) (lw_e0 b1)
  have h2 := lw_fact2 f2 (lw_e0 a1) (lw_e0 b1)
  have e : x1 = x2 := Int32.toInt_inj.mp (by omega)
  subst e
  exact ⟨x1, a1, b1, a2, a3⟩
theorem lw_st5_ok {k : Nat} {st : List ab_V} (h : lw_st5 k st = true) : st = [.inl (some 8, 0), .inl (some 7, 0), .inl (some 6, 0), .inl (some 5, 0), .inl (some 4, 0), .inr (.inr (2, k))] := by
  unfold lw_st5 at h
  split at h
  · rw [Bool.and_eq_true, Bool.and_eq_true, Bool.and_eq_true, Bool.and_eq_true, Bool.and_eq_true] at h
    obtain ⟨h5, h4, h3, h2, h1, h0⟩ := h
    rw [ab_eqI_eq h5, ab_eqI_eq h4, ab_eqI_eq h3, ab_eqI_eq h2, ab_eqI_eq h1, Nat.eq_of_beq_eq_true h0]
  · cases h
/-- what the five ints and the object on the stack are -/
theorem lw_st5_v {X : ab_X} {i : Nat} {z : ab_Z} {x : Int32} (hz : lw_zv X i z x) {k a : Nat} (ha : z.2.2[k]? = some a) {cst : List Value} (h : [.inl (some 8, 0), .inl (some 7, 0), .inl (some 6, 0), .inl (some 5, 0), .inl (some 4, 0), .inr (.inr (2, k))].map (ab_ev X z) = cst.map some) : cst = [.int (X.2.1 (i + 5)), .int (X.2.1 (i + 4)), .int (X.2.1 (i + 3)), .int (X.2.1 (i + 2)), .int (X.2.1 (i + 1)), .ref a] := by
  have h3 := congrArg (List.filterMap id) h
  rw [lw_fm] at h3
  have v : ∀ j : Nat, j < 6 → ab_ev X z (.inl (some (j + 3), 0)) = some (.int (X.2.1 (i + j))) := fun j hj => by
    show (ab_evI z.1 (some (j + 3), 0)).map _ = _
    rw [lw_e0 (hz.2.1 j hj)]; rfl
  have v1 := v 1 (by omega)
  have v2 := v 2 (by omega)
  have v3 := v 3 (by omega)
  have v4 := v 4 (by omega)
  have v5 := v 5 (by omega)
  have v0 : ab_ev X z (.inr (.inr (2, k))) = some (.ref a) := by
    show (z.2.2[k]?).map _ = _
    rw [ha]; rfl
  have h4 : [ab_ev X z (.inl (some (5 + 3), 0)), ab_ev X z (.inl (some (4 + 3), 0)), ab_ev X z (.inl (some (3 + 3), 0)), ab_ev X z (.inl (some (2 + 3), 0)), ab_ev X z (.inl (some (1 + 3), 0)), ab_ev X z (.inr (.inr (2, k)))].filterMap id = cst := h3
  rw [v1, v2, v3, v4, v5, v0] at h4
  exact h4.symm
/-- two pictures of one field -/
theorem jc_fld {D : va_G} {ws ws' : va_W} {H : Heap} {k j a ci : Nat} {vs vs' : List Value} (h1 : va_P D vwCl ws H) (h2 : va_P D vwCl ws' H) (e1 : ws[k]? = some (a, .inr (ci, vs))) (e2 : ws'[j]? = some (a, .inr (ci, vs'))) {r : vw_C} (hr : vwCl[ci]? = some r) {q : Nat} (hq : q < r.2.2) : vs.getD q .null = vs'.getD q .null := by
  obtain ⟨r1, p1, cell1, c1, -, -, s1⟩ := h1 k _ e1
  obtain ⟨r2, p2, cell2, c2, -, -, s2⟩ := h2 j _ e2
  try dsimp only at p1 p2 c1 c2 s1 s2
  rw [hr] at p1 p2
  cases p1
  cases p2
  rw [c1] at c2
  cases c2
  have h9 := (s1 q hq).symm.trans (s2 q hq)
  injection h9
theorem lw_sz_ok {X : ab_X} {z : ab_Z} {s : State} {cs : List ab_C} {ws : va_W} (hw : ∀ (k : Nat) (c : ab_C), cs[k]? = some c → ∃ q, ws[k]? = some q ∧ ab_cR X z s c q.2) {e : ab_I} (h : lw_sz cs = some e) : ∃ a vs y, ws[3]? = some (a, .inr (4, vs)) ∧ vs.getD 1 .null = .int y ∧ ab_evI z.1 e = some y := by
  unfold lw_sz at h
  rw [ab_get_eq] at h
  split at h
  · rename_i fs hc
    rw [ab_get_eq] at h
    split at h
    · rename_i fl e' hf
      cases h
      obtain ⟨⟨a, q⟩, q1, vs, g1, g2, g3⟩ := hw _ _ hc
      try dsimp only at g1 g2 g3
      subst g1
      have hl : 1 < vs.length := by rw [← g2]; exact (List.getElem?_eq_some_iff.mp hf).1
      have hv := g3 1 _ _ hf (List.getElem?_eq_getElem hl)
      obtain ⟨y, hy, h2⟩ := ab_evi (X := X) (show ab_ev X z (.inl e) = some vs[1] from hv)
      exact ⟨a, vs, y, q1, by rw [List.getD_eq_getElem?_getD, List.getElem?_eq_getElem hl, Option.getD_some]; exact hy, h2⟩
    · cases h
  · cases h
theorem jc_rowq {D : va_G} {ws ws' : va_W} {H : Heap} {k j a : Nat} {n n' : Nat} {cA cA' : ClassId} {f f' : Nat → Int64} (h1 : va_P D vwCl ws H) (h2 : va_P D vwCl ws' H) (e1 : ws[k]? = some (a, .inl (cA, n, .inr (.inl f)))) (e2 : ws'[j]? = some (a, .inl (cA', n', .inr (.inl f')))) : ∀ i, i < n → i < n' → f i = f' i := by
  intro i hi hi'
  have g1 : H[a]? = some (vp_cell cA (n, .inr (.inl f))) := h1 k _ e1
  have g2 : H[a]? = some (vp_cell cA' (n', .inr (.inl f'))) := h2 j _ e2
  rw [g1] at g2
  have g3 := Option.some.inj g2
  rw [vp_cell_l, vp_cell_l] at g3
  have r1 := arrV_read cA (fun j => Value.long (f j)) hi
  have r2 := arrV_read cA' (fun j => Value.long (f' j)) hi'
  rw [g3, r2] at r1
  injection r1 with r3
  injection r3 with r4
  exact r4.symm
theorem lw_wd_ok {X : ab_X} {z : ab_Z} {s : State} {cs : List ab_C} {ws : va_W} (hw : ∀ (k : Nat) (c : ab_C), cs[k]? = some c → ∃ q, ws[k]? = some q ∧ ab_cR X z s c q.2) {k : Nat} (h : lw_wd k cs = true) : ∃ a cA f, ws[k]? = some (a, .inl (cA, 22, .inr (.inl f))) ∧ ∀ j, j < 22 → f j = ex_wd j := by
  unfold lw_wd at h
  rw [ab_get_eq] at h
  split at h
  · rename_i n fl d ov hc
    rw [Bool.and_eq_true] at h
    obtain ⟨h0, h1⟩ := h
    have h0 := Nat.eq_of_beq_eq_true h0
    subst h0
    obtain ⟨⟨a, e⟩, q1, cA, x, g1, ⟨f, hf⟩, -, h4⟩ := hw k _ hc
    try dsimp only at g1 hf h4
    subst g1 hf
    refine ⟨a, cA, f, q1, fun j hj => ?_⟩
    have h5 := List.all_eq_true.mp h1 j (List.mem_range.mpr hj)
    try dsimp only at h5
    have h6 : ab_ho X z (ab_at d ov j) (.long (f j)) := h4 j hj
    split at h5
    · rename_i c0 hat
      rw [hat] at h6
      rw [ab_ie_iff] at h5
      have h7 : some (Value.long (Int64.ofInt c0)) = some (Value.long (f j)) := h6
      have h8 := Value.long.inj (Option.some.inj h7)
      rw [← h8, ← h5, ab_i64o]
    · cases h5
  · cases h
theorem lw_R4L : lw_flk lw_R4 gl_L = true := by decide +kernel
section
variable {p : Program} {l : Launch} {e : Env} {s : State} {m : MethodId} {below : List Frame} {meth : Method} {c : Code} {b L : Nat} {xs : Nat → Int32} {X : ab_X} {D : va_G} {d : Nat}

/-- the end: 1 on the stack -/
theorem ab_lexit (C0 : lw_At p s m meth c b L xs) (hXs : X.1.2.2 = s.heap.size) {H : Heap} {locs : List Loc} {cl sl : Nat} {ls : Array Slot} (hS : va_S (ab_Ar X) s.heap H locs) (h1 : cl ≤ 601024) (h2 : sl ≤ 7293034) : W p l e room_1 s m #[Value.ref b] below meth c H locs cl sl (lw_Z below #[Value.ref b] s) (F0 m 1356 ls []) := by
  refine lv_iconst C0.1 C0.2.1 (n := 1) (v := 1) (by decide +kernel) (by decide) ?_
  refine va_forget (fun q hq => by have h9 := hS.2.2 q hq; rw [← hXs]; exact h9) ?_
  refine W.widen (k := 601024) (n := 7293034) h1 h2 ?_
  exact lw_ret C0.1 C0.2.1 C0.2.2.1 C0.2.2.2.2.2.2.2.2.1 (by decide +kernel)
theorem ab_lhead (C0 : lw_At p s m meth c b L xs) (hX1 : X.1 = (b, L, s.heap.size)) (hL : L ≤ 3072) (C : ab_cx p room_1 s m #[Value.ref b] c code RL 7 X D) {i a b' : Nat} (hi : i ≤ 3072) (ha : a ≤ 601024) (hb : b' ≤ 7293034) {z : ab_Z} {ws : va_W} {H : Heap} {locs : List Loc} {ls : Array Slot} {aw : ab_H} {E0 : ab_E} (hz : z.1[0]? = some (nI i)) (hR : ab_R X D s (z, [], []) E0 0 aw z ws H locs) (hl : ab_lR X z 7 ls ab_lvT)
    (kk : i + 6 ≤ L → W p l e room_1 s m #[Value.ref b] below meth c H locs a b' (lw_Z below #[Value.ref b] s) (F0 m 33 ls [])) : W p l e room_1 s m #[Value.ref b] below meth c H locs a b' (lw_Z below #[Value.ref b] s) (F0 m 23 ls []) := by
  obtain ⟨x4, e4, l4⟩ := hl.at (i := 4) (v := .inl (some 0, 0)) rfl
  obtain ⟨x0, e0, l0⟩ := hl.at (i := 0) (v := .inr (.inr (1, 0))) rfl
  have hx4 : x4 = .int (nI i) := by
    simp only [ab_ev, ab_evI, hz, Option.map_some, Option.some.injEq] at e4
    rw [← e4]
    have : Int32.ofInt 0 = 0 := rfl
    rw [this, Int32.add_zero]
  have hx0 : x0 = .ref X.1.1 := by
    simp only [ab_ev, ab_evR, Option.some.injEq] at e0
    exact e0.symm
  subst hx4 hx0
  obtain ⟨q1, q2⟩ := (ab_cxE C).2.2.2.1
  have e1 : X.1.1 = b := by rw [hX1]
  have e2 : X.1.2.1 = L := by rw [hX1]
  have e3 : X.1.2.2 = s.heap.size := by rw [hX1]
  refine lv_iload C0.1 C0.2.1 (i := 4) (by decide +kernel) l4 ?_
  refine lv_aload_n C0.1 C0.2.1 (k := 0) (i := 0) (by decide +kernel) rfl l0 ?_
  refine va_slen (A := ab_Ar X) C0.1 C0.2.1 q1 (Nat.lt_of_lt_of_le q2 (ab_cxE C).1) (Nat.not_le.mpr q2) hR.2.2.2.2.2.2.1 (by decide +kernel) ?_
  refine lv_bipush C0.1 C0.2.1 (n := 6) (v := 6) (by decide +kernel) (by decide) ?_
  refine lv_isub C0.1 C0.2.1 (by decide +kernel) ?_
  refine lv_icmp_gt C0.1 C0.2.1 (off := 1326) (tgt := 1356) (by decide +kernel) (by decide) (fun hP => ?_) (fun hP => ?_)
  · exact ab_lexit C0 e3 hR.2.2.2.2.2.2.1 ha hb
  · apply kk
    rw [e2] at hP
    have h1 : (nI i).toInt = (i : Int) := nI_toInt (by omega)
    have h2 : (Int32.ofNat L).toInt = (L : Int) := nI_toInt (by omega)
    have h3 : (Int32.ofNat L - 6).toInt = (L : Int) - 6 := by
      rw [Int32.toInt_sub, h2]
      have : (6 : Int32).toInt = 6 := rfl
      rw [this]
      exact Int.bmod_eq_of_le (by omega) (by omega)
    rw [Int32.lt_iff_toInt_lt, h1, h3] at hP
    omega
/-- an end at the loop's head -/
theorem lw_at23 {i a b' : Nat} (hi : i + 6 ≤ 3072) {o : ab_E → List ab_Y → ab_I → Bool} {k : Nat} {S : ab_S} (hE : ab_lw1 o (k, S) = true) {z0 : ab_Z0} {z : ab_Z} {ws : va_W} {H : Heap} {locs : List Loc} {ls : Array Slot} {cst : List Value} (hR : ab_R X D s z0 S.1.1 S.1.2.1 S.1.2.2.1 z ws H locs) (hl : ab_lR X z 7 ls S.2.2.1) (hs : S.2.2.2.map (ab_ev X z) = cst.map some) (hz0 : z.1[0]? = some (nI i)) (hJ : ∀ (y : Int32) (e : ab_I), ab_evI z.1 e = some y → o S.1.1 S.1.2.2.1.2 e = true → lw_J ws y) (next : ∀ (z : ab_Z) (ws : va_W) (H : Heap) (locs : List Loc) (ls : Array Slot), z.1[0]? = some (nI (i + 6)) → ab_R X D s (z, [], []) ab_lT.1 0 (gl_L, ab_FX) z ws H locs → (∀ x, z.1[1]? = some x → lw_J ws x) → ab_lR X z 7 ls ab_lvT → W p l e room_1 s m #[Value.ref b] below meth c H locs (a + 2) (b' + 12) (lw_Z below #[Value.ref b] s) (F0 m 23 ls [])) : W p l e room_1 s m #[Value.ref b] below meth c H locs (S.1.2.2.2.1 + a) (S.1.2.2.2.2 + b') (lw_Z below #[Value.ref b] s) (F0 m S.2.1 ls cst) := by
  obtain ⟨⟨env, nl, aw, cl, sl⟩, pc, lv, st⟩ := S
  try dsimp only at hR hl hs hJ ⊢
  unfold ab_lw1 at hE
  split at hE
  · rename_i env9 nl9 aw9 cl9 sl9 pc9 lv9 st9 heq
    cases heq
    rw [Bool.and_eq_true, Bool.and_eq_true] at hE
    obtain ⟨⟨c1, c2⟩, c3⟩ := hE
    have c1 := Nat.le_of_ble_eq_true c1
    have c2 := Nat.le_of_ble_eq_true c2
    obtain ⟨z', sg, g1, g2, g3, g4, g5, g6, g7, -, -⟩ := ab_subS_ok c3 hR hl
    try dsimp only at g6 g7
    subst g6
    cases cst with
    | cons _ _ => simp at hs
    | nil =>
      unfold ab_l6 at g5
      split at g5
      · rename_i c9 e9 sr
        rw [Bool.and_eq_true, ab_ie_iff] at g5
        obtain ⟨g5, g8⟩ := g5
        subst g5
        have hin : (nI i).toInt = (i : Int) := nI_toInt (by omega)
        have hsg := congrArg (List.filterMap id) g3
        rw [lw_fm] at hsg
        have h6 : nI i + Int32.ofInt 6 = nI (i + 6) := by
          apply Int32.toInt_inj.mp
          rw [ab_addI _ _ (by omega) (by omega), hin, nI_toInt (by omega)]
          omega
        have e0 : ab_evI z.1 (some 0, 6) = some (nI (i + 6)) := by
          simp only [ab_evI, hz0, Option.map_some]
          rw [h6]
        obtain ⟨y0, d1, d2⟩ := ab_map_at (u := 0) g3 rfl
        obtain ⟨y1, d3, d4⟩ := ab_map_at (u := 1) g3 rfl
        rw [e0] at d1
        cases d1
        refine W.widen (k := a + 2) (n := b' + 12) (show cl + a ≤ a + 2 by omega) (show sl + b' ≤ b' + 12 by omega) ?_
        have h9 := next z' ws H locs ls d2 g1.no (fun x hx => by
          rw [hx] at d4
          cases d4
          exact hJ _ _ d3 g8) g2
        show W p l e room_1 s m #[Value.ref b] below meth c H locs (a + 2) (b' + 12) (lw_Z below #[Value.ref b] s) (F0 m pc ls [])
        rw [g7]
        exact h9
      · cases g5
  · cases hE
/-- a piece of the law's code, from one state on -/
theorem lw_seg (K : ab_cal l X D d ab_MEL lw_cal) (C : ab_cx p room_1 s m #[Value.ref b] c code RL 7 X D) (hd0 : 10 ≤ d) (hd1 : 16 * (d + 1) ≤ room_1.frames) (hd2 : 200 * (d + 1) ≤ room_1.locals) {i a b' : Nat} (hmR : 2 + a ≤ room_1.cells) (hsR : 12 + b' ≤ room_1.slots) (hiL : i + 6 ≤ X.1.2.1) (hL : X.1.2.1 ≤ 3072) {Q : State → Prop} {x : Int32} {S : ab_S} {n : Nat} {os : List (Nat × ab_S)} (h : ab_run (tb_LC 2 12) lw_cal n [S] [] = some os) {z0 : ab_Z0} {z : ab_Z} {ws : va_W} {H : Heap} {locs : List Loc} {ls : Array Slot} {cst : List Value} (hz : lw_zv X i z x) (hR : ab_R X D s z0 S.1.1 S.1.2.1 S.1.2.2.1 z ws H locs) (hl : ab_lR X z 7 ls S.2.2.1) (hs : S.2.2.2.map (ab_ev X z) = cst.map some)
    (hend : ∀ (k : Nat) (S' : ab_S), (k, S') ∈ os → ∀ (z' : ab_Z) (ws' : va_W) (H' : Heap) (locs' : List Loc) (ls' : Array Slot) (cst' : List Value), ab_R X D s (z, ws, S.1.2.2.1.1.map ab_flg) S'.1.1 S'.1.2.1 S'.1.2.2.1 z' ws' H' locs' → ab_lR X z' 7 ls' S'.2.2.1 → S'.2.2.2.map (ab_ev X z') = cst'.map some → W p l e room_1 s m #[Value.ref b] below meth c H' locs' (S'.1.2.2.2.1 + a) (S'.1.2.2.2.2 + b') Q (F0 m S'.2.1 ls' cst')) : W p l e room_1 s m #[Value.ref b] below meth c H locs (S.1.2.2.2.1 + a) (S.1.2.2.2.2 + b') Q (F0 m S.2.1 ls cst) := by
  have hT := sn_LC (p := p) (l := l) (e := e) (R := room_1) (s := s) (m := m) (args := #[Value.ref b]) (below := below) (meth := meth) (c := c) (Q := Q) (z0 := (z, ws, S.1.2.2.1.1.map ab_flg)) (a := a) (b := b') K C hd1 hd2 (A := 2) (B := 12) hmR hsR (i0 := i) hz.1 hz.2.1 hiL hL
  have hok : ab_ok p l e room_1 s m #[Value.ref b] below meth c Q 7 X D (z, ws, S.1.2.2.1.1.map ab_flg) (ab_sh a b' S) :=
    ab_run_gen (P := fun S9 => ab_ok p l e room_1 s m #[Value.ref b] below meth c Q 7 X D (z, ws, S.1.2.2.1.1.map ab_flg) (ab_sh a b' S9)) (fun bb hb9 q hq h9 env nl aw cl sl lv st r hr hk => hT bb hb9 q hq h9 env nl aw cl sl lv st r hr hk) h (fun k S' hS' => fun z' ws' H' locs' ls' cst' hR' hl' hs' => hend k S' hS' z' ws' H' locs' ls' cst' hR' hl' hs') S List.mem_cons_self
  exact hok z ws H locs ls cst hR.re hl hs
/-- shadows: the tapes are empty behind it -/
theorem lw_caseS (K : ab_cal l X D d ab_MEL lw_cal) (C : ab_cx p room_1 s m #[Value.ref b] c code RL 7 X D) (hd0 : 10 ≤ d) (hd1 : 16 * (d + 1) ≤ room_1.frames) (hd2 : 200 * (d + 1) ≤ room_1.locals) {i a b' : Nat} (hmR : 2 + a ≤ room_1.cells) (hsR : 12 + b' ≤ room_1.slots) (hiL : i + 6 ≤ X.1.2.1) (hL : X.1.2.1 ≤ 3072) {x : Int32} {S : ab_S} (hpc : S.2.1 = 901) (hE : ab_cS S = true) {z0 : ab_Z0} {z : ab_Z} {ws : va_W} {H : Heap} {locs : List Loc} {ls : Array Slot} {cst : List Value} (hz : lw_zv X i z x) (hJ : lw_J ws x) (hR : ab_R X D s z0 S.1.1 S.1.2.1 S.1.2.2.1 z ws H locs) (hl : ab_lR X z 7 ls S.2.2.1) (hs : S.2.2.2.map (ab_ev X z) = cst.map some) (next : ∀ (z : ab_Z) (ws : va_W) (H : Heap) (locs : List Loc) (ls : Array Slot), z.1[0]? = some (nI (i + 6)) → ab_R X D s (z, [], []) ab_lT.1 0 (gl_L, ab_FX) z ws H locs → (∀ x, z.1[1]? = some x → lw_J ws x) → ab_lR X z 7 ls ab_lvT → W p l e room_1 s m #[Value.ref b] below meth c H locs (a + 2) (b' + 12) (lw_Z below #[Value.ref b] s) (F0 m 23 ls [])) : W p l e room_1 s m #[Value.ref b] below meth c H locs (S.1.2.2.2.1 + a) (S.1.2.2.2.2 + b') (lw_Z below #[Value.ref b] s) (F0 m S.2.1 ls cst) := by
  obtain ⟨⟨env, nl, ⟨cs, fx⟩, cl, sl⟩, pc, lv, st⟩ := S
  try dsimp only at hpc hR hl hs ⊢
  subst hpc
  unfold ab_cS at hE
  try dsimp only at hE
  rw [Bool.and_eq_true] at hE
  obtain ⟨fk, c3⟩ := hE
  have hi : i + 6 ≤ 3072 := Nat.le_trans hiL hL
  split at c3
  · rename_i r hr
    have hr2 := un_call (a := a) (b := b') (rc := 13) (mid := 241) (na := 1) (mc := 0) (ms := 0) (A := 2) (B := 12) (np := 904) lw_cal env nl (ab_sfl 4 true cs, fx) cl sl lv st r hr
    have hR1 := hR.sfl 4 true
    have hso : ab_so p l e room_1 s m #[Value.ref b] below meth c (lw_Z below #[Value.ref b] s) 7 X D (z, ws, (ab_sfl 4 true cs).map ab_flg) lw_cal 901 (op_call 13 241 1 0 0 (2 + a) (12 + b') 904) := so_callV C K me_X11_shadows hmR hsR hd1 hd2 (by decide) hy_X11_shadows tg_1814 hc_X11 rfl rfl tg_1811 tg_1812 tg_1813 tg_158 (by decide +kernel)
    refine hso env nl (ab_sfl 4 true cs, fx) (cl + a) (sl + b') lv st _ hr2 (fun S1 hS1 => ?_) z ws H locs ls cst hR1 hl hs
    obtain ⟨S1', hS1', rfl⟩ := List.mem_map.mp hS1
    have c4 := List.all_eq_true.mp c3 S1' hS1'
    obtain ⟨⟨env1, nl1, ⟨cs1, fx1⟩, cl1, sl1⟩, pc1, lv1, st1⟩ := S1'
    unfold ab_cS1 at c4
    try dsimp only at c4
    rw [Bool.and_eq_true] at c4
    obtain ⟨fk1, c4⟩ := c4
    split at c4
    · rename_i os hos
      intro z1 ws1 H1 locs1 ls1 cst1 hRb hlb hsb
      have hw1 := (show ab_R X D s (z, ws, (ab_sfl 4 true cs).map ab_flg) env1 nl1 (cs1, fx1) z1 ws1 H1 locs1 from hRb)
      have hz1 : lw_zv X i z1 x := hz.ext hw1.2.2.2.2.2.2.2.2.1
      have hW1 : lw_Wd ws1 := hJ.2.keep hR1.2.2.2.1.1.2 fk hw1.2.2.2.2.2.2.2.2.2.2 (by decide) (by decide)
      have hR2 := hw1.sfl 4 false
      refine lw_seg K C hd0 hd1 hd2 hmR hsR hiL hL hos hz1 hR2 hlb hsb (fun k S' hS' z' ws' H' locs' ls' cst' hR' hl' hs' => ?_)
      have c5 := List.all_eq_true.mp c4 (k, S') hS'
      refine lw_at23 hi c5 hR' hl' hs' (hz1.ext hR'.2.2.2.2.2.2.2.2.1).1 (fun y e9 he9 ho => ?_) next
      refine ⟨fun j hj => ?_, hW1.keep hR2.2.2.2.1.1.2 fk1 hR'.2.2.2.2.2.2.2.2.2.2 (by decide) (by decide)⟩
      exfalso
      unfold lw_sz0 at ho
      rw [ab_ivK_eq, ab_le_iff] at ho
      have h2 := ab_iv_spec hR'.1 he9
      omega
    · cases c4
  · cases c3
/-- feed: by two contracts on each side -/
theorem lw_caseF (K : ab_cal l X D d ab_MEL lw_cal) (C : ab_cx p room_1 s m #[Value.ref b] c code RL 7 X D) (hd0 : 10 ≤ d) (hd1 : 16 * (d + 1) ≤ room_1.frames) (hd2 : 200 * (d + 1) ≤ room_1.locals) {i a b' : Nat} (hmR : 2 + a ≤ room_1.cells) (hsR : 12 + b' ≤ room_1.slots) (hiL : i + 6 ≤ X.1.2.1) (hL : X.1.2.1 ≤ 3072) {x : Int32} {S : ab_S} (hpc : S.2.1 = 251) (hE : ab_cF S = true) {z0 : ab_Z0} {z : ab_Z} {ws : va_W} {H : Heap} {locs : List Loc} {ls : Array Slot} {cst : List Value} (hz : lw_zv X i z x) (hJ : lw_J ws x) (hR : ab_R X D s z0 S.1.1 S.1.2.1 S.1.2.2.1 z ws H locs) (hl : ab_lR X z 7 ls S.2.2.1) (hs : S.2.2.2.map (ab_ev X z) = cst.map some) (next : ∀ (z : ab_Z) (ws : va_W) (H : Heap) (locs : List Loc) (ls : Array Slot), z.1[0]? = some (nI (i + 6)) → ab_R X D s (z, [], []) ab_lT.1 0 (gl_L, ab_FX) z ws H locs → (∀ x, z.1[1]? = some x → lw_J ws x) → ab_lR X z 7 ls ab_lvT → W p l e room_1 s m #[Value.ref b] below meth c H locs (a + 2) (b' + 12) (lw_Z below #[Value.ref b] s) (F0 m 23 ls [])) : W p l e room_1 s m #[Value.ref b] below meth c H locs (S.1.2.2.2.1 + a) (S.1.2.2.2.2 + b') (lw_Z below #[Value.ref b] s) (F0 m S.2.1 ls cst) := by
  obtain ⟨⟨env, nl, ⟨cs, fx⟩, cl, sl⟩, pc, lv, st⟩ := S
  try dsimp only at hpc hR hl hs ⊢
  subst hpc
  unfold ab_cF at hE
  try dsimp only at hE
  rw [Bool.and_eq_true, Bool.and_eq_true, Bool.and_eq_true] at hE
  obtain ⟨ck, s5, fk, c3⟩ := hE
  have hi : i + 6 ≤ 3072 := Nat.le_trans hiL hL
  split at c3
  · rename_i r hr
    have hst := lw_st5_ok s5
    subst hst
    have hr2 := un_call (a := a) (b := b') (rc := 12) (mid := 174) (na := 6) (mc := 0) (ms := 0) (A := 2) (B := 12) (np := 254) lw_cal env nl (ab_sfl 17 true cs, fx) cl sl lv _ r hr
    have hRa := hR.sfl 17 true
    have hc := cu_ck_ok ck hR.1 hz.three hR.2.2.2.1.1.2
    obtain ⟨σ, A, we, b1, b2, ⟨pos, b3, b4⟩, ⟨e10, b5⟩, ⟨e17, b9⟩, ⟨e3, b10⟩, b6, b7, b8⟩ := cu_A hc hR.2.2.1
    have hPe := cu_P hR.2.2.2.2.1 b2
    have hDe := cu_D hR.2.2.2.2.2.1 pos b3 b4
    have hx : σ.1 0 = x := by rw [hz.2.2.1] at b8; exact (Option.some.inj b8).symm
    have hst2 := lw_st5_v hz (cu_ad hR.2.2.1 b5) hs
    have hI : 0 ≤ (σ.1 0).toInt ∧ (σ.1 0).toInt ≤ 940 := by rw [hx]; exact hz.2.2.2.2
    refine jc_call C K me_X10_feed hmR hsR hd1 hd2 (by decide) hy_X10_feed tg_639 hc_X10 rfl rfl tg_636 tg_637 tg_638 tg_143 (by decide +kernel) hr2 hRa hl hs (m_X10_feed d (by omega) 2000000 6 (X.2.1 (i + 1)) (X.2.1 (i + 2)) (X.2.1 (i + 3)) (X.2.1 (i + 4)) (X.2.1 (i + 5)) σ hI) b1 hPe hDe (rest := []) (by rw [hst2]; rfl) rfl (fun S1 hS1 z1 ws1 H1 locs1 r0 u hRb hlb hsb hpb hxb hpo hwu hPu => ?_)
    obtain ⟨S1', hS1', rfl⟩ := List.mem_map.mp hS1
    have c4 := List.all_eq_true.mp c3 S1' hS1'
    obtain ⟨⟨env1, nl1, ⟨cs1, fx1⟩, cl1, sl1⟩, pc1, lv1, st1⟩ := S1'
    unfold ab_cF1 at c4
    try dsimp only at c4
    rw [Bool.and_eq_true] at c4
    obtain ⟨fk1, c4⟩ := c4
    have hRb : ab_R X D s (z, ws, (ab_sfl 17 true cs).map ab_flg) env1 nl1 (cs1, fx1) z1 ws1 H1 locs1 := hRb
    have hpb : pc1 = 251 + 3 := hpb
    subst hpb
    split at c4
    · rename_i ez hez
      split at c4
      · rename_i os hos
        have hz1 : lw_zv X i z1 x := hz.ext hxb
        have hR2 := hRb.sfl 17 false
        -- what the class's side holds now
        obtain ⟨u1, we1⟩ := u
        obtain ⟨-, hu1⟩ := hpo
        try dsimp only at hu1 hwu hPu
        subst hu1
        obtain ⟨qb, qb1, qb2⟩ := hwu.2.2 2 _ rfl
        obtain ⟨-, -, -, cAb, hqb, -⟩ := qb2
        obtain ⟨qo, qo1, qo2⟩ := hwu.2.2 1 _ rfl
        have hab : qb.1 = A.1.getD 2 0 := by
          have h9 : (we1.map Prod.fst)[2]? = some qb.1 := by rw [List.getElem?_map, qb1]; rfl
          rw [hwu.1] at h9
          rw [List.getD_eq_getElem?_getD, h9]; rfl
        have hao : qo.1 = A.1.getD 1 0 := by
          have h9 : (we1.map Prod.fst)[1]? = some qo.1 := by rw [List.getElem?_map, qo1]; rfl
          rw [hwu.1] at h9
          rw [List.getD_eq_getElem?_getD, h9]; rfl
        obtain ⟨db, ovb, hcb⟩ := lw_flk_ok fk1 (k := 17) (t := 0) (n := 940) (by decide)
        obtain ⟨a17, c17, f17, h17⟩ := lw_sh0 hR2.2.2.2.1.1.2 hcb (Or.inl rfl)
        have ha17 : a17 = A.1.getD 2 0 := by
          have g1 := hxb.2.2
          obtain ⟨t9, ht9⟩ := g1
          have g2 := cu_ad hR.2.2.1 b9
          have g3 := cu_ad hRb.2.2.1 h17
          rw [ht9, ab_get_app g2] at g3
          exact (Option.some.inj g3).symm
        obtain ⟨a3, vs3, y3, h3, hy3, hey3⟩ := lw_sz_ok hRb.2.2.2.1.1.2 hez
        have ha3 : a3 = A.1.getD 1 0 := by
          obtain ⟨t9, ht9⟩ := hxb.2.2
          have g2 := cu_ad hR.2.2.1 b10
          have g3 := cu_ad hRb.2.2.1 h3
          rw [ht9, ab_get_app g2] at g3
          exact (Option.some.inj g3).symm
        obtain ⟨qb0, qbe⟩ := qb
        try dsimp only at hqb hab
        subst hqb hab
        obtain ⟨qo0, qoe⟩ := qo
        have qo2 : qoe = _ := qo2
        try dsimp only at hao
        subst qo2 hao
        subst ha17 ha3
        have hrow := jc_row hRb.2.2.2.2.1 hPu h17 qb1
        have hfld := jc_fld (r := (RX4, TX4, 15)) (q := 1) hRb.2.2.2.2.1 hPu h3 qo1 rfl (by decide)
        have hyy : y3 = (A_feed (X.2.1 (i + 1)) (X.2.1 (i + 2)) (X.2.1 (i + 3)) (X.2.1 (i + 4)) (X.2.1 (i + 5)) σ).2.1 0 := by
          rw [hy3] at hfld
          exact Value.int.inj hfld
        refine lw_seg K C hd0 hd1 hd2 hmR hsR hiL hL hos hz1 hR2 hlb hsb (fun k S2 hS2 z2 ws2 H2 locs2 ls2 cst2 hR3 hl3 hs3 => ?_)
        have c5 := List.all_eq_true.mp c4 (k, S2) hS2
        obtain ⟨⟨env2, nl2, ⟨cs2, fx2⟩, cl2, sl2⟩, pc2, lv2, st2⟩ := S2
        unfold ab_cF2 at c5
        split at c5
        · rename_i env9 nl9 cs9 fx9 cl9 sl9 pc9 lv9 st9 heq
          cases heq
          rw [Bool.and_eq_true, Bool.and_eq_true, Bool.and_eq_true, Bool.and_eq_true] at c5
          obtain ⟨cp, ck2, s52, fk2, c5⟩ := c5
          have cp := Nat.eq_of_beq_eq_true cp
          subst cp
          have hst2b := lw_st5_ok s52
          subst hst2b
          try dsimp only at hR3 hl3 hs3 ⊢
          split at c5
          · rename_i r2 hr3
            have hr4 := un_call (a := a) (b := b') (rc := 13) (mid := 215) (na := 6) (mc := 0) (ms := 0) (A := 2) (B := 12) (np := 289) lw_cal env2 nl2 (ab_sfl 4 true cs2, fx2) cl2 sl2 lv2 _ r2 hr3
            have hz2 : lw_zv X i z2 x := hz1.ext hR3.2.2.2.2.2.2.2.2.1
            have hc2 := cu_ck_ok ck2 hR3.1 hz2.three hR3.2.2.2.1.1.2
            obtain ⟨τ, A2, we2, d1, d2, ⟨pos2, d3, d4⟩, ⟨f0, d5⟩, ⟨f4, d9⟩, d6, d7, d8⟩ := cu_B hc2 hR3.2.2.1
            have hPe2 := cu_P hR3.2.2.2.2.1 d2
            have hDe2 := cu_D hR3.2.2.2.2.2.1 pos2 d3 d4
            have hx2 : τ.1 1 = x := by rw [hz2.2.2.2.1] at d8; exact (Option.some.inj d8).symm
            have hst4 := lw_st5_v hz2 (cu_ad hR3.2.2.1 d5) hs3
            have hI2 : 0 ≤ (τ.1 1).toInt ∧ (τ.1 1).toInt ≤ 940 := by rw [hx2]; exact hz.2.2.2.2
            -- the tapes ahead of the second call
            have hw0 := hRa.2.2.2.1.1.2
            have k4 := lw_kf hw0 fk hRb.2.2.2.2.2.2.2.2.2.2 (k := 4) (t := 2) (n := 940) (by decide) (Or.inr rfl)
            have k4b := lw_kf hR2.2.2.2.1.1.2 fk1 hR3.2.2.2.2.2.2.2.2.2.2 (k := 4) (t := 2) (n := 940) (by decide) (Or.inr rfl)
            have k17b := lw_kf hR2.2.2.2.1.1.2 fk1 hR3.2.2.2.2.2.2.2.2.2.2 (k := 17) (t := 0) (n := 940) (by decide) (Or.inl rfl)
            have hEJ : E_J σ τ := by
              refine And.intro (hx.trans hx2.symm) (fun j hj => ?_)
              rw [b6, d6, k4b.1, k4.1]
              exact hJ.1 j (by rw [← hx]; exact hj)
            have hEJ2 := E_feed (X.2.1 (i + 1)) (X.2.1 (i + 2)) (X.2.1 (i + 3)) (X.2.1 (i + 4)) (X.2.1 (i + 5)) hI hEJ
            have hR3a := hR3.sfl 4 true
            refine jc_call C K me_X11_feed hmR hsR hd1 hd2 (by decide) hy_X11_feed tg_1334 hc_X11 rfl rfl tg_1331 tg_1332 tg_1333 tg_158 (by decide +kernel) hr4 hR3a hl3 hs3 (m_X11_feed d (by omega) (X.2.1 (i + 1)) (X.2.1 (i + 2)) (X.2.1 (i + 3)) (X.2.1 (i + 4)) (X.2.1 (i + 5)) τ hI2) d1 hPe2 hDe2 (rest := []) (by rw [hst4]; rfl) rfl (fun S3 hS3 z3 ws3 H3 locs3 r3 u3 hRd hld hsd hpd hxd hpo3 hwu3 hPu3 => ?_)
            obtain ⟨S3', hS3', rfl⟩ := List.mem_map.mp hS3
            have c6 := List.all_eq_true.mp c5 S3' hS3'
            obtain ⟨⟨env3, nl3, ⟨cs3, fx3⟩, cl3, sl3⟩, pc3, lv3, st3⟩ := S3'
            unfold ab_cF3 at c6
            try dsimp only at c6
            rw [Bool.and_eq_true] at c6
            obtain ⟨fk3, c6⟩ := c6
            have hRd : ab_R X D s (z2, ws2, (ab_sfl 4 true cs2).map ab_flg) env3 nl3 (cs3, fx3) z3 ws3 H3 locs3 := hRd
            have hpd : pc3 = 286 + 3 := hpd
            subst hpd
            split at c6
            · rename_i os3 hos3
              have hz3 : lw_zv X i z3 x := hz2.ext hxd
              have hRe := hRd.sfl 4 false
              obtain ⟨u31, we3⟩ := u3
              obtain ⟨-, hu3⟩ := hpo3
              try dsimp only at hu3 hwu3 hPu3
              subst hu3
              obtain ⟨qt, qt1, qt2⟩ := hwu3.2.2 1 _ rfl
              obtain ⟨-, -, -, cAt, hqt, -⟩ := qt2
              have hat : qt.1 = A2.1.getD 1 0 := by
                have h9 : (we3.map Prod.fst)[1]? = some qt.1 := by rw [List.getElem?_map, qt1]; rfl
                rw [hwu3.1] at h9
                rw [List.getD_eq_getElem?_getD, h9]; rfl
              obtain ⟨dt, ovt, hct⟩ := lw_flk_ok fk3 (k := 4) (t := 2) (n := 940) (by decide)
              obtain ⟨a4, c4', f4', h4⟩ := lw_sh0 hRe.2.2.2.1.1.2 hct (Or.inr rfl)
              have ha4 : a4 = A2.1.getD 1 0 := by
                obtain ⟨t9, ht9⟩ := hxd.2.2
                have g2 := cu_ad hR3.2.2.1 d9
                have g3 := cu_ad hRd.2.2.1 h4
                rw [ht9, ab_get_app g2] at g3
                exact (Option.some.inj g3).symm
              obtain ⟨qt0, qte⟩ := qt
              try dsimp only at hqt hat
              subst hqt hat
              subst ha4
              have hrow3 := jc_row hRd.2.2.2.2.1 hPu3 h4 qt1
              refine lw_seg K C hd0 hd1 hd2 hmR hsR hiL hL hos3 hz3 hRe hld hsd (fun k4 S4 hS4 z4 ws4 H4 locs4 ls4 cst4 hR5 hl5 hs5 => ?_)
              have c7 := List.all_eq_true.mp c6 (k4, S4) hS4
              refine lw_at23 hi c7 hR5 hl5 hs5 (hz3.ext hR5.2.2.2.2.2.2.2.2.1).1 (fun y e9 he9 ho => ?_) next
              -- the new size
              have e99 : e9 = ez := ab_eqI_eq ho
              subst e99
              have hext : ab_ext z1 z4 := (hR3.2.2.2.2.2.2.2.2.1.tr hxd).tr hR5.2.2.2.2.2.2.2.2.1
              have hy4 : y = y3 := Option.some.inj (he9.symm.trans (ab_evI.ext hext hey3))
              have kw1 := lw_kf (ws' := ws3) hR3a.2.2.2.1.1.2 fk2 hRd.2.2.2.2.2.2.2.2.2.2 (k := 17) (t := 0) (n := 940) (by decide) (Or.inl rfl)
              have kw2 := lw_kf hRe.2.2.2.1.1.2 fk3 hR5.2.2.2.2.2.2.2.2.2.2 (k := 17) (t := 0) (n := 940) (by decide) (Or.inl rfl)
              have kw3 := lw_kf hRe.2.2.2.1.1.2 fk3 hR5.2.2.2.2.2.2.2.2.2.2 (k := 4) (t := 2) (n := 940) (by decide) (Or.inr rfl)
              refine ⟨fun j hj => ?_, ?_⟩
              · have hyb : y.toInt ≤ 940 := by
                  rw [hy4, hyy]
                  exact A_feed_le hI
                have hj9 : j < 940 := by omega
                rw [kw2.1, kw1.1, k17b.1, kw3.1, cu_f_of h17, cu_f_of h4, hrow j hj9 hj9, hrow3 j hj9 hj9]
                exact hEJ2.2 j (by rw [← hyy, ← hy4]; exact hj)
              · have w1 := hJ.2.keep hw0 fk hRb.2.2.2.2.2.2.2.2.2.2 (by decide) (by decide)
                have w2 := w1.keep hR2.2.2.2.1.1.2 fk1 hR3.2.2.2.2.2.2.2.2.2.2 (by decide) (by decide)
                have w3 := w2.keep hR3a.2.2.2.1.1.2 fk2 hRd.2.2.2.2.2.2.2.2.2.2 (by decide) (by decide)
                exact w3.keep hRe.2.2.2.1.1.2 fk3 hR5.2.2.2.2.2.2.2.2.2.2 (by decide) (by decide)
            · cases c6
          · cases c5
        · cases c5
      · cases c4
    · cases c4
  · cases c3
/-- valley: both answer alike -/
theorem lw_caseV (K : ab_cal l X D d ab_MEL lw_cal) (C : ab_cx p room_1 s m #[Value.ref b] c code RL 7 X D) (hd0 : 10 ≤ d) (hd1 : 16 * (d + 1) ≤ room_1.frames) (hd2 : 200 * (d + 1) ≤ room_1.locals) {i a b' : Nat} (hmR : 2 + a ≤ room_1.cells) (hsR : 12 + b' ≤ room_1.slots) (hiL : i + 6 ≤ X.1.2.1) (hL : X.1.2.1 ≤ 3072) {x : Int32} {S : ab_S} (hpc : S.2.1 = 319) (hE : ab_cV S = true) {z0 : ab_Z0} {z : ab_Z} {ws : va_W} {H : Heap} {locs : List Loc} {ls : Array Slot} {cst : List Value} (hz : lw_zv X i z x) (hJ : lw_J ws x) (hR : ab_R X D s z0 S.1.1 S.1.2.1 S.1.2.2.1 z ws H locs) (hl : ab_lR X z 7 ls S.2.2.1) (hs : S.2.2.2.map (ab_ev X z) = cst.map some) (next : ∀ (z : ab_Z) (ws : va_W) (H : Heap) (locs : List Loc) (ls : Array Slot), z.1[0]? = some (nI (i + 6)) → ab_R X D s (z, [], []) ab_lT.1 0 (gl_L, ab_FX) z ws H locs → (∀ x, z.1[1]? = some x → lw_J ws x) → ab_lR X z 7 ls ab_lvT → W p l e room_1 s m #[Value.ref b] below meth c H locs (a + 2) (b' + 12) (lw_Z below #[Value.ref b] s) (F0 m 23 ls [])) : W p l e room_1 s m #[Value.ref b] below meth c H locs (S.1.2.2.2.1 + a) (S.1.2.2.2.2 + b') (lw_Z below #[Value.ref b] s) (F0 m S.2.1 ls cst) := by
  obtain ⟨⟨env, nl, ⟨cs, fx⟩, cl, sl⟩, pc, lv, st⟩ := S
  try dsimp only at hpc hR hl hs ⊢
  subst hpc
  have hi : i + 6 ≤ 3072 := Nat.le_trans hiL hL
  unfold ab_cV at hE
  split at hE
  · rename_i env9 nl9 cs9 fx9 cl9 sl9 pc9 lv9 j9 heq
    cases heq
    rw [Bool.and_eq_true, Bool.and_eq_true, Bool.and_eq_true] at hE
    obtain ⟨hj, ck, fk, c3⟩ := hE
    have hj := Nat.eq_of_beq_eq_true hj
    subst hj
    split at c3
    · rename_i r hr
      have hr2 := un_call (a := a) (b := b') (rc := 12) (mid := 176) (na := 1) (mc := 0) (ms := 0) (A := 2) (B := 12) (np := 322) lw_cal env nl (cs, fx) cl sl lv _ r hr
      have hRa := hR.re
      have hc := cu_ck_ok ck hR.1 hz.three hR.2.2.2.1.1.2
      obtain ⟨σ, A, we, b1, b2, ⟨pos, b3, b4⟩, ⟨e10, b5⟩, ⟨e17, b9⟩, ⟨e3, b10⟩, b6, b7, b8⟩ := cu_A hc hR.2.2.1
      have hPe := cu_P hR.2.2.2.2.1 b2
      have hDe := cu_D hR.2.2.2.2.2.1 pos b3 b4
      have hx : σ.1 0 = x := by rw [hz.2.2.1] at b8; exact (Option.some.inj b8).symm
      have hI : 0 ≤ (σ.1 0).toInt ∧ (σ.1 0).toInt ≤ 940 := by rw [hx]; exact hz.2.2.2.2
      have hcst : cst = [Value.ref (A.1.getD 0 0)] := by
        have h3 := congrArg (List.filterMap id) hs
        rw [lw_fm] at h3
        have v0 : ab_ev X z (.inr (.inr (2, 10))) = some (.ref (A.1.getD 0 0)) := by
          show (z.2.2[10]?).map _ = _
          rw [cu_ad hR.2.2.1 b5]; rfl
        have h4 : [ab_ev X z (.inr (.inr (2, 10)))].filterMap id = cst := h3
        rw [v0] at h4
        exact h4.symm
      refine jc_call C K me_X10_valley hmR hsR hd1 hd2 (by decide) hy_X10_valley tg_651 hc_X10 rfl rfl tg_648 tg_649 tg_650 tg_143 (by decide +kernel) hr2 hRa hl hs (m_X10_valley d (by omega) σ hI) b1 hPe hDe (rest := []) (by rw [hcst]; rfl) rfl (fun S1 hS1 z1 ws1 H1 locs1 r0 u hRb hlb hsb hpb hxb hpo hwu hPu => ?_)
      obtain ⟨S1', hS1', rfl⟩ := List.mem_map.mp hS1
      have c4 := List.all_eq_true.mp c3 S1' hS1'
      obtain ⟨⟨env1, nl1, ⟨cs1, fx1⟩, cl1, sl1⟩, pc1, lv1, st1⟩ := S1'
      unfold ab_cV1 at c4
      split at c4
      · rename_i env8 nl8 cs8 fx8 cl8 sl8 pc8 lv8 av heq
        cases heq
        rw [Bool.and_eq_true, Bool.and_eq_true, Bool.and_eq_true] at c4
        obtain ⟨ck1, fk1, hlk, c4⟩ := c4
        have hRb : ab_R X D s (z, ws, cs.map ab_flg) env1 nl1 (cs1, fx1) z1 ws1 H1 locs1 := hRb
        have hlb : ab_lR X z1 7 ls lv1 := hlb
        have hsb : [Sum.inl av].map (ab_ev X z1) = (Value.int r0 :: []).map some := hsb
        have hz1 : lw_zv X i z1 x := hz.ext hxb
        split at hlk
        · rename_i j2 hlv2
          have hlk := Nat.eq_of_beq_eq_true hlk
          subst hlk
          split at c4
          · rename_i r2 hr3
            have hr4 := un_call (a := a) (b := b') (rc := 13) (mid := 219) (na := 1) (mc := 0) (ms := 0) (A := 2) (B := 12) (np := 326) lw_cal env1 nl1 (cs1, fx1) cl1 sl1 lv1 _ r2 hr3
            have hc2 := cu_ck_ok ck1 hRb.1 hz1.three hRb.2.2.2.1.1.2
            obtain ⟨τ, A2, we2, d1, d2, ⟨pos2, d3, d4⟩, ⟨f0, d5⟩, ⟨f4, d9⟩, d6, d7, d8⟩ := cu_B hc2 hRb.2.2.1
            have hPe2 := cu_P hRb.2.2.2.2.1 d2
            have hDe2 := cu_D hRb.2.2.2.2.2.1 pos2 d3 d4
            have hx2 : τ.1 1 = x := by rw [hz1.2.2.2.1] at d8; exact (Option.some.inj d8).symm
            have hI2 : 0 ≤ (τ.1 1).toInt ∧ (τ.1 1).toInt ≤ 940 := by rw [hx2]; exact hz.2.2.2.2
            obtain ⟨v2, ev2, lv2⟩ := hlb.at hlv2
            have hv2 : v2 = .ref (A2.1.getD 0 0) := by
              have v0 : ab_ev X z1 (.inr (.inr (2, 0))) = some (.ref (A2.1.getD 0 0)) := by
                show (z1.2.2[0]?).map _ = _
                rw [cu_ad hRb.2.2.1 d5]; rfl
              exact Option.some.inj (ev2.symm.trans v0)
            subst hv2
            have hw0 := hRa.2.2.2.1.1.2
            have k4 := lw_kf hw0 fk hRb.2.2.2.2.2.2.2.2.2.2 (k := 4) (t := 2) (n := 940) (by decide) (Or.inr rfl)
            have hW1 := hJ.2.keep hw0 fk hRb.2.2.2.2.2.2.2.2.2.2 (by decide) (by decide)
            have hEV : A_valley σ = B_valley τ := by
              refine E_valley (hx.trans hx2.symm) hI (fun j hj => ?_) (fun j hj => ?_) (fun j hj => ?_)
              · rw [b6, d6, k4.1]
                exact hJ.1 j (by rw [← hx]; exact hj)
              · rw [b7]; exact hJ.2.1 j hj
              · rw [d7]; exact hW1.2 j hj
            show W p l e room_1 s m #[Value.ref b] below meth c H1 locs1 (cl1 + a) (sl1 + b') (lw_Z below #[Value.ref b] s) (F0 m (319 + 3) ls [.int r0])
            refine lv_aload_n C.1 C.2.1 (k := 2) (i := 2) (by decide +kernel) rfl lv2 ?_
            refine jc_call C K me_X11_valley hmR hsR hd1 hd2 (by decide) hy_X11_valley tg_1532 hc_X11 rfl rfl tg_1529 tg_1530 tg_1531 tg_158 (by decide +kernel) hr4 hRb.re hlb (show (Sum.inr (Sum.inr (2, 0)) :: [Sum.inl av]).map (ab_ev X z1) = (Value.ref (A2.1.getD 0 0) :: [Value.int r0]).map some by
              simp only [List.map_cons, List.map_nil] at hsb ⊢
              rw [ev2, hsb]) (m_X11_valley d (by omega) τ hI2) d1 hPe2 hDe2 (rest := [Value.int r0]) rfl rfl (fun S3 hS3 z3 ws3 H3 locs3 r3 u3 hRd hld hsd hpd hxd hpo3 hwu3 hPu3 => ?_)
            obtain ⟨S3', hS3', rfl⟩ := List.mem_map.mp hS3
            have c6 := List.all_eq_true.mp c4 S3' hS3'
            obtain ⟨⟨env3, nl3, ⟨cs3, fx3⟩, cl3, sl3⟩, pc3, lv3, st3⟩ := S3'
            unfold ab_cV3 at c6
            split at c6
            · rename_i env7 nl7 cs7 fx7 cl7 sl7 pc7 lv7 bv av7 heq
              cases heq
              rw [Bool.and_eq_true] at c6
              obtain ⟨fk3, c6⟩ := c6
              have hRd : ab_R X D s (z1, ws1, cs1.map ab_flg) env3 nl3 (cs3, fx3) z3 ws3 H3 locs3 := hRd
              have hld : ab_lR X z3 7 ls lv3 := hld
              split at c6
              · rename_i os3 hos3
                have hz3 : lw_zv X i z3 x := hz1.ext hxd
                have hr03 : r0 = r3 := by rw [hpo, hpo3]; exact hEV
                show W p l e room_1 s m #[Value.ref b] below meth c H3 locs3 (cl3 + a) (sl3 + b') (lw_Z below #[Value.ref b] s) (F0 m (323 + 3) ls [.int r3, .int r0])
                refine lv_icmp_eq C.1 C.2.1 (off := 1024) (tgt := 1350) (by decide +kernel) (by decide) (fun hP => ?_) (fun hP => absurd hr03 hP)
                refine lw_seg (S := ((env3, nl3, (cs3, fx3), cl3, sl3), 1350, lv3, [])) (cst := []) K C hd0 hd1 hd2 hmR hsR hiL hL hos3 hz3 hRd.re hld rfl (fun k4 S4 hS4 z4 ws4 H4 locs4 ls4 cst4 hR5 hl5 hs5 => ?_)
                have c7 := List.all_eq_true.mp c6 (k4, S4) hS4
                have hz4 := hz3.ext hR5.2.2.2.2.2.2.2.2.1
                refine lw_at23 hi c7 hR5 hl5 hs5 hz4.1 (fun y e9 he9 ho => ?_) next
                have hy := lw_szc_ok ho hR5.1 hR5.2.2.2.1.2 hz4.2.2.1 he9
                have j1 : lw_J ws1 x := hJ.keep hw0 fk hRb.2.2.2.2.2.2.2.2.2.2 (Or.inl (Int.le_refl _))
                have j2 : lw_J ws3 x := j1.keep hRb.2.2.2.1.1.2 fk1 hRd.2.2.2.2.2.2.2.2.2.2 (Or.inl (Int.le_refl _))
                exact j2.keep hRd.2.2.2.1.1.2 fk3 hR5.2.2.2.2.2.2.2.2.2.2 hy
              · cases c6
            · cases c6
          · cases c4
        · cases hlk
      · cases c4
    · cases c3
  · cases hE
set_option maxHeartbeats 4000000 in
theorem ab_lloop (C0 : lw_At p s m meth c b L xs) (hX1 : X.1 = (b, L, s.heap.size)) (hX2 : X.2.1 = xs) (hL : L ≤ 3072) (C : ab_cx p room_1 s m #[Value.ref b] c code RL 7 X D) (K : ab_cal l X D d ab_MEL lw_cal) (hd0 : 10 ≤ d) (hd1 : 16 * (d + 1) ≤ room_1.frames) (hd2 : 200 * (d + 1) ≤ room_1.locals) : ∀ (n i a b' : Nat), L < i + 6 * n + 6 → i ≤ 3072 → a + 2 * n ≤ 601024 → b' + 12 * n ≤ 7293034 → ∀ (z : ab_Z) (ws : va_W) (H : Heap) (locs : List Loc) (ls : Array Slot), z.1[0]? = some (nI i) → ab_R X D s (z, [], []) ab_lT.1 0 (gl_L, ab_FX) z ws H locs → (∀ x, z.1[1]? = some x → lw_J ws x) → ab_lR X z 7 ls ab_lvT → W p l e room_1 s m #[Value.ref b] below meth c H locs a b' (lw_Z below #[Value.ref b] s) (F0 m 23 ls []) := by
  intro n
  induction n with
  | zero =>
    intro i a b' hn hi ha hb z ws H locs ls hz hR hJ hl
    exact ab_lhead C0 hX1 hL C hi (by omega) (by omega) hz hR hl (fun h => absurd h (by omega))
  | succ n ih =>
    intro i a b' hn hi ha hb z ws H locs ls hz hR hJ hl
    refine ab_lhead C0 hX1 hL C hi (by omega) (by omega) hz hR hl (fun hiL => ?_)
    have e2 : X.1.2.1 = L := by rw [hX1]
    have hin : (nI i).toInt = (i : Int) := nI_toInt (by omega)
    have hi32 : ∀ y : Int32, (-2147483648 : Int) ≤ y.toInt ∧ y.toInt ≤ 2147483647 := ab_i32
    obtain ⟨x, hx1, hx2, hx3, hx4⟩ := lw_eq hR
    have hJx := hJ x hx1
    obtain ⟨z1, zl, za⟩ := z
    try dsimp only at hz hx1 hx2
    have hlen : z1.length = lw_n := hR.1.1
    have hR2 : ab_R X D s ((z1 ++ [xs i, xs (i + 1), xs (i + 2), xs (i + 3), xs (i + 4), xs (i + 5)], zl, za), ws, gl_L.map ab_flg) ab_l33.1.1 0 (gl_L, ab_FX) (z1 ++ [xs i, xs (i + 1), xs (i + 2), xs (i + 3), xs (i + 4), xs (i + 5)], zl, za) ws H locs := by
      obtain ⟨r1, r2, r3, r4, r5, r6, r7, r8, r9⟩ := hR
      have hen : ∃ r, ab_lT.1 = (0, 3072) :: r ∧ ab_l33.1.1 = (0, 3066) :: (r ++ [(-2147483648, 2147483647), (-2147483648, 2147483647), (-2147483648, 2147483647), (-2147483648, 2147483647), (-2147483648, 2147483647), (-2147483648, 2147483647)]) := ⟨_, rfl, rfl⟩
      obtain ⟨er, h1, h2⟩ := hen
      refine ⟨?_, r2, r3, r4.ext (ab_ext_v (z := (z1, zl, za))), r5, r6, r7, trivial, ab_ext.rf, ⟨[], by simp⟩, ab_fr.rf⟩
      rw [h2]
      try dsimp only at r1 ⊢
      have r1 : ab_eR ab_lT.1 z1 := r1
      rw [h1] at r1
      cases z1 with
      | nil => simp at hz
      | cons y zr =>
        simp only [List.getElem?_cons_zero, Option.some.injEq] at hz
        subst hz
        have hl9 : er.length = zr.length := by
          have := r1.1.symm
          simpa using this
        refine ⟨by simp [hl9], fun v q hq => ?_⟩
        cases v with
        | zero => cases hq; exact ⟨_, rfl, by dsimp only; omega, by dsimp only; omega⟩
        | succ v =>
          simp only [List.cons_append, List.getElem?_cons_succ] at hq ⊢
          by_cases hv : v < er.length
          · rw [List.getElem?_append_left hv] at hq
            obtain ⟨x, g1, g2⟩ := r1.2 (v + 1) q (by simpa using hq)
            simp only [List.getElem?_cons_succ] at g1
            exact ⟨x, by rw [List.getElem?_append_left (by omega)]; exact g1, g2⟩
          · rw [List.getElem?_append_right (by omega)] at hq ⊢
            rw [hl9] at hq
            generalize v - zr.length = u at hq ⊢
            match u, hq with
            | 0, hq => cases hq; exact ⟨_, rfl, hi32 _⟩
            | 1, hq => cases hq; exact ⟨_, rfl, hi32 _⟩
            | 2, hq => cases hq; exact ⟨_, rfl, hi32 _⟩
            | 3, hq => cases hq; exact ⟨_, rfl, hi32 _⟩
            | 4, hq => cases hq; exact ⟨_, rfl, hi32 _⟩
            | 5, hq => cases hq; exact ⟨_, rfl, hi32 _⟩
            | u + 6, hq => cases hq
    have hl2 : ab_lR X (z1 ++ [xs i, xs (i + 1), xs (i + 2), xs (i + 3), xs (i + 4), xs (i + 5)], zl, za) 7 ls ab_lvT := hl.ext (ab_ext_v (z := (z1, zl, za)))
    have hzv : lw_zv X i (z1 ++ [xs i, xs (i + 1), xs (i + 2), xs (i + 3), xs (i + 4), xs (i + 5)], zl, za) x := by
      refine ⟨ab_get_app hz, fun j hj => ?_, ab_get_app hx1, ab_get_app hx2, hx3, hx4⟩
      rw [hX2]
      show (z1 ++ [xs i, xs (i + 1), xs (i + 2), xs (i + 3), xs (i + 4), xs (i + 5)])[j + lw_n]? = _
      rw [List.getElem?_append_right (by omega), hlen, Nat.add_sub_cancel]
      match j, hj with
      | 0, _ => rfl
      | 1, _ => rfl
      | 2, _ => rfl
      | 3, _ => rfl
      | 4, _ => rfl
      | 5, _ => rfl
      | j + 6, hj => omega
    have hiL2 : i + 6 ≤ X.1.2.1 := by rw [e2]; exact hiL
    have hL2 : X.1.2.1 ≤ 3072 := by rw [e2]; exact hL
    have hmR : 2 + a ≤ room_1.cells := show 2 + a ≤ 601024 by omega
    have hsR : 12 + b' ≤ room_1.slots := show 12 + b' ≤ 7293034 by omega
    have hi6 : i + 6 ≤ 3072 := by omega
    have next := ih (i + 6) (a + 2) (b' + 12) (by omega) (by omega) (by omega) (by omega)
    have hT := sn_LC (p := p) (l := l) (e := e) (R := room_1) (s := s) (m := m) (args := #[Value.ref b]) (below := below) (meth := meth) (c := c) (Q := lw_Z below #[Value.ref b] s) (z0 := ((z1 ++ [xs i, xs (i + 1), xs (i + 2), xs (i + 3), xs (i + 4), xs (i + 5)], zl, za), ws, gl_L.map ab_flg)) (a := a) (b := b') K C hd1 hd2 (A := 2) (B := 12) hmR hsR (i0 := i) hzv.1 hzv.2.1 hiL2 hL2
    have hw0 := hR2.2.2.2.1.1.2
    obtain ⟨os, ho, hE⟩ := lw_gd
    have hok : ab_ok p l e room_1 s m #[Value.ref b] below meth c (lw_Z below #[Value.ref b] s) 7 X D ((z1 ++ [xs i, xs (i + 1), xs (i + 2), xs (i + 3), xs (i + 4), xs (i + 5)], zl, za), ws, gl_L.map ab_flg) (ab_sh a b' ab_l33) := by
      refine ab_run_gen (P := fun S => ab_ok p l e room_1 s m #[Value.ref b] below meth c (lw_Z below #[Value.ref b] s) 7 X D ((z1 ++ [xs i, xs (i + 1), xs (i + 2), xs (i + 3), xs (i + 4), xs (i + 5)], zl, za), ws, gl_L.map ab_flg) (ab_sh a b' S)) (fun bb hb9 q hq h9 env nl aw cl sl lv st r hr hk => hT bb hb9 q hq h9 env nl aw cl sl lv st r hr hk) ho (fun k S hS => ?_) ab_l33 List.mem_cons_self
      have h1 := List.all_eq_true.mp hE (k, S) hS
      intro z3 ws3 H3 locs3 ls3 cst3 hR3 hl3 hs3
      have hzv3 := hzv.ext hR3.2.2.2.2.2.2.2.2.1
      have hJ3 : ∀ y : Int32, y.toInt ≤ x.toInt ∨ y.toInt ≤ 0 → lw_J ws3 y := fun y hy => hJx.keep hw0 lw_R4L hR3.2.2.2.2.2.2.2.2.2.2 hy
      have hJ3x := hJ3 x (Or.inl (Int.le_refl _))
      have hR3 : ab_R X D s ((z1 ++ [xs i, xs (i + 1), xs (i + 2), xs (i + 3), xs (i + 4), xs (i + 5)], zl, za), ws, gl_L.map ab_flg) S.1.1 S.1.2.1 S.1.2.2.1 z3 ws3 H3 locs3 := hR3
      show W p l e room_1 s m #[Value.ref b] below meth c H3 locs3 (S.1.2.2.2.1 + a) (S.1.2.2.2.2 + b') (lw_Z below #[Value.ref b] s) (F0 m S.2.1 ls3 cst3)
      unfold ab_lw2 at h1
      cases hk4 : Nat.beq k 4
      · rw [show Nat.beq (k, S).1 4 = false from hk4] at h1; cases h1
      · rw [show Nat.beq (k, S).1 4 = true from hk4, cond_true] at h1
        cases h23 : Nat.beq S.2.1 23
        · rw [show Nat.beq (k, S).2.2.1 23 = false from h23, cond_false] at h1
          cases hF : Nat.beq S.2.1 251
          · rw [show Nat.beq (k, S).2.2.1 251 = false from hF, cond_false] at h1
            cases hV : Nat.beq S.2.1 319
            · rw [show Nat.beq (k, S).2.2.1 319 = false from hV, cond_false] at h1
              cases hS9 : Nat.beq S.2.1 901
              · rw [show Nat.beq (k, S).2.2.1 901 = false from hS9, cond_false] at h1; cases h1
              · rw [show Nat.beq (k, S).2.2.1 901 = true from hS9, cond_true] at h1
                exact lw_caseS K C hd0 hd1 hd2 hmR hsR hiL2 hL2 (Nat.eq_of_beq_eq_true hS9) h1 hzv3 hJ3x hR3 hl3 hs3 next
            · rw [show Nat.beq (k, S).2.2.1 319 = true from hV, cond_true] at h1
              exact lw_caseV K C hd0 hd1 hd2 hmR hsR hiL2 hL2 (Nat.eq_of_beq_eq_true hV) h1 hzv3 hJ3x hR3 hl3 hs3 next
          · rw [show Nat.beq (k, S).2.2.1 251 = true from hF, cond_true] at h1
            exact lw_caseF K C hd0 hd1 hd2 hmR hsR hiL2 hL2 (Nat.eq_of_beq_eq_true hF) h1 hzv3 hJ3x hR3 hl3 hs3 next
        · rw [show Nat.beq (k, S).2.2.1 23 = true from h23, cond_true] at h1
          exact lw_at23 hi6 h1 hR3 hl3 hs3 hzv3.1 (fun y e9 he9 ho9 => hJ3 y (lw_szc_ok ho9 hR3.1 hR3.2.2.2.1.2 hzv3.2.2.1 he9)) next
    have h9 := hok _ ws H locs ls [] hR2 hl2 rfl
    have e9 : ab_l33.1.2.2.2.1 + a = a := Nat.zero_add a
    have e8 : ab_l33.1.2.2.2.2 + b' = b' := Nat.zero_add b'
    show W p l e room_1 s m #[Value.ref b] below meth c H locs a b' (lw_Z below #[Value.ref b] s) (F0 m 33 ls [])
    have h8 : W p l e room_1 s m #[Value.ref b] below meth c H locs (ab_l33.1.2.2.2.1 + a) (ab_l33.1.2.2.2.2 + b') (lw_Z below #[Value.ref b] s) (F0 m 33 ls []) := h9
    rw [e9, e8] at h8
    exact h8
end
