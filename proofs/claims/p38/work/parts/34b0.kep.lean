/-! The law's loop, with both tapes alike. -/
theorem lw_e0 {z : ab_Z} {v : Nat} {x : Int32} (h : z.1[v]? = some x) : ab_evI z.1 (some v, 0) = some x := by
  simp only [ab_evI, h, Option.map_some]
  have : Int32.ofInt 0 = 0 := rfl
  rw [this, Int32.add_zero]
theorem lw_fm {α : Type} : ∀ l : List α, (l.map some).filterMap id = l
  | [] => rfl
  | x :: r => by simp only [List.map_cons, List.filterMap_cons, id]; rw [lw_fm r]
/-- a sum's fact -/
theorem lw_fact {z : ab_Z} {ws : va_W} {a b : ab_I} (h : ab_fs z ws (0, [(none, 1), a, (none, -1), b, (none, 0)])) {x y : Int32} (ea : ab_evI z.1 a = some x) (eb : ab_evI z.1 b = some y) : y.toInt ≤ x.toInt := by
  obtain ⟨xs, h1, h2⟩ := h
  have h3 := congrArg (List.filterMap id) h1
  rw [lw_fm] at h3
  have e1 : ab_evI z.1 (none, 1) = some (Int32.ofInt 1) := rfl
  have e2 : ab_evI z.1 (none, -1) = some (Int32.ofInt (-1)) := rfl
  have e3 : ab_evI z.1 (none, 0) = some (Int32.ofInt 0) := rfl
  simp only [List.map_cons, List.map_nil, ea, eb, e1, e2, e3, List.filterMap_cons, List.filterMap_nil, id] at h3
  subst h3
  have h4 : (0 : Int) ≤ ab_lin [Int32.ofInt 1, x, Int32.ofInt (-1), y, Int32.ofInt 0] := h2
  have f1 : (Int32.ofInt 1).toInt = 1 := ab_of 1 (by omega) (by omega)
  have f2 : (Int32.ofInt (-1)).toInt = -1 := ab_of (-1) (by omega) (by omega)
  have f3 : (Int32.ofInt 0).toInt = 0 := ab_of 0 (by omega) (by omega)
  simp only [ab_lin, f1, f2, f3] at h4
  omega
theorem lw_szc_ok {z : ab_Z} {ws : va_W} {env : ab_E} {fx : List ab_Y} {e : ab_I} (h : lw_szc env fx e = true) (hE : ab_eR env z.1) (hfx : ∀ f ∈ fx, ab_fs z ws f) {x y : Int32} (h1 : z.1[1]? = some x) (he : ab_evI z.1 e = some y) : y.toInt ≤ x.toInt ∨ y.toInt ≤ 0 := by
  unfold lw_szc at h
  rw [Bool.or_eq_true, Bool.or_eq_true] at h
  rcases h with h | h | h
  · rw [ab_eqI_eq h, lw_e0 h1] at he
    cases he
    exact Or.inl (Int.le_refl _)
  · rw [ab_ivK_eq, ab_le_iff] at h
    have h2 := ab_iv_spec hE he
    exact Or.inr (by omega)
  · obtain ⟨f, hf, h2⟩ := List.any_eq_true.mp h
    rw [Bool.and_eq_true] at h2
    obtain ⟨kd, fl⟩ := f
    have e1 : kd = 0 := Nat.eq_of_beq_eq_true h2.1
    have e2 := ab_eqLI_eq h2.2
    dsimp only at e1 e2
    subst e1 e2
    exact Or.inl (lw_fact (hfx _ hf) (lw_e0 h1) he)
theorem cu_ck_ok {X : ab_X} {z : ab_Z} {s : State} {env : ab_E} {cs : List ab_C} {ws : va_W} {ks : List Nat} (h : cu_ck ks env cs = true) (hE : ab_eR env z.1) (hv : ∃ x0 x1 x2, z.1[0]? = some x0 ∧ z.1[1]? = some x1 ∧ z.1[2]? = some x2) (hw : ∀ (k : Nat) (c : ab_C), cs[k]? = some c → ∃ q, ws[k]? = some q ∧ ab_cR X z s c q.2) : ∀ (k : Nat) (c : ab_C), k ∈ ks → gl_L[k]? = some c → ∃ q, ws[k]? = some q ∧ ab_cR X z s c q.2 := by
  intro k t hk ht
  have h1 := List.all_eq_true.mp h k hk
  try dsimp only at h1
  rw [ab_get_eq, ab_get_eq, ht] at h1
  cases hc : cs[k]? with
  | none => rw [hc] at h1; cases h1
  | some c =>
    rw [hc] at h1
    try dsimp only at h1
    obtain ⟨q, q1, q2⟩ := hw k c hc
    obtain ⟨x0, x1, x2, e0, e1, e2⟩ := hv
    have hvr : ab_vr z z [(some 0, 0), (some 1, 0), (some 2, 0)] := ⟨rfl, fun u a hu => by
      match u, hu with
      | 0, hu => cases hu; exact ⟨x0, lw_e0 e0, e0⟩
      | 1, hu => cases hu; exact ⟨x1, lw_e0 e1, e1⟩
      | 2, hu => cases hu; exact ⟨x2, lw_e0 e2, e2⟩
      | u + 3, hu => simp at hu⟩
    exact ⟨q, q1, (ab_subC_ok hE hvr h1 q2).1⟩
theorem lw_flk_ok {ks : List (Nat × Nat × Nat)} {cs : List ab_C} (h : lw_flk ks cs = true) {k t n : Nat} (hk : (k, t, n) ∈ ks) : ∃ d ov, cs[k]? = some (.inr (t, n, false, d, ov)) := by
  have h1 := List.all_eq_true.mp h _ hk
  try dsimp only at h1
  rw [ab_get_eq] at h1
  split at h1
  · rename_i t' n' d ov hc
    rw [Bool.and_eq_true] at h1
    cases Nat.eq_of_beq_eq_true h1.1
    cases Nat.eq_of_beq_eq_true h1.2
    exact ⟨d, ov, hc⟩
  · cases h1
theorem lw_sh0 {X : ab_X} {z : ab_Z} {s : State} {cs : List ab_C} {ws : va_W} (hw : ∀ (k : Nat) (c : ab_C), cs[k]? = some c → ∃ q, ws[k]? = some q ∧ ab_cR X z s c q.2) {k t n : Nat} {fl : Bool} {d : ab_w} {ov : List (Nat × Nat × ab_w)} (hc : cs[k]? = some (.inr (t, n, fl, d, ov))) (ht : t = 0 ∨ t = 2) : ∃ a cA f, ws[k]? = some (a, .inl (cA, n, .inl f)) := by
  obtain ⟨⟨a, e⟩, q1, cA, x, h1, h2, -⟩ := hw k _ hc
  dsimp only at h1 h2
  subst h1
  rcases ht with rfl | rfl
  · obtain ⟨f, rfl⟩ := h2
    exact ⟨a, cA, f, q1⟩
  · obtain ⟨f, rfl⟩ := h2
    exact ⟨a, cA, f, q1⟩
theorem lw_sh1 {X : ab_X} {z : ab_Z} {s : State} {cs : List ab_C} {ws : va_W} (hw : ∀ (k : Nat) (c : ab_C), cs[k]? = some c → ∃ q, ws[k]? = some q ∧ ab_cR X z s c q.2) {k n : Nat} {fl : Bool} {d : ab_w} {ov : List (Nat × Nat × ab_w)} (hc : cs[k]? = some (.inr (1, n, fl, d, ov))) : ∃ a cA f, ws[k]? = some (a, .inl (cA, n, .inr (.inl f))) := by
  obtain ⟨⟨a, e⟩, q1, cA, x, h1, h2, -⟩ := hw k _ hc
  dsimp only at h1 h2
  subst h1
  obtain ⟨f, rfl⟩ := h2
  exact ⟨a, cA, f, q1⟩
theorem lw_keep {fls : List (List Bool)} {ws ws' : va_W} (h : ab_fr fls ws ws') {k : Nat} (hf : fls[k]? = some [false]) {a : Nat} {q : ClassId × vp_A} (e : ws[k]? = some (a, .inl q)) : ws'[k]? = some (a, .inl q) := by
  obtain ⟨⟨a', e'⟩, h1, h2, h3⟩ := h k _ e
  have h4 := h3 _ hf
  have h5 : e' = .inl q := h4.1 rfl
  dsimp only at h2
  rw [h1, h2, h5]
theorem lw_kf {X : ab_X} {z : ab_Z} {s : State} {cs : List ab_C} {ws ws' : va_W} (hw : ∀ (k : Nat) (c : ab_C), cs[k]? = some c → ∃ q, ws[k]? = some q ∧ ab_cR X z s c q.2) {ks : List (Nat × Nat × Nat)} (h : lw_flk ks cs = true) (hfr : ab_fr (cs.map ab_flg) ws ws') {k t n : Nat} (hk : (k, t, n) ∈ ks) (ht : t = 0 ∨ t = 2) : cu_f ws' k = cu_f ws k ∧ ∃ a cA f, ws[k]? = some (a, .inl (cA, n, .inl f)) ∧ ws'[k]? = some (a, .inl (cA, n, .inl f)) := by
  obtain ⟨d, ov, hc⟩ := lw_flk_ok h hk
  obtain ⟨a, cA, f, e1⟩ := lw_sh0 hw hc ht
  have e2 := lw_keep hfr (show (cs.map ab_flg)[k]? = some [false] by rw [List.getElem?_map, hc]; rfl) e1
  exact ⟨(cu_f_of e2).trans (cu_f_of e1).symm, a, cA, f, e1, e2⟩
theorem lw_kq {X : ab_X} {z : ab_Z} {s : State} {cs : List ab_C} {ws ws' : va_W} (hw : ∀ (k : Nat) (c : ab_C), cs[k]? = some c → ∃ q, ws[k]? = some q ∧ ab_cR X z s c q.2) {ks : List (Nat × Nat × Nat)} (h : lw_flk ks cs = true) (hfr : ab_fr (cs.map ab_flg) ws ws') {k n : Nat} (hk : (k, 1, n) ∈ ks) : cu_q ws' k = cu_q ws k := by
  obtain ⟨d, ov, hc⟩ := lw_flk_ok h hk
  obtain ⟨a, cA, f, e1⟩ := lw_sh1 hw hc
  have e2 := lw_keep hfr (show (cs.map ab_flg)[k]? = some [false] by rw [List.getElem?_map, hc]; rfl) e1
  exact (cu_q_of e2).trans (cu_q_of e1).symm

theorem lw_chk_r {R F : List (Nat × Nat × Nat)} {mm : Bool} {cs : List ab_C} (h : lw_chk R F mm cs = true) : lw_flk R cs = true := by
  unfold lw_chk at h
  rw [Bool.and_eq_true] at h
  exact h.1
theorem lw_shx {X : ab_X} {z : ab_Z} {s : State} {cs : List ab_C} {ws : va_W} (hw : ∀ (k : Nat) (c : ab_C), cs[k]? = some c → ∃ q, ws[k]? = some q ∧ ab_cR X z s c q.2) {k t n : Nat} {fl : Bool} {d : ab_w} {ov : List (Nat × Nat × ab_w)} (hc : cs[k]? = some (.inr (t, n, fl, d, ov))) (ht : t = 0 ∨ t = 2 ∨ t = 3) : ∃ a cA f, ws[k]? = some (a, .inl (cA, n, .inl f)) := by
  obtain ⟨⟨a, e⟩, q1, cA, x, h1, h2, -⟩ := hw k _ hc
  dsimp only at h1 h2
  subst h1
  rcases ht with rfl | rfl | rfl
  · obtain ⟨f, rfl⟩ := h2
    exact ⟨a, cA, f, q1⟩
  · obtain ⟨f, rfl⟩ := h2
    exact ⟨a, cA, f, q1⟩
  · obtain ⟨f, rfl⟩ := h2
    exact ⟨a, cA, f, q1⟩
theorem lw_kfx {X : ab_X} {z : ab_Z} {s : State} {cs : List ab_C} {ws ws' : va_W} (hw : ∀ (k : Nat) (c : ab_C), cs[k]? = some c → ∃ q, ws[k]? = some q ∧ ab_cR X z s c q.2) {ks : List (Nat × Nat × Nat)} (h : lw_flk ks cs = true) (hfr : ab_fr (cs.map ab_flg) ws ws') {k t n : Nat} (hk : (k, t, n) ∈ ks) (ht : t = 0 ∨ t = 2 ∨ t = 3) : cu_f ws' k = cu_f ws k := by
  obtain ⟨d, ov, hc⟩ := lw_flk_ok h hk
  obtain ⟨a, cA, f, e1⟩ := lw_shx hw hc ht
  have e2 := lw_keep hfr (show (cs.map ab_flg)[k]? = some [false] by rw [List.getElem?_map, hc]; rfl) e1
  exact (cu_f_of e2).trans (cu_f_of e1).symm
theorem lw_fok_ok {ks : List (Nat × Nat × Nat)} {cs : List ab_C} (h : lw_fok ks cs = true) {k i j : Nat} (hk : (k, i, j) ∈ ks) : ∃ fs w, cs[k]? = some (.inl (i, fs)) ∧ fs[j]? = some (false, w) := by
  have h1 := List.all_eq_true.mp h _ hk
  dsimp only at h1
  rw [ab_get_eq] at h1
  split at h1
  · rename_i i' fs hc
    rw [Bool.and_eq_true, ab_get_eq] at h1
    obtain ⟨h2, h3⟩ := h1
    cases Nat.eq_of_beq_eq_true h2
    split at h3
    · rename_i w hw
      exact ⟨fs, w, hc, hw⟩
    · cases h3
  · cases h1
theorem lw_mok_ok {cs : List ab_C} (h : lw_mok cs = true) : ∃ fl q ov, cs[1]? = some (.inr (0, 305, fl, .inr (.inl q), ov)) := by
  unfold lw_mok at h
  rw [ab_get_eq] at h
  split at h
  · rename_i fl q ov hc
    exact ⟨_, _, _, hc⟩
  · cases h
theorem lw_kv {X : ab_X} {z : ab_Z} {s : State} {cs : List ab_C} {ws ws' : va_W} (hw : ∀ (k : Nat) (c : ab_C), cs[k]? = some c → ∃ q, ws[k]? = some q ∧ ab_cR X z s c q.2) {ks : List (Nat × Nat × Nat)} (h : lw_fok ks cs = true) (hfr : ab_fr (cs.map ab_flg) ws ws') {k i j : Nat} (hk : (k, i, j) ∈ ks) : cu_v ws' k j = cu_v ws k j := by
  obtain ⟨fs, w, hc, hf⟩ := lw_fok_ok h hk
  obtain ⟨⟨a, e⟩, q1, vs, g1, g2, g3⟩ := hw k _ hc
  dsimp only at g1 g2 g3
  subst g1
  obtain ⟨⟨a', e'⟩, r1, r2, r3⟩ := hfr k _ q1
  obtain ⟨vs', r4, r5⟩ := r3 _ (show (cs.map ab_flg)[k]? = some (fs.map Prod.fst) by rw [List.getElem?_map, hc]; rfl)
  dsimp only at r4 r5
  subst r4
  rw [cu_v_of r1, cu_v_of q1, List.getD_eq_getElem?_getD, List.getD_eq_getElem?_getD, r5 j (by rw [List.getElem?_map, hf]; rfl)]
theorem lw_km {X : ab_X} {z : ab_Z} {s : State} {cs : List ab_C} {ws ws' : va_W} (hw : ∀ (k : Nat) (c : ab_C), cs[k]? = some c → ∃ q, ws[k]? = some q ∧ ab_cR X z s c q.2) (h : lw_mok cs = true) (hfr : ab_fr (cs.map ab_flg) ws ws') : ∀ j : Nat, j < 100 → cu_f ws' 1 j = cu_f ws 1 j := by
  intro j hj
  obtain ⟨fl, q, ov, hc⟩ := lw_mok_ok h
  obtain ⟨a, cA, f, e1⟩ := lw_sh0 hw hc (Or.inl rfl)
  obtain ⟨⟨a', e'⟩, r1, r2, r3⟩ := hfr _ _ e1
  have r4 := r3 _ (show (cs.map ab_flg)[1]? = some (ab_flg (.inr (0, 305, fl, .inr (.inl q), ov))) by rw [List.getElem?_map, hc]; rfl)
  cases fl
  · have r5 : e' = .inl (cA, 305, .inl f) := r4.1 rfl
    subst r5
    rw [cu_f_of r1, cu_f_of e1]
  · obtain ⟨f', r5, r6⟩ := r4.2 rfl cA 305 f rfl
    dsimp only at r5
    subst r5
    rw [cu_f_of r1, cu_f_of e1]
    exact r6 j hj
/-- rows, fields, the beginning of the reference's row: as before -/
noncomputable def lw_same (R F : List (Nat × Nat × Nat)) (mm : Bool) (ws ws' : va_W) : Prop := (∀ k t n, (k, t, n) ∈ R → (t = 0 ∨ t = 2 ∨ t = 3 → cu_f ws' k = cu_f ws k) ∧ (t = 1 → cu_q ws' k = cu_q ws k)) ∧ (∀ k i j, (k, i, j) ∈ F → cu_v ws' k j = cu_v ws k j) ∧ (mm = true → ∀ j : Nat, j < 100 → cu_f ws' 1 j = cu_f ws 1 j) ∧ ∀ k a, cu_a ws k = some a → cu_a ws' k = some a
theorem lw_same_of {X : ab_X} {z : ab_Z} {s : State} {cs : List ab_C} {ws ws' : va_W} (hw : ∀ (k : Nat) (c : ab_C), cs[k]? = some c → ∃ q, ws[k]? = some q ∧ ab_cR X z s c q.2) {R F : List (Nat × Nat × Nat)} {mm : Bool} (h : lw_chk R F mm cs = true) (hfr : ab_fr (cs.map ab_flg) ws ws') : lw_same R F mm ws ws' := by
  unfold lw_chk at h
  rw [Bool.and_eq_true, Bool.and_eq_true] at h
  obtain ⟨h1, h2, h3⟩ := h
  refine ⟨fun k t n hk => ⟨fun ht => lw_kfx hw h1 hfr hk ht, fun ht => by subst ht; exact lw_kq hw h1 hfr hk⟩, fun k i j hk => lw_kv hw h2 hfr hk, fun hm => by subst hm; exact lw_km hw h3 hfr, fun k a hk => ?_⟩
  unfold cu_a at hk ⊢
  cases hq : ws[k]? with
  | none => rw [hq] at hk; cases hk
  | some q0 =>
    rw [hq] at hk
    obtain ⟨q, r1, r2, -⟩ := hfr k q0 hq
    rw [r1]
    show some q.1 = some a
    rw [r2]
    exact hk
theorem lw_same.tr {R F : List (Nat × Nat × Nat)} {mm : Bool} {ws ws1 ws2 : va_W} (h1 : lw_same R F mm ws ws1) (h2 : lw_same R F mm ws1 ws2) : lw_same R F mm ws ws2 := ⟨fun k t n hk => ⟨fun ht => ((h2.1 k t n hk).1 ht).trans ((h1.1 k t n hk).1 ht), fun ht => ((h2.1 k t n hk).2 ht).trans ((h1.1 k t n hk).2 ht)⟩, fun k i j hk => (h2.2.1 k i j hk).trans (h1.2.1 k i j hk), fun hm j hj => (h2.2.2.1 hm j hj).trans (h1.2.2.1 hm j hj), fun k a hk => h2.2.2.2 k a (h1.2.2.2 k a hk)⟩
theorem lw_same.sub {R F R' F' : List (Nat × Nat × Nat)} {mm mm' : Bool} {ws ws1 : va_W} (h : lw_same R F mm ws ws1) (hR : ∀ q ∈ R', q ∈ R) (hF : ∀ q ∈ F', q ∈ F) (hm : mm' = true → mm = true) : lw_same R' F' mm' ws ws1 := ⟨fun k t n hk => h.1 k t n (hR _ hk), fun k i j hk => h.2.1 k i j (hF _ hk), fun e => h.2.2.1 (hm e), h.2.2.2⟩
/-- both know the words -/
noncomputable def lw_Wd (ws : va_W) : Prop := (∀ j, j < 22 → cu_q ws 38 j = ex_wd j) ∧ (∀ j, j < 22 → cu_q ws 150 j = ex_wd j)
/-- both tapes are alike as far as they reach -/
noncomputable def lw_J (ws : va_W) (x : Int32) : Prop := (∀ j : Nat, (j : Int) < x.toInt → cu_f ws 17 j = cu_f ws 4 j &&& 255) ∧ lw_Wd ws
theorem lw_Wd.keep {X : ab_X} {z : ab_Z} {s : State} {cs : List ab_C} {ws ws' : va_W} (h : lw_Wd ws) (hw : ∀ (k : Nat) (c : ab_C), cs[k]? = some c → ∃ q, ws[k]? = some q ∧ ab_cR X z s c q.2) {ks : List (Nat × Nat × Nat)} (hk : lw_flk ks cs = true) (hfr : ab_fr (cs.map ab_flg) ws ws') (h1 : (38, 1, 22) ∈ ks) (h2 : (150, 1, 22) ∈ ks) : lw_Wd ws' := by
  unfold lw_Wd
  rw [lw_kq hw hk hfr h1, lw_kq hw hk hfr h2]
  exact h
theorem lw_J.keep {X : ab_X} {z : ab_Z} {s : State} {cs : List ab_C} {ws ws' : va_W} {x y : Int32} (h : lw_J ws x) (hw : ∀ (k : Nat) (c : ab_C), cs[k]? = some c → ∃ q, ws[k]? = some q ∧ ab_cR X z s c q.2) (hk : lw_flk lw_R4 cs = true) (hfr : ab_fr (cs.map ab_flg) ws ws') (hy : y.toInt ≤ x.toInt ∨ y.toInt ≤ 0) : lw_J ws' y := by
  refine ⟨fun j hj => ?_, h.2.keep hw hk hfr (by decide) (by decide)⟩
  rw [(lw_kf hw hk hfr (k := 17) (t := 0) (n := 940) (by decide) (Or.inl rfl)).1, (lw_kf hw hk hfr (k := 4) (t := 2) (n := 940) (by decide) (Or.inr rfl)).1]
  exact h.1 j (by omega)
theorem lw_fact2 {z : ab_Z} {ws : va_W} {a b : ab_I} (h : ab_fs z ws (0, [(none, -1), a, (none, 1), b, (none, 0)])) {x y : Int32} (ea : ab_evI z.1 a = some x) (eb : ab_evI z.1 b = some y) : x.toInt ≤ y.toInt := by
  obtain ⟨xs, h1, h2⟩ := h
  have h3 := congrArg (List.filterMap id) h1
  rw [lw_fm] at h3
  have e1 : ab_evI z.1 (none, 1) = some (Int32.ofInt 1) := rfl
  have e2 : ab_evI z.1 (none, -1) = some (Int32.ofInt (-1)) := rfl
  have e3 : ab_evI z.1 (none, 0) = some (Int32.ofInt 0) := rfl
  simp only [List.map_cons, List.map_nil, ea, eb, e1, e2, e3, List.filterMap_cons, List.filterMap_nil, id] at h3
  subst h3
  have h4 : (0 : Int) ≤ ab_lin [Int32.ofInt (-1), x, Int32.ofInt 1, y, Int32.ofInt 0] := h2
  have f1 : (Int32.ofInt 1).toInt = 1 := ab_of 1 (by omega) (by omega)
  have f2 : (Int32.ofInt (-1)).toInt = -1 := ab_of (-1) (by omega) (by omega)
  have f3 : (Int32.ofInt 0).toInt = 0 := ab_of 0 (by omega) (by omega)
  simp only [ab_lin, f1, f2, f3] at h4
  omega
/-- the loop's variables -/
noncomputable def lw_zv (X : ab_X) (i : Nat) (z : ab_Z) (x : Int32) : Prop := z.1[0]? = some (nI i) ∧ (∀ j : Nat, j < 6 → z.1[j + 3]? = some (X.2.1 (i + j))) ∧ z.1[1]? = some x ∧ z.1[2]? = some x ∧ 0 ≤ x.toInt ∧ x.toInt ≤ 940
theorem lw_zv.ext {X : ab_X} {i : Nat} {z z' : ab_Z} {x : Int32} (h : lw_zv X i z x) (he : ab_ext z z') : lw_zv X i z' x := by
  obtain ⟨⟨t, ht⟩, -, -⟩ := he
  unfold lw_zv
  rw [ht]
  exact ⟨ab_get_app h.1, fun j hj => ab_get_app (h.2.1 j hj), ab_get_app h.2.2.1, ab_get_app h.2.2.2.1, h.2.2.2.2⟩
theorem lw_zv.three {X : ab_X} {i : Nat} {z : ab_Z} {x : Int32} (h : lw_zv X i z x) : ∃ x0 x1 x2, z.1[0]? = some x0 ∧ z.1[1]? = some x1 ∧ z.1[2]? = some x2 := ⟨_, _, _, h.1, h.2.2.1, h.2.2.2.1⟩
/-- as many bytes on both tapes -/
theorem lw_eq {X : ab_X} {D : va_G} {s : State} {z0 : ab_Z0} {z : ab_Z} {ws : va_W} {H : Heap} {locs : List Loc} (hR : ab_R X D s z0 ab_lT.1 0 (gl_L, ab_FX) z ws H locs) : ∃ x, z.1[1]? = some x ∧ z.1[2]? = some x ∧ 0 ≤ x.toInt ∧ x.toInt ≤ 940 := by
  obtain ⟨x1, a1, a2, a3⟩ := hR.1.2 1 (0, 940) rfl
  obtain ⟨x2, b1, b2, b3⟩ := hR.1.2 2 (0, 940) rfl
  have f1 := hR.2.2.2.1.2 (0, [(none, 1), (some 1, 0), (none, -1), (some 2, 0), (none, 0)]) (by decide +kernel)
  have f2 := hR.2.2.2.1.2 (0, [(none, -1), (some 1, 0), (none, 1), (some 2, 0), (none, 0)]) (by decide +kernel)
  have h1 := lw_fact f1 (lw_e0 a1) (lw_e0 b1)
  have h2 := lw_fact2 f2 (lw_e0 a1) (lw_e0 b1)
  have e : x1 = x2 := Int32.toInt_inj.mp (by omega)
  subst e
  exact ⟨x1, a1, b1, a2, a3⟩
theorem lw_st5_ok {k : Nat} {st : List ab_V} (h : lw_st5 k st = true) : st = [.inl (some 8, 0), .inl (some 7, 0), .inl (some 6, 0), .inl (some 5, 0), .inl (some 4, 0), .inr (.inr (2, k))] := by
  unfold lw_st5 at h
  split at h
  · rw [Bool.and_eq_true, Bool.and_eq_true, Bool.and_eq_true, Bool.and_eq_true, Bool.and_eq_true] at h
    obtain ⟨h5, h4, h3, h2, h1, h0⟩ := h
    rw [ab_eqI_eq h5, ab_eqI_eq h4, ab_eqI_eq h3, ab_eqI_eq h2, ab_eqI_eq h1, Nat.eq_of_beq_eq_true h0]
  · cases h
/-- what the five ints and the object on the stack are -/
theorem lw_st5_v {X : ab_X} {i : Nat} {z : ab_Z} {x : Int32} (hz : lw_zv X i z x) {k a : Nat} (ha : z.2.2[k]? = some a) {cst : List Value} (h : [.inl (some 8, 0), .inl (some 7, 0), .inl (some 6, 0), .inl (some 5, 0), .inl (some 4, 0), .inr (.inr (2, k))].map (ab_ev X z) = cst.map some) : cst = [.int (X.2.1 (i + 5)), .int (X.2.1 (i + 4)), .int (X.2.1 (i + 3)), .int (X.2.1 (i + 2)), .int (X.2.1 (i + 1)), .ref a] := by
  have h3 := congrArg (List.filterMap id) h
  rw [lw_fm] at h3
  have v : ∀ j : Nat, j < 6 → ab_ev X z (.inl (some (j + 3), 0)) = some (.int (X.2.1 (i + j))) := fun j hj => by
    show (ab_evI z.1 (some (j + 3), 0)).map _ = _
    rw [lw_e0 (hz.2.1 j hj)]; rfl
  have v1 := v 1 (by omega)
  have v2 := v 2 (by omega)
  have v3 := v 3 (by omega)
  have v4 := v 4 (by omega)
  have v5 := v 5 (by omega)
  have v0 : ab_ev X z (.inr (.inr (2, k))) = some (.ref a) := by
    show (z.2.2[k]?).map _ = _
    rw [ha]; rfl
  have h4 : [ab_ev X z (.inl (some (5 + 3), 0)), ab_ev X z (.inl (some (4 + 3), 0)), ab_ev X z (.inl (some (3 + 3), 0)), ab_ev X z (.inl (some (2 + 3), 0)), ab_ev X z (.inl (some (1 + 3), 0)), ab_ev X z (.inr (.inr (2, k)))].filterMap id = cst := h3
  rw [v1, v2, v3, v4, v5, v0] at h4
  exact h4.symm
/-- two pictures of one field -/
theorem jc_fld {D : va_G} {ws ws' : va_W} {H : Heap} {k j a ci : Nat} {vs vs' : List Value} (h1 : va_P D vwCl ws H) (h2 : va_P D vwCl ws' H) (e1 : ws[k]? = some (a, .inr (ci, vs))) (e2 : ws'[j]? = some (a, .inr (ci, vs'))) {r : vw_C} (hr : vwCl[ci]? = some r) {q : Nat} (hq : q < r.2.2) : vs.getD q .null = vs'.getD q .null := by
  obtain ⟨r1, p1, cell1, c1, -, -, s1⟩ := h1 k _ e1
  obtain ⟨r2, p2, cell2, c2, -, -, s2⟩ := h2 j _ e2
  dsimp only at p1 p2 c1 c2 s1 s2
  rw [hr] at p1 p2
  cases p1
  cases p2
  rw [c1] at c2
  cases c2
  have h9 := (s1 q hq).symm.trans (s2 q hq)
  injection h9
theorem lw_sz_ok {X : ab_X} {z : ab_Z} {s : State} {cs : List ab_C} {ws : va_W} (hw : ∀ (k : Nat) (c : ab_C), cs[k]? = some c → ∃ q, ws[k]? = some q ∧ ab_cR X z s c q.2) {e : ab_I} (h : lw_sz cs = some e) : ∃ a vs y, ws[3]? = some (a, .inr (4, vs)) ∧ vs.getD 1 .null = .int y ∧ ab_evI z.1 e = some y := by
  unfold lw_sz at h
  rw [ab_get_eq] at h
  split at h
  · rename_i fs hc
    rw [ab_get_eq] at h
    split at h
    · rename_i fl e' hf
      cases h
      obtain ⟨⟨a, q⟩, q1, vs, g1, g2, g3⟩ := hw _ _ hc
      dsimp only at g1 g2 g3
      subst g1
      have hl : 1 < vs.length := by rw [← g2]; exact (List.getElem?_eq_some_iff.mp hf).1
      have hv := g3 1 _ _ hf (List.getElem?_eq_getElem hl)
      obtain ⟨y, hy, h2⟩ := ab_evi (X := X) (show ab_ev X z (.inl e) = some vs[1] from hv)
      exact ⟨a, vs, y, q1, by rw [List.getD_eq_getElem?_getD, List.getElem?_eq_getElem hl, Option.getD_some]; exact hy, h2⟩
    · cases h
  · cases h
theorem jc_rowq {D : va_G} {ws ws' : va_W} {H : Heap} {k j a : Nat} {n n' : Nat} {cA cA' : ClassId} {f f' : Nat → Int64} (h1 : va_P D vwCl ws H) (h2 : va_P D vwCl ws' H) (e1 : ws[k]? = some (a, .inl (cA, n, .inr (.inl f)))) (e2 : ws'[j]? = some (a, .inl (cA', n', .inr (.inl f')))) : ∀ i, i < n → i < n' → f i = f' i := by
  intro i hi hi'
  have g1 : H[a]? = some (vp_cell cA (n, .inr (.inl f))) := h1 k _ e1
  have g2 : H[a]? = some (vp_cell cA' (n', .inr (.inl f'))) := h2 j _ e2
  rw [g1] at g2
  have g3 := Option.some.inj g2
  rw [vp_cell_l, vp_cell_l] at g3
  have r1 := arrV_read cA (fun j => Value.long (f j)) hi
  have r2 := arrV_read cA' (fun j => Value.long (f' j)) hi'
  rw [g3, r2] at r1
  injection r1 with r3
  injection r3 with r4
  exact r4.symm
theorem lw_wd_ok {X : ab_X} {z : ab_Z} {s : State} {cs : List ab_C} {ws : va_W} (hw : ∀ (k : Nat) (c : ab_C), cs[k]? = some c → ∃ q, ws[k]? = some q ∧ ab_cR X z s c q.2) {k : Nat} (h : lw_wd k cs = true) : ∃ a cA f, ws[k]? = some (a, .inl (cA, 22, .inr (.inl f))) ∧ ∀ j, j < 22 → f j = ex_wd j := by
  unfold lw_wd at h
  rw [ab_get_eq] at h
  split at h
  · rename_i n fl d ov hc
    rw [Bool.and_eq_true] at h
    obtain ⟨h0, h1⟩ := h
    have h0 := Nat.eq_of_beq_eq_true h0
    subst h0
    obtain ⟨⟨a, e⟩, q1, cA, x, g1, ⟨f, hf⟩, -, h4⟩ := hw k _ hc
    dsimp only at g1 hf h4
    subst g1 hf
    refine ⟨a, cA, f, q1, fun j hj => ?_⟩
    have h5 := List.all_eq_true.mp h1 j (List.mem_range.mpr hj)
    try dsimp only at h5
    have h6 : ab_ho X z (ab_at d ov j) (.long (f j)) := h4 j hj
    split at h5
    · rename_i c0 hat
      rw [hat] at h6
      rw [ab_ie_iff] at h5
      have h7 : some (Value.long (Int64.ofInt c0)) = some (Value.long (f j)) := h6
      have h8 := Value.long.inj (Option.some.inj h7)
      rw [← h8, ← h5, ab_i64o]
    · cases h5
  · cases h
theorem lw_R4C : lw_chk lw_R4 lw_F4 true gl_L = true := by decide +kernel
theorem lw_R4L : lw_flk lw_R4 gl_L = true := lw_chk_r lw_R4C
/-- a valley of the class: how many towns, their names -/
noncomputable def lw_V (ws : va_W) (V : lw_VT) (g : Nat → Int32) (h : Nat → Int64) : Prop := cu_i ws V.1 0 = g 0 ∧ ∀ j : Nat, j < 7 → (j : Int) < (g 0).toInt → cu_q ws V.2 j = h j
abbrev lw_Vin (R F : List (Nat × Nat × Nat)) (V : lw_VT) : Prop := (V.2, 1, 7) ∈ R ∧ (V.1, 8, 0) ∈ F
theorem lw_V.same {R F : List (Nat × Nat × Nat)} {mm : Bool} {ws ws' : va_W} (hs : lw_same R F mm ws ws') {V : lw_VT} (hV : lw_Vin R F V) {g g' : Nat → Int32} {h h' : Nat → Int64} (hg : ∀ j : Nat, j < 100 → g' j = g j) (hh : ∀ j : Nat, j < 15 → h' j = h j) (hv : lw_V ws V g h) : lw_V ws' V g' h' := by
  obtain ⟨v1, v2⟩ := hV
  obtain ⟨a1, a2⟩ := hv
  have ei : ∀ j, cu_v ws' V.1 j = cu_v ws V.1 j → cu_i ws' V.1 j = cu_i ws V.1 j := fun j e => by unfold cu_i; rw [e]
  refine ⟨?_, fun j hj hj2 => ?_⟩
  · rw [ei 0 (hs.2.1 _ _ _ v2), hg 0 (by decide)]; exact a1
  · rw [hg 0 (by decide)] at hj2
    rw [(hs.1 _ _ _ v1).2 rfl, hh j (by omega)]
    exact a2 j hj hj2
noncomputable def lw_VL : List lw_VT := [lw_VA, lw_VB]
noncomputable def lw_IL : List (Nat × Nat × lw_VT) := [(0, 103, lw_V0), (1, 125, lw_V1)]
/-- the land is as the reference's row tells it; and so is each image that is kept -/
noncomputable def lw_JX (ws : va_W) : Prop := (¬ cu_v ws 10 2 = cu_v ws 10 3) ∧ (∃ a b, cu_a ws lw_VA.1 = some a ∧ cu_a ws lw_VB.1 = some b ∧ ¬ a = b) ∧ (∀ V ∈ lw_VL, ∃ a, cu_a ws V.1 = some a ∧ (cu_v ws 10 2 = .ref a → lw_V ws V (cu_f ws 1) (cu_q ws 149))) ∧ ∀ q ∈ lw_IL, cu_i ws q.2.1 3 = cu_f ws 165 q.1 ∧ (¬ cu_f ws 165 q.1 = 0 → lw_V ws q.2.2 (fun j => cu_f ws 7 (305 * q.1 + j)) (fun j => cu_q ws 164 (15 * q.1 + j)))
theorem lw_VinL : ∀ V ∈ lw_VL, lw_Vin lw_R4 lw_F4 V := List.forall_mem_cons.mpr ⟨by decide, List.forall_mem_cons.mpr ⟨by decide, fun _ h => nomatch h⟩⟩
theorem lw_VinI : ∀ q ∈ lw_IL, lw_Vin lw_R4 lw_F4 q.2.2 ∧ (q.2.1, 2, 3) ∈ lw_F4 := List.forall_mem_cons.mpr ⟨⟨show lw_Vin lw_R4 lw_F4 lw_V0 from by decide, by decide⟩, List.forall_mem_cons.mpr ⟨⟨show lw_Vin lw_R4 lw_F4 lw_V1 from by decide, by decide⟩, fun _ h => nomatch h⟩⟩
noncomputable def lw_JRok (R F : List (Nat × Nat × Nat)) : Prop := (10, 10, 2) ∈ F ∧ (10, 10, 3) ∈ F ∧ (165, 3, 2) ∈ R ∧ (7, 0, 610) ∈ R ∧ (149, 1, 30) ∈ R ∧ (164, 1, 30) ∈ R ∧ (∀ V ∈ lw_VL, lw_Vin R F V) ∧ ∀ q ∈ lw_IL, lw_Vin R F q.2.2 ∧ (q.2.1, 2, 3) ∈ F
theorem lw_JX.sameX {R F : List (Nat × Nat × Nat)} {ws ws' : va_W} (hs : lw_same R F true ws ws') (hR : lw_JRok R F) (h : lw_JX ws) : lw_JX ws' := by
  obtain ⟨h1, hne, h2, h3⟩ := h
  obtain ⟨rL, rD, rK, rI, rN, rNK, rV, rM⟩ := hR
  have el := hs.2.1 10 10 2 rL
  have ed := hs.2.1 10 10 3 rD
  have ek := (hs.1 165 3 2 rK).1 (Or.inr (Or.inr rfl))
  have eI := (hs.1 7 0 610 rI).1 (Or.inl rfl)
  have eN := (hs.1 149 1 30 rN).2 rfl
  have eNK := (hs.1 164 1 30 rNK).2 rfl
  refine ⟨by rw [el, ed]; exact h1, ?_, fun V hV => ?_, fun q hq => ?_⟩
  · obtain ⟨a, b, b1, b2, b3⟩ := hne
    exact ⟨a, b, hs.2.2.2 _ _ b1, hs.2.2.2 _ _ b2, b3⟩
  · obtain ⟨a, a1, a2⟩ := h2 V hV
    refine ⟨a, hs.2.2.2 _ _ a1, fun e => ?_⟩
    rw [el] at e
    exact (a2 e).same hs (rV V hV) (hs.2.2.1 rfl) (fun j _ => by rw [eN])
  · obtain ⟨a1, a2⟩ := h3 q hq
    rw [ek, eI, eNK]
    refine ⟨?_, fun e => (a2 e).same hs (rM q hq).1 (fun _ _ => rfl) (fun _ _ => rfl)⟩
    have e9 : cu_i ws' q.2.1 3 = cu_i ws q.2.1 3 := by
      unfold cu_i
      rw [hs.2.1 _ _ _ (rM q hq).2]
    rw [e9]
    exact a1
theorem lw_RT_in : lw_JRok lw_RT lw_F4 := ⟨by decide, by decide, by decide, by decide, by decide, by decide, List.forall_mem_cons.mpr ⟨by decide, List.forall_mem_cons.mpr ⟨by decide, fun _ h => nomatch h⟩⟩, List.forall_mem_cons.mpr ⟨⟨show lw_Vin lw_RT lw_F4 lw_V0 from by decide, by decide⟩, List.forall_mem_cons.mpr ⟨⟨show lw_Vin lw_RT lw_F4 lw_V1 from by decide, by decide⟩, fun _ h => nomatch h⟩⟩⟩
theorem lw_RB_in : lw_JRok lw_RB lw_F4 := ⟨by decide, by decide, by decide, by decide, by decide, by decide, List.forall_mem_cons.mpr ⟨by decide, List.forall_mem_cons.mpr ⟨by decide, fun _ h => nomatch h⟩⟩, List.forall_mem_cons.mpr ⟨⟨show lw_Vin lw_RB lw_F4 lw_V0 from by decide, by decide⟩, List.forall_mem_cons.mpr ⟨⟨show lw_Vin lw_RB lw_F4 lw_V1 from by decide, by decide⟩, fun _ h => nomatch h⟩⟩⟩
theorem lw_R4_in : lw_JRok lw_R4 lw_F4 := ⟨by decide, by decide, by decide, by decide, by decide, by decide, lw_VinL, lw_VinI⟩
theorem lw_JX.same {ws ws' : va_W} (hs : lw_same lw_R4 lw_F4 true ws ws') (h : lw_JX ws) : lw_JX ws' := h.sameX hs lw_R4_in
/-- all that the law keeps -/
noncomputable def lw_JJ (ws : va_W) (x : Int32) : Prop := lw_J ws x ∧ lw_JX ws
/-! Two pictures of one heap. -/
noncomputable def lw_sh (c : ab_C) (e : va_E) : Prop := match c with
  | .inl o => ∃ vs, e = .inr (o.1, vs) ∧ vs.length = o.2.length
  | .inr a => ∃ cA x, e = .inl (cA, a.2.1, x) ∧ ab_km a.1 x
theorem lw_sh_of {X : ab_X} {z : ab_Z} {s : State} {c : ab_C} {e : va_E} (h : ab_cR X z s c e) : lw_sh c e := by
  rcases c with o | a
  · obtain ⟨vs, h1, h2, -⟩ := h
    exact ⟨vs, h1, h2.symm⟩
  · obtain ⟨cA, x, h1, h2, -⟩ := h
    exact ⟨cA, x, h1, h2⟩
theorem lw_shp_ok {X : ab_X} {z : ab_Z} {s : State} {cs : List ab_C} {ws : va_W} {ks : List Nat} (h : lw_shp ks cs = true) (hw : ∀ (k : Nat) (c : ab_C), cs[k]? = some c → ∃ q, ws[k]? = some q ∧ ab_cR X z s c q.2) : ∀ (k : Nat) (c : ab_C), k ∈ ks → gl_L[k]? = some c → ∃ a e, ws[k]? = some (a, e) ∧ lw_sh c e := by
  intro k t hk ht
  have h1 := List.all_eq_true.mp h k hk
  try dsimp only at h1
  rw [ab_get_eq, ab_get_eq, ht] at h1
  cases hc : cs[k]? with
  | none => rw [hc] at h1; cases h1
  | some c =>
    rw [hc] at h1
    obtain ⟨⟨a, e⟩, q1, q2⟩ := hw k c hc
    have h2 := lw_sh_of q2
    refine ⟨a, e, q1, ?_⟩
    rcases c with o | o <;> rcases t with t | t
    · dsimp only at h1
      rw [Bool.and_eq_true] at h1
      obtain ⟨vs, g1, g2⟩ := h2
      exact ⟨vs, by rw [← Nat.eq_of_beq_eq_true h1.1]; exact g1, g2.trans (Nat.eq_of_beq_eq_true h1.2)⟩
    · cases h1
    · cases h1
    · dsimp only at h1
      rw [Bool.and_eq_true] at h1
      obtain ⟨cA, x, g1, g2⟩ := h2
      exact ⟨cA, x, by rw [← Nat.eq_of_beq_eq_true h1.2]; exact g1, by rw [← Nat.eq_of_beq_eq_true h1.1]; exact g2⟩
noncomputable def lw_Tw (X : ab_X) (D : va_G) (A : ex_A) (pos : List Nat) (w : List ex_E) (ws : va_W) : Prop := ∃ (s : State) (we : va_W) (H : Heap), ex_wR X A s w we ∧ va_P D vwCl we H ∧ va_P D vwCl ws H ∧ (∀ i k : Nat, pos[i]? = some k → cu_a ws k = A.1[i]?) ∧ ∀ (i k : Nat) (c : ab_C), pos[i]? = some k → gl_L[k]? = some c → ∃ a e, ws[k]? = some (a, e) ∧ lw_sh c e
theorem lw_tw_b {X : ab_X} {D : va_G} {s : State} {z0 : ab_Z0} {z z' : ab_Z} {env : ab_E} {nl : Nat} {aw : ab_H} {ws : va_W} {H : Heap} {locs : List Loc} (hR : ab_R X D s z0 env nl aw z ws H locs) {ks pos : List Nat} (hc : ∀ (k : Nat) (c : ab_C), k ∈ ks → gl_L[k]? = some c → ∃ q, ws[k]? = some q ∧ ab_cR X z' s c q.2) {A : ex_A} {w : List ex_E} {we : va_W} (hw : ex_wR X A s w we) (hp : pos.map (fun k => ws[k]?) = we.map some) (hk : ∀ k ∈ pos, k ∈ ks) : lw_Tw X D A pos w ws :=
  ⟨s, we, H, hw, cu_P hR.2.2.2.2.1 (cu_pos hp), hR.2.2.2.2.1, fun i k hi => by
    obtain ⟨q, q1, q2⟩ := cu_at hp hi
    unfold cu_a
    rw [q1, ← hw.1, List.getElem?_map, q2], fun i k c hi hg => by
    obtain ⟨q, q1, q2⟩ := hc k c (hk k (List.mem_of_getElem? hi)) hg
    exact ⟨q.1, q.2, q1, lw_sh_of q2⟩⟩
theorem lw_tw_a {X : ab_X} {D : va_G} {A : ex_A} {pos : List Nat} {w : List ex_E} {ws : va_W} (hT : lw_Tw X D A pos w ws) {s : State} {z0 : ab_Z0} {z : ab_Z} {env : ab_E} {nl : Nat} {cs : List ab_C} {fx : List ab_Y} {ws1 : va_W} {H1 : Heap} {locs : List Loc} (hs : ∀ k a, cu_a ws k = some a → cu_a ws1 k = some a) (hR : ab_R X D s z0 env nl (cs, fx) z ws1 H1 locs) {ks : List Nat} (hsh : lw_shp ks cs = true) (hk : ∀ k ∈ pos, k ∈ ks) (hgl : ∀ k ∈ ks, k < gl_L.length) {w' : List ex_E} {we' : va_W} (hwu : ex_wR X A s w' we') (hPu : va_P D vwCl we' H1) : lw_Tw X D A pos w' ws1 := by
  obtain ⟨s0, we, H, w1, w2, w3, w4, w5⟩ := hT
  refine ⟨s, we', H1, hwu, hPu, hR.2.2.2.2.1, fun i k hi => ?_, fun i k c hi hg => lw_shp_ok hsh hR.2.2.2.1.1.2 k c (hk k (List.mem_of_getElem? hi)) hg⟩
  obtain ⟨a, e, h1, -⟩ := w5 i k _ hi (List.getElem?_eq_getElem (hgl k (hk k (List.mem_of_getElem? hi))))
  have h2 : cu_a ws k = some a := by
    unfold cu_a
    rw [h1]; rfl
  rw [hs k a h2, ← w4 i k hi, h2]
theorem lw_Tw.ad {X : ab_X} {D : va_G} {A : ex_A} {pos : List Nat} {w : List ex_E} {ws : va_W} (h : lw_Tw X D A pos w ws) {i k a : Nat} (hi : pos[i]? = some k) (ha : cu_a ws k = some a) (h9 : i < 1000000) : ex_ad X A i = a := by
  obtain ⟨s, we, H, w1, w2, w3, w4, w5⟩ := h
  have h1 := w4 i k hi
  rw [ha] at h1
  unfold ex_ad
  rw [if_pos h9, List.getD_eq_getElem?_getD, ← h1]; rfl
/-- a row's values -/
theorem lw_Tw.f {X : ab_X} {D : va_G} {A : ex_A} {pos : List Nat} {w : List ex_E} {ws : va_W} (h : lw_Tw X D A pos w ws) {i k t n : Nat} {fl : Bool} {d : ab_w} {ov : List (Nat × Nat × ab_w)} (hi : pos[i]? = some k) (hg : gl_L[k]? = some (.inr (t, n, fl, d, ov))) (ht : t = 0 ∨ t = 2 ∨ t = 3) {t' n' : Nat} {g : Nat → Int32} (hw : w[i]? = some (.inr (t', n', .inl g))) : ∀ j : Nat, j < n → j < n' → cu_f ws k j = g j := by
  intro j hj hj'
  obtain ⟨s, we, H, w1, w2, w3, w4, w5⟩ := h
  obtain ⟨a, e, e1, cA, x, e2, e3⟩ := w5 i k _ hi hg
  dsimp only at e2 e3
  subst e2
  obtain ⟨⟨q0, qe⟩, q1, -, -, -, cB, q2, -⟩ := w1.2.2 i _ hw
  have ha : q0 = a := by
    have h1 := w4 i k hi
    unfold cu_a at h1
    rw [e1, ← w1.1, List.getElem?_map, q1] at h1
    exact (Option.some.inj h1).symm
  dsimp only at q2
  subst q2 ha
  have hf : ∃ f, x = .inl f := by rcases ht with rfl | rfl | rfl <;> exact e3
  obtain ⟨f, rfl⟩ := hf
  rw [cu_f_of e1]
  exact jc_row w3 w2 e1 q1 j hj hj'
theorem lw_Tw.q {X : ab_X} {D : va_G} {A : ex_A} {pos : List Nat} {w : List ex_E} {ws : va_W} (h : lw_Tw X D A pos w ws) {i k n : Nat} {fl : Bool} {d : ab_w} {ov : List (Nat × Nat × ab_w)} (hi : pos[i]? = some k) (hg : gl_L[k]? = some (.inr (1, n, fl, d, ov))) {t' n' : Nat} {g : Nat → Int64} (hw : w[i]? = some (.inr (t', n', .inr (.inl g)))) : ∀ j : Nat, j < n → j < n' → cu_q ws k j = g j := by
  intro j hj hj'
  obtain ⟨s, we, H, w1, w2, w3, w4, w5⟩ := h
  obtain ⟨a, e, e1, cA, x, e2, e3⟩ := w5 i k _ hi hg
  dsimp only at e2 e3
  subst e2
  obtain ⟨⟨q0, qe⟩, q1, -, -, -, cB, q2, -⟩ := w1.2.2 i _ hw
  have ha : q0 = a := by
    have h1 := w4 i k hi
    unfold cu_a at h1
    rw [e1, ← w1.1, List.getElem?_map, q1] at h1
    exact (Option.some.inj h1).symm
  dsimp only at q2
  subst q2 ha
  obtain ⟨f, rfl⟩ := e3
  rw [cu_q_of e1]
  exact jc_rowq w3 w2 e1 q1 j hj hj'
/-- a field's value -/
theorem lw_Tw.v {X : ab_X} {D : va_G} {A : ex_A} {pos : List Nat} {w : List ex_E} {ws : va_W} (h : lw_Tw X D A pos w ws) {i k ci : Nat} {fs : List ab_F} {vs : List Value} (hi : pos[i]? = some k) (hg : gl_L[k]? = some (.inl (ci, fs))) (hw : w[i]? = some (.inl (ci, vs))) {r : vw_C} (hr : vwCl[ci]? = some r) {q : Nat} (hq : q < r.2.2) {v : Value} (hv : vs[q]? = some v) : cu_v ws k q = ex_cv X A v := by
  obtain ⟨s, we, H, w1, w2, w3, w4, w5⟩ := h
  obtain ⟨a, e, e1, vs', e2, -⟩ := w5 i k _ hi hg
  dsimp only at e2
  subst e2
  obtain ⟨⟨q0, qe⟩, q1, q2⟩ := w1.2.2 i _ hw
  have q2 : qe = .inr (ci, vs.map (ex_cv X A)) := q2
  have ha : q0 = a := by
    have h1 := w4 i k hi
    unfold cu_a at h1
    rw [e1, ← w1.1, List.getElem?_map, q1] at h1
    exact (Option.some.inj h1).symm
  subst q2 ha
  rw [cu_v_of e1, jc_fld w3 w2 e1 q1 hr hq, List.getD_eq_getElem?_getD, List.getElem?_map, hv]; rfl
theorem lw_Tw.i {X : ab_X} {D : va_G} {A : ex_A} {pos : List Nat} {w : List ex_E} {ws : va_W} (h : lw_Tw X D A pos w ws) {i k ci : Nat} {fs : List ab_F} {vs : List Value} (hi : pos[i]? = some k) (hg : gl_L[k]? = some (.inl (ci, fs))) (hw : w[i]? = some (.inl (ci, vs))) {r : vw_C} (hr : vwCl[ci]? = some r) {q : Nat} (hq : q < r.2.2) {x : Int32} (hv : vs[q]? = some (.int x)) : cu_i ws k q = x := by
  unfold cu_i
  rw [h.v hi hg hw hr hq hv]; rfl
/-- cells told otherwise -/
theorem ab_R.to {X : ab_X} {D : va_G} {s : State} {z0 : ab_Z0} {env : ab_E} {nl : Nat} {aw : ab_H} {z : ab_Z} {ws : va_W} {H : Heap} {locs : List Loc} (h : ab_R X D s z0 env nl aw z ws H locs) {cs' : List ab_C} (hl : cs'.length = aw.1.length) (hc : ∀ (k : Nat) (c' : ab_C), cs'[k]? = some c' → ∃ c, aw.1[k]? = some c ∧ ∀ e, ab_cR X z s c e → ab_cR X z s c' e) : ab_R X D s (z, ws, cs'.map ab_flg) env nl (cs', aw.2) z ws H locs := by
  obtain ⟨h1, h2, h3, h4, h5, h6, h7, h8, -⟩ := h
  refine ⟨h1, h2, h3, ⟨⟨hl.trans h4.1.1, fun k c' hk => ?_⟩, h4.2⟩, h5, h6, h7, h8, ab_ext.rf, ⟨[], by simp⟩, ab_fr.rf⟩
  obtain ⟨c, c1, c2⟩ := hc k c' hk
  obtain ⟨q, q1, q2⟩ := h4.1.2 k c c1
  exact ⟨q, q1, c2 _ q2⟩
noncomputable def lw_as (X : ab_X) (z : ab_Z) (s : State) (cs cs' : List ab_C) : Prop := cs'.length = cs.length ∧ ∀ (k : Nat) (c' : ab_C), cs'[k]? = some c' → ∃ c, cs[k]? = some c ∧ ∀ e, ab_cR X z s c e → ab_cR X z s c' e
theorem lw_as.rf {X : ab_X} {z : ab_Z} {s : State} {cs : List ab_C} : lw_as X z s cs cs := ⟨rfl, fun k c h => ⟨c, h, fun _ h => h⟩⟩
theorem lw_as.tr {X : ab_X} {z : ab_Z} {s : State} {cs cs1 cs2 : List ab_C} (h1 : lw_as X z s cs cs1) (h2 : lw_as X z s cs1 cs2) : lw_as X z s cs cs2 := ⟨h2.1.trans h1.1, fun k c hk => by
  obtain ⟨c1, a1, a2⟩ := h2.2 k c hk
  obtain ⟨c0, b1, b2⟩ := h1.2 k c1 a1
  exact ⟨c0, b1, fun e he => a2 e (b2 e he)⟩⟩
theorem lw_as.set {X : ab_X} {z : ab_Z} {s : State} {cs : List ab_C} {k : Nat} {c c' : ab_C} (hk : cs[k]? = some c) (h : ∀ e, ab_cR X z s c e → ab_cR X z s c' e) : lw_as X z s cs (cs.set k c') := ⟨List.length_set, fun j d hj => by
  by_cases hjk : k = j
  · subst hjk
    rw [List.getElem?_set_self (List.getElem?_eq_some_iff.mp hk).1] at hj
    cases hj
    exact ⟨c, hk, h⟩
  · rw [List.getElem?_set_ne hjk] at hj
    exact ⟨d, hj, fun _ h => h⟩⟩
theorem lw_as.sf1 {X : ab_X} {z : ab_Z} {s : State} {cs : List ab_C} (q : Nat × Nat) (b : Bool) : lw_as X z s cs (ab_sf1 q b cs) := by
  unfold ab_sf1
  rw [ab_get_eq]
  split
  · rename_i t n b0 d ov hk
    exact lw_as.set hk (fun _ h => h)
  · rename_i i fs hk
    rw [ab_get_eq]
    split
    · rename_i b0 v hv
      refine lw_as.set hk (fun e he => ?_)
      obtain ⟨vs, h1, h2, h3⟩ := he
      refine ⟨vs, h1, by rw [List.length_set]; exact h2, fun j f u hf hu => ?_⟩
      by_cases hj : q.2 = j
      · subst hj
        rw [List.getElem?_set_self (List.getElem?_eq_some_iff.mp hv).1] at hf
        cases hf
        exact h3 q.2 (b0, v) u hv hu
      · rw [List.getElem?_set_ne hj] at hf
        exact h3 j f u hf hu
    · exact lw_as.rf
  · exact lw_as.rf
theorem lw_as.sfs {X : ab_X} {z : ab_Z} {s : State} (b : Bool) : ∀ (l : List (Nat × Nat)) {cs : List ab_C}, lw_as X z s cs (ab_sfs l b cs)
  | [], _ => lw_as.rf
  | q :: l, cs => (lw_as.sf1 q b).tr (lw_as.sfs b l (cs := ab_sf1 q b cs))
theorem ab_at_def {X : ab_X} {z : ab_Z} {d d' : ab_w} {v : Value} (h : ab_ho X z d v → ab_ho X z d' v) (j : Nat) : ∀ ov : List (Nat × Nat × ab_w), ab_ho X z (ab_at d ov j) v → ab_ho X z (ab_at d' ov j) v
  | [], hx => h hx
  | (a, b, w) :: r, hx => by
    simp only [ab_at] at hx ⊢
    cases hb : (Nat.ble a j && Nat.ble j b)
    · rw [hb, cond_false] at hx
      exact ab_at_def h j r hx
    · rw [hb, cond_true] at hx
      exact hx
theorem lw_as.smk {X : ab_X} {z : ab_Z} {s : State} {cs : List ab_C} (b : Bool) : lw_as X z s cs (lw_smk b cs) := by
  unfold lw_smk
  rw [ab_get_eq]
  split
  · rename_i t n fl d ov hk
    split
    · refine lw_as.set hk (fun e he => ?_)
      obtain ⟨cA, x, h1, h2, h3, h4⟩ := he
      refine ⟨cA, x, h1, h2, h3, fun j hj => ab_at_def (fun hx => ?_) j ov (h4 j hj)⟩
      obtain ⟨m, e1, e2, e3⟩ := hx
      dsimp only at e2 e3
      show ab_ev X z (.inl (none, 0)) = _
      have e4 : m = Int32.ofInt 0 := Int32.toInt_inj.mp (by rw [show (Int32.ofInt 0).toInt = 0 from rfl]; omega)
      rw [e1, e4]; rfl
    · refine lw_as.set hk (fun e he => ?_)
      obtain ⟨cA, x, h1, h2, h3, h4⟩ := he
      refine ⟨cA, x, h1, h2, h3, fun j hj => ab_at_def (fun hx => ?_) j ov (h4 j hj)⟩
      obtain ⟨y, e1, e2⟩ := ab_evi (X := X) (show ab_ev X z (.inl (none, 0)) = some _ from hx)
      refine ⟨y, e1, ?_⟩
      have e4 : y = Int32.ofInt 0 := (Option.some.inj e2).symm
      rw [e4]
      decide
    · exact lw_as.rf
  · exact lw_as.rf
theorem lw_as.sfm {X : ab_X} {z : ab_Z} {s : State} {cs : List ab_C} (l : List (Nat × Nat)) (b um : Bool) : lw_as X z s cs (ab_sfm l b um cs) := by
  unfold ab_sfm
  cases um
  · exact lw_as.sfs b l
  · exact (lw_as.sfs b l).tr (lw_as.smk b)
theorem ab_R.sfm {X : ab_X} {D : va_G} {s : State} {z0 : ab_Z0} {env : ab_E} {nl : Nat} {cs : List ab_C} {fx : List ab_Y} {z : ab_Z} {ws : va_W} {H : Heap} {locs : List Loc} (h : ab_R X D s z0 env nl (cs, fx) z ws H locs) (l : List (Nat × Nat)) (b um : Bool) : ab_R X D s (z, ws, (ab_sfm l b um cs).map ab_flg) env nl (ab_sfm l b um cs, fx) z ws H locs :=
  h.to (lw_as.sfm (X := X) (z := z) (s := s) l b um).1 (lw_as.sfm (X := X) (z := z) (s := s) l b um).2
/-- one int and the object on the stack -/
theorem lw_st1_ok {k : Nat} {st : List ab_V} (h : lw_st1 k st = true) : st = [.inl (some 4, 0), .inr (.inr (2, k))] := by
  unfold lw_st1 at h
  split at h
  · rw [Bool.and_eq_true] at h
    rw [ab_eqI_eq h.1, Nat.eq_of_beq_eq_true h.2]
  · cases h
theorem lw_st0_ok {k : Nat} {st : List ab_V} (h : lw_st0 k st = true) : st = [.inr (.inr (2, k))] := by
  unfold lw_st0 at h
  split at h
  · rw [Nat.eq_of_beq_eq_true h]
  · cases h
theorem lw_st1_v {X : ab_X} {i : Nat} {z : ab_Z} {x : Int32} (hz : lw_zv X i z x) {k a : Nat} (ha : z.2.2[k]? = some a) {cst : List Value} (h : [.inl (some 4, 0), .inr (.inr (2, k))].map (ab_ev X z) = cst.map some) : cst = [.int (X.2.1 (i + 1)), .ref a] := by
  have h3 := congrArg (List.filterMap id) h
  rw [lw_fm] at h3
  have v1 : ab_ev X z (.inl (some 4, 0)) = some (.int (X.2.1 (i + 1))) := by
    show (ab_evI z.1 (some 4, 0)).map _ = _
    rw [lw_e0 (hz.2.1 1 (by decide))]; rfl
  have v0 : ab_ev X z (.inr (.inr (2, k))) = some (.ref a) := by
    show (z.2.2[k]?).map _ = _
    rw [ha]; rfl
  have h4 : [ab_ev X z (.inl (some 4, 0)), ab_ev X z (.inr (.inr (2, k)))].filterMap id = cst := h3
  rw [v1, v0] at h4
  exact h4.symm
theorem lw_st0_v {X : ab_X} {z : ab_Z} {k a : Nat} (ha : z.2.2[k]? = some a) {cst : List Value} (h : [.inr (.inr (2, k))].map (ab_ev X z) = cst.map some) : cst = [.ref a] := by
  have h3 := congrArg (List.filterMap id) h
  rw [lw_fm] at h3
  have v0 : ab_ev X z (.inr (.inr (2, k))) = some (.ref a) := by
    show (z.2.2[k]?).map _ = _
    rw [ha]; rfl
  have h4 : [ab_ev X z (.inr (.inr (2, k)))].filterMap id = cst := h3
  rw [v0] at h4
  exact h4.symm
theorem lw_posz {ws we : va_W} {z : ab_Z} (hz : ws.map Prod.fst = z.2.2) {A : ex_A} {X : ab_X} {s : State} {w : List ex_E} (hw : ex_wR X A s w we) {pos : List Nat} (hp : pos.map (fun k => ws[k]?) = we.map some) {k : Nat} (hi : pos[0]? = some k) : z.2.2[k]? = some (A.1.getD 0 0) := by
  obtain ⟨q, q1, q2⟩ := cu_at hp hi
  rw [cu_ad hz q1, List.getD_eq_getElem?_getD, ← hw.1, List.getElem?_map, q2]; rfl

