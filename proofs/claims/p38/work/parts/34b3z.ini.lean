/-! What is kept holds behind the constructors. -/
section
variable {X : ab_X} {D : va_G} {s : State} {z0 z0' : ab_Z0} {env env' : ab_E} {nl nl' : Nat} {aw : ab_H} {fx : List ab_Y} {z z' : ab_Z} {ws ws' : va_W} {H : Heap} {locs locs' : List Loc}
theorem lw_cst_f (hR : ab_R X D s z0 env nl aw z ws H locs) (hR' : ab_R X D s z0' env' nl' (gl_L, fx) z' ws' H locs') (e2 : ∀ k o : Nat, ab_pm[k]? = some o → z'.2.2[k]? = z.2.2[o]?) {k o t j : Nat} {c : Int} (hk : ab_pm[k]? = some o) (h : lw_cst aw.1 (o, t, j, c) = true) {n : Nat} {fl : Bool} {d : ab_w} {ov : List (Nat × Nat × ab_w)} (hg : gl_L[k]? = some (.inr (t, n, fl, d, ov))) (hj : j < n) (ht : t = 0 ∨ t = 3) (hb : ∀ i fs, ab_get aw.1 o = some (.inl (i, fs)) → False) : cu_f ws' k j = Int32.ofInt c := by
  unfold lw_cst at h
  dsimp only at h
  rw [ab_get_eq] at h
  split at h
  · rename_i i fs hc
    exact absurd (hb i fs (by rw [ab_get_eq]; exact hc)) (fun h => h)
  · rename_i t' n' fl' d' ov' hc
    rw [Bool.and_eq_true, Bool.and_eq_true] at h
    obtain ⟨h1, h2, h3⟩ := h
    have h1 := Nat.eq_of_beq_eq_true h1
    have h2 := Nat.le_of_ble_eq_true h2
    subst h1
    split at h3
    · rename_i c' hat
      rw [ab_ie_iff] at h3
      subst h3
      obtain ⟨a1, cA1, f1, g1⟩ := lw_shx hR.2.2.2.1.1.2 hc (ht.elim Or.inl (fun h => Or.inr (Or.inr h)))
      obtain ⟨a2, cA2, f2, m1⟩ := lw_shx hR'.2.2.2.1.1.2 hg (ht.elim Or.inl (fun h => Or.inr (Or.inr h)))
      obtain ⟨q, g2, cA3, x3, g3, -, -, g5⟩ := hR.2.2.2.1.1.2 _ _ hc
      rw [g1] at g2
      cases g2
      dsimp only at g3 g5
      cases g3
      have ea := e2 k o hk
      rw [cu_ad hR'.2.2.1 m1, cu_ad hR.2.2.1 g1] at ea
      cases ea
      have g6 := g5 j (by omega)
      rw [hat] at g6
      obtain ⟨y, e3, e4⟩ := ab_evi (X := X) (show ab_ev X z (.inl (none, c')) = some _ from g6)
      have e5 : y = Int32.ofInt c' := (Option.some.inj e4).symm
      rw [cu_f_of m1, jc_row hR'.2.2.2.2.1 hR.2.2.2.2.1 m1 g1 j hj (by omega), ← e5]
      exact Value.int.inj e3
    · cases h3
  · cases h
theorem lw_cst_i (hR : ab_R X D s z0 env nl aw z ws H locs) (hR' : ab_R X D s z0' env' nl' (gl_L, fx) z' ws' H locs') (e2 : ∀ k o : Nat, ab_pm[k]? = some o → z'.2.2[k]? = z.2.2[o]?) {k o ci j : Nat} {c : Int} (hk : ab_pm[k]? = some o) (h : lw_cst aw.1 (o, ci, j, c) = true) {gs : List ab_F} (hg : gl_L[k]? = some (.inl (ci, gs))) {r : vw_C} (hr : vwCl[ci]? = some r) (hq : j < r.2.2) (hb : ∀ t n fl d ov, ab_get aw.1 o = some (.inr (t, n, fl, d, ov)) → False) : cu_i ws' k j = Int32.ofInt c := by
  unfold lw_cst at h
  dsimp only at h
  rw [ab_get_eq] at h
  split at h
  · rename_i i fs hc
    rw [Bool.and_eq_true, ab_get_eq] at h
    obtain ⟨h1, h2⟩ := h
    have h1 := Nat.eq_of_beq_eq_true h1
    subst h1
    split at h2
    · rename_i b c' hf
      rw [ab_ie_iff] at h2
      subst h2
      obtain ⟨⟨a1, b1⟩, g1, vs1, g2, g3, g4⟩ := hR.2.2.2.1.1.2 _ _ hc
      obtain ⟨⟨a2, b2⟩, m1, vs2, m2, -, -⟩ := hR'.2.2.2.1.1.2 _ _ hg
      dsimp only at g2 g3 g4 m2
      subst g2 m2
      have ea := e2 k o hk
      rw [cu_ad hR'.2.2.1 m1, cu_ad hR.2.2.1 g1] at ea
      cases ea
      have hl : j < vs1.length := by rw [← g3]; exact (List.getElem?_eq_some_iff.mp hf).1
      obtain ⟨y, e3, e4⟩ := ab_evi (X := X) (show ab_ev X z (.inl (none, c')) = some _ from g4 j _ _ hf (List.getElem?_eq_getElem hl))
      have e5 : y = Int32.ofInt c' := (Option.some.inj e4).symm
      unfold cu_i
      rw [cu_v_of m1, jc_fld hR'.2.2.2.2.1 hR.2.2.2.2.1 m1 g1 hr hq, List.getD_eq_getElem?_getD, List.getElem?_eq_getElem hl, e3, e5]; rfl
    · cases h2
  · rename_i t' n' fl' d' ov' hc
    exact absurd (hb _ _ _ _ _ (by rw [ab_get_eq]; exact hc)) (fun h => h)
  · cases h
theorem lw_rfc_r (hR : ab_R X D s z0 env nl aw z ws H locs) (hR' : ab_R X D s z0' env' nl' (gl_L, fx) z' ws' H locs') (e2 : ∀ k o : Nat, ab_pm[k]? = some o → z'.2.2[k]? = z.2.2[o]?) {k o ci j kt ot : Nat} (hk : ab_pm[k]? = some o) (hkt : ab_pm[kt]? = some ot) (h : lw_rfc aw.1 (o, ci, j, ot) = true) {gs : List ab_F} (hg : gl_L[k]? = some (.inl (ci, gs))) {r : vw_C} (hr : vwCl[ci]? = some r) (hq : j < r.2.2) : ∃ a, cu_a ws' kt = some a ∧ cu_v ws' k j = .ref a := by
  unfold lw_rfc at h
  dsimp only at h
  rw [ab_get_eq] at h
  split at h
  · rename_i i fs hc
    rw [Bool.and_eq_true, ab_get_eq] at h
    obtain ⟨h1, h2⟩ := h
    have h1 := Nat.eq_of_beq_eq_true h1
    subst h1
    split at h2
    · rename_i b k9 hf
      have h2 := Nat.eq_of_beq_eq_true h2
      subst h2
      obtain ⟨⟨a1, b1⟩, g1, vs1, g2, g3, g4⟩ := hR.2.2.2.1.1.2 _ _ hc
      obtain ⟨⟨a2, b2⟩, m1, vs2, m2, -, -⟩ := hR'.2.2.2.1.1.2 _ _ hg
      dsimp only at g2 g3 g4 m2
      subst g2 m2
      have ea := e2 k o hk
      rw [cu_ad hR'.2.2.1 m1, cu_ad hR.2.2.1 g1] at ea
      cases ea
      have hl : j < vs1.length := by rw [← g3]; exact (List.getElem?_eq_some_iff.mp hf).1
      obtain ⟨a, e3, e4⟩ := ab_ref2 (X := X) (show ab_ev X z (.inr (.inr (2, k9))) = some _ from g4 j _ _ hf (List.getElem?_eq_getElem hl))
      refine ⟨a, ?_, ?_⟩
      · rw [cu_az hR'.2.2.1, e2 kt k9 hkt]
        exact e4
      · rw [cu_v_of m1, jc_fld hR'.2.2.2.2.1 hR.2.2.2.2.1 m1 g1 hr hq, List.getD_eq_getElem?_getD, List.getElem?_eq_getElem hl, e3]; rfl
    · cases h2
  · cases h
/-- the first run's cell and the loop's are of one kind -/
theorem lw_bo {mz : Nat} {cs : List ab_C} (c7 : ab_pmL mz ab_pm ab_nw cs 0 gl_L = true) {k o : Nat} (hk : ab_pm[k]? = some o) {c g : ab_C} (hg : gl_L[k]? = some g) (hc : ab_get cs o = some c) : ab_pmC mz ab_pm c g = true := by
  obtain ⟨-, h2⟩ := ab_pmL_ok c7
  obtain ⟨o', c', h3, -, h4, h5⟩ := h2 k g hg
  rw [Nat.zero_add, hk] at h3
  cases h3
  rw [ab_get_eq, h4] at hc
  cases hc
  exact h5
theorem lw_bo1 {mz : Nat} {cs : List ab_C} (c7 : ab_pmL mz ab_pm ab_nw cs 0 gl_L = true) {k o t n : Nat} (hk : ab_pm[k]? = some o) {fl : Bool} {d : ab_w} {ov : List (Nat × Nat × ab_w)} (hg : gl_L[k]? = some (.inr (t, n, fl, d, ov))) : ∀ i fs, ab_get cs o = some (.inl (i, fs)) → False := fun i fs hc => by
  have h := lw_bo c7 hk hg hc
  unfold ab_pmC at h
  cases h
theorem lw_bo2 {mz : Nat} {cs : List ab_C} (c7 : ab_pmL mz ab_pm ab_nw cs 0 gl_L = true) {k o i : Nat} (hk : ab_pm[k]? = some o) {fs : List ab_F} (hg : gl_L[k]? = some (.inl (i, fs))) : ∀ t n fl d ov, ab_get cs o = some (.inr (t, n, fl, d, ov)) → False := fun t n fl d ov hc => by
  have h := lw_bo c7 hk hg hc
  unfold ab_pmC at h
  cases h
theorem lw_JX_ini {mz : Nat} (hR : ab_R X D s z0 env nl aw z ws H locs) (hR' : ab_R X D s z0' env' nl' (gl_L, fx) z' ws' H locs') (e2 : ∀ k o : Nat, ab_pm[k]? = some o → z'.2.2[k]? = z.2.2[o]?) (c7 : ab_pmL mz ab_pm ab_nw aw.1 0 gl_L = true) (c10 : lw_ini.all (lw_cst aw.1) = true) (c11 : lw_inr.all (lw_rfc aw.1) = true) : lw_JX ws' := by
  obtain ⟨al, l1, l2⟩ := lw_rfc_r hR hR' e2 (k := 10) (o := 0) (kt := 12) rfl rfl (List.all_eq_true.mp c11 (0, 10, 2, 6) (by decide)) (by rfl) rfl (by decide)
  obtain ⟨ad, d1, d2⟩ := lw_rfc_r hR hR' e2 (k := 10) (o := 0) (kt := 11) rfl rfl (List.all_eq_true.mp c11 (0, 10, 3, 20) (by decide)) (by rfl) rfl (by decide)
  have hne : ¬ al = ad := by
    intro e
    subst e
    unfold cu_a at l1 d1
    cases h1 : ws'[12]? with
    | none => rw [h1] at l1; cases l1
    | some p =>
      cases h2 : ws'[11]? with
      | none => rw [h2] at d1; cases d1
      | some q =>
        rw [h1] at l1
        rw [h2] at d1
        have h3 := hR'.2.2.2.2.2.1.1 _ _ p q h1 h2 ((Option.some.inj l1).trans (Option.some.inj d1).symm)
        exact absurd h3 (by decide)
  have s0 : cu_f ws' 1 0 = Int32.ofInt 0 := lw_cst_f hR hR' e2 (k := 1) (o := 144) rfl (List.all_eq_true.mp c10 (144, 0, 0, 0) (by decide)) (by rfl) (by decide) (Or.inl rfl) (lw_bo1 c7 (k := 1) rfl (by rfl))
  have t0 : cu_i ws' 12 0 = Int32.ofInt 0 := lw_cst_i hR hR' e2 (k := 12) (o := 6) rfl (List.all_eq_true.mp c10 (6, 8, 0, 0) (by decide)) (by rfl) rfl (by decide) (lw_bo2 c7 (k := 12) rfl (by rfl))
  have i0 : cu_i ws' 103 3 = Int32.ofInt 0 := lw_cst_i hR hR' e2 (k := 103) (o := 94) rfl (List.all_eq_true.mp c10 (94, 2, 3, 0) (by decide)) (by rfl) rfl (by decide) (lw_bo2 c7 (k := 103) rfl (by rfl))
  have a0 : cu_f ws' 165 0 = Int32.ofInt 0 := lw_cst_f hR hR' e2 (k := 165) (o := 165) rfl (List.all_eq_true.mp c10 (165, 3, 0, 0) (by decide)) (by rfl) (by decide) (Or.inr rfl) (lw_bo1 c7 (k := 165) rfl (by rfl))
  have i1 : cu_i ws' 125 3 = Int32.ofInt 0 := lw_cst_i hR hR' e2 (k := 125) (o := 117) rfl (List.all_eq_true.mp c10 (117, 2, 3, 0) (by decide)) (by rfl) rfl (by decide) (lw_bo2 c7 (k := 125) rfl (by rfl))
  have a1 : cu_f ws' 165 1 = Int32.ofInt 0 := lw_cst_f hR hR' e2 (k := 165) (o := 165) rfl (List.all_eq_true.mp c10 (165, 3, 1, 0) (by decide)) (by rfl) (by decide) (Or.inr rfl) (lw_bo1 c7 (k := 165) rfl (by rfl))
  refine ⟨?_, ⟨al, ad, l1, d1, hne⟩, List.forall_mem_cons.mpr ⟨⟨al, l1, fun _ => ?_⟩, List.forall_mem_cons.mpr ⟨⟨ad, d1, fun e => ?_⟩, fun _ h => nomatch h⟩⟩, List.forall_mem_cons.mpr ⟨⟨i0.trans a0.symm, fun e => absurd a0 e⟩, List.forall_mem_cons.mpr ⟨⟨i1.trans a1.symm, fun e => absurd a1 e⟩, fun _ h => nomatch h⟩⟩⟩
  · rw [l2, d2]
    intro e
    exact hne (Value.ref.inj e)
  · refine ⟨t0.trans s0.symm, fun j _ hj => ?_⟩
    exfalso
    rw [s0] at hj
    have e0 : (Int32.ofInt 0).toInt = 0 := by decide
    omega
  · rw [l2] at e
    exact absurd (Value.ref.inj e) hne
end
