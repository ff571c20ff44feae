/-! Valleys in the exact worlds. -/

theorem lw_pI_V : ∀ q ∈ lw_pI, q.1 ∈ lw_VL := by decide
theorem lw_pD_V : ∀ q ∈ lw_pD, q.1 ∈ lw_VL := by decide
theorem lw_pD_0 : ∀ q ∈ lw_pD, q.2[0]? = some 10 := by decide
theorem lw_pD_15 : ∀ q ∈ lw_pD, q.2[15]? = some 166 := by decide
theorem lw_pI_0 : ∀ q ∈ lw_pI, q.2[0]? = some 10 := by decide
theorem lw_pI_x : ∀ q ∈ lw_pI, q.2[16]? = some 103 ∧ q.2[17]? = some 125 := by decide
theorem lw_pV_V : ∀ q ∈ lw_pV, q.1 ∈ lw_VL ∧ q.2.1 ∈ lw_VL := by decide
theorem lw_pV_0 : ∀ q ∈ lw_pV, q.2.2[0]? = some 10 := by decide
theorem lw_pV_x : ∀ q ∈ lw_pV, q.2.2[2]? = some 17 ∧ q.2.2[3]? = some 38 ∧ q.2.2[6]? = some q.1.1 ∧ q.2.2[26]? = some q.2.1.1 := by decide
theorem lw_VinI_V1_0 : lw_Vin lw_R_V1 lw_F_V1 lw_V0 := by decide
theorem lw_VinI_V1_1 : lw_Vin lw_R_V1 lw_F_V1 lw_V1 := by decide
theorem lw_VinL_V2 : ∀ V ∈ lw_VL, lw_Vin lw_R_V2 lw_F_V2 V := List.forall_mem_cons.mpr ⟨by decide, List.forall_mem_cons.mpr ⟨by decide, fun _ h => nomatch h⟩⟩
theorem lw_VinI_V2_0 : lw_Vin lw_R_V2 lw_F_V2 lw_V0 := by decide
theorem lw_VinI_V2_1 : lw_Vin lw_R_V2 lw_F_V2 lw_V1 := by decide
theorem lw_VinL_I1_0 : ∀ V ∈ lw_VL, lw_Vin lw_R_I1_0 lw_F_I1_0 V := List.forall_mem_cons.mpr ⟨by decide, List.forall_mem_cons.mpr ⟨by decide, fun _ h => nomatch h⟩⟩
theorem lw_VinI_I1_0_1 : lw_Vin lw_R_I1_0 lw_F_I1_0 lw_V1 := by decide
theorem lw_VinL_I1_1 : ∀ V ∈ lw_VL, lw_Vin lw_R_I1_1 lw_F_I1_1 V := List.forall_mem_cons.mpr ⟨by decide, List.forall_mem_cons.mpr ⟨by decide, fun _ h => nomatch h⟩⟩
theorem lw_VinI_I1_1_0 : lw_Vin lw_R_I1_1 lw_F_I1_1 lw_V0 := by decide
theorem lw_VinL_I2 : ∀ V ∈ lw_VL, lw_Vin lw_R_I2 lw_F_I2 V := List.forall_mem_cons.mpr ⟨by decide, List.forall_mem_cons.mpr ⟨by decide, fun _ h => nomatch h⟩⟩
theorem lw_VinI_I2_0 : lw_Vin lw_R_I2 lw_F_I2 lw_V0 := by decide
theorem lw_VinI_I2_1 : lw_Vin lw_R_I2 lw_F_I2 lw_V1 := by decide
theorem lw_VinI_R1_0 : lw_Vin lw_R_R1 lw_F_R1 lw_V0 := by decide
theorem lw_VinI_R1_1 : lw_Vin lw_R_R1 lw_F_R1 lw_V1 := by decide
theorem lw_VinL_R2 : ∀ V ∈ lw_VL, lw_Vin lw_R_R2 lw_F_R2 V := List.forall_mem_cons.mpr ⟨by decide, List.forall_mem_cons.mpr ⟨by decide, fun _ h => nomatch h⟩⟩
theorem lw_VinI_R2_0 : lw_Vin lw_R_R2 lw_F_R2 lw_V0 := by decide
theorem lw_VinI_R2_1 : lw_Vin lw_R_R2 lw_F_R2 lw_V1 := by decide

noncomputable def lw_TV (ws : va_W) (V : lw_VT) (t0 t1 t2 : Int32) (f0 f1 f2 f3 f4 : Nat → Int32) : Prop := cu_i ws V.1 0 = t0 ∧ cu_i ws V.1 4 = t1 ∧ cu_i ws V.1 9 = t2 ∧ (∀ j : Nat, j < 3 → cu_f ws V.2.1 j = f0 j) ∧ ∀ j : Nat, j < 12 → cu_f ws V.2.2.1 j = f1 j ∧ cu_f ws V.2.2.2.1 j = f2 j ∧ cu_f ws V.2.2.2.2.1 j = f3 j ∧ cu_f ws V.2.2.2.2.2 j = f4 j
noncomputable def lw_SV (t0 t1 t2 : Int32) (f0 f1 f2 f3 f4 : Nat → Int32) (g : Nat → Int32) : Prop := t0 = g 0 ∧ t1 = g 1 ∧ t2 = g 2 ∧ (∀ j : Nat, j < 3 → f0 j = g (3 + j)) ∧ ∀ j : Nat, j < 12 → (j : Int) < (g 1).toInt → f1 j = g (20 + j) ∧ f2 j = g (32 + j) ∧ f3 j = g (44 + j) ∧ f4 j = g (56 + j) ∧ -30 ≤ (g (56 + j)).toInt ∧ (g (56 + j)).toInt ≤ 30
theorem lw_TV.to {ws : va_W} {V : lw_VT} {t0 t1 t2 : Int32} {f0 f1 f2 f3 f4 g : Nat → Int32} (h : lw_TV ws V t0 t1 t2 f0 f1 f2 f3 f4) (hg : lw_SV t0 t1 t2 f0 f1 f2 f3 f4 g) : lw_V ws V g := by
  obtain ⟨a0, a1, a2, a3, a4⟩ := h
  obtain ⟨b0, b1, b2, b3, b4⟩ := hg
  refine ⟨a0.trans b0, a1.trans b1, a2.trans b2, fun j hj => (a3 j hj).trans (b3 j hj), fun j hj h9 => ?_⟩
  obtain ⟨c1, c2, c3, c4⟩ := a4 j hj
  obtain ⟨d1, d2, d3, d4⟩ := b4 j hj h9
  exact ⟨c1.trans d1, c2.trans d2, c3.trans d3, c4.trans d4.1, d4.2⟩
theorem lw_TV.of {ws : va_W} {V : lw_VT} {t0 t1 t2 : Int32} {f0 f1 f2 f3 f4 g : Nat → Int32} (h : lw_TV ws V t0 t1 t2 f0 f1 f2 f3 f4) (hg : lw_V ws V g) : lw_SV t0 t1 t2 f0 f1 f2 f3 f4 g := by
  obtain ⟨a0, a1, a2, a3, a4⟩ := h
  obtain ⟨b0, b1, b2, b3, b4⟩ := hg
  refine ⟨a0.symm.trans b0, a1.symm.trans b1, a2.symm.trans b2, fun j hj => (a3 j hj).symm.trans (b3 j hj), fun j hj h9 => ?_⟩
  obtain ⟨c1, c2, c3, c4⟩ := a4 j hj
  obtain ⟨d1, d2, d3, d4⟩ := b4 j hj h9
  exact ⟨c1.symm.trans d1, c2.symm.trans d2, c3.symm.trans d3, c4.symm.trans d4.1, d4.2⟩
/-- copied rows are as told where the others are -/
theorem lw_SV.cp {t0 t1 t2 : Int32} {f0 f1 f2 f3 f4 e0 e1 e2 e3 e4 g : Nat → Int32} (h : lw_SV t0 t1 t2 f0 f1 f2 f3 f4 g) (h0 : ∀ j : Nat, j < 3 → e0 j = f0 j) (h1 : ∀ j : Nat, j < 12 → e1 j = f1 j) (h2 : ∀ j : Nat, j < 12 → e2 j = f2 j) (h3 : ∀ j : Nat, j < 12 → e3 j = f3 j) (h4 : ∀ j : Nat, j < 12 → e4 j = f4 j) : lw_SV t0 t1 t2 e0 e1 e2 e3 e4 g := by
  obtain ⟨b0, b1, b2, b3, b4⟩ := h
  refine ⟨b0, b1, b2, fun j hj => (h0 j hj).trans (b3 j hj), fun j hj h9 => ?_⟩
  obtain ⟨d1, d2, d3, d4⟩ := b4 j hj h9
  exact ⟨(h1 j hj).trans d1, (h2 j hj).trans d2, (h3 j hj).trans d3, (h4 j hj).trans d4.1, d4.2⟩
theorem lw_V.cg {ws : va_W} {V : lw_VT} {g g' : Nat → Int32} (h : lw_V ws V g) (hg : ∀ j : Nat, j < 100 → g' j = g j) : lw_V ws V g' := by
  obtain ⟨a1, a2, a3, a4, a5⟩ := h
  refine ⟨by rw [hg 0 (by decide)]; exact a1, by rw [hg 1 (by decide)]; exact a2, by rw [hg 2 (by decide)]; exact a3, fun j hj => by rw [hg (3 + j) (by omega)]; exact a4 j hj, fun j hj hj2 => ?_⟩
  rw [hg 1 (by decide)] at hj2
  rw [hg (20 + j) (by omega), hg (32 + j) (by omega), hg (44 + j) (by omega), hg (56 + j) (by omega)]
  exact a5 j hj hj2
theorem lw_VL_eq {ws : va_W} (hne : ∃ a b, cu_a ws lw_VA.1 = some a ∧ cu_a ws lw_VB.1 = some b ∧ ¬ a = b) {V V' : lw_VT} (hV : V ∈ lw_VL) (hV' : V' ∈ lw_VL) {a : Nat} (h : cu_a ws V.1 = some a) (h' : cu_a ws V'.1 = some a) : V = V' := by
  obtain ⟨p, q, e1, e2, e3⟩ := hne
  unfold lw_VL at hV hV'
  simp only [List.mem_cons, List.not_mem_nil, or_false] at hV hV'
  rcases hV with rfl | rfl <;> rcases hV' with rfl | rfl
  · rfl
  · rw [e1] at h; rw [e2] at h'; cases h; cases h'; exact absurd rfl e3
  · rw [e2] at h; rw [e1] at h'; cases h; cases h'; exact absurd rfl e3
  · rfl
theorem lw_cua {ws : va_W} {k a b : Nat} (h1 : cu_a ws k = some a) (h2 : cu_a ws k = some b) : a = b := Option.some.inj (h1.symm.trans h2)
set_option maxRecDepth 100000 in
theorem tv_I0 {X : ab_X} {D : va_G} {A : ex_A} {ws : va_W} {g9 : Nat → Option Nat} {σ : ex_S} : ∀ q ∈ lw_pI, lw_Tw X D A q.2 (WI g9 σ) ws → lw_TV ws q.1 (σ.1 0) (σ.1 1) (σ.1 2) (σ.2.2.1 10) (σ.2.2.1 2) (σ.2.2.1 3) (σ.2.2.1 4) (σ.2.2.1 5) := by
  unfold lw_pI
  refine List.forall_mem_cons.mpr ⟨?_, List.forall_mem_cons.mpr ⟨?_, List.forall_mem_cons.mpr ⟨?_, List.forall_mem_cons.mpr ⟨?_, fun _ h => nomatch h⟩⟩⟩⟩
  · intro h
    exact ⟨h.i (i := 2) (k := 12) (q := 0) rfl rfl (WI_2 _ _) rfl (by decide) rfl, h.i (i := 2) (k := 12) (q := 4) rfl rfl (WI_2 _ _) rfl (by decide) rfl, h.i (i := 2) (k := 12) (q := 9) rfl rfl (WI_2 _ _) rfl (by decide) rfl, fun j hj => h.f (i := 15) (k := 34) rfl rfl (Or.inl rfl) (WI_15 _ _) j hj hj, fun j hj => ⟨h.f (i := 6) (k := 43) rfl rfl (Or.inl rfl) (WI_6 _ _) j hj hj, h.f (i := 7) (k := 44) rfl rfl (Or.inl rfl) (WI_7 _ _) j hj hj, h.f (i := 8) (k := 45) rfl rfl (Or.inl rfl) (WI_8 _ _) j hj hj, h.f (i := 9) (k := 46) rfl rfl (Or.inl rfl) (WI_9 _ _) j hj hj⟩⟩
  · intro h
    exact ⟨h.i (i := 2) (k := 12) (q := 0) rfl rfl (WI_2 _ _) rfl (by decide) rfl, h.i (i := 2) (k := 12) (q := 4) rfl rfl (WI_2 _ _) rfl (by decide) rfl, h.i (i := 2) (k := 12) (q := 9) rfl rfl (WI_2 _ _) rfl (by decide) rfl, fun j hj => h.f (i := 15) (k := 34) rfl rfl (Or.inl rfl) (WI_15 _ _) j hj hj, fun j hj => ⟨h.f (i := 6) (k := 43) rfl rfl (Or.inl rfl) (WI_6 _ _) j hj hj, h.f (i := 7) (k := 44) rfl rfl (Or.inl rfl) (WI_7 _ _) j hj hj, h.f (i := 8) (k := 45) rfl rfl (Or.inl rfl) (WI_8 _ _) j hj hj, h.f (i := 9) (k := 46) rfl rfl (Or.inl rfl) (WI_9 _ _) j hj hj⟩⟩
  · intro h
    exact ⟨h.i (i := 2) (k := 11) (q := 0) rfl rfl (WI_2 _ _) rfl (by decide) rfl, h.i (i := 2) (k := 11) (q := 4) rfl rfl (WI_2 _ _) rfl (by decide) rfl, h.i (i := 2) (k := 11) (q := 9) rfl rfl (WI_2 _ _) rfl (by decide) rfl, fun j hj => h.f (i := 15) (k := 35) rfl rfl (Or.inl rfl) (WI_15 _ _) j hj hj, fun j hj => ⟨h.f (i := 6) (k := 52) rfl rfl (Or.inl rfl) (WI_6 _ _) j hj hj, h.f (i := 7) (k := 53) rfl rfl (Or.inl rfl) (WI_7 _ _) j hj hj, h.f (i := 8) (k := 54) rfl rfl (Or.inl rfl) (WI_8 _ _) j hj hj, h.f (i := 9) (k := 55) rfl rfl (Or.inl rfl) (WI_9 _ _) j hj hj⟩⟩
  · intro h
    exact ⟨h.i (i := 2) (k := 11) (q := 0) rfl rfl (WI_2 _ _) rfl (by decide) rfl, h.i (i := 2) (k := 11) (q := 4) rfl rfl (WI_2 _ _) rfl (by decide) rfl, h.i (i := 2) (k := 11) (q := 9) rfl rfl (WI_2 _ _) rfl (by decide) rfl, fun j hj => h.f (i := 15) (k := 35) rfl rfl (Or.inl rfl) (WI_15 _ _) j hj hj, fun j hj => ⟨h.f (i := 6) (k := 52) rfl rfl (Or.inl rfl) (WI_6 _ _) j hj hj, h.f (i := 7) (k := 53) rfl rfl (Or.inl rfl) (WI_7 _ _) j hj hj, h.f (i := 8) (k := 54) rfl rfl (Or.inl rfl) (WI_8 _ _) j hj hj, h.f (i := 9) (k := 55) rfl rfl (Or.inl rfl) (WI_9 _ _) j hj hj⟩⟩
set_option maxRecDepth 100000 in
theorem tv_I1 {X : ab_X} {D : va_G} {A : ex_A} {ws : va_W} {g9 : Nat → Option Nat} {σ : ex_S} : ∀ q ∈ lw_pI, lw_Tw X D A q.2 (WI g9 σ) ws → lw_TV ws lw_V0 (σ.1 100) (σ.1 101) (σ.1 102) (σ.2.2.1 110) (σ.2.2.1 102) (σ.2.2.1 103) (σ.2.2.1 104) (σ.2.2.1 105) := by
  unfold lw_pI
  refine List.forall_mem_cons.mpr ⟨?_, List.forall_mem_cons.mpr ⟨?_, List.forall_mem_cons.mpr ⟨?_, List.forall_mem_cons.mpr ⟨?_, fun _ h => nomatch h⟩⟩⟩⟩
  · intro h
    exact ⟨h.i (i := 18) (k := 29) (q := 0) rfl rfl (WI_18 _ _) rfl (by decide) rfl, h.i (i := 18) (k := 29) (q := 4) rfl rfl (WI_18 _ _) rfl (by decide) rfl, h.i (i := 18) (k := 29) (q := 9) rfl rfl (WI_18 _ _) rfl (by decide) rfl, fun j hj => h.f (i := 31) (k := 116) rfl rfl (Or.inl rfl) (WI_31 _ _) j hj hj, fun j hj => ⟨h.f (i := 22) (k := 107) rfl rfl (Or.inl rfl) (WI_22 _ _) j hj hj, h.f (i := 23) (k := 108) rfl rfl (Or.inl rfl) (WI_23 _ _) j hj hj, h.f (i := 24) (k := 109) rfl rfl (Or.inl rfl) (WI_24 _ _) j hj hj, h.f (i := 25) (k := 110) rfl rfl (Or.inl rfl) (WI_25 _ _) j hj hj⟩⟩
  · intro h
    exact ⟨h.i (i := 18) (k := 29) (q := 0) rfl rfl (WI_18 _ _) rfl (by decide) rfl, h.i (i := 18) (k := 29) (q := 4) rfl rfl (WI_18 _ _) rfl (by decide) rfl, h.i (i := 18) (k := 29) (q := 9) rfl rfl (WI_18 _ _) rfl (by decide) rfl, fun j hj => h.f (i := 31) (k := 116) rfl rfl (Or.inl rfl) (WI_31 _ _) j hj hj, fun j hj => ⟨h.f (i := 22) (k := 107) rfl rfl (Or.inl rfl) (WI_22 _ _) j hj hj, h.f (i := 23) (k := 108) rfl rfl (Or.inl rfl) (WI_23 _ _) j hj hj, h.f (i := 24) (k := 109) rfl rfl (Or.inl rfl) (WI_24 _ _) j hj hj, h.f (i := 25) (k := 110) rfl rfl (Or.inl rfl) (WI_25 _ _) j hj hj⟩⟩
  · intro h
    exact ⟨h.i (i := 18) (k := 29) (q := 0) rfl rfl (WI_18 _ _) rfl (by decide) rfl, h.i (i := 18) (k := 29) (q := 4) rfl rfl (WI_18 _ _) rfl (by decide) rfl, h.i (i := 18) (k := 29) (q := 9) rfl rfl (WI_18 _ _) rfl (by decide) rfl, fun j hj => h.f (i := 31) (k := 116) rfl rfl (Or.inl rfl) (WI_31 _ _) j hj hj, fun j hj => ⟨h.f (i := 22) (k := 107) rfl rfl (Or.inl rfl) (WI_22 _ _) j hj hj, h.f (i := 23) (k := 108) rfl rfl (Or.inl rfl) (WI_23 _ _) j hj hj, h.f (i := 24) (k := 109) rfl rfl (Or.inl rfl) (WI_24 _ _) j hj hj, h.f (i := 25) (k := 110) rfl rfl (Or.inl rfl) (WI_25 _ _) j hj hj⟩⟩
  · intro h
    exact ⟨h.i (i := 18) (k := 29) (q := 0) rfl rfl (WI_18 _ _) rfl (by decide) rfl, h.i (i := 18) (k := 29) (q := 4) rfl rfl (WI_18 _ _) rfl (by decide) rfl, h.i (i := 18) (k := 29) (q := 9) rfl rfl (WI_18 _ _) rfl (by decide) rfl, fun j hj => h.f (i := 31) (k := 116) rfl rfl (Or.inl rfl) (WI_31 _ _) j hj hj, fun j hj => ⟨h.f (i := 22) (k := 107) rfl rfl (Or.inl rfl) (WI_22 _ _) j hj hj, h.f (i := 23) (k := 108) rfl rfl (Or.inl rfl) (WI_23 _ _) j hj hj, h.f (i := 24) (k := 109) rfl rfl (Or.inl rfl) (WI_24 _ _) j hj hj, h.f (i := 25) (k := 110) rfl rfl (Or.inl rfl) (WI_25 _ _) j hj hj⟩⟩
set_option maxRecDepth 100000 in
theorem tv_I2 {X : ab_X} {D : va_G} {A : ex_A} {ws : va_W} {g9 : Nat → Option Nat} {σ : ex_S} : ∀ q ∈ lw_pI, lw_Tw X D A q.2 (WI g9 σ) ws → lw_TV ws lw_V1 (σ.1 200) (σ.1 201) (σ.1 202) (σ.2.2.1 210) (σ.2.2.1 202) (σ.2.2.1 203) (σ.2.2.1 204) (σ.2.2.1 205) := by
  unfold lw_pI
  refine List.forall_mem_cons.mpr ⟨?_, List.forall_mem_cons.mpr ⟨?_, List.forall_mem_cons.mpr ⟨?_, List.forall_mem_cons.mpr ⟨?_, fun _ h => nomatch h⟩⟩⟩⟩
  · intro h
    exact ⟨h.i (i := 32) (k := 28) (q := 0) rfl rfl (WI_32 _ _) rfl (by decide) rfl, h.i (i := 32) (k := 28) (q := 4) rfl rfl (WI_32 _ _) rfl (by decide) rfl, h.i (i := 32) (k := 28) (q := 9) rfl rfl (WI_32 _ _) rfl (by decide) rfl, fun j hj => h.f (i := 45) (k := 138) rfl rfl (Or.inl rfl) (WI_45 _ _) j hj hj, fun j hj => ⟨h.f (i := 36) (k := 129) rfl rfl (Or.inl rfl) (WI_36 _ _) j hj hj, h.f (i := 37) (k := 130) rfl rfl (Or.inl rfl) (WI_37 _ _) j hj hj, h.f (i := 38) (k := 131) rfl rfl (Or.inl rfl) (WI_38 _ _) j hj hj, h.f (i := 39) (k := 132) rfl rfl (Or.inl rfl) (WI_39 _ _) j hj hj⟩⟩
  · intro h
    exact ⟨h.i (i := 32) (k := 28) (q := 0) rfl rfl (WI_32 _ _) rfl (by decide) rfl, h.i (i := 32) (k := 28) (q := 4) rfl rfl (WI_32 _ _) rfl (by decide) rfl, h.i (i := 32) (k := 28) (q := 9) rfl rfl (WI_32 _ _) rfl (by decide) rfl, fun j hj => h.f (i := 45) (k := 138) rfl rfl (Or.inl rfl) (WI_45 _ _) j hj hj, fun j hj => ⟨h.f (i := 36) (k := 129) rfl rfl (Or.inl rfl) (WI_36 _ _) j hj hj, h.f (i := 37) (k := 130) rfl rfl (Or.inl rfl) (WI_37 _ _) j hj hj, h.f (i := 38) (k := 131) rfl rfl (Or.inl rfl) (WI_38 _ _) j hj hj, h.f (i := 39) (k := 132) rfl rfl (Or.inl rfl) (WI_39 _ _) j hj hj⟩⟩
  · intro h
    exact ⟨h.i (i := 32) (k := 28) (q := 0) rfl rfl (WI_32 _ _) rfl (by decide) rfl, h.i (i := 32) (k := 28) (q := 4) rfl rfl (WI_32 _ _) rfl (by decide) rfl, h.i (i := 32) (k := 28) (q := 9) rfl rfl (WI_32 _ _) rfl (by decide) rfl, fun j hj => h.f (i := 45) (k := 138) rfl rfl (Or.inl rfl) (WI_45 _ _) j hj hj, fun j hj => ⟨h.f (i := 36) (k := 129) rfl rfl (Or.inl rfl) (WI_36 _ _) j hj hj, h.f (i := 37) (k := 130) rfl rfl (Or.inl rfl) (WI_37 _ _) j hj hj, h.f (i := 38) (k := 131) rfl rfl (Or.inl rfl) (WI_38 _ _) j hj hj, h.f (i := 39) (k := 132) rfl rfl (Or.inl rfl) (WI_39 _ _) j hj hj⟩⟩
  · intro h
    exact ⟨h.i (i := 32) (k := 28) (q := 0) rfl rfl (WI_32 _ _) rfl (by decide) rfl, h.i (i := 32) (k := 28) (q := 4) rfl rfl (WI_32 _ _) rfl (by decide) rfl, h.i (i := 32) (k := 28) (q := 9) rfl rfl (WI_32 _ _) rfl (by decide) rfl, fun j hj => h.f (i := 45) (k := 138) rfl rfl (Or.inl rfl) (WI_45 _ _) j hj hj, fun j hj => ⟨h.f (i := 36) (k := 129) rfl rfl (Or.inl rfl) (WI_36 _ _) j hj hj, h.f (i := 37) (k := 130) rfl rfl (Or.inl rfl) (WI_37 _ _) j hj hj, h.f (i := 38) (k := 131) rfl rfl (Or.inl rfl) (WI_38 _ _) j hj hj, h.f (i := 39) (k := 132) rfl rfl (Or.inl rfl) (WI_39 _ _) j hj hj⟩⟩
set_option maxRecDepth 100000 in
theorem tv_V {X : ab_X} {D : va_G} {A : ex_A} {ws : va_W} {x : Nat × List ex_E} {y : Nat} {σ : ex_S} : ∀ q ∈ lw_pV, lw_Tw X D A q.2.2 (WA x y σ) ws → lw_TV ws q.1 (σ.1 11) (σ.1 12) (σ.1 13) (σ.2.2.1 11) (σ.2.2.1 3) (σ.2.2.1 4) (σ.2.2.1 5) (σ.2.2.1 6) := by
  unfold lw_pV
  refine List.forall_mem_cons.mpr ⟨?_, List.forall_mem_cons.mpr ⟨?_, List.forall_mem_cons.mpr ⟨?_, List.forall_mem_cons.mpr ⟨?_, fun _ h => nomatch h⟩⟩⟩⟩
  · intro h
    exact ⟨h.i (i := 6) (k := 12) (q := 0) rfl rfl (WA_6 _ _ _) rfl (by decide) rfl, h.i (i := 6) (k := 12) (q := 4) rfl rfl (WA_6 _ _ _) rfl (by decide) rfl, h.i (i := 6) (k := 12) (q := 9) rfl rfl (WA_6 _ _ _) rfl (by decide) rfl, fun j hj => h.f (i := 19) (k := 34) rfl rfl (Or.inl rfl) (WA_19 _ _ _) j hj hj, fun j hj => ⟨h.f (i := 10) (k := 43) rfl rfl (Or.inl rfl) (WA_10 _ _ _) j hj hj, h.f (i := 11) (k := 44) rfl rfl (Or.inl rfl) (WA_11 _ _ _) j hj hj, h.f (i := 12) (k := 45) rfl rfl (Or.inl rfl) (WA_12 _ _ _) j hj hj, h.f (i := 13) (k := 46) rfl rfl (Or.inl rfl) (WA_13 _ _ _) j hj hj⟩⟩
  · intro h
    exact ⟨h.i (i := 6) (k := 12) (q := 0) rfl rfl (WA_6 _ _ _) rfl (by decide) rfl, h.i (i := 6) (k := 12) (q := 4) rfl rfl (WA_6 _ _ _) rfl (by decide) rfl, h.i (i := 6) (k := 12) (q := 9) rfl rfl (WA_6 _ _ _) rfl (by decide) rfl, fun j hj => h.f (i := 19) (k := 34) rfl rfl (Or.inl rfl) (WA_19 _ _ _) j hj hj, fun j hj => ⟨h.f (i := 10) (k := 43) rfl rfl (Or.inl rfl) (WA_10 _ _ _) j hj hj, h.f (i := 11) (k := 44) rfl rfl (Or.inl rfl) (WA_11 _ _ _) j hj hj, h.f (i := 12) (k := 45) rfl rfl (Or.inl rfl) (WA_12 _ _ _) j hj hj, h.f (i := 13) (k := 46) rfl rfl (Or.inl rfl) (WA_13 _ _ _) j hj hj⟩⟩
  · intro h
    exact ⟨h.i (i := 6) (k := 11) (q := 0) rfl rfl (WA_6 _ _ _) rfl (by decide) rfl, h.i (i := 6) (k := 11) (q := 4) rfl rfl (WA_6 _ _ _) rfl (by decide) rfl, h.i (i := 6) (k := 11) (q := 9) rfl rfl (WA_6 _ _ _) rfl (by decide) rfl, fun j hj => h.f (i := 19) (k := 35) rfl rfl (Or.inl rfl) (WA_19 _ _ _) j hj hj, fun j hj => ⟨h.f (i := 10) (k := 52) rfl rfl (Or.inl rfl) (WA_10 _ _ _) j hj hj, h.f (i := 11) (k := 53) rfl rfl (Or.inl rfl) (WA_11 _ _ _) j hj hj, h.f (i := 12) (k := 54) rfl rfl (Or.inl rfl) (WA_12 _ _ _) j hj hj, h.f (i := 13) (k := 55) rfl rfl (Or.inl rfl) (WA_13 _ _ _) j hj hj⟩⟩
  · intro h
    exact ⟨h.i (i := 6) (k := 11) (q := 0) rfl rfl (WA_6 _ _ _) rfl (by decide) rfl, h.i (i := 6) (k := 11) (q := 4) rfl rfl (WA_6 _ _ _) rfl (by decide) rfl, h.i (i := 6) (k := 11) (q := 9) rfl rfl (WA_6 _ _ _) rfl (by decide) rfl, fun j hj => h.f (i := 19) (k := 35) rfl rfl (Or.inl rfl) (WA_19 _ _ _) j hj hj, fun j hj => ⟨h.f (i := 10) (k := 52) rfl rfl (Or.inl rfl) (WA_10 _ _ _) j hj hj, h.f (i := 11) (k := 53) rfl rfl (Or.inl rfl) (WA_11 _ _ _) j hj hj, h.f (i := 12) (k := 54) rfl rfl (Or.inl rfl) (WA_12 _ _ _) j hj hj, h.f (i := 13) (k := 55) rfl rfl (Or.inl rfl) (WA_13 _ _ _) j hj hj⟩⟩
set_option maxRecDepth 100000 in
theorem tv_D {X : ab_X} {D : va_G} {A : ex_A} {ws : va_W} {σ : ex_S} : ∀ q ∈ lw_pD, lw_Tw X D A q.2 (WD σ) ws → lw_TV ws q.1 (σ.1 0) (σ.1 1) (σ.1 2) (σ.2.2.1 10) (σ.2.2.1 2) (σ.2.2.1 3) (σ.2.2.1 4) (σ.2.2.1 5) := by
  unfold lw_pD
  refine List.forall_mem_cons.mpr ⟨?_, List.forall_mem_cons.mpr ⟨?_, fun _ h => nomatch h⟩⟩
  · intro h
    exact ⟨h.i (i := 1) (k := 12) (q := 0) rfl rfl (WD_1 _) rfl (by decide) rfl, h.i (i := 1) (k := 12) (q := 4) rfl rfl (WD_1 _) rfl (by decide) rfl, h.i (i := 1) (k := 12) (q := 9) rfl rfl (WD_1 _) rfl (by decide) rfl, fun j hj => h.f (i := 14) (k := 34) rfl rfl (Or.inl rfl) (WD_14 _) j hj hj, fun j hj => ⟨h.f (i := 5) (k := 43) rfl rfl (Or.inl rfl) (WD_5 _) j hj hj, h.f (i := 6) (k := 44) rfl rfl (Or.inl rfl) (WD_6 _) j hj hj, h.f (i := 7) (k := 45) rfl rfl (Or.inl rfl) (WD_7 _) j hj hj, h.f (i := 8) (k := 46) rfl rfl (Or.inl rfl) (WD_8 _) j hj hj⟩⟩
  · intro h
    exact ⟨h.i (i := 1) (k := 11) (q := 0) rfl rfl (WD_1 _) rfl (by decide) rfl, h.i (i := 1) (k := 11) (q := 4) rfl rfl (WD_1 _) rfl (by decide) rfl, h.i (i := 1) (k := 11) (q := 9) rfl rfl (WD_1 _) rfl (by decide) rfl, fun j hj => h.f (i := 14) (k := 35) rfl rfl (Or.inl rfl) (WD_14 _) j hj hj, fun j hj => ⟨h.f (i := 5) (k := 52) rfl rfl (Or.inl rfl) (WD_5 _) j hj hj, h.f (i := 6) (k := 53) rfl rfl (Or.inl rfl) (WD_6 _) j hj hj, h.f (i := 7) (k := 54) rfl rfl (Or.inl rfl) (WD_7 _) j hj hj, h.f (i := 8) (k := 55) rfl rfl (Or.inl rfl) (WD_8 _) j hj hj⟩⟩
set_option maxRecDepth 100000 in
theorem tv_L {X : ab_X} {D : va_G} {A : ex_A} {ws : va_W} {n y : Nat} {σ : ex_S} {u0 u1 u2 : Int32} {p0 p7 : Nat → Int64} {p1 p2 p3 p4 p5 p6 p8 p9 p10 p11 p12 : Nat → Int32} : ∀ q ∈ lw_pV, lw_Tw X D A q.2.2 (WA (n, lw_L u0 u1 u2 p0 p7 p1 p2 p3 p4 p5 p6 p8 p9 p10 p11 p12) y σ) ws → lw_TV ws q.2.1 u0 u1 u2 p12 p3 p4 p5 p6 := by
  unfold lw_pV
  refine List.forall_mem_cons.mpr ⟨?_, List.forall_mem_cons.mpr ⟨?_, List.forall_mem_cons.mpr ⟨?_, List.forall_mem_cons.mpr ⟨?_, fun _ h => nomatch h⟩⟩⟩⟩
  · intro h
    exact ⟨h.i (i := 26) (k := 11) (q := 0) rfl rfl rfl rfl (by decide) rfl, h.i (i := 26) (k := 11) (q := 4) rfl rfl rfl rfl (by decide) rfl, h.i (i := 26) (k := 11) (q := 9) rfl rfl rfl rfl (by decide) rfl, fun j hj => h.f (i := 39) (k := 35) rfl rfl (Or.inl rfl) rfl j hj hj, fun j hj => ⟨h.f (i := 30) (k := 52) rfl rfl (Or.inl rfl) rfl j hj hj, h.f (i := 31) (k := 53) rfl rfl (Or.inl rfl) rfl j hj hj, h.f (i := 32) (k := 54) rfl rfl (Or.inl rfl) rfl j hj hj, h.f (i := 33) (k := 55) rfl rfl (Or.inl rfl) rfl j hj hj⟩⟩
  · intro h
    exact ⟨h.i (i := 26) (k := 11) (q := 0) rfl rfl rfl rfl (by decide) rfl, h.i (i := 26) (k := 11) (q := 4) rfl rfl rfl rfl (by decide) rfl, h.i (i := 26) (k := 11) (q := 9) rfl rfl rfl rfl (by decide) rfl, fun j hj => h.f (i := 39) (k := 35) rfl rfl (Or.inl rfl) rfl j hj hj, fun j hj => ⟨h.f (i := 30) (k := 52) rfl rfl (Or.inl rfl) rfl j hj hj, h.f (i := 31) (k := 53) rfl rfl (Or.inl rfl) rfl j hj hj, h.f (i := 32) (k := 54) rfl rfl (Or.inl rfl) rfl j hj hj, h.f (i := 33) (k := 55) rfl rfl (Or.inl rfl) rfl j hj hj⟩⟩
  · intro h
    exact ⟨h.i (i := 26) (k := 12) (q := 0) rfl rfl rfl rfl (by decide) rfl, h.i (i := 26) (k := 12) (q := 4) rfl rfl rfl rfl (by decide) rfl, h.i (i := 26) (k := 12) (q := 9) rfl rfl rfl rfl (by decide) rfl, fun j hj => h.f (i := 39) (k := 34) rfl rfl (Or.inl rfl) rfl j hj hj, fun j hj => ⟨h.f (i := 30) (k := 43) rfl rfl (Or.inl rfl) rfl j hj hj, h.f (i := 31) (k := 44) rfl rfl (Or.inl rfl) rfl j hj hj, h.f (i := 32) (k := 45) rfl rfl (Or.inl rfl) rfl j hj hj, h.f (i := 33) (k := 46) rfl rfl (Or.inl rfl) rfl j hj hj⟩⟩
  · intro h
    exact ⟨h.i (i := 26) (k := 12) (q := 0) rfl rfl rfl rfl (by decide) rfl, h.i (i := 26) (k := 12) (q := 4) rfl rfl rfl rfl (by decide) rfl, h.i (i := 26) (k := 12) (q := 9) rfl rfl rfl rfl (by decide) rfl, fun j hj => h.f (i := 39) (k := 34) rfl rfl (Or.inl rfl) rfl j hj hj, fun j hj => ⟨h.f (i := 30) (k := 43) rfl rfl (Or.inl rfl) rfl j hj hj, h.f (i := 31) (k := 44) rfl rfl (Or.inl rfl) rfl j hj hj, h.f (i := 32) (k := 45) rfl rfl (Or.inl rfl) rfl j hj hj, h.f (i := 33) (k := 46) rfl rfl (Or.inl rfl) rfl j hj hj⟩⟩
