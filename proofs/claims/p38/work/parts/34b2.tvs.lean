/-! Valleys in the exact worlds. -/

theorem lw_pI_V : ∀ q ∈ lw_pI, q.1 ∈ lw_VL := by decide
theorem lw_pS_V : ∀ q ∈ lw_pS, q.1 ∈ lw_VL := by decide
theorem lw_pS_x : ∀ q ∈ lw_pS, q.2[0]? = some 10 ∧ q.2[2]? = some 17 ∧ q.2[3]? = some 38 ∧ q.2[6]? = some q.1.1 := by decide
theorem lw_pI_0 : ∀ q ∈ lw_pI, q.2[0]? = some 10 := by decide
theorem lw_pI_x : ∀ q ∈ lw_pI, q.2[16]? = some 103 ∧ q.2[17]? = some 125 := by decide
theorem lw_pV_V : ∀ q ∈ lw_pV, q.1 ∈ lw_VL ∧ q.2.1 ∈ lw_VL := by decide
theorem lw_pV_0 : ∀ q ∈ lw_pV, q.2.2[0]? = some 10 := by decide
theorem lw_pV_x : ∀ q ∈ lw_pV, q.2.2[2]? = some 17 ∧ q.2.2[3]? = some 38 ∧ q.2.2[6]? = some q.1.1 ∧ q.2.2[26]? = some q.2.1.1 := by decide
theorem lw_VinI_V1_0 : lw_Vin lw_R_V1 lw_F_V1 lw_V0 := by decide
theorem lw_VinI_V1_1 : lw_Vin lw_R_V1 lw_F_V1 lw_V1 := by decide
theorem lw_VinL_V2 : ∀ V ∈ lw_VL, lw_Vin lw_R_V2 lw_F_V2 V := List.forall_mem_cons.mpr ⟨by decide, List.forall_mem_cons.mpr ⟨by decide, fun _ h => nomatch h⟩⟩
theorem lw_VinI_V2_0 : lw_Vin lw_R_V2 lw_F_V2 lw_V0 := by decide
theorem lw_VinI_V2_1 : lw_Vin lw_R_V2 lw_F_V2 lw_V1 := by decide
theorem lw_VinL_I1_0 : ∀ V ∈ lw_VL, lw_Vin lw_R_I1_0 lw_F_I1_0 V := List.forall_mem_cons.mpr ⟨by decide, List.forall_mem_cons.mpr ⟨by decide, fun _ h => nomatch h⟩⟩
theorem lw_VinI_I1_0_1 : lw_Vin lw_R_I1_0 lw_F_I1_0 lw_V1 := by decide
theorem lw_VinL_I1_1 : ∀ V ∈ lw_VL, lw_Vin lw_R_I1_1 lw_F_I1_1 V := List.forall_mem_cons.mpr ⟨by decide, List.forall_mem_cons.mpr ⟨by decide, fun _ h => nomatch h⟩⟩
theorem lw_VinI_I1_1_0 : lw_Vin lw_R_I1_1 lw_F_I1_1 lw_V0 := by decide
theorem lw_VinL_I2 : ∀ V ∈ lw_VL, lw_Vin lw_R_I2 lw_F_I2 V := List.forall_mem_cons.mpr ⟨by decide, List.forall_mem_cons.mpr ⟨by decide, fun _ h => nomatch h⟩⟩
theorem lw_VinI_I2_0 : lw_Vin lw_R_I2 lw_F_I2 lw_V0 := by decide
theorem lw_VinI_I2_1 : lw_Vin lw_R_I2 lw_F_I2 lw_V1 := by decide
theorem lw_VinI_R1_0 : lw_Vin lw_R_R1 lw_F_R1 lw_V0 := by decide
theorem lw_VinI_R1_1 : lw_Vin lw_R_R1 lw_F_R1 lw_V1 := by decide
theorem lw_VinL_R2 : ∀ V ∈ lw_VL, lw_Vin lw_R_R2 lw_F_R2 V := List.forall_mem_cons.mpr ⟨by decide, List.forall_mem_cons.mpr ⟨by decide, fun _ h => nomatch h⟩⟩
theorem lw_VinI_R2_0 : lw_Vin lw_R_R2 lw_F_R2 lw_V0 := by decide
theorem lw_VinI_R2_1 : lw_Vin lw_R_R2 lw_F_R2 lw_V1 := by decide

noncomputable def lw_TV (ws : va_W) (V : lw_VT) (t0 : Int32) (f0 : Nat → Int64) : Prop := cu_i ws V.1 0 = t0 ∧ ∀ j : Nat, j < 7 → cu_q ws V.2 j = f0 j
noncomputable def lw_SV (t0 : Int32) (f0 : Nat → Int64) (g : Nat → Int32) (h : Nat → Int64) : Prop := t0 = g 0 ∧ ∀ j : Nat, j < 7 → (j : Int) < (g 0).toInt → f0 j = h j
theorem lw_TV.to {ws : va_W} {V : lw_VT} {t0 : Int32} {f0 h : Nat → Int64} {g : Nat → Int32} (hv : lw_TV ws V t0 f0) (hg : lw_SV t0 f0 g h) : lw_V ws V g h := ⟨hv.1.trans hg.1, fun j hj h9 => (hv.2 j hj).trans (hg.2 j hj h9)⟩
theorem lw_TV.of {ws : va_W} {V : lw_VT} {t0 : Int32} {f0 h : Nat → Int64} {g : Nat → Int32} (hv : lw_TV ws V t0 f0) (hg : lw_V ws V g h) : lw_SV t0 f0 g h := ⟨hv.1.symm.trans hg.1, fun j hj h9 => (hv.2 j hj).symm.trans (hg.2 j hj h9)⟩
/-- copied rows are as told where the others are -/
theorem lw_SV.cp {t0 : Int32} {f0 e0 h : Nat → Int64} {g : Nat → Int32} (hv : lw_SV t0 f0 g h) (h0 : ∀ j : Nat, j < 7 → e0 j = f0 j) : lw_SV t0 e0 g h := ⟨hv.1, fun j hj h9 => (h0 j hj).trans (hv.2 j hj h9)⟩
theorem lw_V.cg {ws : va_W} {V : lw_VT} {g g' : Nat → Int32} {h h' : Nat → Int64} (hv : lw_V ws V g h) (hg : ∀ j : Nat, j < 100 → g' j = g j) (hh : ∀ j : Nat, j < 15 → h' j = h j) : lw_V ws V g' h' := by
  obtain ⟨a1, a2⟩ := hv
  refine ⟨by rw [hg 0 (by decide)]; exact a1, fun j hj hj2 => ?_⟩
  rw [hg 0 (by decide)] at hj2
  rw [hh j (by omega)]
  exact a2 j hj hj2
theorem lw_VL_eq {ws : va_W} (hne : ∃ a b, cu_a ws lw_VA.1 = some a ∧ cu_a ws lw_VB.1 = some b ∧ ¬ a = b) {V V' : lw_VT} (hV : V ∈ lw_VL) (hV' : V' ∈ lw_VL) {a : Nat} (h : cu_a ws V.1 = some a) (h' : cu_a ws V'.1 = some a) : V = V' := by
  obtain ⟨p, q, e1, e2, e3⟩ := hne
  unfold lw_VL at hV hV'
  simp only [List.mem_cons, List.not_mem_nil, or_false] at hV hV'
  rcases hV with rfl | rfl <;> rcases hV' with rfl | rfl
  · rfl
  · rw [e1] at h; rw [e2] at h'; cases h; cases h'; exact absurd rfl e3
  · rw [e2] at h; rw [e1] at h'; cases h; cases h'; exact absurd rfl e3
  · rfl
theorem lw_cua {ws : va_W} {k a b : Nat} (h1 : cu_a ws k = some a) (h2 : cu_a ws k = some b) : a = b := Option.some.inj (h1.symm.trans h2)
set_option maxRecDepth 100000 in
theorem tv_I0 {X : ab_X} {D : va_G} {A : ex_A} {ws : va_W} {g9 : Nat → Option Nat} {σ : ex_S} : ∀ q ∈ lw_pI, lw_Tw X D A q.2 (WI g9 σ) ws → lw_TV ws q.1 (σ.1 0) (σ.2.2.2 0) := by
  unfold lw_pI
  refine List.forall_mem_cons.mpr ⟨?_, List.forall_mem_cons.mpr ⟨?_, List.forall_mem_cons.mpr ⟨?_, List.forall_mem_cons.mpr ⟨?_, fun _ h => nomatch h⟩⟩⟩⟩
  · intro h
    exact ⟨h.i (i := 2) (k := 12) (q := 0) rfl rfl (WI_2 _ _) rfl (by decide) rfl, fun j hj => h.q (i := 3) (k := 41) rfl rfl (WI_3 _ _) j hj hj⟩
  · intro h
    exact ⟨h.i (i := 2) (k := 12) (q := 0) rfl rfl (WI_2 _ _) rfl (by decide) rfl, fun j hj => h.q (i := 3) (k := 41) rfl rfl (WI_3 _ _) j hj hj⟩
  · intro h
    exact ⟨h.i (i := 2) (k := 11) (q := 0) rfl rfl (WI_2 _ _) rfl (by decide) rfl, fun j hj => h.q (i := 3) (k := 50) rfl rfl (WI_3 _ _) j hj hj⟩
  · intro h
    exact ⟨h.i (i := 2) (k := 11) (q := 0) rfl rfl (WI_2 _ _) rfl (by decide) rfl, fun j hj => h.q (i := 3) (k := 50) rfl rfl (WI_3 _ _) j hj hj⟩
set_option maxRecDepth 100000 in
theorem tv_I1 {X : ab_X} {D : va_G} {A : ex_A} {ws : va_W} {g9 : Nat → Option Nat} {σ : ex_S} : ∀ q ∈ lw_pI, lw_Tw X D A q.2 (WI g9 σ) ws → lw_TV ws lw_V0 (σ.1 100) (σ.2.2.2 100) := by
  unfold lw_pI
  refine List.forall_mem_cons.mpr ⟨?_, List.forall_mem_cons.mpr ⟨?_, List.forall_mem_cons.mpr ⟨?_, List.forall_mem_cons.mpr ⟨?_, fun _ h => nomatch h⟩⟩⟩⟩
  · intro h
    exact ⟨h.i (i := 18) (k := 29) (q := 0) rfl rfl (WI_18 _ _) rfl (by decide) rfl, fun j hj => h.q (i := 19) (k := 104) rfl rfl (WI_19 _ _) j hj hj⟩
  · intro h
    exact ⟨h.i (i := 18) (k := 29) (q := 0) rfl rfl (WI_18 _ _) rfl (by decide) rfl, fun j hj => h.q (i := 19) (k := 104) rfl rfl (WI_19 _ _) j hj hj⟩
  · intro h
    exact ⟨h.i (i := 18) (k := 29) (q := 0) rfl rfl (WI_18 _ _) rfl (by decide) rfl, fun j hj => h.q (i := 19) (k := 104) rfl rfl (WI_19 _ _) j hj hj⟩
  · intro h
    exact ⟨h.i (i := 18) (k := 29) (q := 0) rfl rfl (WI_18 _ _) rfl (by decide) rfl, fun j hj => h.q (i := 19) (k := 104) rfl rfl (WI_19 _ _) j hj hj⟩
set_option maxRecDepth 100000 in
theorem tv_I2 {X : ab_X} {D : va_G} {A : ex_A} {ws : va_W} {g9 : Nat → Option Nat} {σ : ex_S} : ∀ q ∈ lw_pI, lw_Tw X D A q.2 (WI g9 σ) ws → lw_TV ws lw_V1 (σ.1 200) (σ.2.2.2 200) := by
  unfold lw_pI
  refine List.forall_mem_cons.mpr ⟨?_, List.forall_mem_cons.mpr ⟨?_, List.forall_mem_cons.mpr ⟨?_, List.forall_mem_cons.mpr ⟨?_, fun _ h => nomatch h⟩⟩⟩⟩
  · intro h
    exact ⟨h.i (i := 32) (k := 28) (q := 0) rfl rfl (WI_32 _ _) rfl (by decide) rfl, fun j hj => h.q (i := 33) (k := 126) rfl rfl (WI_33 _ _) j hj hj⟩
  · intro h
    exact ⟨h.i (i := 32) (k := 28) (q := 0) rfl rfl (WI_32 _ _) rfl (by decide) rfl, fun j hj => h.q (i := 33) (k := 126) rfl rfl (WI_33 _ _) j hj hj⟩
  · intro h
    exact ⟨h.i (i := 32) (k := 28) (q := 0) rfl rfl (WI_32 _ _) rfl (by decide) rfl, fun j hj => h.q (i := 33) (k := 126) rfl rfl (WI_33 _ _) j hj hj⟩
  · intro h
    exact ⟨h.i (i := 32) (k := 28) (q := 0) rfl rfl (WI_32 _ _) rfl (by decide) rfl, fun j hj => h.q (i := 33) (k := 126) rfl rfl (WI_33 _ _) j hj hj⟩
set_option maxRecDepth 100000 in
theorem tv_S {X : ab_X} {D : va_G} {A : ex_A} {ws : va_W} {σ : ex_S} : ∀ q ∈ lw_pS, lw_Tw X D A q.2 (WS σ) ws → lw_TV ws q.1 (σ.1 11) (σ.2.2.2 1) := by
  unfold lw_pS
  refine List.forall_mem_cons.mpr ⟨?_, List.forall_mem_cons.mpr ⟨?_, List.forall_mem_cons.mpr ⟨?_, List.forall_mem_cons.mpr ⟨?_, fun _ h => nomatch h⟩⟩⟩⟩
  · intro h
    exact ⟨h.i (i := 6) (k := 12) (q := 0) rfl rfl (WS_6 _) rfl (by decide) rfl, fun j hj => h.q (i := 7) (k := 41) rfl rfl (WS_7 _) j hj hj⟩
  · intro h
    exact ⟨h.i (i := 6) (k := 12) (q := 0) rfl rfl (WS_6 _) rfl (by decide) rfl, fun j hj => h.q (i := 7) (k := 41) rfl rfl (WS_7 _) j hj hj⟩
  · intro h
    exact ⟨h.i (i := 6) (k := 11) (q := 0) rfl rfl (WS_6 _) rfl (by decide) rfl, fun j hj => h.q (i := 7) (k := 50) rfl rfl (WS_7 _) j hj hj⟩
  · intro h
    exact ⟨h.i (i := 6) (k := 11) (q := 0) rfl rfl (WS_6 _) rfl (by decide) rfl, fun j hj => h.q (i := 7) (k := 50) rfl rfl (WS_7 _) j hj hj⟩
set_option maxRecDepth 100000 in
theorem lw_S1 {X : ab_X} {D : va_G} {A : ex_A} {ws : va_W} {σ : ex_S} : ∀ q ∈ lw_pS, lw_Tw X D A q.2 (WS σ) ws → cu_i ws q.1.1 4 = σ.1 12 := by
  unfold lw_pS
  refine List.forall_mem_cons.mpr ⟨?_, List.forall_mem_cons.mpr ⟨?_, List.forall_mem_cons.mpr ⟨?_, List.forall_mem_cons.mpr ⟨?_, fun _ h => nomatch h⟩⟩⟩⟩
  · intro h
    exact h.i (i := 6) (k := 12) (q := 4) rfl rfl (WS_6 _) rfl (by decide) rfl
  · intro h
    exact h.i (i := 6) (k := 12) (q := 4) rfl rfl (WS_6 _) rfl (by decide) rfl
  · intro h
    exact h.i (i := 6) (k := 11) (q := 4) rfl rfl (WS_6 _) rfl (by decide) rfl
  · intro h
    exact h.i (i := 6) (k := 11) (q := 4) rfl rfl (WS_6 _) rfl (by decide) rfl
set_option maxRecDepth 100000 in
theorem lw_S2 {X : ab_X} {D : va_G} {A : ex_A} {ws : va_W} {σ : ex_S} : ∀ q ∈ lw_pS, lw_Tw X D A q.2 (WS σ) ws → cu_i ws q.1.1 9 = σ.1 13 := by
  unfold lw_pS
  refine List.forall_mem_cons.mpr ⟨?_, List.forall_mem_cons.mpr ⟨?_, List.forall_mem_cons.mpr ⟨?_, List.forall_mem_cons.mpr ⟨?_, fun _ h => nomatch h⟩⟩⟩⟩
  · intro h
    exact h.i (i := 6) (k := 12) (q := 9) rfl rfl (WS_6 _) rfl (by decide) rfl
  · intro h
    exact h.i (i := 6) (k := 12) (q := 9) rfl rfl (WS_6 _) rfl (by decide) rfl
  · intro h
    exact h.i (i := 6) (k := 11) (q := 9) rfl rfl (WS_6 _) rfl (by decide) rfl
  · intro h
    exact h.i (i := 6) (k := 11) (q := 9) rfl rfl (WS_6 _) rfl (by decide) rfl
set_option maxRecDepth 100000 in
theorem tv_V {X : ab_X} {D : va_G} {A : ex_A} {ws : va_W} {x : Nat × List ex_E} {y : Nat} {σ : ex_S} : ∀ q ∈ lw_pV, lw_Tw X D A q.2.2 (WA x y σ) ws → lw_TV ws q.1 (σ.1 11) (σ.2.2.2 1) := by
  unfold lw_pV
  refine List.forall_mem_cons.mpr ⟨?_, List.forall_mem_cons.mpr ⟨?_, List.forall_mem_cons.mpr ⟨?_, List.forall_mem_cons.mpr ⟨?_, fun _ h => nomatch h⟩⟩⟩⟩
  · intro h
    exact ⟨h.i (i := 6) (k := 12) (q := 0) rfl rfl (WA_6 _ _ _) rfl (by decide) rfl, fun j hj => h.q (i := 7) (k := 41) rfl rfl (WA_7 _ _ _) j hj hj⟩
  · intro h
    exact ⟨h.i (i := 6) (k := 12) (q := 0) rfl rfl (WA_6 _ _ _) rfl (by decide) rfl, fun j hj => h.q (i := 7) (k := 41) rfl rfl (WA_7 _ _ _) j hj hj⟩
  · intro h
    exact ⟨h.i (i := 6) (k := 11) (q := 0) rfl rfl (WA_6 _ _ _) rfl (by decide) rfl, fun j hj => h.q (i := 7) (k := 50) rfl rfl (WA_7 _ _ _) j hj hj⟩
  · intro h
    exact ⟨h.i (i := 6) (k := 11) (q := 0) rfl rfl (WA_6 _ _ _) rfl (by decide) rfl, fun j hj => h.q (i := 7) (k := 50) rfl rfl (WA_7 _ _ _) j hj hj⟩
set_option maxRecDepth 100000 in
theorem tv_L {X : ab_X} {D : va_G} {A : ex_A} {ws : va_W} {n y : Nat} {σ : ex_S} {u0 u1 u2 : Int32} {p0 p7 : Nat → Int64} {p1 p2 p3 p4 p5 p6 p8 p9 p10 p11 p12 : Nat → Int32} : ∀ q ∈ lw_pV, lw_Tw X D A q.2.2 (WA (n, lw_L u0 u1 u2 p0 p7 p1 p2 p3 p4 p5 p6 p8 p9 p10 p11 p12) y σ) ws → lw_TV ws q.2.1 u0 p0 := by
  unfold lw_pV
  refine List.forall_mem_cons.mpr ⟨?_, List.forall_mem_cons.mpr ⟨?_, List.forall_mem_cons.mpr ⟨?_, List.forall_mem_cons.mpr ⟨?_, fun _ h => nomatch h⟩⟩⟩⟩
  · intro h
    exact ⟨h.i (i := 26) (k := 11) (q := 0) rfl rfl rfl rfl (by decide) rfl, fun j hj => h.q (i := 27) (k := 50) rfl rfl rfl j hj hj⟩
  · intro h
    exact ⟨h.i (i := 26) (k := 11) (q := 0) rfl rfl rfl rfl (by decide) rfl, fun j hj => h.q (i := 27) (k := 50) rfl rfl rfl j hj hj⟩
  · intro h
    exact ⟨h.i (i := 26) (k := 12) (q := 0) rfl rfl rfl rfl (by decide) rfl, fun j hj => h.q (i := 27) (k := 41) rfl rfl rfl j hj hj⟩
  · intro h
    exact ⟨h.i (i := 26) (k := 12) (q := 0) rfl rfl rfl rfl (by decide) rfl, fun j hj => h.q (i := 27) (k := 41) rfl rfl rfl j hj hj⟩
