/-! What image, restore and valley do to what is kept. -/

set_option maxHeartbeats 2000000 in
theorem lw_stepI0 {ws ws1 ws2 ws3 : va_W} {X : ab_X} {D : va_G} {A A2 : ex_A} {q : lw_VT × List Nat} {g9 : Nat → Option Nat} {σ τ : ex_S} {r0 r3 : Int32} {u1 u3 : List ex_E} (hJ : lw_JX ws) (hq : q ∈ lw_pI) (hl : ∃ ad, cu_a ws q.1.1 = some ad ∧ cu_v ws 10 2 = .ref ad) (hT : lw_Tw X D A q.2 (WI g9 σ) ws) (hT1 : lw_Tw X D A q.2 u1 ws1) (hpo : (fun r w => r = (1 : Int32) ∧ ∃ (y0 : Nat → Int64) (y1 : Nat → Int32) (y2 : Nat → Int32) (y3 : Nat → Int32) (y4 : Nat → Int32) (y5 : Nat → Int32) (y6 : Nat → Int32) (y7 : Nat → Int64) (y8 : Nat → Int32) (y9 : Nat → Int32) (y10 : Nat → Int32) (y11 : Nat → Int32) (y12 : Nat → Int32) (y13 : Nat → Int32) (y14 : Nat → Int32) (y15 : Nat → Int32) (y16 : Nat → Int32) (y17 : Nat → Int32) (y18 : Nat → Int32), ((∀ j : Nat, j < 7 → y0 j = (σ.2.2.2 0) j) ∧ (∀ j : Nat, j < 7 → y1 j = (σ.2.2.1 0) j) ∧ (∀ j : Nat, j < 7 → y2 j = (σ.2.2.1 1) j) ∧ (∀ j : Nat, j < 12 → y3 j = (σ.2.2.1 2) j) ∧ (∀ j : Nat, j < 12 → y4 j = (σ.2.2.1 3) j) ∧ (∀ j : Nat, j < 12 → y5 j = (σ.2.2.1 4) j) ∧ (∀ j : Nat, j < 12 → y6 j = (σ.2.2.1 5) j) ∧ (∀ j : Nat, j < 8 → y7 j = (σ.2.2.2 1) j) ∧ (∀ j : Nat, j < 8 → y8 j = (σ.2.2.1 6) j) ∧ (∀ j : Nat, j < 8 → y9 j = (σ.2.2.1 7) j) ∧ (∀ j : Nat, j < 8 → y10 j = (σ.2.2.1 8) j) ∧ (∀ j : Nat, j < 8 → y11 j = (σ.2.2.1 9) j) ∧ (∀ j : Nat, j < 3 → y12 j = (σ.2.2.1 10) j)) ∧ w = WI g9 (sI 3100 (1 : Int32) (sR 2012 y18 (sR 2011 y17 (sR 2010 y16 (sI 2011 ((sR 1012 y15 (sR 1011 y14 (sR 1010 y13 (sI 1012 ((sR 110 y12 (sR 109 y11 (sR 108 y10 (sR 107 y9 (sR 106 y8 (sQ 101 y7 (sI 102 (σ.1 2) (sR 105 y6 (sR 104 y5 (sR 103 y4 (sR 102 y3 (sI 101 (σ.1 1) (sR 101 y2 (sR 100 y1 (sQ 100 y0 (sI 100 (σ.1 0) σ)))))))))))))))).1 1002) (sI 1011 ((sR 110 y12 (sR 109 y11 (sR 108 y10 (sR 107 y9 (sR 106 y8 (sQ 101 y7 (sI 102 (σ.1 2) (sR 105 y6 (sR 104 y5 (sR 103 y4 (sR 102 y3 (sI 101 (σ.1 1) (sR 101 y2 (sR 100 y1 (sQ 100 y0 (sI 100 (σ.1 0) σ)))))))))))))))).1 1001) (sI 1010 ((sR 110 y12 (sR 109 y11 (sR 108 y10 (sR 107 y9 (sR 106 y8 (sQ 101 y7 (sI 102 (σ.1 2) (sR 105 y6 (sR 104 y5 (sR 103 y4 (sR 102 y3 (sI 101 (σ.1 1) (sR 101 y2 (sR 100 y1 (sQ 100 y0 (sI 100 (σ.1 0) σ)))))))))))))))).1 1000) (sR 110 y12 (sR 109 y11 (sR 108 y10 (sR 107 y9 (sR 106 y8 (sQ 101 y7 (sI 102 (σ.1 2) (sR 105 y6 (sR 104 y5 (sR 103 y4 (sR 102 y3 (sI 101 (σ.1 1) (sR 101 y2 (sR 100 y1 (sQ 100 y0 (sI 100 (σ.1 0) σ)))))))))))))))))))))).1 2001) (sI 2010 ((sR 1012 y15 (sR 1011 y14 (sR 1010 y13 (sI 1012 ((sR 110 y12 (sR 109 y11 (sR 108 y10 (sR 107 y9 (sR 106 y8 (sQ 101 y7 (sI 102 (σ.1 2) (sR 105 y6 (sR 104 y5 (sR 103 y4 (sR 102 y3 (sI 101 (σ.1 1) (sR 101 y2 (sR 100 y1 (sQ 100 y0 (sI 100 (σ.1 0) σ)))))))))))))))).1 1002) (sI 1011 ((sR 110 y12 (sR 109 y11 (sR 108 y10 (sR 107 y9 (sR 106 y8 (sQ 101 y7 (sI 102 (σ.1 2) (sR 105 y6 (sR 104 y5 (sR 103 y4 (sR 102 y3 (sI 101 (σ.1 1) (sR 101 y2 (sR 100 y1 (sQ 100 y0 (sI 100 (σ.1 0) σ)))))))))))))))).1 1001) (sI 1010 ((sR 110 y12 (sR 109 y11 (sR 108 y10 (sR 107 y9 (sR 106 y8 (sQ 101 y7 (sI 102 (σ.1 2) (sR 105 y6 (sR 104 y5 (sR 103 y4 (sR 102 y3 (sI 101 (σ.1 1) (sR 101 y2 (sR 100 y1 (sQ 100 y0 (sI 100 (σ.1 0) σ)))))))))))))))).1 1000) (sR 110 y12 (sR 109 y11 (sR 108 y10 (sR 107 y9 (sR 106 y8 (sQ 101 y7 (sI 102 (σ.1 2) (sR 105 y6 (sR 104 y5 (sR 103 y4 (sR 102 y3 (sI 101 (σ.1 1) (sR 101 y2 (sR 100 y1 (sQ 100 y0 (sI 100 (σ.1 0) σ)))))))))))))))))))))).1 2000) (sR 1012 y15 (sR 1011 y14 (sR 1010 y13 (sI 1012 ((sR 110 y12 (sR 109 y11 (sR 108 y10 (sR 107 y9 (sR 106 y8 (sQ 101 y7 (sI 102 (σ.1 2) (sR 105 y6 (sR 104 y5 (sR 103 y4 (sR 102 y3 (sI 101 (σ.1 1) (sR 101 y2 (sR 100 y1 (sQ 100 y0 (sI 100 (σ.1 0) σ)))))))))))))))).1 1002) (sI 1011 ((sR 110 y12 (sR 109 y11 (sR 108 y10 (sR 107 y9 (sR 106 y8 (sQ 101 y7 (sI 102 (σ.1 2) (sR 105 y6 (sR 104 y5 (sR 103 y4 (sR 102 y3 (sI 101 (σ.1 1) (sR 101 y2 (sR 100 y1 (sQ 100 y0 (sI 100 (σ.1 0) σ)))))))))))))))).1 1001) (sI 1010 ((sR 110 y12 (sR 109 y11 (sR 108 y10 (sR 107 y9 (sR 106 y8 (sQ 101 y7 (sI 102 (σ.1 2) (sR 105 y6 (sR 104 y5 (sR 103 y4 (sR 102 y3 (sI 101 (σ.1 1) (sR 101 y2 (sR 100 y1 (sQ 100 y0 (sI 100 (σ.1 0) σ)))))))))))))))).1 1000) (sR 110 y12 (sR 109 y11 (sR 108 y10 (sR 107 y9 (sR 106 y8 (sQ 101 y7 (sI 102 (σ.1 2) (sR 105 y6 (sR 104 y5 (sR 103 y4 (sR 102 y3 (sI 101 (σ.1 1) (sR 101 y2 (sR 100 y1 (sQ 100 y0 (sI 100 (σ.1 0) σ))))))))))))))))))))))))))))) r0 u1) (sm0 : lw_same lw_R_I1_0 lw_F_I1_0 true ws ws1) (sm1 : lw_same lw_R4 lw_F4 true ws1 ws2) (hT2 : lw_Tw X D A2 lw_pJ (WJ τ) ws2) (hT3 : lw_Tw X D A2 lw_pJ u3 ws3) (hpo3 : (fun r w => r = (1 : Int32) ∧ ∃ (f : Nat → Int32) (g : Nat → Int64), ((∀ j : Nat, j < 305 → f (0 + j) = τ.2.2.1 0 j) ∧ (∀ j : Nat, (j < 0 ∨ 305 ≤ j) → f j = τ.2.2.1 1 j) ∧ (∀ j : Nat, j < 15 → g (0 + j) = τ.2.2.2 0 j) ∧ (∀ j : Nat, (j < 0 ∨ 15 ≤ j) → g j = τ.2.2.2 1 j)) ∧ w = WJ (sR 2 (upd (τ.2.2.1 2) 0 (vp_nar .boolean (1 : Int32))) (sQ 1 g (sR 1 f (sI 0 (0 : Int32) τ))))) r3 u3) (sm2 : lw_same lw_R_I2 lw_F_I2 true ws2 ws3) : lw_JX ws3 := by
  obtain ⟨h1, hne, h2, h3⟩ := hJ
  obtain ⟨-, y0, y1, y2, y3, y4, y5, y6, y7, y8, y9, y10, y11, y12, y13, y14, y15, y16, y17, y18, hf, rfl⟩ := hpo
  obtain ⟨-, f, g, ⟨e1, e2, e3, e4⟩, rfl⟩ := hpo3
  obtain ⟨ad, l1, l2⟩ := hl
  obtain ⟨a9, m1, m2⟩ := h2 q.1 (lw_pI_V q hq)
  have e9 := lw_cua m1 l1
  subst e9
  have s0 := (tv_I0 q hq hT).of (m2 l2)
  have v1 : lw_V ws1 lw_V0 (cu_f ws 1) (cu_q ws 149) := (tv_I1 q hq hT1).to (lw_SV.cp s0 hf.1)
  have es : ∀ j : Nat, j < 100 → cu_f ws2 1 j = cu_f ws 1 j := fun j hj => (sm1.2.2.1 rfl j hj).trans (sm0.2.2.1 rfl j hj)
  have i3 : ∀ j : Nat, j < 610 → cu_f ws3 7 j = f j := fun j hj => hT3.f (i := 3) (k := 7) rfl rfl (Or.inl rfl) (WJ_3 _) j hj hj
  have i2 : ∀ j : Nat, j < 610 → cu_f ws2 7 j = τ.2.2.1 1 j := fun j hj => hT2.f (i := 3) (k := 7) rfl rfl (Or.inl rfl) (WJ_3 _) j hj hj
  have s2 : ∀ j : Nat, j < 305 → cu_f ws2 1 j = τ.2.2.1 0 j := fun j hj => hT2.f (i := 1) (k := 1) rfl rfl (Or.inl rfl) (WJ_1 _) j hj hj
  have n3 : ∀ j : Nat, j < 30 → cu_q ws3 164 j = g j := fun j hj => hT3.q (i := 4) (k := 164) rfl rfl (WJ_4 _) j hj hj
  have n2 : ∀ j : Nat, j < 30 → cu_q ws2 164 j = τ.2.2.2 1 j := fun j hj => hT2.q (i := 4) (k := 164) rfl rfl (WJ_4 _) j hj hj
  have m2' : ∀ j : Nat, j < 30 → cu_q ws2 149 j = τ.2.2.2 0 j := fun j hj => hT2.q (i := 2) (k := 149) rfl rfl (WJ_2 _) j hj hj
  have eN : cu_q ws2 149 = cu_q ws 149 := ((sm1.1 149 1 30 (by decide)).2 rfl).trans ((sm0.1 149 1 30 (by decide)).2 rfl)
  have eN3 : cu_q ws3 149 = cu_q ws 149 := ((sm2.1 149 1 30 (by decide)).2 rfl).trans eN
  have eNK : cu_q ws2 164 = cu_q ws 164 := ((sm1.1 164 1 30 (by decide)).2 rfl).trans ((sm0.1 164 1 30 (by decide)).2 rfl)
  have k3 : ∀ j : Nat, j < 2 → cu_f ws3 165 j = upd (τ.2.2.1 2) 0 (vp_nar .boolean (1 : Int32)) j := fun j hj => hT3.f (i := 5) (k := 165) rfl rfl (Or.inr (Or.inr rfl)) (WJ_5 _) j hj hj
  have k2 : ∀ j : Nat, j < 2 → cu_f ws2 165 j = τ.2.2.1 2 j := fun j hj => hT2.f (i := 5) (k := 165) rfl rfl (Or.inr (Or.inr rfl)) (WJ_5 _) j hj hj
  have eI : cu_f ws2 7 = cu_f ws 7 := ((sm1.1 7 0 610 (by decide)).1 (Or.inl rfl)).trans ((sm0.1 7 0 610 (by decide)).1 (Or.inl rfl))
  have eK : cu_f ws2 165 = cu_f ws 165 := ((sm1.1 165 3 2 (by decide)).1 (Or.inr (Or.inr rfl))).trans ((sm0.1 165 3 2 (by decide)).1 (Or.inr (Or.inr rfl)))
  have n1 : vp_nar .boolean (1 : Int32) = 1 := by decide +kernel
  have fv : ∀ k i j : Nat, (k, i, j) ∈ lw_F_I1_0 → (k, i, j) ∈ lw_F4 → (k, i, j) ∈ lw_F_I2 → cu_v ws3 k j = cu_v ws k j := fun k i j m1 m2 m3 => ((sm2.2.1 k i j m3).trans (sm1.2.1 k i j m2)).trans (sm0.2.1 k i j m1)
  have el := fv 10 10 2 (by decide) (by decide) (by decide)
  have ed := fv 10 10 3 (by decide) (by decide) (by decide)
  have ad3 : ∀ k a, cu_a ws k = some a → cu_a ws3 k = some a := fun k a h => sm2.2.2.2 k a (sm1.2.2.2 k a (sm0.2.2.2 k a h))
  refine ⟨by rw [el, ed]; exact h1, ?_, fun V hV => ?_, List.forall_mem_cons.mpr ⟨?_, List.forall_mem_cons.mpr ⟨?_, fun _ h => nomatch h⟩⟩⟩
  · obtain ⟨a, b, b1, b2, b3⟩ := hne
    exact ⟨a, b, ad3 _ _ b1, ad3 _ _ b2, b3⟩
  · obtain ⟨a, n1', n2'⟩ := h2 V hV
    refine ⟨a, ad3 _ _ n1', fun e => ?_⟩
    rw [el] at e
    exact (((n2' e).same sm0 (lw_VinL_I1_0 V hV) (sm0.2.2.1 rfl) (h' := cu_q ws 149) (fun _ _ => rfl)).same sm1 (lw_VinL V hV) (sm1.2.2.1 rfl) (h' := cu_q ws 149) (fun _ _ => rfl)).same sm2 (lw_VinL_I2 V hV) (sm2.2.2.1 rfl) (fun j _ => by rw [eN3])
  · have i1 : cu_i ws1 103 3 = 1 := hT1.i (i := 16) (k := 103) (q := 3) (lw_pI_x q hq).1 rfl (WI_16 _ _) rfl (by decide) rfl
    have i4 : cu_i ws3 103 3 = cu_i ws1 103 3 := by
      unfold cu_i
      rw [(sm2.2.1 103 2 3 (by decide)).trans (sm1.2.1 103 2 3 (by decide))]
    have kk : cu_f ws3 165 0 = 1 := by
      rw [k3 0 (by decide)]
      unfold upd
      rw [if_pos rfl, n1]
    refine ⟨by rw [i4, i1, kk], fun _ => ?_⟩
    have v2 := (v1.same sm1 (lw_VinI _ (List.mem_of_getElem? (show lw_IL[0]? = _ from rfl))).1 (g' := cu_f ws 1) (h' := cu_q ws 149) (fun _ _ => rfl) (fun _ _ => rfl)).same sm2 lw_VinI_I2_0 (g' := cu_f ws 1) (h' := cu_q ws 149) (fun _ _ => rfl) (fun _ _ => rfl)
    refine v2.cg (fun j hj => ?_) (fun j hj => ?_)
    · show cu_f ws3 7 (305 * 0 + j) = _
      have g1 : 305 * 0 + j = 0 + j := rfl
      rw [g1, i3 (0 + j) (by omega), e1 j (by omega), ← s2 j (by omega), es j hj]
    · show cu_q ws3 164 (15 * 0 + j) = _
      have g1 : 15 * 0 + j = 0 + j := rfl
      rw [g1, n3 (0 + j) (by omega), e3 j (by omega), ← m2' j (by omega), eN]
  · obtain ⟨a1, a2⟩ := h3 _ (List.mem_of_getElem? (show lw_IL[1]? = _ from rfl))
    have i4 : cu_i ws3 125 3 = cu_i ws 125 3 := by
      unfold cu_i
      rw [fv 125 2 3 (by decide) (by decide) (by decide)]
    have kk : cu_f ws3 165 1 = cu_f ws 165 1 := by
      rw [k3 1 (by decide)]
      unfold upd
      rw [if_neg (by decide), ← k2 1 (by decide), eK]
    refine ⟨i4.trans (a1.trans kk.symm), fun e => ?_⟩
    have e' : ¬ cu_f ws 165 1 = 0 := by rw [← kk]; exact e
    refine (((a2 e').same sm0 lw_VinI_I1_0_1 (fun _ _ => rfl) (fun _ _ => rfl)).same sm1 (lw_VinI _ (List.mem_of_getElem? (show lw_IL[1]? = _ from rfl))).1 (fun _ _ => rfl) (fun _ _ => rfl)).same sm2 lw_VinI_I2_1 (fun j hj => ?_) (fun j hj => ?_)
    · show cu_f ws3 7 (305 * 1 + j) = cu_f ws 7 (305 * 1 + j)
      rw [i3 _ (by omega), e2 _ (by omega), ← i2 _ (by omega), eI]
    · show cu_q ws3 164 (15 * 1 + j) = cu_q ws 164 (15 * 1 + j)
      rw [n3 _ (by omega), e4 _ (by omega), ← n2 _ (by omega), eNK]

set_option maxHeartbeats 2000000 in
theorem lw_stepI1 {ws ws1 ws2 ws3 : va_W} {X : ab_X} {D : va_G} {A A2 : ex_A} {q : lw_VT × List Nat} {g9 : Nat → Option Nat} {σ τ : ex_S} {r0 r3 : Int32} {u1 u3 : List ex_E} (hJ : lw_JX ws) (hq : q ∈ lw_pI) (hl : ∃ ad, cu_a ws q.1.1 = some ad ∧ cu_v ws 10 2 = .ref ad) (hT : lw_Tw X D A q.2 (WI g9 σ) ws) (hT1 : lw_Tw X D A q.2 u1 ws1) (hpo : (fun r w => r = (1 : Int32) ∧ ∃ (y0 : Nat → Int64) (y1 : Nat → Int32) (y2 : Nat → Int32) (y3 : Nat → Int32) (y4 : Nat → Int32) (y5 : Nat → Int32) (y6 : Nat → Int32) (y7 : Nat → Int64) (y8 : Nat → Int32) (y9 : Nat → Int32) (y10 : Nat → Int32) (y11 : Nat → Int32) (y12 : Nat → Int32) (y13 : Nat → Int32) (y14 : Nat → Int32) (y15 : Nat → Int32) (y16 : Nat → Int32) (y17 : Nat → Int32) (y18 : Nat → Int32), ((∀ j : Nat, j < 7 → y0 j = (σ.2.2.2 0) j) ∧ (∀ j : Nat, j < 7 → y1 j = (σ.2.2.1 0) j) ∧ (∀ j : Nat, j < 7 → y2 j = (σ.2.2.1 1) j) ∧ (∀ j : Nat, j < 12 → y3 j = (σ.2.2.1 2) j) ∧ (∀ j : Nat, j < 12 → y4 j = (σ.2.2.1 3) j) ∧ (∀ j : Nat, j < 12 → y5 j = (σ.2.2.1 4) j) ∧ (∀ j : Nat, j < 12 → y6 j = (σ.2.2.1 5) j) ∧ (∀ j : Nat, j < 8 → y7 j = (σ.2.2.2 1) j) ∧ (∀ j : Nat, j < 8 → y8 j = (σ.2.2.1 6) j) ∧ (∀ j : Nat, j < 8 → y9 j = (σ.2.2.1 7) j) ∧ (∀ j : Nat, j < 8 → y10 j = (σ.2.2.1 8) j) ∧ (∀ j : Nat, j < 8 → y11 j = (σ.2.2.1 9) j) ∧ (∀ j : Nat, j < 3 → y12 j = (σ.2.2.1 10) j)) ∧ w = WI g9 (sI 3101 (1 : Int32) (sR 2022 y18 (sR 2021 y17 (sR 2020 y16 (sI 2021 ((sR 1022 y15 (sR 1021 y14 (sR 1020 y13 (sI 1022 ((sR 210 y12 (sR 209 y11 (sR 208 y10 (sR 207 y9 (sR 206 y8 (sQ 201 y7 (sI 202 (σ.1 2) (sR 205 y6 (sR 204 y5 (sR 203 y4 (sR 202 y3 (sI 201 (σ.1 1) (sR 201 y2 (sR 200 y1 (sQ 200 y0 (sI 200 (σ.1 0) σ)))))))))))))))).1 1002) (sI 1021 ((sR 210 y12 (sR 209 y11 (sR 208 y10 (sR 207 y9 (sR 206 y8 (sQ 201 y7 (sI 202 (σ.1 2) (sR 205 y6 (sR 204 y5 (sR 203 y4 (sR 202 y3 (sI 201 (σ.1 1) (sR 201 y2 (sR 200 y1 (sQ 200 y0 (sI 200 (σ.1 0) σ)))))))))))))))).1 1001) (sI 1020 ((sR 210 y12 (sR 209 y11 (sR 208 y10 (sR 207 y9 (sR 206 y8 (sQ 201 y7 (sI 202 (σ.1 2) (sR 205 y6 (sR 204 y5 (sR 203 y4 (sR 202 y3 (sI 201 (σ.1 1) (sR 201 y2 (sR 200 y1 (sQ 200 y0 (sI 200 (σ.1 0) σ)))))))))))))))).1 1000) (sR 210 y12 (sR 209 y11 (sR 208 y10 (sR 207 y9 (sR 206 y8 (sQ 201 y7 (sI 202 (σ.1 2) (sR 205 y6 (sR 204 y5 (sR 203 y4 (sR 202 y3 (sI 201 (σ.1 1) (sR 201 y2 (sR 200 y1 (sQ 200 y0 (sI 200 (σ.1 0) σ)))))))))))))))))))))).1 2001) (sI 2020 ((sR 1022 y15 (sR 1021 y14 (sR 1020 y13 (sI 1022 ((sR 210 y12 (sR 209 y11 (sR 208 y10 (sR 207 y9 (sR 206 y8 (sQ 201 y7 (sI 202 (σ.1 2) (sR 205 y6 (sR 204 y5 (sR 203 y4 (sR 202 y3 (sI 201 (σ.1 1) (sR 201 y2 (sR 200 y1 (sQ 200 y0 (sI 200 (σ.1 0) σ)))))))))))))))).1 1002) (sI 1021 ((sR 210 y12 (sR 209 y11 (sR 208 y10 (sR 207 y9 (sR 206 y8 (sQ 201 y7 (sI 202 (σ.1 2) (sR 205 y6 (sR 204 y5 (sR 203 y4 (sR 202 y3 (sI 201 (σ.1 1) (sR 201 y2 (sR 200 y1 (sQ 200 y0 (sI 200 (σ.1 0) σ)))))))))))))))).1 1001) (sI 1020 ((sR 210 y12 (sR 209 y11 (sR 208 y10 (sR 207 y9 (sR 206 y8 (sQ 201 y7 (sI 202 (σ.1 2) (sR 205 y6 (sR 204 y5 (sR 203 y4 (sR 202 y3 (sI 201 (σ.1 1) (sR 201 y2 (sR 200 y1 (sQ 200 y0 (sI 200 (σ.1 0) σ)))))))))))))))).1 1000) (sR 210 y12 (sR 209 y11 (sR 208 y10 (sR 207 y9 (sR 206 y8 (sQ 201 y7 (sI 202 (σ.1 2) (sR 205 y6 (sR 204 y5 (sR 203 y4 (sR 202 y3 (sI 201 (σ.1 1) (sR 201 y2 (sR 200 y1 (sQ 200 y0 (sI 200 (σ.1 0) σ)))))))))))))))))))))).1 2000) (sR 1022 y15 (sR 1021 y14 (sR 1020 y13 (sI 1022 ((sR 210 y12 (sR 209 y11 (sR 208 y10 (sR 207 y9 (sR 206 y8 (sQ 201 y7 (sI 202 (σ.1 2) (sR 205 y6 (sR 204 y5 (sR 203 y4 (sR 202 y3 (sI 201 (σ.1 1) (sR 201 y2 (sR 200 y1 (sQ 200 y0 (sI 200 (σ.1 0) σ)))))))))))))))).1 1002) (sI 1021 ((sR 210 y12 (sR 209 y11 (sR 208 y10 (sR 207 y9 (sR 206 y8 (sQ 201 y7 (sI 202 (σ.1 2) (sR 205 y6 (sR 204 y5 (sR 203 y4 (sR 202 y3 (sI 201 (σ.1 1) (sR 201 y2 (sR 200 y1 (sQ 200 y0 (sI 200 (σ.1 0) σ)))))))))))))))).1 1001) (sI 1020 ((sR 210 y12 (sR 209 y11 (sR 208 y10 (sR 207 y9 (sR 206 y8 (sQ 201 y7 (sI 202 (σ.1 2) (sR 205 y6 (sR 204 y5 (sR 203 y4 (sR 202 y3 (sI 201 (σ.1 1) (sR 201 y2 (sR 200 y1 (sQ 200 y0 (sI 200 (σ.1 0) σ)))))))))))))))).1 1000) (sR 210 y12 (sR 209 y11 (sR 208 y10 (sR 207 y9 (sR 206 y8 (sQ 201 y7 (sI 202 (σ.1 2) (sR 205 y6 (sR 204 y5 (sR 203 y4 (sR 202 y3 (sI 201 (σ.1 1) (sR 201 y2 (sR 200 y1 (sQ 200 y0 (sI 200 (σ.1 0) σ))))))))))))))))))))))))))))) r0 u1) (sm0 : lw_same lw_R_I1_1 lw_F_I1_1 true ws ws1) (sm1 : lw_same lw_R4 lw_F4 true ws1 ws2) (hT2 : lw_Tw X D A2 lw_pJ (WJ τ) ws2) (hT3 : lw_Tw X D A2 lw_pJ u3 ws3) (hpo3 : (fun r w => r = (1 : Int32) ∧ ∃ (f : Nat → Int32) (g : Nat → Int64), ((∀ j : Nat, j < 305 → f (305 + j) = τ.2.2.1 0 j) ∧ (∀ j : Nat, (j < 305 ∨ 610 ≤ j) → f j = τ.2.2.1 1 j) ∧ (∀ j : Nat, j < 15 → g (15 + j) = τ.2.2.2 0 j) ∧ (∀ j : Nat, (j < 15 ∨ 30 ≤ j) → g j = τ.2.2.2 1 j)) ∧ w = WJ (sR 2 (upd (τ.2.2.1 2) 1 (vp_nar .boolean (1 : Int32))) (sQ 1 g (sR 1 f (sI 0 (0 : Int32) τ))))) r3 u3) (sm2 : lw_same lw_R_I2 lw_F_I2 true ws2 ws3) : lw_JX ws3 := by
  obtain ⟨h1, hne, h2, h3⟩ := hJ
  obtain ⟨-, y0, y1, y2, y3, y4, y5, y6, y7, y8, y9, y10, y11, y12, y13, y14, y15, y16, y17, y18, hf, rfl⟩ := hpo
  obtain ⟨-, f, g, ⟨e1, e2, e3, e4⟩, rfl⟩ := hpo3
  obtain ⟨ad, l1, l2⟩ := hl
  obtain ⟨a9, m1, m2⟩ := h2 q.1 (lw_pI_V q hq)
  have e9 := lw_cua m1 l1
  subst e9
  have s0 := (tv_I0 q hq hT).of (m2 l2)
  have v1 : lw_V ws1 lw_V1 (cu_f ws 1) (cu_q ws 149) := (tv_I2 q hq hT1).to (lw_SV.cp s0 hf.1)
  have es : ∀ j : Nat, j < 100 → cu_f ws2 1 j = cu_f ws 1 j := fun j hj => (sm1.2.2.1 rfl j hj).trans (sm0.2.2.1 rfl j hj)
  have i3 : ∀ j : Nat, j < 610 → cu_f ws3 7 j = f j := fun j hj => hT3.f (i := 3) (k := 7) rfl rfl (Or.inl rfl) (WJ_3 _) j hj hj
  have i2 : ∀ j : Nat, j < 610 → cu_f ws2 7 j = τ.2.2.1 1 j := fun j hj => hT2.f (i := 3) (k := 7) rfl rfl (Or.inl rfl) (WJ_3 _) j hj hj
  have s2 : ∀ j : Nat, j < 305 → cu_f ws2 1 j = τ.2.2.1 0 j := fun j hj => hT2.f (i := 1) (k := 1) rfl rfl (Or.inl rfl) (WJ_1 _) j hj hj
  have n3 : ∀ j : Nat, j < 30 → cu_q ws3 164 j = g j := fun j hj => hT3.q (i := 4) (k := 164) rfl rfl (WJ_4 _) j hj hj
  have n2 : ∀ j : Nat, j < 30 → cu_q ws2 164 j = τ.2.2.2 1 j := fun j hj => hT2.q (i := 4) (k := 164) rfl rfl (WJ_4 _) j hj hj
  have m2' : ∀ j : Nat, j < 30 → cu_q ws2 149 j = τ.2.2.2 0 j := fun j hj => hT2.q (i := 2) (k := 149) rfl rfl (WJ_2 _) j hj hj
  have eN : cu_q ws2 149 = cu_q ws 149 := ((sm1.1 149 1 30 (by decide)).2 rfl).trans ((sm0.1 149 1 30 (by decide)).2 rfl)
  have eN3 : cu_q ws3 149 = cu_q ws 149 := ((sm2.1 149 1 30 (by decide)).2 rfl).trans eN
  have eNK : cu_q ws2 164 = cu_q ws 164 := ((sm1.1 164 1 30 (by decide)).2 rfl).trans ((sm0.1 164 1 30 (by decide)).2 rfl)
  have k3 : ∀ j : Nat, j < 2 → cu_f ws3 165 j = upd (τ.2.2.1 2) 1 (vp_nar .boolean (1 : Int32)) j := fun j hj => hT3.f (i := 5) (k := 165) rfl rfl (Or.inr (Or.inr rfl)) (WJ_5 _) j hj hj
  have k2 : ∀ j : Nat, j < 2 → cu_f ws2 165 j = τ.2.2.1 2 j := fun j hj => hT2.f (i := 5) (k := 165) rfl rfl (Or.inr (Or.inr rfl)) (WJ_5 _) j hj hj
  have eI : cu_f ws2 7 = cu_f ws 7 := ((sm1.1 7 0 610 (by decide)).1 (Or.inl rfl)).trans ((sm0.1 7 0 610 (by decide)).1 (Or.inl rfl))
  have eK : cu_f ws2 165 = cu_f ws 165 := ((sm1.1 165 3 2 (by decide)).1 (Or.inr (Or.inr rfl))).trans ((sm0.1 165 3 2 (by decide)).1 (Or.inr (Or.inr rfl)))
  have n1 : vp_nar .boolean (1 : Int32) = 1 := by decide +kernel
  have fv : ∀ k i j : Nat, (k, i, j) ∈ lw_F_I1_1 → (k, i, j) ∈ lw_F4 → (k, i, j) ∈ lw_F_I2 → cu_v ws3 k j = cu_v ws k j := fun k i j m1 m2 m3 => ((sm2.2.1 k i j m3).trans (sm1.2.1 k i j m2)).trans (sm0.2.1 k i j m1)
  have el := fv 10 10 2 (by decide) (by decide) (by decide)
  have ed := fv 10 10 3 (by decide) (by decide) (by decide)
  have ad3 : ∀ k a, cu_a ws k = some a → cu_a ws3 k = some a := fun k a h => sm2.2.2.2 k a (sm1.2.2.2 k a (sm0.2.2.2 k a h))
  refine ⟨by rw [el, ed]; exact h1, ?_, fun V hV => ?_, List.forall_mem_cons.mpr ⟨?_, List.forall_mem_cons.mpr ⟨?_, fun _ h => nomatch h⟩⟩⟩
  · obtain ⟨a, b, b1, b2, b3⟩ := hne
    exact ⟨a, b, ad3 _ _ b1, ad3 _ _ b2, b3⟩
  · obtain ⟨a, n1', n2'⟩ := h2 V hV
    refine ⟨a, ad3 _ _ n1', fun e => ?_⟩
    rw [el] at e
    exact (((n2' e).same sm0 (lw_VinL_I1_1 V hV) (sm0.2.2.1 rfl) (h' := cu_q ws 149) (fun _ _ => rfl)).same sm1 (lw_VinL V hV) (sm1.2.2.1 rfl) (h' := cu_q ws 149) (fun _ _ => rfl)).same sm2 (lw_VinL_I2 V hV) (sm2.2.2.1 rfl) (fun j _ => by rw [eN3])
  · obtain ⟨a1, a2⟩ := h3 _ (List.mem_of_getElem? (show lw_IL[0]? = _ from rfl))
    have i4 : cu_i ws3 103 3 = cu_i ws 103 3 := by
      unfold cu_i
      rw [fv 103 2 3 (by decide) (by decide) (by decide)]
    have kk : cu_f ws3 165 0 = cu_f ws 165 0 := by
      rw [k3 0 (by decide)]
      unfold upd
      rw [if_neg (by decide), ← k2 0 (by decide), eK]
    refine ⟨i4.trans (a1.trans kk.symm), fun e => ?_⟩
    have e' : ¬ cu_f ws 165 0 = 0 := by rw [← kk]; exact e
    refine (((a2 e').same sm0 lw_VinI_I1_1_0 (fun _ _ => rfl) (fun _ _ => rfl)).same sm1 (lw_VinI _ (List.mem_of_getElem? (show lw_IL[0]? = _ from rfl))).1 (fun _ _ => rfl) (fun _ _ => rfl)).same sm2 lw_VinI_I2_0 (fun j hj => ?_) (fun j hj => ?_)
    · show cu_f ws3 7 (305 * 0 + j) = cu_f ws 7 (305 * 0 + j)
      rw [i3 _ (by omega), e2 _ (by omega), ← i2 _ (by omega), eI]
    · show cu_q ws3 164 (15 * 0 + j) = cu_q ws 164 (15 * 0 + j)
      rw [n3 _ (by omega), e4 _ (by omega), ← n2 _ (by omega), eNK]
  · have i1 : cu_i ws1 125 3 = 1 := hT1.i (i := 17) (k := 125) (q := 3) (lw_pI_x q hq).2 rfl (WI_17 _ _) rfl (by decide) rfl
    have i4 : cu_i ws3 125 3 = cu_i ws1 125 3 := by
      unfold cu_i
      rw [(sm2.2.1 125 2 3 (by decide)).trans (sm1.2.1 125 2 3 (by decide))]
    have kk : cu_f ws3 165 1 = 1 := by
      rw [k3 1 (by decide)]
      unfold upd
      rw [if_pos rfl, n1]
    refine ⟨by rw [i4, i1, kk], fun _ => ?_⟩
    have v2 := (v1.same sm1 (lw_VinI _ (List.mem_of_getElem? (show lw_IL[1]? = _ from rfl))).1 (g' := cu_f ws 1) (h' := cu_q ws 149) (fun _ _ => rfl) (fun _ _ => rfl)).same sm2 lw_VinI_I2_1 (g' := cu_f ws 1) (h' := cu_q ws 149) (fun _ _ => rfl) (fun _ _ => rfl)
    refine v2.cg (fun j hj => ?_) (fun j hj => ?_)
    · show cu_f ws3 7 (305 * 1 + j) = _
      have g1 : 305 * 1 + j = 305 + j := rfl
      rw [g1, i3 (305 + j) (by omega), e1 j (by omega), ← s2 j (by omega), es j hj]
    · show cu_q ws3 164 (15 * 1 + j) = _
      have g1 : 15 * 1 + j = 15 + j := rfl
      rw [g1, n3 (15 + j) (by omega), e3 j (by omega), ← m2' j (by omega), eN]

set_option maxHeartbeats 2000000 in
theorem lw_stepR0 {ws ws1 ws2 ws3 : va_W} {X : ab_X} {D : va_G} {A A2 : ex_A} {q : lw_VT × List Nat} {g9 : Nat → Option Nat} {σ τ : ex_S} {r0 r3 : Int32} {u1 u3 : List ex_E} (hJ : lw_JX ws) (hq : q ∈ lw_pI) (hl : ∃ ad, cu_a ws q.1.1 = some ad ∧ cu_v ws 10 2 = .ref ad) (hT : lw_Tw X D A q.2 (WI g9 σ) ws) (hT1 : lw_Tw X D A q.2 u1 ws1) (hpo : (fun r w => (r = (0 : Int32) ∧ σ.1 3100 = 0 ∧ w = WI g9 σ) ∨ (r = (1 : Int32) ∧ ¬ σ.1 3100 = 0 ∧ ∃ (y0 : Nat → Int64) (y1 : Nat → Int32) (y2 : Nat → Int32) (y3 : Nat → Int32) (y4 : Nat → Int32) (y5 : Nat → Int32) (y6 : Nat → Int32) (y7 : Nat → Int64) (y8 : Nat → Int32) (y9 : Nat → Int32) (y10 : Nat → Int32) (y11 : Nat → Int32) (y12 : Nat → Int32) (y13 : Nat → Int32) (y14 : Nat → Int32) (y15 : Nat → Int32) (y16 : Nat → Int32) (y17 : Nat → Int32) (y18 : Nat → Int32), ((∀ j : Nat, j < 7 → y0 j = (σ.2.2.2 100) j) ∧ (∀ j : Nat, j < 7 → y1 j = (σ.2.2.1 100) j) ∧ (∀ j : Nat, j < 7 → y2 j = (σ.2.2.1 101) j) ∧ (∀ j : Nat, j < 12 → y3 j = (σ.2.2.1 102) j) ∧ (∀ j : Nat, j < 12 → y4 j = (σ.2.2.1 103) j) ∧ (∀ j : Nat, j < 12 → y5 j = (σ.2.2.1 104) j) ∧ (∀ j : Nat, j < 12 → y6 j = (σ.2.2.1 105) j) ∧ (∀ j : Nat, j < 8 → y7 j = (σ.2.2.2 101) j) ∧ (∀ j : Nat, j < 8 → y8 j = (σ.2.2.1 106) j) ∧ (∀ j : Nat, j < 8 → y9 j = (σ.2.2.1 107) j) ∧ (∀ j : Nat, j < 8 → y10 j = (σ.2.2.1 108) j) ∧ (∀ j : Nat, j < 8 → y11 j = (σ.2.2.1 109) j) ∧ (∀ j : Nat, j < 3 → y12 j = (σ.2.2.1 110) j)) ∧ w = WI g9 (sI 3200 (0 : Int32) (sR 2002 y18 (sR 2001 y17 (sR 2000 y16 (sI 2001 ((sR 1002 y15 (sR 1001 y14 (sR 1000 y13 (sI 1002 ((sR 10 y12 (sR 9 y11 (sR 8 y10 (sR 7 y9 (sR 6 y8 (sQ 1 y7 (sI 2 (σ.1 102) (sR 5 y6 (sR 4 y5 (sR 3 y4 (sR 2 y3 (sI 1 (σ.1 101) (sR 1 y2 (sR 0 y1 (sQ 0 y0 (sI 0 (σ.1 100) σ)))))))))))))))).1 1012) (sI 1001 ((sR 10 y12 (sR 9 y11 (sR 8 y10 (sR 7 y9 (sR 6 y8 (sQ 1 y7 (sI 2 (σ.1 102) (sR 5 y6 (sR 4 y5 (sR 3 y4 (sR 2 y3 (sI 1 (σ.1 101) (sR 1 y2 (sR 0 y1 (sQ 0 y0 (sI 0 (σ.1 100) σ)))))))))))))))).1 1011) (sI 1000 ((sR 10 y12 (sR 9 y11 (sR 8 y10 (sR 7 y9 (sR 6 y8 (sQ 1 y7 (sI 2 (σ.1 102) (sR 5 y6 (sR 4 y5 (sR 3 y4 (sR 2 y3 (sI 1 (σ.1 101) (sR 1 y2 (sR 0 y1 (sQ 0 y0 (sI 0 (σ.1 100) σ)))))))))))))))).1 1010) (sR 10 y12 (sR 9 y11 (sR 8 y10 (sR 7 y9 (sR 6 y8 (sQ 1 y7 (sI 2 (σ.1 102) (sR 5 y6 (sR 4 y5 (sR 3 y4 (sR 2 y3 (sI 1 (σ.1 101) (sR 1 y2 (sR 0 y1 (sQ 0 y0 (sI 0 (σ.1 100) σ)))))))))))))))))))))).1 2011) (sI 2000 ((sR 1002 y15 (sR 1001 y14 (sR 1000 y13 (sI 1002 ((sR 10 y12 (sR 9 y11 (sR 8 y10 (sR 7 y9 (sR 6 y8 (sQ 1 y7 (sI 2 (σ.1 102) (sR 5 y6 (sR 4 y5 (sR 3 y4 (sR 2 y3 (sI 1 (σ.1 101) (sR 1 y2 (sR 0 y1 (sQ 0 y0 (sI 0 (σ.1 100) σ)))))))))))))))).1 1012) (sI 1001 ((sR 10 y12 (sR 9 y11 (sR 8 y10 (sR 7 y9 (sR 6 y8 (sQ 1 y7 (sI 2 (σ.1 102) (sR 5 y6 (sR 4 y5 (sR 3 y4 (sR 2 y3 (sI 1 (σ.1 101) (sR 1 y2 (sR 0 y1 (sQ 0 y0 (sI 0 (σ.1 100) σ)))))))))))))))).1 1011) (sI 1000 ((sR 10 y12 (sR 9 y11 (sR 8 y10 (sR 7 y9 (sR 6 y8 (sQ 1 y7 (sI 2 (σ.1 102) (sR 5 y6 (sR 4 y5 (sR 3 y4 (sR 2 y3 (sI 1 (σ.1 101) (sR 1 y2 (sR 0 y1 (sQ 0 y0 (sI 0 (σ.1 100) σ)))))))))))))))).1 1010) (sR 10 y12 (sR 9 y11 (sR 8 y10 (sR 7 y9 (sR 6 y8 (sQ 1 y7 (sI 2 (σ.1 102) (sR 5 y6 (sR 4 y5 (sR 3 y4 (sR 2 y3 (sI 1 (σ.1 101) (sR 1 y2 (sR 0 y1 (sQ 0 y0 (sI 0 (σ.1 100) σ)))))))))))))))))))))).1 2010) (sR 1002 y15 (sR 1001 y14 (sR 1000 y13 (sI 1002 ((sR 10 y12 (sR 9 y11 (sR 8 y10 (sR 7 y9 (sR 6 y8 (sQ 1 y7 (sI 2 (σ.1 102) (sR 5 y6 (sR 4 y5 (sR 3 y4 (sR 2 y3 (sI 1 (σ.1 101) (sR 1 y2 (sR 0 y1 (sQ 0 y0 (sI 0 (σ.1 100) σ)))))))))))))))).1 1012) (sI 1001 ((sR 10 y12 (sR 9 y11 (sR 8 y10 (sR 7 y9 (sR 6 y8 (sQ 1 y7 (sI 2 (σ.1 102) (sR 5 y6 (sR 4 y5 (sR 3 y4 (sR 2 y3 (sI 1 (σ.1 101) (sR 1 y2 (sR 0 y1 (sQ 0 y0 (sI 0 (σ.1 100) σ)))))))))))))))).1 1011) (sI 1000 ((sR 10 y12 (sR 9 y11 (sR 8 y10 (sR 7 y9 (sR 6 y8 (sQ 1 y7 (sI 2 (σ.1 102) (sR 5 y6 (sR 4 y5 (sR 3 y4 (sR 2 y3 (sI 1 (σ.1 101) (sR 1 y2 (sR 0 y1 (sQ 0 y0 (sI 0 (σ.1 100) σ)))))))))))))))).1 1010) (sR 10 y12 (sR 9 y11 (sR 8 y10 (sR 7 y9 (sR 6 y8 (sQ 1 y7 (sI 2 (σ.1 102) (sR 5 y6 (sR 4 y5 (sR 3 y4 (sR 2 y3 (sI 1 (σ.1 101) (sR 1 y2 (sR 0 y1 (sQ 0 y0 (sI 0 (σ.1 100) σ)))))))))))))))))))))))))))))) r0 u1) (sm0 : lw_same lw_R_R1 lw_F_R1 true ws ws1) (sm1 : lw_same lw_R4 lw_F4 true ws1 ws2) (hT2 : lw_Tw X D A2 lw_pJ (WJ τ) ws2) (hT3 : lw_Tw X D A2 lw_pJ u3 ws3) (hpo3 : (fun r w => (r = (0 : Int32) ∧ τ.2.2.1 2 0 = 0 ∧ w = WJ (sI 0 (0 : Int32) τ)) ∨ (r = (1 : Int32) ∧ ¬ τ.2.2.1 2 0 = 0 ∧ ∃ (f : Nat → Int32) (g : Nat → Int64), ((∀ j : Nat, j < 305 → f j = τ.2.2.1 1 (0 + j)) ∧ (∀ j : Nat, j < 15 → g j = τ.2.2.2 1 (0 + j))) ∧ w = WJ (sI 14 (0 : Int32) (sQ 0 g (sR 0 f (sI 0 (0 : Int32) τ)))))) r3 u3) (sm2 : lw_same lw_R_R2 lw_F_R2 false ws2 ws3) : lw_JX ws3 := by
  obtain ⟨h1, hne, h2, h3⟩ := hJ
  obtain ⟨ad, l1, l2⟩ := hl
  obtain ⟨a9, m1, m2⟩ := h2 q.1 (lw_pI_V q hq)
  have e9 := lw_cua m1 l1
  subst e9
  have i2 : ∀ j : Nat, j < 610 → cu_f ws2 7 j = τ.2.2.1 1 j := fun j hj => hT2.f (i := 3) (k := 7) rfl rfl (Or.inl rfl) (WJ_3 _) j hj hj
  have s2 : ∀ j : Nat, j < 305 → cu_f ws2 1 j = τ.2.2.1 0 j := fun j hj => hT2.f (i := 1) (k := 1) rfl rfl (Or.inl rfl) (WJ_1 _) j hj hj
  have k2 : ∀ j : Nat, j < 2 → cu_f ws2 165 j = τ.2.2.1 2 j := fun j hj => hT2.f (i := 5) (k := 165) rfl rfl (Or.inr (Or.inr rfl)) (WJ_5 _) j hj hj
  have eI : cu_f ws2 7 = cu_f ws 7 := ((sm1.1 7 0 610 (by decide)).1 (Or.inl rfl)).trans ((sm0.1 7 0 610 (by decide)).1 (Or.inl rfl))
  have eK : cu_f ws2 165 = cu_f ws 165 := ((sm1.1 165 3 2 (by decide)).1 (Or.inr (Or.inr rfl))).trans ((sm0.1 165 3 2 (by decide)).1 (Or.inr (Or.inr rfl)))
  have eI3 : cu_f ws3 7 = cu_f ws 7 := ((sm2.1 7 0 610 (by decide)).1 (Or.inl rfl)).trans eI
  have eK3 : cu_f ws3 165 = cu_f ws 165 := ((sm2.1 165 3 2 (by decide)).1 (Or.inr (Or.inr rfl))).trans eK
  have n2 : ∀ j : Nat, j < 30 → cu_q ws2 164 j = τ.2.2.2 1 j := fun j hj => hT2.q (i := 4) (k := 164) rfl rfl (WJ_4 _) j hj hj
  have m2' : ∀ j : Nat, j < 30 → cu_q ws2 149 j = τ.2.2.2 0 j := fun j hj => hT2.q (i := 2) (k := 149) rfl rfl (WJ_2 _) j hj hj
  have eN : cu_q ws2 149 = cu_q ws 149 := ((sm1.1 149 1 30 (by decide)).2 rfl).trans ((sm0.1 149 1 30 (by decide)).2 rfl)
  have eNK : cu_q ws2 164 = cu_q ws 164 := ((sm1.1 164 1 30 (by decide)).2 rfl).trans ((sm0.1 164 1 30 (by decide)).2 rfl)
  have eNK3 : cu_q ws3 164 = cu_q ws 164 := ((sm2.1 164 1 30 (by decide)).2 rfl).trans eNK
  have es : ∀ j : Nat, j < 100 → cu_f ws2 1 j = cu_f ws 1 j := fun j hj => (sm1.2.2.1 rfl j hj).trans (sm0.2.2.1 rfl j hj)
  have fv : ∀ k i j : Nat, (k, i, j) ∈ lw_F_R1 → (k, i, j) ∈ lw_F4 → (k, i, j) ∈ lw_F_R2 → cu_v ws3 k j = cu_v ws k j := fun k i j m1 m2 m3 => ((sm2.2.1 k i j m3).trans (sm1.2.1 k i j m2)).trans (sm0.2.1 k i j m1)
  have el := fv 10 10 2 (by decide) (by decide) (by decide)
  have ed := fv 10 10 3 (by decide) (by decide) (by decide)
  have ad3 : ∀ k a, cu_a ws k = some a → cu_a ws3 k = some a := fun k a h => sm2.2.2.2 k a (sm1.2.2.2 k a (sm0.2.2.2 k a h))
  obtain ⟨b1, b2⟩ := h3 _ (List.mem_of_getElem? (show lw_IL[0]? = _ from rfl))
  -- both sides keep the same image
  have hk1 : σ.1 3100 = cu_f ws 165 0 := by
    rw [← hT.i (i := 16) (k := 103) (q := 3) (lw_pI_x q hq).1 rfl (WI_16 _ _) rfl (by decide) rfl]
    exact b1
  have hk2 : τ.2.2.1 2 0 = cu_f ws 165 0 := by
    rw [← k2 0 (by decide), eK]
  have s0 := (tv_I0 q hq hT).of (m2 l2)
  -- the land's valley behind it, and the reference's row
  have main : ∃ (g : Nat → Int32) (h : Nat → Int64), lw_V ws1 q.1 g h ∧ (∀ j : Nat, j < 100 → cu_f ws3 1 j = g j) ∧ ∀ j : Nat, j < 15 → cu_q ws3 149 j = h j := by
    rcases hpo with ⟨-, z1, rfl⟩ | ⟨-, z1, y0, y1, y2, y3, y4, y5, y6, y7, y8, y9, y10, y11, y12, y13, y14, y15, y16, y17, y18, hf, rfl⟩
    · rcases hpo3 with ⟨-, z2, rfl⟩ | ⟨-, z2, -⟩
      · refine ⟨cu_f ws 1, cu_q ws 149, (tv_I0 q hq hT1).to s0, fun j hj => ?_, fun j hj => ?_⟩
        · rw [hT3.f (i := 1) (k := 1) rfl rfl (Or.inl rfl) (WJ_1 _) j (by omega) (by omega)]
          show τ.2.2.1 0 j = _
          rw [← s2 j (by omega), es j hj]
        · rw [hT3.q (i := 2) (k := 149) rfl rfl (WJ_2 _) j (by omega) (by omega)]
          show τ.2.2.2 0 j = _
          rw [← m2' j (by omega), eN]
      · exact absurd (hk2.trans (hk1.symm.trans z1)) z2
    · rcases hpo3 with ⟨-, z2, rfl⟩ | ⟨-, z2, f, g, ⟨e1, e3⟩, rfl⟩
      · exact absurd (hk1.trans (hk2.symm.trans z2)) z1
      · have b3 := b2 (by rw [← hk2]; exact z2)
        have s1 := (tv_I1 q hq hT).of b3
        refine ⟨_, _, (tv_I0 q hq hT1).to (lw_SV.cp s1 hf.1), fun j hj => ?_, fun j hj => ?_⟩
        · rw [hT3.f (i := 1) (k := 1) rfl rfl (Or.inl rfl) (WJ_1 _) j (by omega) (by omega)]
          show f j = cu_f ws 7 (305 * 0 + j)
          rw [e1 j (by omega), ← i2 _ (by omega), eI]
        · rw [hT3.q (i := 2) (k := 149) rfl rfl (WJ_2 _) j (by omega) (by omega)]
          show g j = cu_q ws 164 (15 * 0 + j)
          rw [e3 j (by omega), ← n2 _ (by omega), eNK]
  obtain ⟨g, h9, v1, v2, v3⟩ := main
  refine ⟨by rw [el, ed]; exact h1, ?_, fun V hV => ?_, fun y hy => ?_⟩
  · obtain ⟨a, b, b1, b2, b3⟩ := hne
    exact ⟨a, b, ad3 _ _ b1, ad3 _ _ b2, b3⟩
  · obtain ⟨a, n1, -⟩ := h2 V hV
    refine ⟨a, ad3 _ _ n1, fun e => ?_⟩
    rw [el, l2] at e
    cases e
    have eV := lw_VL_eq hne hV (lw_pI_V q hq) n1 l1
    subst eV
    exact (v1.same sm1 (lw_VinL _ hV) (g' := g) (h' := h9) (fun _ _ => rfl) (fun _ _ => rfl)).same sm2 (lw_VinL_R2 _ hV) v2 v3
  · have hy2 := hy
    unfold lw_IL at hy2
    simp only [List.mem_cons, List.not_mem_nil, or_false] at hy2
    obtain ⟨a1, a2⟩ := h3 y hy
    rcases hy2 with rfl | rfl
    · refine ⟨?_, fun e => ?_⟩
      · have i4 : cu_i ws3 103 3 = cu_i ws 103 3 := by
          unfold cu_i
          rw [fv 103 2 3 (by decide) (by decide) (by decide)]
        rw [eK3]
        exact i4.trans a1
      · rw [eK3] at e
        rw [eI3, eNK3]
        exact (((a2 e).same sm0 lw_VinI_R1_0 (fun _ _ => rfl) (fun _ _ => rfl)).same sm1 (lw_VinI _ hy).1 (fun _ _ => rfl) (fun _ _ => rfl)).same sm2 lw_VinI_R2_0 (fun _ _ => rfl) (fun _ _ => rfl)
    · refine ⟨?_, fun e => ?_⟩
      · have i4 : cu_i ws3 125 3 = cu_i ws 125 3 := by
          unfold cu_i
          rw [fv 125 2 3 (by decide) (by decide) (by decide)]
        rw [eK3]
        exact i4.trans a1
      · rw [eK3] at e
        rw [eI3, eNK3]
        exact (((a2 e).same sm0 lw_VinI_R1_1 (fun _ _ => rfl) (fun _ _ => rfl)).same sm1 (lw_VinI _ hy).1 (fun _ _ => rfl) (fun _ _ => rfl)).same sm2 lw_VinI_R2_1 (fun _ _ => rfl) (fun _ _ => rfl)

set_option maxHeartbeats 2000000 in
theorem lw_stepR1 {ws ws1 ws2 ws3 : va_W} {X : ab_X} {D : va_G} {A A2 : ex_A} {q : lw_VT × List Nat} {g9 : Nat → Option Nat} {σ τ : ex_S} {r0 r3 : Int32} {u1 u3 : List ex_E} (hJ : lw_JX ws) (hq : q ∈ lw_pI) (hl : ∃ ad, cu_a ws q.1.1 = some ad ∧ cu_v ws 10 2 = .ref ad) (hT : lw_Tw X D A q.2 (WI g9 σ) ws) (hT1 : lw_Tw X D A q.2 u1 ws1) (hpo : (fun r w => (r = (0 : Int32) ∧ σ.1 3101 = 0 ∧ w = WI g9 σ) ∨ (r = (1 : Int32) ∧ ¬ σ.1 3101 = 0 ∧ ∃ (y0 : Nat → Int64) (y1 : Nat → Int32) (y2 : Nat → Int32) (y3 : Nat → Int32) (y4 : Nat → Int32) (y5 : Nat → Int32) (y6 : Nat → Int32) (y7 : Nat → Int64) (y8 : Nat → Int32) (y9 : Nat → Int32) (y10 : Nat → Int32) (y11 : Nat → Int32) (y12 : Nat → Int32) (y13 : Nat → Int32) (y14 : Nat → Int32) (y15 : Nat → Int32) (y16 : Nat → Int32) (y17 : Nat → Int32) (y18 : Nat → Int32), ((∀ j : Nat, j < 7 → y0 j = (σ.2.2.2 200) j) ∧ (∀ j : Nat, j < 7 → y1 j = (σ.2.2.1 200) j) ∧ (∀ j : Nat, j < 7 → y2 j = (σ.2.2.1 201) j) ∧ (∀ j : Nat, j < 12 → y3 j = (σ.2.2.1 202) j) ∧ (∀ j : Nat, j < 12 → y4 j = (σ.2.2.1 203) j) ∧ (∀ j : Nat, j < 12 → y5 j = (σ.2.2.1 204) j) ∧ (∀ j : Nat, j < 12 → y6 j = (σ.2.2.1 205) j) ∧ (∀ j : Nat, j < 8 → y7 j = (σ.2.2.2 201) j) ∧ (∀ j : Nat, j < 8 → y8 j = (σ.2.2.1 206) j) ∧ (∀ j : Nat, j < 8 → y9 j = (σ.2.2.1 207) j) ∧ (∀ j : Nat, j < 8 → y10 j = (σ.2.2.1 208) j) ∧ (∀ j : Nat, j < 8 → y11 j = (σ.2.2.1 209) j) ∧ (∀ j : Nat, j < 3 → y12 j = (σ.2.2.1 210) j)) ∧ w = WI g9 (sI 3200 (0 : Int32) (sR 2002 y18 (sR 2001 y17 (sR 2000 y16 (sI 2001 ((sR 1002 y15 (sR 1001 y14 (sR 1000 y13 (sI 1002 ((sR 10 y12 (sR 9 y11 (sR 8 y10 (sR 7 y9 (sR 6 y8 (sQ 1 y7 (sI 2 (σ.1 202) (sR 5 y6 (sR 4 y5 (sR 3 y4 (sR 2 y3 (sI 1 (σ.1 201) (sR 1 y2 (sR 0 y1 (sQ 0 y0 (sI 0 (σ.1 200) σ)))))))))))))))).1 1022) (sI 1001 ((sR 10 y12 (sR 9 y11 (sR 8 y10 (sR 7 y9 (sR 6 y8 (sQ 1 y7 (sI 2 (σ.1 202) (sR 5 y6 (sR 4 y5 (sR 3 y4 (sR 2 y3 (sI 1 (σ.1 201) (sR 1 y2 (sR 0 y1 (sQ 0 y0 (sI 0 (σ.1 200) σ)))))))))))))))).1 1021) (sI 1000 ((sR 10 y12 (sR 9 y11 (sR 8 y10 (sR 7 y9 (sR 6 y8 (sQ 1 y7 (sI 2 (σ.1 202) (sR 5 y6 (sR 4 y5 (sR 3 y4 (sR 2 y3 (sI 1 (σ.1 201) (sR 1 y2 (sR 0 y1 (sQ 0 y0 (sI 0 (σ.1 200) σ)))))))))))))))).1 1020) (sR 10 y12 (sR 9 y11 (sR 8 y10 (sR 7 y9 (sR 6 y8 (sQ 1 y7 (sI 2 (σ.1 202) (sR 5 y6 (sR 4 y5 (sR 3 y4 (sR 2 y3 (sI 1 (σ.1 201) (sR 1 y2 (sR 0 y1 (sQ 0 y0 (sI 0 (σ.1 200) σ)))))))))))))))))))))).1 2021) (sI 2000 ((sR 1002 y15 (sR 1001 y14 (sR 1000 y13 (sI 1002 ((sR 10 y12 (sR 9 y11 (sR 8 y10 (sR 7 y9 (sR 6 y8 (sQ 1 y7 (sI 2 (σ.1 202) (sR 5 y6 (sR 4 y5 (sR 3 y4 (sR 2 y3 (sI 1 (σ.1 201) (sR 1 y2 (sR 0 y1 (sQ 0 y0 (sI 0 (σ.1 200) σ)))))))))))))))).1 1022) (sI 1001 ((sR 10 y12 (sR 9 y11 (sR 8 y10 (sR 7 y9 (sR 6 y8 (sQ 1 y7 (sI 2 (σ.1 202) (sR 5 y6 (sR 4 y5 (sR 3 y4 (sR 2 y3 (sI 1 (σ.1 201) (sR 1 y2 (sR 0 y1 (sQ 0 y0 (sI 0 (σ.1 200) σ)))))))))))))))).1 1021) (sI 1000 ((sR 10 y12 (sR 9 y11 (sR 8 y10 (sR 7 y9 (sR 6 y8 (sQ 1 y7 (sI 2 (σ.1 202) (sR 5 y6 (sR 4 y5 (sR 3 y4 (sR 2 y3 (sI 1 (σ.1 201) (sR 1 y2 (sR 0 y1 (sQ 0 y0 (sI 0 (σ.1 200) σ)))))))))))))))).1 1020) (sR 10 y12 (sR 9 y11 (sR 8 y10 (sR 7 y9 (sR 6 y8 (sQ 1 y7 (sI 2 (σ.1 202) (sR 5 y6 (sR 4 y5 (sR 3 y4 (sR 2 y3 (sI 1 (σ.1 201) (sR 1 y2 (sR 0 y1 (sQ 0 y0 (sI 0 (σ.1 200) σ)))))))))))))))))))))).1 2020) (sR 1002 y15 (sR 1001 y14 (sR 1000 y13 (sI 1002 ((sR 10 y12 (sR 9 y11 (sR 8 y10 (sR 7 y9 (sR 6 y8 (sQ 1 y7 (sI 2 (σ.1 202) (sR 5 y6 (sR 4 y5 (sR 3 y4 (sR 2 y3 (sI 1 (σ.1 201) (sR 1 y2 (sR 0 y1 (sQ 0 y0 (sI 0 (σ.1 200) σ)))))))))))))))).1 1022) (sI 1001 ((sR 10 y12 (sR 9 y11 (sR 8 y10 (sR 7 y9 (sR 6 y8 (sQ 1 y7 (sI 2 (σ.1 202) (sR 5 y6 (sR 4 y5 (sR 3 y4 (sR 2 y3 (sI 1 (σ.1 201) (sR 1 y2 (sR 0 y1 (sQ 0 y0 (sI 0 (σ.1 200) σ)))))))))))))))).1 1021) (sI 1000 ((sR 10 y12 (sR 9 y11 (sR 8 y10 (sR 7 y9 (sR 6 y8 (sQ 1 y7 (sI 2 (σ.1 202) (sR 5 y6 (sR 4 y5 (sR 3 y4 (sR 2 y3 (sI 1 (σ.1 201) (sR 1 y2 (sR 0 y1 (sQ 0 y0 (sI 0 (σ.1 200) σ)))))))))))))))).1 1020) (sR 10 y12 (sR 9 y11 (sR 8 y10 (sR 7 y9 (sR 6 y8 (sQ 1 y7 (sI 2 (σ.1 202) (sR 5 y6 (sR 4 y5 (sR 3 y4 (sR 2 y3 (sI 1 (σ.1 201) (sR 1 y2 (sR 0 y1 (sQ 0 y0 (sI 0 (σ.1 200) σ)))))))))))))))))))))))))))))) r0 u1) (sm0 : lw_same lw_R_R1 lw_F_R1 true ws ws1) (sm1 : lw_same lw_R4 lw_F4 true ws1 ws2) (hT2 : lw_Tw X D A2 lw_pJ (WJ τ) ws2) (hT3 : lw_Tw X D A2 lw_pJ u3 ws3) (hpo3 : (fun r w => (r = (0 : Int32) ∧ τ.2.2.1 2 1 = 0 ∧ w = WJ (sI 0 (0 : Int32) τ)) ∨ (r = (1 : Int32) ∧ ¬ τ.2.2.1 2 1 = 0 ∧ ∃ (f : Nat → Int32) (g : Nat → Int64), ((∀ j : Nat, j < 305 → f j = τ.2.2.1 1 (305 + j)) ∧ (∀ j : Nat, j < 15 → g j = τ.2.2.2 1 (15 + j))) ∧ w = WJ (sI 14 (0 : Int32) (sQ 0 g (sR 0 f (sI 0 (0 : Int32) τ)))))) r3 u3) (sm2 : lw_same lw_R_R2 lw_F_R2 false ws2 ws3) : lw_JX ws3 := by
  obtain ⟨h1, hne, h2, h3⟩ := hJ
  obtain ⟨ad, l1, l2⟩ := hl
  obtain ⟨a9, m1, m2⟩ := h2 q.1 (lw_pI_V q hq)
  have e9 := lw_cua m1 l1
  subst e9
  have i2 : ∀ j : Nat, j < 610 → cu_f ws2 7 j = τ.2.2.1 1 j := fun j hj => hT2.f (i := 3) (k := 7) rfl rfl (Or.inl rfl) (WJ_3 _) j hj hj
  have s2 : ∀ j : Nat, j < 305 → cu_f ws2 1 j = τ.2.2.1 0 j := fun j hj => hT2.f (i := 1) (k := 1) rfl rfl (Or.inl rfl) (WJ_1 _) j hj hj
  have k2 : ∀ j : Nat, j < 2 → cu_f ws2 165 j = τ.2.2.1 2 j := fun j hj => hT2.f (i := 5) (k := 165) rfl rfl (Or.inr (Or.inr rfl)) (WJ_5 _) j hj hj
  have eI : cu_f ws2 7 = cu_f ws 7 := ((sm1.1 7 0 610 (by decide)).1 (Or.inl rfl)).trans ((sm0.1 7 0 610 (by decide)).1 (Or.inl rfl))
  have eK : cu_f ws2 165 = cu_f ws 165 := ((sm1.1 165 3 2 (by decide)).1 (Or.inr (Or.inr rfl))).trans ((sm0.1 165 3 2 (by decide)).1 (Or.inr (Or.inr rfl)))
  have eI3 : cu_f ws3 7 = cu_f ws 7 := ((sm2.1 7 0 610 (by decide)).1 (Or.inl rfl)).trans eI
  have eK3 : cu_f ws3 165 = cu_f ws 165 := ((sm2.1 165 3 2 (by decide)).1 (Or.inr (Or.inr rfl))).trans eK
  have n2 : ∀ j : Nat, j < 30 → cu_q ws2 164 j = τ.2.2.2 1 j := fun j hj => hT2.q (i := 4) (k := 164) rfl rfl (WJ_4 _) j hj hj
  have m2' : ∀ j : Nat, j < 30 → cu_q ws2 149 j = τ.2.2.2 0 j := fun j hj => hT2.q (i := 2) (k := 149) rfl rfl (WJ_2 _) j hj hj
  have eN : cu_q ws2 149 = cu_q ws 149 := ((sm1.1 149 1 30 (by decide)).2 rfl).trans ((sm0.1 149 1 30 (by decide)).2 rfl)
  have eNK : cu_q ws2 164 = cu_q ws 164 := ((sm1.1 164 1 30 (by decide)).2 rfl).trans ((sm0.1 164 1 30 (by decide)).2 rfl)
  have eNK3 : cu_q ws3 164 = cu_q ws 164 := ((sm2.1 164 1 30 (by decide)).2 rfl).trans eNK
  have es : ∀ j : Nat, j < 100 → cu_f ws2 1 j = cu_f ws 1 j := fun j hj => (sm1.2.2.1 rfl j hj).trans (sm0.2.2.1 rfl j hj)
  have fv : ∀ k i j : Nat, (k, i, j) ∈ lw_F_R1 → (k, i, j) ∈ lw_F4 → (k, i, j) ∈ lw_F_R2 → cu_v ws3 k j = cu_v ws k j := fun k i j m1 m2 m3 => ((sm2.2.1 k i j m3).trans (sm1.2.1 k i j m2)).trans (sm0.2.1 k i j m1)
  have el := fv 10 10 2 (by decide) (by decide) (by decide)
  have ed := fv 10 10 3 (by decide) (by decide) (by decide)
  have ad3 : ∀ k a, cu_a ws k = some a → cu_a ws3 k = some a := fun k a h => sm2.2.2.2 k a (sm1.2.2.2 k a (sm0.2.2.2 k a h))
  obtain ⟨b1, b2⟩ := h3 _ (List.mem_of_getElem? (show lw_IL[1]? = _ from rfl))
  -- both sides keep the same image
  have hk1 : σ.1 3101 = cu_f ws 165 1 := by
    rw [← hT.i (i := 17) (k := 125) (q := 3) (lw_pI_x q hq).2 rfl (WI_17 _ _) rfl (by decide) rfl]
    exact b1
  have hk2 : τ.2.2.1 2 1 = cu_f ws 165 1 := by
    rw [← k2 1 (by decide), eK]
  have s0 := (tv_I0 q hq hT).of (m2 l2)
  -- the land's valley behind it, and the reference's row
  have main : ∃ (g : Nat → Int32) (h : Nat → Int64), lw_V ws1 q.1 g h ∧ (∀ j : Nat, j < 100 → cu_f ws3 1 j = g j) ∧ ∀ j : Nat, j < 15 → cu_q ws3 149 j = h j := by
    rcases hpo with ⟨-, z1, rfl⟩ | ⟨-, z1, y0, y1, y2, y3, y4, y5, y6, y7, y8, y9, y10, y11, y12, y13, y14, y15, y16, y17, y18, hf, rfl⟩
    · rcases hpo3 with ⟨-, z2, rfl⟩ | ⟨-, z2, -⟩
      · refine ⟨cu_f ws 1, cu_q ws 149, (tv_I0 q hq hT1).to s0, fun j hj => ?_, fun j hj => ?_⟩
        · rw [hT3.f (i := 1) (k := 1) rfl rfl (Or.inl rfl) (WJ_1 _) j (by omega) (by omega)]
          show τ.2.2.1 0 j = _
          rw [← s2 j (by omega), es j hj]
        · rw [hT3.q (i := 2) (k := 149) rfl rfl (WJ_2 _) j (by omega) (by omega)]
          show τ.2.2.2 0 j = _
          rw [← m2' j (by omega), eN]
      · exact absurd (hk2.trans (hk1.symm.trans z1)) z2
    · rcases hpo3 with ⟨-, z2, rfl⟩ | ⟨-, z2, f, g, ⟨e1, e3⟩, rfl⟩
      · exact absurd (hk1.trans (hk2.symm.trans z2)) z1
      · have b3 := b2 (by rw [← hk2]; exact z2)
        have s1 := (tv_I2 q hq hT).of b3
        refine ⟨_, _, (tv_I0 q hq hT1).to (lw_SV.cp s1 hf.1), fun j hj => ?_, fun j hj => ?_⟩
        · rw [hT3.f (i := 1) (k := 1) rfl rfl (Or.inl rfl) (WJ_1 _) j (by omega) (by omega)]
          show f j = cu_f ws 7 (305 * 1 + j)
          rw [e1 j (by omega), ← i2 _ (by omega), eI]
        · rw [hT3.q (i := 2) (k := 149) rfl rfl (WJ_2 _) j (by omega) (by omega)]
          show g j = cu_q ws 164 (15 * 1 + j)
          rw [e3 j (by omega), ← n2 _ (by omega), eNK]
  obtain ⟨g, h9, v1, v2, v3⟩ := main
  refine ⟨by rw [el, ed]; exact h1, ?_, fun V hV => ?_, fun y hy => ?_⟩
  · obtain ⟨a, b, b1, b2, b3⟩ := hne
    exact ⟨a, b, ad3 _ _ b1, ad3 _ _ b2, b3⟩
  · obtain ⟨a, n1, -⟩ := h2 V hV
    refine ⟨a, ad3 _ _ n1, fun e => ?_⟩
    rw [el, l2] at e
    cases e
    have eV := lw_VL_eq hne hV (lw_pI_V q hq) n1 l1
    subst eV
    exact (v1.same sm1 (lw_VinL _ hV) (g' := g) (h' := h9) (fun _ _ => rfl) (fun _ _ => rfl)).same sm2 (lw_VinL_R2 _ hV) v2 v3
  · have hy2 := hy
    unfold lw_IL at hy2
    simp only [List.mem_cons, List.not_mem_nil, or_false] at hy2
    obtain ⟨a1, a2⟩ := h3 y hy
    rcases hy2 with rfl | rfl
    · refine ⟨?_, fun e => ?_⟩
      · have i4 : cu_i ws3 103 3 = cu_i ws 103 3 := by
          unfold cu_i
          rw [fv 103 2 3 (by decide) (by decide) (by decide)]
        rw [eK3]
        exact i4.trans a1
      · rw [eK3] at e
        rw [eI3, eNK3]
        exact (((a2 e).same sm0 lw_VinI_R1_0 (fun _ _ => rfl) (fun _ _ => rfl)).same sm1 (lw_VinI _ hy).1 (fun _ _ => rfl) (fun _ _ => rfl)).same sm2 lw_VinI_R2_0 (fun _ _ => rfl) (fun _ _ => rfl)
    · refine ⟨?_, fun e => ?_⟩
      · have i4 : cu_i ws3 125 3 = cu_i ws 125 3 := by
          unfold cu_i
          rw [fv 125 2 3 (by decide) (by decide) (by decide)]
        rw [eK3]
        exact i4.trans a1
      · rw [eK3] at e
        rw [eI3, eNK3]
        exact (((a2 e).same sm0 lw_VinI_R1_1 (fun _ _ => rfl) (fun _ _ => rfl)).same sm1 (lw_VinI _ hy).1 (fun _ _ => rfl) (fun _ _ => rfl)).same sm2 lw_VinI_R2_1 (fun _ _ => rfl) (fun _ _ => rfl)

set_option maxHeartbeats 2000000 in
theorem lw_stepV {ws ws1 ws2 ws3 : va_W} {X : ab_X} {D : va_G} {A A2 : ex_A} {q : lw_VT × lw_VT × List Nat} {σ τ : ex_S} {x : Int32} {u0 u1 u2 : Int32} {p0 p7 : Nat → Int64} {p1 p2 p3 p4 p5 p6 p8 p9 p10 p11 p12 : Nat → Int32} {r0 r3 : Int32} {w1 w3 : List ex_E} (hJJ : lw_JJ ws x) (hq : q ∈ lw_pV) (hl : ∃ ad, cu_a ws q.2.1.1 = some ad ∧ cu_v ws 10 2 = .ref ad) (hd : ∃ ad, cu_a ws q.1.1 = some ad ∧ cu_v ws 10 3 = .ref ad) (hT : lw_Tw X D A q.2.2 (WA (26, lw_L u0 u1 u2 p0 p7 p1 p2 p3 p4 p5 p6 p8 p9 p10 p11 p12) 6 σ) ws) (hT1 : lw_Tw X D A q.2.2 w1 ws1) (hpo : r0 = A_valley σ ∧ A_vend (lw_L u0 u1 u2 p0 p7 p1 p2 p3 p4 p5 p6 p8 p9 p10 p11 p12) σ w1) (sm0 : lw_same lw_R_V1 lw_F_V1 true ws ws1) (sm1 : lw_same lw_R4 lw_F4 true ws1 ws2) (hT2 : lw_Tw X D A2 lw_pB (WB τ) ws2) (hT3 : lw_Tw X D A2 lw_pB w3 ws3) (hpo3 : r3 = B_valley τ ∧ B_vend τ w3) (sm2 : lw_same lw_R_V2 lw_F_V2 false ws2 ws3) (hx : σ.1 0 = x) (hx2 : τ.1 1 = x) (hx9 : 0 ≤ x.toInt ∧ x.toInt ≤ 940) : lw_JX ws3 := by
  obtain ⟨hJ, h1, hne, h2, h3⟩ := hJJ
  obtain ⟨al, l1, l2⟩ := hl
  obtain ⟨ad, d1, d2⟩ := hd
  obtain ⟨qV1, qV2⟩ := lw_pV_V q hq
  obtain ⟨x2, x3, x6, x26⟩ := lw_pV_x q hq
  obtain ⟨a9, m1, m2⟩ := h2 q.2.1 qV2
  have e9 := lw_cua m1 l1
  subst e9
  have s2 : ∀ j : Nat, j < 305 → cu_f ws2 1 j = τ.2.2.1 1 j := fun j hj => hT2.f (i := 2) (k := 1) rfl rfl (Or.inl rfl) (WB_2 _) j hj hj
  have eI : cu_f ws2 7 = cu_f ws 7 := ((sm1.1 7 0 610 (by decide)).1 (Or.inl rfl)).trans ((sm0.1 7 0 610 (by decide)).1 (Or.inl rfl))
  have eK : cu_f ws2 165 = cu_f ws 165 := ((sm1.1 165 3 2 (by decide)).1 (Or.inr (Or.inr rfl))).trans ((sm0.1 165 3 2 (by decide)).1 (Or.inr (Or.inr rfl)))
  have eI3 : cu_f ws3 7 = cu_f ws 7 := ((sm2.1 7 0 610 (by decide)).1 (Or.inl rfl)).trans eI
  have eK3 : cu_f ws3 165 = cu_f ws 165 := ((sm2.1 165 3 2 (by decide)).1 (Or.inr (Or.inr rfl))).trans eK
  have m2' : ∀ j : Nat, j < 30 → cu_q ws2 149 j = τ.2.2.2 0 j := fun j hj => hT2.q (i := 5) (k := 149) rfl rfl (WB_5 _) j hj hj
  have eN : cu_q ws2 149 = cu_q ws 149 := ((sm1.1 149 1 30 (by decide)).2 rfl).trans ((sm0.1 149 1 30 (by decide)).2 rfl)
  have eNK2 : cu_q ws2 164 = cu_q ws 164 := ((sm1.1 164 1 30 (by decide)).2 rfl).trans ((sm0.1 164 1 30 (by decide)).2 rfl)
  have eNK3 : cu_q ws3 164 = cu_q ws 164 := ((sm2.1 164 1 30 (by decide)).2 rfl).trans eNK2
  have es : ∀ j : Nat, j < 100 → cu_f ws2 1 j = cu_f ws 1 j := fun j hj => (sm1.2.2.1 rfl j hj).trans (sm0.2.2.1 rfl j hj)
  have el3 : cu_v ws3 10 2 = cu_v ws1 10 2 := (sm2.2.1 10 10 2 (by decide)).trans (sm1.2.1 10 10 2 (by decide))
  have ed3 : cu_v ws3 10 3 = cu_v ws1 10 3 := (sm2.2.1 10 10 3 (by decide)).trans (sm1.2.1 10 10 3 (by decide))
  have ad3 : ∀ k a, cu_a ws k = some a → cu_a ws3 k = some a := fun k a h => sm2.2.2.2 k a (sm1.2.2.2 k a (sm0.2.2.2 k a h))
  have fv : ∀ k i j : Nat, (k, i, j) ∈ lw_F_V1 → (k, i, j) ∈ lw_F4 → (k, i, j) ∈ lw_F_V2 → cu_v ws3 k j = cu_v ws k j := fun k i j m1 m2 m3 => ((sm2.2.1 k i j m3).trans (sm1.2.1 k i j m2)).trans (sm0.2.1 k i j m1)
  -- both have read the same, or nothing
  have E := E_vs (a := σ) (b := τ) (hx.trans hx2.symm) (by rw [hx]; exact hx9) (fun j hj => by
    rw [hx] at hj
    have hj9 : j < 940 := by omega
    rw [← hT.f x2 (by rfl) (Or.inl rfl) (WA_2 _ _ _) j hj9 hj9, ← hT2.f (i := 1) (k := 4) rfl rfl (Or.inr (Or.inl rfl)) (WB_1 _) j hj9 hj9, (sm1.1 4 2 940 (by decide)).1 (Or.inr (Or.inl rfl)), (sm0.1 4 2 940 (by decide)).1 (Or.inr (Or.inl rfl))]
    exact hJ.1 j hj) (fun j hj => by
    rw [← hT.q x3 (by rfl) (WA_3 _ _ _) j hj hj]
    exact hJ.2.1 j hj) (fun j hj => by
    rw [← hT2.q (i := 6) (k := 150) rfl rfl (WB_6 _) j hj hj, (sm1.1 150 1 22 (by decide)).2 rfl, (sm0.1 150 1 22 (by decide)).2 rfl]
    exact hJ.2.2 j hj)
  have hdl : ¬ ad = a9 := fun e => h1 (by rw [l2, d2, e])
  have s0 := (tv_L q hq hT).of (m2 l2)
  have P1 := hpo.2
  have P3 := hpo3.2
  have hsv : (B_vs τ).2.2.2.1 1 = τ.2.2.1 1 := sv_vs
  have hnv := nv_at (nv_vs (σ := τ) (by rw [hx2]; exact hx9))
  unfold A_vend at P1
  unfold B_vend at P3
  clear hpo hpo3
  generalize A_readInto σ = ρ at P1 E
  generalize B_vs τ = β at P3 E hsv hnv
  have main : ∃ (V : lw_VT) (b b' : Nat) (g : Nat → Int32) (h : Nat → Int64), V ∈ lw_VL ∧ cu_a ws V.1 = some b ∧ cu_v ws1 10 2 = .ref b ∧ cu_v ws1 10 3 = .ref b' ∧ ¬ b = b' ∧ lw_V ws1 V g h ∧ (∀ j : Nat, j < 100 → cu_f ws3 1 j = g j) ∧ ∀ j : Nat, j < 15 → cu_q ws3 149 j = h j := by
    rcases E with ⟨E1, E2⟩ | ⟨E1, E2, E3, E4⟩
    · rcases P1 with ⟨-, rfl⟩ | ⟨z1, -⟩
      · rcases P3 with ⟨z2, -⟩ | ⟨-, rfl⟩
        · rw [E2] at z2; exact absurd z2 (by decide)
        · refine ⟨q.2.1, a9, ad, cu_f ws 1, cu_q ws 149, qV2, l1, ?_, ?_, fun e => hdl e.symm, (tv_L q hq hT1).to s0, fun j hj => ?_, fun j hj => ?_⟩
          · rw [hT1.v (q := 2) (lw_pV_0 q hq) rfl (WA_0 _ _ _) rfl (by decide) rfl]
            show Value.ref (ex_ad X A 26) = _
            rw [hT.ad x26 l1 (by decide)]
          · rw [hT1.v (q := 3) (lw_pV_0 q hq) rfl (WA_0 _ _ _) rfl (by decide) rfl]
            show Value.ref (ex_ad X A 6) = _
            rw [hT.ad x6 d1 (by decide)]
          · rw [hT3.f (i := 2) (k := 1) rfl rfl (Or.inl rfl) (WB_2 _) j (by omega) (by omega), hsv, ← s2 j (by omega), es j hj]
          · rw [hT3.q (i := 5) (k := 149) rfl rfl (WB_5 _) j (by omega) (by omega), hnv j hj, ← m2' j (by omega), eN]
      · exact absurd E1 z1
    · rcases P1 with ⟨z1, -⟩ | ⟨-, y1, y2, y3, rfl⟩
      · exact absurd z1 E1
      · rcases P3 with ⟨-, υ, rfl, z3, z4, -⟩ | ⟨z2, -⟩
        · refine ⟨q.1, ad, a9, β.2.2.2.1 2, fun j => β.2.2.2.2 0 (15 + j), qV1, d1, ?_, ?_, hdl, (tv_V q hq hT1).to ⟨E3.1.1, fun j _ h9 => E3.2.1 j (by rw [E3.1.1]; exact h9)⟩, fun j hj => ?_, fun j hj => ?_⟩
          · rw [hT1.v (q := 2) (lw_pV_0 q hq) rfl (WA_0 _ _ _) rfl (by decide) rfl]
            show Value.ref (ex_ad X A 6) = _
            rw [hT.ad x6 d1 (by decide)]
          · rw [hT1.v (q := 3) (lw_pV_0 q hq) rfl (WA_0 _ _ _) rfl (by decide) rfl]
            show Value.ref (ex_ad X A 26) = _
            rw [hT.ad x26 l1 (by decide)]
          · rw [hT3.f (i := 2) (k := 1) rfl rfl (Or.inl rfl) (WB_2 _) j (by omega) (by omega)]
            exact z3 j hj
          · rw [hT3.q (i := 5) (k := 149) rfl rfl (WB_5 _) j (by omega) (by omega)]
            exact z4 j hj
        · rw [E2] at z2; exact absurd z2 (by decide)
  obtain ⟨V, bl, bd, g, h9, n0, n1, n2, n3, n4, v1, v2, v3⟩ := main
  refine ⟨?_, ?_, fun V' hV => ?_, fun y hy => ?_⟩
  · rw [el3, ed3, n2, n3]
    intro e
    exact n4 (Value.ref.inj e)
  · obtain ⟨a, b, b1, b2, b3⟩ := hne
    exact ⟨a, b, ad3 _ _ b1, ad3 _ _ b2, b3⟩
  · obtain ⟨a, k1, -⟩ := h2 V' hV
    refine ⟨a, ad3 _ _ k1, fun e => ?_⟩
    rw [el3, n2] at e
    cases e
    have eV := lw_VL_eq hne hV n0 k1 n1
    subst eV
    exact (v1.same sm1 (lw_VinL _ hV) (g' := g) (h' := h9) (fun _ _ => rfl) (fun _ _ => rfl)).same sm2 (lw_VinL_V2 _ hV) v2 v3
  · have hy2 := hy
    unfold lw_IL at hy2
    simp only [List.mem_cons, List.not_mem_nil, or_false] at hy2
    obtain ⟨a1, a2⟩ := h3 y hy
    rcases hy2 with rfl | rfl
    · refine ⟨?_, fun e => ?_⟩
      · have i4 : cu_i ws3 103 3 = cu_i ws 103 3 := by
          unfold cu_i
          rw [fv 103 2 3 (by decide) (by decide) (by decide)]
        rw [eK3]
        exact i4.trans a1
      · rw [eK3] at e
        rw [eI3, eNK3]
        exact (((a2 e).same sm0 lw_VinI_V1_0 (fun _ _ => rfl) (fun _ _ => rfl)).same sm1 (lw_VinI _ hy).1 (fun _ _ => rfl) (fun _ _ => rfl)).same sm2 lw_VinI_V2_0 (fun _ _ => rfl) (fun _ _ => rfl)
    · refine ⟨?_, fun e => ?_⟩
      · have i4 : cu_i ws3 125 3 = cu_i ws 125 3 := by
          unfold cu_i
          rw [fv 125 2 3 (by decide) (by decide) (by decide)]
        rw [eK3]
        exact i4.trans a1
      · rw [eK3] at e
        rw [eI3, eNK3]
        exact (((a2 e).same sm0 lw_VinI_V1_1 (fun _ _ => rfl) (fun _ _ => rfl)).same sm1 (lw_VinI _ hy).1 (fun _ _ => rfl) (fun _ _ => rfl)).same sm2 lw_VinI_V2_1 (fun _ _ => rfl) (fun _ _ => rfl)
