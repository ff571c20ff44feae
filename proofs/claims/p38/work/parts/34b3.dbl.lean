/-! The law: valley, image, restore, sentence by two contracts on each side. -/

theorem lw_J.keepR {X : ab_X} {z : ab_Z} {s : State} {cs : List ab_C} {ws ws' : va_W} {x y : Int32} {R : List (Nat × Nat × Nat)} (h : lw_J ws x) (hw : ∀ (k : Nat) (c : ab_C), cs[k]? = some c → ∃ q, ws[k]? = some q ∧ ab_cR X z s c q.2) (hk : lw_flk R cs = true) (hR : (17, 0, 940) ∈ R ∧ (4, 2, 940) ∈ R ∧ (38, 1, 22) ∈ R ∧ (150, 1, 22) ∈ R) (hfr : ab_fr (cs.map ab_flg) ws ws') (hy : y.toInt ≤ x.toInt ∨ y.toInt ≤ 0) : lw_J ws' y := by
  refine ⟨fun j hj => ?_, h.2.keep hw hk hfr hR.2.2.1 hR.2.2.2⟩
  rw [(lw_kf hw hk hfr hR.1 (Or.inl rfl)).1, (lw_kf hw hk hfr hR.2.1 (Or.inr rfl)).1]
  exact h.1 j (by omega)
theorem lw_sen {ws ws2 : va_W} {X : ab_X} {D : va_G} {A A2 : ex_A} {q : lw_VT × List Nat} {σ τ : ex_S} {x : Int32} (hJ : lw_JJ ws x) (hq : q ∈ lw_pS) (hl : ∃ ad, cu_a ws q.1.1 = some ad ∧ cu_v ws 10 2 = .ref ad) (hT : lw_Tw X D A q.2 (WS σ) ws) (hT2 : lw_Tw X D A2 lw_pT (WT τ) ws2) (sm : lw_same lw_R4 lw_F4 true ws ws2) (hA : A_IN0 σ) (hB : B_S0 τ) (hx : σ.1 0 = x) (hx2 : τ.1 1 = x) : ∃ (N : Nat) (v : Int32 × ex_S), B_it N (B_s0 τ) = some v ∧ v.1 = A_sentence σ ∧ v.2.1 9 = (A_read σ).2.1 9 := by
  obtain ⟨hJ0, h1, hne, h2, h3⟩ := hJ
  obtain ⟨ad, l1, l2⟩ := hl
  obtain ⟨a9, m1, m2⟩ := h2 q.1 (lw_pS_V q hq)
  have e9 := lw_cua m1 l1
  subst e9
  obtain ⟨s0, s1⟩ := (tv_S q hq hT).of (m2 l2)
  obtain ⟨x0, x2, x3, x6⟩ := lw_pS_x q hq
  have e0 : τ.2.2.1 1 0 = cu_f ws 1 0 := by
    rw [← hT2.f (i := 2) (k := 1) rfl rfl (Or.inl rfl) (WT_2 _) 0 (by decide) (by decide)]
    exact sm.2.2.1 rfl 0 (by decide)
  have eN : ∀ j : Nat, j < 30 → τ.2.2.2 0 j = cu_q ws 149 j := fun j hj => by
    rw [← hT2.q (i := 5) (k := 149) rfl rfl (WT_5 _) j hj hj, (sm.1 149 1 30 (by decide)).2 rfl]
  have t7 := hA.2.1
  refine E_sentence hA hB (hx.trans hx2.symm) (fun j hj => ?_) (fun j hj => ?_) (fun j hj => ?_) ⟨?_, fun j hj => ?_⟩
  · rw [hx] at hj
    have hj9 : j < 940 := by
      have h9 := hA.1
      rw [hx] at h9
      omega
    rw [← hT.f x2 (by rfl) (Or.inl rfl) (WS_2 _) j hj9 hj9, ← hT2.f (i := 1) (k := 4) rfl rfl (Or.inr (Or.inl rfl)) (WT_1 _) j hj9 hj9, (sm.1 4 2 940 (by decide)).1 (Or.inr (Or.inl rfl))]
    exact hJ0.1 j hj
  · rw [← hT.q x3 (by rfl) (WS_3 _) j hj hj]
    exact hJ0.2.1 j hj
  · rw [← hT2.q (i := 6) (k := 150) rfl rfl (WT_6 _) j hj hj, (sm.1 150 1 22 (by decide)).2 rfl]
    exact hJ0.2.2 j hj
  · rw [e0]; exact s0
  · rw [s1 j (by omega) (by rw [← s0]; exact hj), eN j (by omega)]
theorem lw_stQ_v {X : ab_X} {z : ab_Z} {r0 : Int32} {av : ab_I} {k a : Nat} (ha : z.2.2[k]? = some a) (hv : ab_evI z.1 av = some r0) {cst : List Value} (h : [.inr (.inr (2, k)), .inl av].map (ab_ev X z) = cst.map some) : cst = [.ref a, .int r0] := by
  have h3 := congrArg (List.filterMap id) h
  rw [lw_fm] at h3
  have v0 : ab_ev X z (.inr (.inr (2, k))) = some (.ref a) := by
    show (z.2.2[k]?).map _ = _
    rw [ha]; rfl
  have v2 : ab_ev X z (.inl av) = some (.int r0) := by
    show (ab_evI z.1 av).map _ = _
    rw [hv]; rfl
  have h4 : [ab_ev X z (.inr (.inr (2, k))), ab_ev X z (.inl av)].filterMap id = cst := h3
  rw [v0, v2] at h4
  exact h4.symm
section
variable {p : Program} {l : Launch} {e : Env} {s : State} {m : MethodId} {below : List Frame} {meth : Method} {c : Code} {b L : Nat} {xs : Nat → Int32} {X : ab_X} {D : va_G} {d : Nat}
theorem lw_caseIa (K : ab_cal l X D d ab_MEL lw_cal) (C : ab_cx p room_1 s m #[Value.ref b] c code RL 7 X D) (hd0 : 40 ≤ d) (hd1 : 16 * (d + 1) ≤ room_1.frames) (hd2 : 200 * (d + 1) ≤ room_1.locals) {i a b' : Nat} (hmR : 2 + a ≤ room_1.cells) (hsR : 12 + b' ≤ room_1.slots) (hiL : i + 6 ≤ X.1.2.1) (hL : X.1.2.1 ≤ 3072) {x : Int32} {S : ab_S} (hpc : S.2.1 = 1282) (hE : ab_dIa0 S = true) {z0 : ab_Z0} {z : ab_Z} {ws : va_W} {H : Heap} {locs : List Loc} {ls : Array Slot} {cst : List Value} (hz : lw_zv X i z x) (hk : X.2.1 (i + 1) = 0) (hJ : lw_JJ ws x) (hR : ab_R X D s z0 S.1.1 S.1.2.1 S.1.2.2.1 z ws H locs) (hl : ab_lR X z 7 ls S.2.2.1) (hs : S.2.2.2.map (ab_ev X z) = cst.map some) (next : ∀ (z : ab_Z) (ws : va_W) (H : Heap) (locs : List Loc) (ls : Array Slot), z.1[0]? = some (nI (i + 6)) → ab_R X D s (z, [], []) ab_lT.1 0 (gl_L, ab_FX) z ws H locs → (∀ x, z.1[1]? = some x → lw_JJ ws x) → ab_lR X z 7 ls ab_lvT → W p l e room_1 s m #[Value.ref b] below meth c H locs (a + 2) (b' + 12) (lw_Z below #[Value.ref b] s) (F0 m 23 ls [])) : W p l e room_1 s m #[Value.ref b] below meth c H locs (S.1.2.2.2.1 + a) (S.1.2.2.2.2 + b') (lw_Z below #[Value.ref b] s) (F0 m S.2.1 ls cst) := by
  obtain ⟨⟨env, nl, ⟨cs, fx⟩, cl, sl⟩, pc, lv, st⟩ := S
  dsimp only at hpc hR hl hs ⊢
  subst hpc
  unfold ab_dIa0 at hE
  dsimp only at hE
  rw [Bool.and_eq_true, Bool.and_eq_true, Bool.and_eq_true] at hE
  obtain ⟨ck, s5, fk, c3⟩ := hE
  have hi : i + 6 ≤ 3072 := Nat.le_trans hiL hL
  split at c3
  · rename_i r hr
    have hst := lw_st1_ok s5
    subst hst
    have hr2 := un_call (a := a) (b := b') (rc := 12) (mid := 212) (na := 2) (mc := 0) (ms := 0) (A := 2) (B := 12) (np := 1285) lw_cal env nl (ab_sfm lw_l_I1_0 true false cs, fx) cl sl lv _ r hr
    have hRa := hR.sfm lw_l_I1_0 true false
    have hc := cu_ck_ok ck hR.1 hz.three hR.2.2.2.1.1.2
    obtain ⟨q, hq, g9, σ, A, we, b1, b4, b8, ⟨bg0, bg1⟩, al, bl1, bl2⟩ := cu_Iw hc hR.2.2.1
    have hPe := cu_P hR.2.2.2.2.1 (cu_pos b4)
    have hDe := cu_D hR.2.2.2.2.2.1 q.2 (lw_pI_nd q hq) b4
    have hT := lw_tw_b hR hc b1 b4 (lw_pI_in q hq)
    have hp0 := lw_posz hR.2.2.1 b1 b4 (lw_pI_0 q hq)
    have hst2 := lw_st1_v hz hp0 hs
    rw [hk] at hst2
    refine jc_call C K me_X10_image hmR hsR hd1 hd2 (by decide) hy_X10_image tg_1139 hc_X10 rfl rfl tg_1136 tg_1137 tg_1138 tg_143 (by decide +kernel) hr2 hRa hl hs (m_X10_image_0 d (by omega) g9 (bg0.trans rfl) σ) b1 hPe hDe (rest := []) (by rw [hst2]; rfl) rfl (fun S1 hS1 z1 ws1 H1 locs1 r0 u hRb hlb hsb hpb hxb hpo hwu hPu => ?_)
    obtain ⟨S1', hS1', rfl⟩ := List.mem_map.mp hS1
    have c4 := List.all_eq_true.mp c3 S1' hS1'
    obtain ⟨⟨env1, nl1, ⟨cs1, fx1⟩, cl1, sl1⟩, pc1, lv1, st1⟩ := S1'
    unfold ab_dIa1 at c4
    dsimp only at c4
    rw [Bool.and_eq_true, Bool.and_eq_true] at c4
    obtain ⟨fs1, fk1, c4⟩ := c4
    have hRb : ab_R X D s (z, ws, (ab_sfm lw_l_I1_0 true false cs).map ab_flg) env1 nl1 (cs1, fx1) z1 ws1 H1 locs1 := hRb
    have hpb : pc1 = 1282 + 3 := hpb
    subst hpb
    split at c4
    · rename_i os hos
      have hz1 : lw_zv X i z1 x := hz.ext hxb
      have hR2 := hRb.sfm lw_l_I1_0 false false
      obtain ⟨u1, we1⟩ := u
      dsimp only at hpo hwu hPu
      have sm0 := lw_same_of hRa.2.2.2.1.1.2 fk hRb.2.2.2.2.2.2.2.2.2.2
      have hT1 := lw_tw_a hT sm0.2.2.2 hR2 fs1 (lw_pI_in q hq) lw_KI_lt hwu hPu
      refine lw_seg K C hd0 hd1 hd2 hmR hsR hiL hL hos hz1 hR2 hlb hsb (fun k S2 hS2 z2 ws2 H2 locs2 ls2 cst2 hR3 hl3 hs3 => ?_)
      have c5 := List.all_eq_true.mp c4 (k, S2) hS2
      obtain ⟨⟨env2, nl2, ⟨cs2, fx2⟩, cl2, sl2⟩, pc2, lv2, st2⟩ := S2
      unfold ab_dIa2 at c5
      split at c5
      · rename_i env9 nl9 cs9 fx9 cl9 sl9 pc9 lv9 st9 heq
        cases heq
        rw [Bool.and_eq_true, Bool.and_eq_true, Bool.and_eq_true, Bool.and_eq_true] at c5
        obtain ⟨cp, ck2, s52, fk2, c5⟩ := c5
        have cp := Nat.eq_of_beq_eq_true cp
        subst cp
        have hst2b := lw_st1_ok s52
        subst hst2b
        dsimp only at hR3 hl3 hs3 ⊢
        split at c5
        · rename_i r2 hr3
          have hr4 := un_call (a := a) (b := b') (rc := 13) (mid := 255) (na := 2) (mc := 0) (ms := 0) (A := 2) (B := 12) (np := 1296) lw_cal env2 nl2 (ab_sfm lw_l_I2 true false cs2, fx2) cl2 sl2 lv2 _ r2 hr3
          have hz2 : lw_zv X i z2 x := hz1.ext hR3.2.2.2.2.2.2.2.2.1
          have sm1 := lw_same_of hR2.2.2.2.1.1.2 fk1 hR3.2.2.2.2.2.2.2.2.2.2
          have hc2 := cu_ck_ok ck2 hR3.1 hz2.three hR3.2.2.2.1.1.2
          obtain ⟨τ, A2, we2, d1, d4, d8⟩ := cu_J hc2 hR3.2.2.1
          have hPe2 := cu_P hR3.2.2.2.2.1 (cu_pos d4)
          have hDe2 := cu_D hR3.2.2.2.2.2.1 lw_pJ (by decide) d4
          have hT2 := lw_tw_b hR3 hc2 d1 d4 lw_pJ_in
          have hst4 := lw_st1_v hz2 (lw_posz hR3.2.2.1 d1 d4 rfl) hs3
          rw [hk] at hst4
          have hR3a := hR3.sfm lw_l_I2 true false
          refine jc_call C K me_X11_image hmR hsR hd1 hd2 (by decide) hy_X11_image tg_1943 hc_X11 rfl rfl tg_1940 tg_1941 tg_1942 tg_158 (by decide +kernel) hr4 hR3a hl3 hs3 (m_X11_image_0 d (by omega) τ) d1 hPe2 hDe2 (rest := []) (by rw [hst4]; rfl) rfl (fun S3 hS3 z3 ws3 H3 locs3 r3 u3 hRd hld hsd hpd hxd hpo3 hwu3 hPu3 => ?_)
          obtain ⟨S3', hS3', rfl⟩ := List.mem_map.mp hS3
          have c6 := List.all_eq_true.mp c5 S3' hS3'
          obtain ⟨⟨env3, nl3, ⟨cs3, fx3⟩, cl3, sl3⟩, pc3, lv3, st3⟩ := S3'
          unfold ab_dIa3 at c6
          dsimp only at c6
          rw [Bool.and_eq_true, Bool.and_eq_true] at c6
          obtain ⟨fs3, fk3, c6⟩ := c6
          have hRd : ab_R X D s (z2, ws2, (ab_sfm lw_l_I2 true false cs2).map ab_flg) env3 nl3 (cs3, fx3) z3 ws3 H3 locs3 := hRd
          have hpd : pc3 = 1293 + 3 := hpd
          subst hpd
          split at c6
          · rename_i os3 hos3
            have hz3 : lw_zv X i z3 x := hz2.ext hxd
            have hRe := hRd.sfm lw_l_I2 false false
            obtain ⟨u31, we3⟩ := u3
            dsimp only at hpo3 hwu3 hPu3
            have sm2 := lw_same_of hR3a.2.2.2.1.1.2 fk2 hRd.2.2.2.2.2.2.2.2.2.2
            have hT3 := lw_tw_a hT2 sm2.2.2.2 hRe fs3 lw_pJ_in lw_KJ_lt hwu3 hPu3
            refine lw_seg K C hd0 hd1 hd2 hmR hsR hiL hL hos3 hz3 hRe hld hsd (fun k4 S4 hS4 z4 ws4 H4 locs4 ls4 cst4 hR5 hl5 hs5 => ?_)
            have c7 := List.all_eq_true.mp c6 (k4, S4) hS4
            have hz4 := hz3.ext hR5.2.2.2.2.2.2.2.2.1
            refine lw_at23 hi c7 hR5 hl5 hs5 hz4.1 (fun y e9 he9 ho => ?_) next
            have hy := lw_szc_ok ho hR5.1 hR5.2.2.2.1.2 hz4.2.2.1 he9
            have sm3 := lw_same_of hRe.2.2.2.1.1.2 fk3 hR5.2.2.2.2.2.2.2.2.2.2
            have j1 : lw_J ws1 x := hJ.1.keepR hRa.2.2.2.1.1.2 (lw_chk_r fk) (by decide) hRb.2.2.2.2.2.2.2.2.2.2 (Or.inl (Int.le_refl _))
            have j2 : lw_J ws2 x := j1.keepR hR2.2.2.2.1.1.2 (lw_chk_r fk1) (by decide) hR3.2.2.2.2.2.2.2.2.2.2 (Or.inl (Int.le_refl _))
            have j3 : lw_J ws3 x := j2.keepR hR3a.2.2.2.1.1.2 (lw_chk_r fk2) (by decide) hRd.2.2.2.2.2.2.2.2.2.2 (Or.inl (Int.le_refl _))
            refine And.intro (j3.keepR hRe.2.2.2.1.1.2 (lw_chk_r fk3) (by decide) hR5.2.2.2.2.2.2.2.2.2.2 hy) (lw_JX.same sm3 ?_)
            exact lw_stepI0 hJ.2 hq ⟨al, bl1, bl2⟩ hT hT1 hpo sm0 sm1 hT2 hT3 hpo3 sm2
          · cases c6
        · cases c5
      · cases c5
    · cases c4
  · cases c3

theorem lw_caseIb (K : ab_cal l X D d ab_MEL lw_cal) (C : ab_cx p room_1 s m #[Value.ref b] c code RL 7 X D) (hd0 : 40 ≤ d) (hd1 : 16 * (d + 1) ≤ room_1.frames) (hd2 : 200 * (d + 1) ≤ room_1.locals) {i a b' : Nat} (hmR : 2 + a ≤ room_1.cells) (hsR : 12 + b' ≤ room_1.slots) (hiL : i + 6 ≤ X.1.2.1) (hL : X.1.2.1 ≤ 3072) {x : Int32} {S : ab_S} (hpc : S.2.1 = 1282) (hE : ab_dIb0 S = true) {z0 : ab_Z0} {z : ab_Z} {ws : va_W} {H : Heap} {locs : List Loc} {ls : Array Slot} {cst : List Value} (hz : lw_zv X i z x) (hk : X.2.1 (i + 1) = 1) (hJ : lw_JJ ws x) (hR : ab_R X D s z0 S.1.1 S.1.2.1 S.1.2.2.1 z ws H locs) (hl : ab_lR X z 7 ls S.2.2.1) (hs : S.2.2.2.map (ab_ev X z) = cst.map some) (next : ∀ (z : ab_Z) (ws : va_W) (H : Heap) (locs : List Loc) (ls : Array Slot), z.1[0]? = some (nI (i + 6)) → ab_R X D s (z, [], []) ab_lT.1 0 (gl_L, ab_FX) z ws H locs → (∀ x, z.1[1]? = some x → lw_JJ ws x) → ab_lR X z 7 ls ab_lvT → W p l e room_1 s m #[Value.ref b] below meth c H locs (a + 2) (b' + 12) (lw_Z below #[Value.ref b] s) (F0 m 23 ls [])) : W p l e room_1 s m #[Value.ref b] below meth c H locs (S.1.2.2.2.1 + a) (S.1.2.2.2.2 + b') (lw_Z below #[Value.ref b] s) (F0 m S.2.1 ls cst) := by
  obtain ⟨⟨env, nl, ⟨cs, fx⟩, cl, sl⟩, pc, lv, st⟩ := S
  dsimp only at hpc hR hl hs ⊢
  subst hpc
  unfold ab_dIb0 at hE
  dsimp only at hE
  rw [Bool.and_eq_true, Bool.and_eq_true, Bool.and_eq_true] at hE
  obtain ⟨ck, s5, fk, c3⟩ := hE
  have hi : i + 6 ≤ 3072 := Nat.le_trans hiL hL
  split at c3
  · rename_i r hr
    have hst := lw_st1_ok s5
    subst hst
    have hr2 := un_call (a := a) (b := b') (rc := 12) (mid := 212) (na := 2) (mc := 0) (ms := 0) (A := 2) (B := 12) (np := 1285) lw_cal env nl (ab_sfm lw_l_I1_1 true false cs, fx) cl sl lv _ r hr
    have hRa := hR.sfm lw_l_I1_1 true false
    have hc := cu_ck_ok ck hR.1 hz.three hR.2.2.2.1.1.2
    obtain ⟨q, hq, g9, σ, A, we, b1, b4, b8, ⟨bg0, bg1⟩, al, bl1, bl2⟩ := cu_Iw hc hR.2.2.1
    have hPe := cu_P hR.2.2.2.2.1 (cu_pos b4)
    have hDe := cu_D hR.2.2.2.2.2.1 q.2 (lw_pI_nd q hq) b4
    have hT := lw_tw_b hR hc b1 b4 (lw_pI_in q hq)
    have hp0 := lw_posz hR.2.2.1 b1 b4 (lw_pI_0 q hq)
    have hst2 := lw_st1_v hz hp0 hs
    rw [hk] at hst2
    refine jc_call C K me_X10_image hmR hsR hd1 hd2 (by decide) hy_X10_image tg_1139 hc_X10 rfl rfl tg_1136 tg_1137 tg_1138 tg_143 (by decide +kernel) hr2 hRa hl hs (m_X10_image_1 d (by omega) g9 (bg1.trans rfl) σ) b1 hPe hDe (rest := []) (by rw [hst2]; rfl) rfl (fun S1 hS1 z1 ws1 H1 locs1 r0 u hRb hlb hsb hpb hxb hpo hwu hPu => ?_)
    obtain ⟨S1', hS1', rfl⟩ := List.mem_map.mp hS1
    have c4 := List.all_eq_true.mp c3 S1' hS1'
    obtain ⟨⟨env1, nl1, ⟨cs1, fx1⟩, cl1, sl1⟩, pc1, lv1, st1⟩ := S1'
    unfold ab_dIb1 at c4
    dsimp only at c4
    rw [Bool.and_eq_true, Bool.and_eq_true] at c4
    obtain ⟨fs1, fk1, c4⟩ := c4
    have hRb : ab_R X D s (z, ws, (ab_sfm lw_l_I1_1 true false cs).map ab_flg) env1 nl1 (cs1, fx1) z1 ws1 H1 locs1 := hRb
    have hpb : pc1 = 1282 + 3 := hpb
    subst hpb
    split at c4
    · rename_i os hos
      have hz1 : lw_zv X i z1 x := hz.ext hxb
      have hR2 := hRb.sfm lw_l_I1_1 false false
      obtain ⟨u1, we1⟩ := u
      dsimp only at hpo hwu hPu
      have sm0 := lw_same_of hRa.2.2.2.1.1.2 fk hRb.2.2.2.2.2.2.2.2.2.2
      have hT1 := lw_tw_a hT sm0.2.2.2 hR2 fs1 (lw_pI_in q hq) lw_KI_lt hwu hPu
      refine lw_seg K C hd0 hd1 hd2 hmR hsR hiL hL hos hz1 hR2 hlb hsb (fun k S2 hS2 z2 ws2 H2 locs2 ls2 cst2 hR3 hl3 hs3 => ?_)
      have c5 := List.all_eq_true.mp c4 (k, S2) hS2
      obtain ⟨⟨env2, nl2, ⟨cs2, fx2⟩, cl2, sl2⟩, pc2, lv2, st2⟩ := S2
      unfold ab_dIb2 at c5
      split at c5
      · rename_i env9 nl9 cs9 fx9 cl9 sl9 pc9 lv9 st9 heq
        cases heq
        rw [Bool.and_eq_true, Bool.and_eq_true, Bool.and_eq_true, Bool.and_eq_true] at c5
        obtain ⟨cp, ck2, s52, fk2, c5⟩ := c5
        have cp := Nat.eq_of_beq_eq_true cp
        subst cp
        have hst2b := lw_st1_ok s52
        subst hst2b
        dsimp only at hR3 hl3 hs3 ⊢
        split at c5
        · rename_i r2 hr3
          have hr4 := un_call (a := a) (b := b') (rc := 13) (mid := 255) (na := 2) (mc := 0) (ms := 0) (A := 2) (B := 12) (np := 1296) lw_cal env2 nl2 (ab_sfm lw_l_I2 true false cs2, fx2) cl2 sl2 lv2 _ r2 hr3
          have hz2 : lw_zv X i z2 x := hz1.ext hR3.2.2.2.2.2.2.2.2.1
          have sm1 := lw_same_of hR2.2.2.2.1.1.2 fk1 hR3.2.2.2.2.2.2.2.2.2.2
          have hc2 := cu_ck_ok ck2 hR3.1 hz2.three hR3.2.2.2.1.1.2
          obtain ⟨τ, A2, we2, d1, d4, d8⟩ := cu_J hc2 hR3.2.2.1
          have hPe2 := cu_P hR3.2.2.2.2.1 (cu_pos d4)
          have hDe2 := cu_D hR3.2.2.2.2.2.1 lw_pJ (by decide) d4
          have hT2 := lw_tw_b hR3 hc2 d1 d4 lw_pJ_in
          have hst4 := lw_st1_v hz2 (lw_posz hR3.2.2.1 d1 d4 rfl) hs3
          rw [hk] at hst4
          have hR3a := hR3.sfm lw_l_I2 true false
          refine jc_call C K me_X11_image hmR hsR hd1 hd2 (by decide) hy_X11_image tg_1943 hc_X11 rfl rfl tg_1940 tg_1941 tg_1942 tg_158 (by decide +kernel) hr4 hR3a hl3 hs3 (m_X11_image_1 d (by omega) τ) d1 hPe2 hDe2 (rest := []) (by rw [hst4]; rfl) rfl (fun S3 hS3 z3 ws3 H3 locs3 r3 u3 hRd hld hsd hpd hxd hpo3 hwu3 hPu3 => ?_)
          obtain ⟨S3', hS3', rfl⟩ := List.mem_map.mp hS3
          have c6 := List.all_eq_true.mp c5 S3' hS3'
          obtain ⟨⟨env3, nl3, ⟨cs3, fx3⟩, cl3, sl3⟩, pc3, lv3, st3⟩ := S3'
          unfold ab_dIb3 at c6
          dsimp only at c6
          rw [Bool.and_eq_true, Bool.and_eq_true] at c6
          obtain ⟨fs3, fk3, c6⟩ := c6
          have hRd : ab_R X D s (z2, ws2, (ab_sfm lw_l_I2 true false cs2).map ab_flg) env3 nl3 (cs3, fx3) z3 ws3 H3 locs3 := hRd
          have hpd : pc3 = 1293 + 3 := hpd
          subst hpd
          split at c6
          · rename_i os3 hos3
            have hz3 : lw_zv X i z3 x := hz2.ext hxd
            have hRe := hRd.sfm lw_l_I2 false false
            obtain ⟨u31, we3⟩ := u3
            dsimp only at hpo3 hwu3 hPu3
            have sm2 := lw_same_of hR3a.2.2.2.1.1.2 fk2 hRd.2.2.2.2.2.2.2.2.2.2
            have hT3 := lw_tw_a hT2 sm2.2.2.2 hRe fs3 lw_pJ_in lw_KJ_lt hwu3 hPu3
            refine lw_seg K C hd0 hd1 hd2 hmR hsR hiL hL hos3 hz3 hRe hld hsd (fun k4 S4 hS4 z4 ws4 H4 locs4 ls4 cst4 hR5 hl5 hs5 => ?_)
            have c7 := List.all_eq_true.mp c6 (k4, S4) hS4
            have hz4 := hz3.ext hR5.2.2.2.2.2.2.2.2.1
            refine lw_at23 hi c7 hR5 hl5 hs5 hz4.1 (fun y e9 he9 ho => ?_) next
            have hy := lw_szc_ok ho hR5.1 hR5.2.2.2.1.2 hz4.2.2.1 he9
            have sm3 := lw_same_of hRe.2.2.2.1.1.2 fk3 hR5.2.2.2.2.2.2.2.2.2.2
            have j1 : lw_J ws1 x := hJ.1.keepR hRa.2.2.2.1.1.2 (lw_chk_r fk) (by decide) hRb.2.2.2.2.2.2.2.2.2.2 (Or.inl (Int.le_refl _))
            have j2 : lw_J ws2 x := j1.keepR hR2.2.2.2.1.1.2 (lw_chk_r fk1) (by decide) hR3.2.2.2.2.2.2.2.2.2.2 (Or.inl (Int.le_refl _))
            have j3 : lw_J ws3 x := j2.keepR hR3a.2.2.2.1.1.2 (lw_chk_r fk2) (by decide) hRd.2.2.2.2.2.2.2.2.2.2 (Or.inl (Int.le_refl _))
            refine And.intro (j3.keepR hRe.2.2.2.1.1.2 (lw_chk_r fk3) (by decide) hR5.2.2.2.2.2.2.2.2.2.2 hy) (lw_JX.same sm3 ?_)
            exact lw_stepI1 hJ.2 hq ⟨al, bl1, bl2⟩ hT hT1 hpo sm0 sm1 hT2 hT3 hpo3 sm2
          · cases c6
        · cases c5
      · cases c5
    · cases c4
  · cases c3

theorem lw_caseRa (K : ab_cal l X D d ab_MEL lw_cal) (C : ab_cx p room_1 s m #[Value.ref b] c code RL 7 X D) (hd0 : 40 ≤ d) (hd1 : 16 * (d + 1) ≤ room_1.frames) (hd2 : 200 * (d + 1) ≤ room_1.locals) {i a b' : Nat} (hmR : 2 + a ≤ room_1.cells) (hsR : 12 + b' ≤ room_1.slots) (hiL : i + 6 ≤ X.1.2.1) (hL : X.1.2.1 ≤ 3072) {x : Int32} {S : ab_S} (hpc : S.2.1 = 1307) (hE : ab_dR0 S = true) {z0 : ab_Z0} {z : ab_Z} {ws : va_W} {H : Heap} {locs : List Loc} {ls : Array Slot} {cst : List Value} (hz : lw_zv X i z x) (hk : X.2.1 (i + 1) = 0) (hJ : lw_JJ ws x) (hR : ab_R X D s z0 S.1.1 S.1.2.1 S.1.2.2.1 z ws H locs) (hl : ab_lR X z 7 ls S.2.2.1) (hs : S.2.2.2.map (ab_ev X z) = cst.map some) (next : ∀ (z : ab_Z) (ws : va_W) (H : Heap) (locs : List Loc) (ls : Array Slot), z.1[0]? = some (nI (i + 6)) → ab_R X D s (z, [], []) ab_lT.1 0 (gl_L, ab_FX) z ws H locs → (∀ x, z.1[1]? = some x → lw_JJ ws x) → ab_lR X z 7 ls ab_lvT → W p l e room_1 s m #[Value.ref b] below meth c H locs (a + 2) (b' + 12) (lw_Z below #[Value.ref b] s) (F0 m 23 ls [])) : W p l e room_1 s m #[Value.ref b] below meth c H locs (S.1.2.2.2.1 + a) (S.1.2.2.2.2 + b') (lw_Z below #[Value.ref b] s) (F0 m S.2.1 ls cst) := by
  obtain ⟨⟨env, nl, ⟨cs, fx⟩, cl, sl⟩, pc, lv, st⟩ := S
  dsimp only at hpc hR hl hs ⊢
  subst hpc
  unfold ab_dR0 at hE
  dsimp only at hE
  rw [Bool.and_eq_true, Bool.and_eq_true, Bool.and_eq_true] at hE
  obtain ⟨ck, s5, fk, c3⟩ := hE
  have hi : i + 6 ≤ 3072 := Nat.le_trans hiL hL
  split at c3
  · rename_i r hr
    have hst := lw_st1_ok s5
    subst hst
    have hr2 := un_call (a := a) (b := b') (rc := 12) (mid := 213) (na := 2) (mc := 0) (ms := 0) (A := 2) (B := 12) (np := 1310) lw_cal env nl (ab_sfm lw_l_R1 true false cs, fx) cl sl lv _ r hr
    have hRa := hR.sfm lw_l_R1 true false
    have hc := cu_ck_ok ck hR.1 hz.three hR.2.2.2.1.1.2
    obtain ⟨q, hq, g9, σ, A, we, b1, b4, b8, ⟨bg0, bg1⟩, al, bl1, bl2⟩ := cu_Iw hc hR.2.2.1
    have hPe := cu_P hR.2.2.2.2.1 (cu_pos b4)
    have hDe := cu_D hR.2.2.2.2.2.1 q.2 (lw_pI_nd q hq) b4
    have hT := lw_tw_b hR hc b1 b4 (lw_pI_in q hq)
    have hp0 := lw_posz hR.2.2.1 b1 b4 (lw_pI_0 q hq)
    have hst2 := lw_st1_v hz hp0 hs
    rw [hk] at hst2
    refine jc_call C K me_X10_restore hmR hsR hd1 hd2 (by decide) hy_X10_restore tg_1153 hc_X10 rfl rfl tg_1150 tg_1151 tg_1152 tg_143 (by decide +kernel) hr2 hRa hl hs (m_X10_restore_0 d (by omega) g9 (bg0.trans rfl) σ) b1 hPe hDe (rest := []) (by rw [hst2]; rfl) rfl (fun S1 hS1 z1 ws1 H1 locs1 r0 u hRb hlb hsb hpb hxb hpo hwu hPu => ?_)
    obtain ⟨S1', hS1', rfl⟩ := List.mem_map.mp hS1
    have c4 := List.all_eq_true.mp c3 S1' hS1'
    obtain ⟨⟨env1, nl1, ⟨cs1, fx1⟩, cl1, sl1⟩, pc1, lv1, st1⟩ := S1'
    unfold ab_dR1 at c4
    dsimp only at c4
    rw [Bool.and_eq_true, Bool.and_eq_true] at c4
    obtain ⟨fs1, fk1, c4⟩ := c4
    have hRb : ab_R X D s (z, ws, (ab_sfm lw_l_R1 true false cs).map ab_flg) env1 nl1 (cs1, fx1) z1 ws1 H1 locs1 := hRb
    have hpb : pc1 = 1307 + 3 := hpb
    subst hpb
    split at c4
    · rename_i os hos
      have hz1 : lw_zv X i z1 x := hz.ext hxb
      have hR2 := hRb.sfm lw_l_R1 false false
      obtain ⟨u1, we1⟩ := u
      dsimp only at hpo hwu hPu
      have sm0 := lw_same_of hRa.2.2.2.1.1.2 fk hRb.2.2.2.2.2.2.2.2.2.2
      have hT1 := lw_tw_a hT sm0.2.2.2 hR2 fs1 (lw_pI_in q hq) lw_KI_lt hwu hPu
      refine lw_seg K C hd0 hd1 hd2 hmR hsR hiL hL hos hz1 hR2 hlb hsb (fun k S2 hS2 z2 ws2 H2 locs2 ls2 cst2 hR3 hl3 hs3 => ?_)
      have c5 := List.all_eq_true.mp c4 (k, S2) hS2
      obtain ⟨⟨env2, nl2, ⟨cs2, fx2⟩, cl2, sl2⟩, pc2, lv2, st2⟩ := S2
      unfold ab_dR2 at c5
      split at c5
      · rename_i env9 nl9 cs9 fx9 cl9 sl9 pc9 lv9 st9 heq
        cases heq
        rw [Bool.and_eq_true, Bool.and_eq_true, Bool.and_eq_true, Bool.and_eq_true] at c5
        obtain ⟨cp, ck2, s52, fk2, c5⟩ := c5
        have cp := Nat.eq_of_beq_eq_true cp
        subst cp
        have hst2b := lw_st1_ok s52
        subst hst2b
        dsimp only at hR3 hl3 hs3 ⊢
        split at c5
        · rename_i r2 hr3
          have hr4 := un_call (a := a) (b := b') (rc := 13) (mid := 256) (na := 2) (mc := 0) (ms := 0) (A := 2) (B := 12) (np := 1321) lw_cal env2 nl2 (ab_sfm lw_l_R2 true true cs2, fx2) cl2 sl2 lv2 _ r2 hr3
          have hz2 : lw_zv X i z2 x := hz1.ext hR3.2.2.2.2.2.2.2.2.1
          have sm1 := lw_same_of hR2.2.2.2.1.1.2 fk1 hR3.2.2.2.2.2.2.2.2.2.2
          have hc2 := cu_ck_ok ck2 hR3.1 hz2.three hR3.2.2.2.1.1.2
          obtain ⟨τ, A2, we2, d1, d4, d8⟩ := cu_J hc2 hR3.2.2.1
          have hPe2 := cu_P hR3.2.2.2.2.1 (cu_pos d4)
          have hDe2 := cu_D hR3.2.2.2.2.2.1 lw_pJ (by decide) d4
          have hT2 := lw_tw_b hR3 hc2 d1 d4 lw_pJ_in
          have hst4 := lw_st1_v hz2 (lw_posz hR3.2.2.1 d1 d4 rfl) hs3
          rw [hk] at hst4
          have hR3a := hR3.sfm lw_l_R2 true true
          refine jc_call C K me_X11_restore hmR hsR hd1 hd2 (by decide) hy_X11_restore tg_1947 hc_X11 rfl rfl tg_1944 tg_1945 tg_1946 tg_158 (by decide +kernel) hr4 hR3a hl3 hs3 (m_X11_restore_0 d (by omega) τ) d1 hPe2 hDe2 (rest := []) (by rw [hst4]; rfl) rfl (fun S3 hS3 z3 ws3 H3 locs3 r3 u3 hRd hld hsd hpd hxd hpo3 hwu3 hPu3 => ?_)
          obtain ⟨S3', hS3', rfl⟩ := List.mem_map.mp hS3
          have c6 := List.all_eq_true.mp c5 S3' hS3'
          obtain ⟨⟨env3, nl3, ⟨cs3, fx3⟩, cl3, sl3⟩, pc3, lv3, st3⟩ := S3'
          unfold ab_dR3 at c6
          dsimp only at c6
          rw [Bool.and_eq_true, Bool.and_eq_true] at c6
          obtain ⟨fs3, fk3, c6⟩ := c6
          have hRd : ab_R X D s (z2, ws2, (ab_sfm lw_l_R2 true true cs2).map ab_flg) env3 nl3 (cs3, fx3) z3 ws3 H3 locs3 := hRd
          have hpd : pc3 = 1318 + 3 := hpd
          subst hpd
          split at c6
          · rename_i os3 hos3
            have hz3 : lw_zv X i z3 x := hz2.ext hxd
            have hRe := hRd.sfm lw_l_R2 false true
            obtain ⟨u31, we3⟩ := u3
            dsimp only at hpo3 hwu3 hPu3
            have sm2 := lw_same_of hR3a.2.2.2.1.1.2 fk2 hRd.2.2.2.2.2.2.2.2.2.2
            have hT3 := lw_tw_a hT2 sm2.2.2.2 hRe fs3 lw_pJ_in lw_KJ_lt hwu3 hPu3
            refine lw_seg K C hd0 hd1 hd2 hmR hsR hiL hL hos3 hz3 hRe hld hsd (fun k4 S4 hS4 z4 ws4 H4 locs4 ls4 cst4 hR5 hl5 hs5 => ?_)
            have c7 := List.all_eq_true.mp c6 (k4, S4) hS4
            have hz4 := hz3.ext hR5.2.2.2.2.2.2.2.2.1
            refine lw_at23 hi c7 hR5 hl5 hs5 hz4.1 (fun y e9 he9 ho => ?_) next
            have hy := lw_szc_ok ho hR5.1 hR5.2.2.2.1.2 hz4.2.2.1 he9
            have sm3 := lw_same_of hRe.2.2.2.1.1.2 fk3 hR5.2.2.2.2.2.2.2.2.2.2
            have j1 : lw_J ws1 x := hJ.1.keepR hRa.2.2.2.1.1.2 (lw_chk_r fk) (by decide) hRb.2.2.2.2.2.2.2.2.2.2 (Or.inl (Int.le_refl _))
            have j2 : lw_J ws2 x := j1.keepR hR2.2.2.2.1.1.2 (lw_chk_r fk1) (by decide) hR3.2.2.2.2.2.2.2.2.2.2 (Or.inl (Int.le_refl _))
            have j3 : lw_J ws3 x := j2.keepR hR3a.2.2.2.1.1.2 (lw_chk_r fk2) (by decide) hRd.2.2.2.2.2.2.2.2.2.2 (Or.inl (Int.le_refl _))
            refine And.intro (j3.keepR hRe.2.2.2.1.1.2 (lw_chk_r fk3) (by decide) hR5.2.2.2.2.2.2.2.2.2.2 hy) (lw_JX.same sm3 ?_)
            exact lw_stepR0 hJ.2 hq ⟨al, bl1, bl2⟩ hT hT1 hpo sm0 sm1 hT2 hT3 hpo3 sm2
          · cases c6
        · cases c5
      · cases c5
    · cases c4
  · cases c3

theorem lw_caseRb (K : ab_cal l X D d ab_MEL lw_cal) (C : ab_cx p room_1 s m #[Value.ref b] c code RL 7 X D) (hd0 : 40 ≤ d) (hd1 : 16 * (d + 1) ≤ room_1.frames) (hd2 : 200 * (d + 1) ≤ room_1.locals) {i a b' : Nat} (hmR : 2 + a ≤ room_1.cells) (hsR : 12 + b' ≤ room_1.slots) (hiL : i + 6 ≤ X.1.2.1) (hL : X.1.2.1 ≤ 3072) {x : Int32} {S : ab_S} (hpc : S.2.1 = 1307) (hE : ab_dR0 S = true) {z0 : ab_Z0} {z : ab_Z} {ws : va_W} {H : Heap} {locs : List Loc} {ls : Array Slot} {cst : List Value} (hz : lw_zv X i z x) (hk : X.2.1 (i + 1) = 1) (hJ : lw_JJ ws x) (hR : ab_R X D s z0 S.1.1 S.1.2.1 S.1.2.2.1 z ws H locs) (hl : ab_lR X z 7 ls S.2.2.1) (hs : S.2.2.2.map (ab_ev X z) = cst.map some) (next : ∀ (z : ab_Z) (ws : va_W) (H : Heap) (locs : List Loc) (ls : Array Slot), z.1[0]? = some (nI (i + 6)) → ab_R X D s (z, [], []) ab_lT.1 0 (gl_L, ab_FX) z ws H locs → (∀ x, z.1[1]? = some x → lw_JJ ws x) → ab_lR X z 7 ls ab_lvT → W p l e room_1 s m #[Value.ref b] below meth c H locs (a + 2) (b' + 12) (lw_Z below #[Value.ref b] s) (F0 m 23 ls [])) : W p l e room_1 s m #[Value.ref b] below meth c H locs (S.1.2.2.2.1 + a) (S.1.2.2.2.2 + b') (lw_Z below #[Value.ref b] s) (F0 m S.2.1 ls cst) := by
  obtain ⟨⟨env, nl, ⟨cs, fx⟩, cl, sl⟩, pc, lv, st⟩ := S
  dsimp only at hpc hR hl hs ⊢
  subst hpc
  unfold ab_dR0 at hE
  dsimp only at hE
  rw [Bool.and_eq_true, Bool.and_eq_true, Bool.and_eq_true] at hE
  obtain ⟨ck, s5, fk, c3⟩ := hE
  have hi : i + 6 ≤ 3072 := Nat.le_trans hiL hL
  split at c3
  · rename_i r hr
    have hst := lw_st1_ok s5
    subst hst
    have hr2 := un_call (a := a) (b := b') (rc := 12) (mid := 213) (na := 2) (mc := 0) (ms := 0) (A := 2) (B := 12) (np := 1310) lw_cal env nl (ab_sfm lw_l_R1 true false cs, fx) cl sl lv _ r hr
    have hRa := hR.sfm lw_l_R1 true false
    have hc := cu_ck_ok ck hR.1 hz.three hR.2.2.2.1.1.2
    obtain ⟨q, hq, g9, σ, A, we, b1, b4, b8, ⟨bg0, bg1⟩, al, bl1, bl2⟩ := cu_Iw hc hR.2.2.1
    have hPe := cu_P hR.2.2.2.2.1 (cu_pos b4)
    have hDe := cu_D hR.2.2.2.2.2.1 q.2 (lw_pI_nd q hq) b4
    have hT := lw_tw_b hR hc b1 b4 (lw_pI_in q hq)
    have hp0 := lw_posz hR.2.2.1 b1 b4 (lw_pI_0 q hq)
    have hst2 := lw_st1_v hz hp0 hs
    rw [hk] at hst2
    refine jc_call C K me_X10_restore hmR hsR hd1 hd2 (by decide) hy_X10_restore tg_1153 hc_X10 rfl rfl tg_1150 tg_1151 tg_1152 tg_143 (by decide +kernel) hr2 hRa hl hs (m_X10_restore_1 d (by omega) g9 (bg1.trans rfl) σ) b1 hPe hDe (rest := []) (by rw [hst2]; rfl) rfl (fun S1 hS1 z1 ws1 H1 locs1 r0 u hRb hlb hsb hpb hxb hpo hwu hPu => ?_)
    obtain ⟨S1', hS1', rfl⟩ := List.mem_map.mp hS1
    have c4 := List.all_eq_true.mp c3 S1' hS1'
    obtain ⟨⟨env1, nl1, ⟨cs1, fx1⟩, cl1, sl1⟩, pc1, lv1, st1⟩ := S1'
    unfold ab_dR1 at c4
    dsimp only at c4
    rw [Bool.and_eq_true, Bool.and_eq_true] at c4
    obtain ⟨fs1, fk1, c4⟩ := c4
    have hRb : ab_R X D s (z, ws, (ab_sfm lw_l_R1 true false cs).map ab_flg) env1 nl1 (cs1, fx1) z1 ws1 H1 locs1 := hRb
    have hpb : pc1 = 1307 + 3 := hpb
    subst hpb
    split at c4
    · rename_i os hos
      have hz1 : lw_zv X i z1 x := hz.ext hxb
      have hR2 := hRb.sfm lw_l_R1 false false
      obtain ⟨u1, we1⟩ := u
      dsimp only at hpo hwu hPu
      have sm0 := lw_same_of hRa.2.2.2.1.1.2 fk hRb.2.2.2.2.2.2.2.2.2.2
      have hT1 := lw_tw_a hT sm0.2.2.2 hR2 fs1 (lw_pI_in q hq) lw_KI_lt hwu hPu
      refine lw_seg K C hd0 hd1 hd2 hmR hsR hiL hL hos hz1 hR2 hlb hsb (fun k S2 hS2 z2 ws2 H2 locs2 ls2 cst2 hR3 hl3 hs3 => ?_)
      have c5 := List.all_eq_true.mp c4 (k, S2) hS2
      obtain ⟨⟨env2, nl2, ⟨cs2, fx2⟩, cl2, sl2⟩, pc2, lv2, st2⟩ := S2
      unfold ab_dR2 at c5
      split at c5
      · rename_i env9 nl9 cs9 fx9 cl9 sl9 pc9 lv9 st9 heq
        cases heq
        rw [Bool.and_eq_true, Bool.and_eq_true, Bool.and_eq_true, Bool.and_eq_true] at c5
        obtain ⟨cp, ck2, s52, fk2, c5⟩ := c5
        have cp := Nat.eq_of_beq_eq_true cp
        subst cp
        have hst2b := lw_st1_ok s52
        subst hst2b
        dsimp only at hR3 hl3 hs3 ⊢
        split at c5
        · rename_i r2 hr3
          have hr4 := un_call (a := a) (b := b') (rc := 13) (mid := 256) (na := 2) (mc := 0) (ms := 0) (A := 2) (B := 12) (np := 1321) lw_cal env2 nl2 (ab_sfm lw_l_R2 true true cs2, fx2) cl2 sl2 lv2 _ r2 hr3
          have hz2 : lw_zv X i z2 x := hz1.ext hR3.2.2.2.2.2.2.2.2.1
          have sm1 := lw_same_of hR2.2.2.2.1.1.2 fk1 hR3.2.2.2.2.2.2.2.2.2.2
          have hc2 := cu_ck_ok ck2 hR3.1 hz2.three hR3.2.2.2.1.1.2
          obtain ⟨τ, A2, we2, d1, d4, d8⟩ := cu_J hc2 hR3.2.2.1
          have hPe2 := cu_P hR3.2.2.2.2.1 (cu_pos d4)
          have hDe2 := cu_D hR3.2.2.2.2.2.1 lw_pJ (by decide) d4
          have hT2 := lw_tw_b hR3 hc2 d1 d4 lw_pJ_in
          have hst4 := lw_st1_v hz2 (lw_posz hR3.2.2.1 d1 d4 rfl) hs3
          rw [hk] at hst4
          have hR3a := hR3.sfm lw_l_R2 true true
          refine jc_call C K me_X11_restore hmR hsR hd1 hd2 (by decide) hy_X11_restore tg_1947 hc_X11 rfl rfl tg_1944 tg_1945 tg_1946 tg_158 (by decide +kernel) hr4 hR3a hl3 hs3 (m_X11_restore_1 d (by omega) τ) d1 hPe2 hDe2 (rest := []) (by rw [hst4]; rfl) rfl (fun S3 hS3 z3 ws3 H3 locs3 r3 u3 hRd hld hsd hpd hxd hpo3 hwu3 hPu3 => ?_)
          obtain ⟨S3', hS3', rfl⟩ := List.mem_map.mp hS3
          have c6 := List.all_eq_true.mp c5 S3' hS3'
          obtain ⟨⟨env3, nl3, ⟨cs3, fx3⟩, cl3, sl3⟩, pc3, lv3, st3⟩ := S3'
          unfold ab_dR3 at c6
          dsimp only at c6
          rw [Bool.and_eq_true, Bool.and_eq_true] at c6
          obtain ⟨fs3, fk3, c6⟩ := c6
          have hRd : ab_R X D s (z2, ws2, (ab_sfm lw_l_R2 true true cs2).map ab_flg) env3 nl3 (cs3, fx3) z3 ws3 H3 locs3 := hRd
          have hpd : pc3 = 1318 + 3 := hpd
          subst hpd
          split at c6
          · rename_i os3 hos3
            have hz3 : lw_zv X i z3 x := hz2.ext hxd
            have hRe := hRd.sfm lw_l_R2 false true
            obtain ⟨u31, we3⟩ := u3
            dsimp only at hpo3 hwu3 hPu3
            have sm2 := lw_same_of hR3a.2.2.2.1.1.2 fk2 hRd.2.2.2.2.2.2.2.2.2.2
            have hT3 := lw_tw_a hT2 sm2.2.2.2 hRe fs3 lw_pJ_in lw_KJ_lt hwu3 hPu3
            refine lw_seg K C hd0 hd1 hd2 hmR hsR hiL hL hos3 hz3 hRe hld hsd (fun k4 S4 hS4 z4 ws4 H4 locs4 ls4 cst4 hR5 hl5 hs5 => ?_)
            have c7 := List.all_eq_true.mp c6 (k4, S4) hS4
            have hz4 := hz3.ext hR5.2.2.2.2.2.2.2.2.1
            refine lw_at23 hi c7 hR5 hl5 hs5 hz4.1 (fun y e9 he9 ho => ?_) next
            have hy := lw_szc_ok ho hR5.1 hR5.2.2.2.1.2 hz4.2.2.1 he9
            have sm3 := lw_same_of hRe.2.2.2.1.1.2 fk3 hR5.2.2.2.2.2.2.2.2.2.2
            have j1 : lw_J ws1 x := hJ.1.keepR hRa.2.2.2.1.1.2 (lw_chk_r fk) (by decide) hRb.2.2.2.2.2.2.2.2.2.2 (Or.inl (Int.le_refl _))
            have j2 : lw_J ws2 x := j1.keepR hR2.2.2.2.1.1.2 (lw_chk_r fk1) (by decide) hR3.2.2.2.2.2.2.2.2.2.2 (Or.inl (Int.le_refl _))
            have j3 : lw_J ws3 x := j2.keepR hR3a.2.2.2.1.1.2 (lw_chk_r fk2) (by decide) hRd.2.2.2.2.2.2.2.2.2.2 (Or.inl (Int.le_refl _))
            refine And.intro (j3.keepR hRe.2.2.2.1.1.2 (lw_chk_r fk3) (by decide) hR5.2.2.2.2.2.2.2.2.2.2 hy) (lw_JX.same sm3 ?_)
            exact lw_stepR1 hJ.2 hq ⟨al, bl1, bl2⟩ hT hT1 hpo sm0 sm1 hT2 hT3 hpo3 sm2
          · cases c6
        · cases c5
      · cases c5
    · cases c4
  · cases c3

theorem lw_caseV (K : ab_cal l X D d ab_MEL lw_cal) (C : ab_cx p room_1 s m #[Value.ref b] c code RL 7 X D) (hd0 : 40 ≤ d) (hd1 : 16 * (d + 1) ≤ room_1.frames) (hd2 : 200 * (d + 1) ≤ room_1.locals) {i a b' : Nat} (hmR : 2 + a ≤ room_1.cells) (hsR : 12 + b' ≤ room_1.slots) (hiL : i + 6 ≤ X.1.2.1) (hL : X.1.2.1 ≤ 3072) {x : Int32} {S : ab_S} (hpc : S.2.1 = 319) (hE : ab_dV0 S = true) {z0 : ab_Z0} {z : ab_Z} {ws : va_W} {H : Heap} {locs : List Loc} {ls : Array Slot} {cst : List Value} (hz : lw_zv X i z x) (hJ : lw_JJ ws x) (hR : ab_R X D s z0 S.1.1 S.1.2.1 S.1.2.2.1 z ws H locs) (hl : ab_lR X z 7 ls S.2.2.1) (hs : S.2.2.2.map (ab_ev X z) = cst.map some) (next : ∀ (z : ab_Z) (ws : va_W) (H : Heap) (locs : List Loc) (ls : Array Slot), z.1[0]? = some (nI (i + 6)) → ab_R X D s (z, [], []) ab_lT.1 0 (gl_L, ab_FX) z ws H locs → (∀ x, z.1[1]? = some x → lw_JJ ws x) → ab_lR X z 7 ls ab_lvT → W p l e room_1 s m #[Value.ref b] below meth c H locs (a + 2) (b' + 12) (lw_Z below #[Value.ref b] s) (F0 m 23 ls [])) : W p l e room_1 s m #[Value.ref b] below meth c H locs (S.1.2.2.2.1 + a) (S.1.2.2.2.2 + b') (lw_Z below #[Value.ref b] s) (F0 m S.2.1 ls cst) := by
  obtain ⟨⟨env, nl, ⟨cs, fx⟩, cl, sl⟩, pc, lv, st⟩ := S
  dsimp only at hpc hR hl hs ⊢
  subst hpc
  unfold ab_dV0 at hE
  dsimp only at hE
  rw [Bool.and_eq_true, Bool.and_eq_true, Bool.and_eq_true] at hE
  obtain ⟨ck, s5, fk, c3⟩ := hE
  have hi : i + 6 ≤ 3072 := Nat.le_trans hiL hL
  split at c3
  · rename_i r hr
    have hst := lw_st0_ok s5
    subst hst
    have hr2 := un_call (a := a) (b := b') (rc := 12) (mid := 176) (na := 1) (mc := 0) (ms := 0) (A := 2) (B := 12) (np := 322) lw_cal env nl (ab_sfm lw_l_V1 true false cs, fx) cl sl lv _ r hr
    have hRa := hR.sfm lw_l_V1 true false
    have hc := cu_ck_ok ck hR.1 hz.three hR.2.2.2.1.1.2
    obtain ⟨q, hq, σ, A, we, lv0, lv1, lv2, lv3, lv4, lv5, lv6, lv7, lv8, lv9, lv10, lv11, lv12, lv13, lv14, lv15, b1, b4, b8, ⟨al, bl1, bl2⟩, ad, bd1, bd2⟩ := cu_Vw hc hR.2.2.1 hJ.2.1
    have hx : σ.1 0 = x := by rw [hz.2.2.1] at b8; exact (Option.some.inj b8).symm
    have hI : 0 ≤ (σ.1 0).toInt ∧ (σ.1 0).toInt ≤ 940 := by rw [hx]; exact hz.2.2.2.2
    have hPe := cu_P hR.2.2.2.2.1 (cu_pos b4)
    have hDe := cu_D hR.2.2.2.2.2.1 q.2.2 (lw_pV_nd q hq) b4
    have hT := lw_tw_b hR hc b1 b4 (lw_pV_in q hq)
    have hp0 := lw_posz hR.2.2.1 b1 b4 (lw_pV_0 q hq)
    have hst2 := lw_st0_v hp0 hs
    skip
    refine jc_call C K me_X10_valley hmR hsR hd1 hd2 (by decide) hy_X10_valley tg_651 hc_X10 rfl rfl tg_648 tg_649 tg_650 tg_143 (by decide +kernel) hr2 hRa hl hs (m_X10_valley d (by omega) _ σ hI) b1 hPe hDe (rest := []) (by rw [hst2]; rfl) rfl (fun S1 hS1 z1 ws1 H1 locs1 r0 u hRb hlb hsb hpb hxb hpo hwu hPu => ?_)
    obtain ⟨S1', hS1', rfl⟩ := List.mem_map.mp hS1
    have c4 := List.all_eq_true.mp c3 S1' hS1'
    obtain ⟨⟨env1, nl1, ⟨cs1, fx1⟩, cl1, sl1⟩, pc1, lv1, st1⟩ := S1'
    unfold ab_dV1 at c4
    dsimp only at c4
    rw [Bool.and_eq_true, Bool.and_eq_true] at c4
    obtain ⟨fs1, fk1, c4⟩ := c4
    have hRb : ab_R X D s (z, ws, (ab_sfm lw_l_V1 true false cs).map ab_flg) env1 nl1 (cs1, fx1) z1 ws1 H1 locs1 := hRb
    have hpb : pc1 = 319 + 3 := hpb
    subst hpb
    split at c4
    · rename_i os hos
      have hz1 : lw_zv X i z1 x := hz.ext hxb
      have hR2 := hRb.sfm lw_l_V1 false false
      obtain ⟨u1, we1⟩ := u
      dsimp only at hpo hwu hPu
      have sm0 := lw_same_of hRa.2.2.2.1.1.2 fk hRb.2.2.2.2.2.2.2.2.2.2
      have hT1 := lw_tw_a hT sm0.2.2.2 hR2 fs1 (lw_pV_in q hq) lw_KV_lt hwu hPu
      refine lw_seg K C hd0 hd1 hd2 hmR hsR hiL hL hos hz1 hR2 hlb hsb (fun k S2 hS2 z2 ws2 H2 locs2 ls2 cst2 hR3 hl3 hs3 => ?_)
      have c5 := List.all_eq_true.mp c4 (k, S2) hS2
      obtain ⟨⟨env2, nl2, ⟨cs2, fx2⟩, cl2, sl2⟩, pc2, lv2, st2⟩ := S2
      unfold ab_dV2 at c5
      split at c5
      · rename_i env9 nl9 cs9 fx9 cl9 sl9 pc9 lv9 st9 heq
        cases heq
        rw [Bool.and_eq_true, Bool.and_eq_true, Bool.and_eq_true, Bool.and_eq_true] at c5
        obtain ⟨cp, ck2, s52, fk2, c5⟩ := c5
        have cp := Nat.eq_of_beq_eq_true cp
        subst cp
        have hst2b := lw_st0_ok s52
        subst hst2b
        dsimp only at hR3 hl3 hs3 ⊢
        split at c5
        · rename_i r2 hr3
          have hr4 := un_call (a := a) (b := b') (rc := 13) (mid := 219) (na := 1) (mc := 0) (ms := 0) (A := 2) (B := 12) (np := 327) lw_cal env2 nl2 (ab_sfm lw_l_V2 true true cs2, fx2) cl2 sl2 lv2 _ r2 hr3
          have hz2 : lw_zv X i z2 x := hz1.ext hR3.2.2.2.2.2.2.2.2.1
          have sm1 := lw_same_of hR2.2.2.2.1.1.2 fk1 hR3.2.2.2.2.2.2.2.2.2.2
          have hc2 := cu_ck_ok ck2 hR3.1 hz2.three hR3.2.2.2.1.1.2
          obtain ⟨τ, A2, we2, d1, d4, d8⟩ := cu_B hc2 hR3.2.2.1
          have hx2 : τ.1 1 = x := by rw [hz2.2.2.2.1] at d8; exact (Option.some.inj d8).symm
          have hI2 : 0 ≤ (τ.1 1).toInt ∧ (τ.1 1).toInt ≤ 940 := by rw [hx2]; exact hz.2.2.2.2
          have hPe2 := cu_P hR3.2.2.2.2.1 (cu_pos d4)
          have hDe2 := cu_D hR3.2.2.2.2.2.1 lw_pB (by decide) d4
          have hT2 := lw_tw_b hR3 hc2 d1 d4 lw_pB_in
          have hst4 := lw_st0_v (lw_posz hR3.2.2.1 d1 d4 rfl) hs3
          skip
          have hR3a := hR3.sfm lw_l_V2 true true
          refine jc_call C K me_X11_valley hmR hsR hd1 hd2 (by decide) hy_X11_valley tg_1532 hc_X11 rfl rfl tg_1529 tg_1530 tg_1531 tg_158 (by decide +kernel) hr4 hR3a hl3 hs3 (m_X11_valley d (by omega) τ hI2) d1 hPe2 hDe2 (rest := []) (by rw [hst4]; rfl) rfl (fun S3 hS3 z3 ws3 H3 locs3 r3 u3 hRd hld hsd hpd hxd hpo3 hwu3 hPu3 => ?_)
          obtain ⟨S3', hS3', rfl⟩ := List.mem_map.mp hS3
          have c6 := List.all_eq_true.mp c5 S3' hS3'
          obtain ⟨⟨env3, nl3, ⟨cs3, fx3⟩, cl3, sl3⟩, pc3, lv3, st3⟩ := S3'
          unfold ab_dV3 at c6
          dsimp only at c6
          rw [Bool.and_eq_true, Bool.and_eq_true] at c6
          obtain ⟨fs3, fk3, c6⟩ := c6
          have hRd : ab_R X D s (z2, ws2, (ab_sfm lw_l_V2 true true cs2).map ab_flg) env3 nl3 (cs3, fx3) z3 ws3 H3 locs3 := hRd
          have hpd : pc3 = 324 + 3 := hpd
          subst hpd
          split at c6
          · rename_i os3 hos3
            have hz3 : lw_zv X i z3 x := hz2.ext hxd
            have hRe := hRd.sfm lw_l_V2 false true
            obtain ⟨u31, we3⟩ := u3
            dsimp only at hpo3 hwu3 hPu3
            have sm2 := lw_same_of hR3a.2.2.2.1.1.2 fk2 hRd.2.2.2.2.2.2.2.2.2.2
            have hT3 := lw_tw_a hT2 sm2.2.2.2 hRe fs3 lw_pB_in lw_KB_lt hwu3 hPu3
            refine lw_seg K C hd0 hd1 hd2 hmR hsR hiL hL hos3 hz3 hRe hld hsd (fun k4 S4 hS4 z4 ws4 H4 locs4 ls4 cst4 hR5 hl5 hs5 => ?_)
            have c7 := List.all_eq_true.mp c6 (k4, S4) hS4
            have hz4 := hz3.ext hR5.2.2.2.2.2.2.2.2.1
            refine lw_at23 hi c7 hR5 hl5 hs5 hz4.1 (fun y e9 he9 ho => ?_) next
            have hy := lw_szc_ok ho hR5.1 hR5.2.2.2.1.2 hz4.2.2.1 he9
            have sm3 := lw_same_of hRe.2.2.2.1.1.2 fk3 hR5.2.2.2.2.2.2.2.2.2.2
            have j1 : lw_J ws1 x := hJ.1.keepR hRa.2.2.2.1.1.2 (lw_chk_r fk) (by decide) hRb.2.2.2.2.2.2.2.2.2.2 (Or.inl (Int.le_refl _))
            have j2 : lw_J ws2 x := j1.keepR hR2.2.2.2.1.1.2 (lw_chk_r fk1) (by decide) hR3.2.2.2.2.2.2.2.2.2.2 (Or.inl (Int.le_refl _))
            have j3 : lw_J ws3 x := j2.keepR hR3a.2.2.2.1.1.2 (lw_chk_r fk2) (by decide) hRd.2.2.2.2.2.2.2.2.2.2 (Or.inl (Int.le_refl _))
            refine And.intro (j3.keepR hRe.2.2.2.1.1.2 (lw_chk_r fk3) (by decide) hR5.2.2.2.2.2.2.2.2.2.2 hy) (lw_JX.same sm3 ?_)
            exact lw_stepV hJ hq ⟨al, bl1, bl2⟩ ⟨ad, bd1, bd2⟩ hT hT1 hpo sm0 sm1 hT2 hT3 hpo3 sm2 hx hx2 hz.2.2.2.2
          · cases c6
        · cases c5
      · cases c5
    · cases c4
  · cases c3

theorem lw_caseIp (K : ab_cal l X D d ab_MEL lw_cal) (C : ab_cx p room_1 s m #[Value.ref b] c code RL 7 X D) (hd0 : 40 ≤ d) (hd1 : 16 * (d + 1) ≤ room_1.frames) (hd2 : 200 * (d + 1) ≤ room_1.locals) {i a b' : Nat} (hmR : 2 + a ≤ room_1.cells) (hsR : 12 + b' ≤ room_1.slots) (hiL : i + 6 ≤ X.1.2.1) (hL : X.1.2.1 ≤ 3072) {x : Int32} {S : ab_S} (hpc : S.2.1 = 1282) (hE : ab_dIp S = true) {z0 : ab_Z0} {z : ab_Z} {ws : va_W} {H : Heap} {locs : List Loc} {ls : Array Slot} {cst : List Value} (hz : lw_zv X i z x) (hJ : lw_JJ ws x) (hR : ab_R X D s z0 S.1.1 S.1.2.1 S.1.2.2.1 z ws H locs) (hl : ab_lR X z 7 ls S.2.2.1) (hs : S.2.2.2.map (ab_ev X z) = cst.map some) (next : ∀ (z : ab_Z) (ws : va_W) (H : Heap) (locs : List Loc) (ls : Array Slot), z.1[0]? = some (nI (i + 6)) → ab_R X D s (z, [], []) ab_lT.1 0 (gl_L, ab_FX) z ws H locs → (∀ x, z.1[1]? = some x → lw_JJ ws x) → ab_lR X z 7 ls ab_lvT → W p l e room_1 s m #[Value.ref b] below meth c H locs (a + 2) (b' + 12) (lw_Z below #[Value.ref b] s) (F0 m 23 ls [])) : W p l e room_1 s m #[Value.ref b] below meth c H locs (S.1.2.2.2.1 + a) (S.1.2.2.2.2 + b') (lw_Z below #[Value.ref b] s) (F0 m S.2.1 ls cst) := by
  obtain ⟨⟨env, nl, ⟨cs, fx⟩, cl, sl⟩, pc, lv, st⟩ := S
  dsimp only at hpc hR hl hs ⊢
  subst hpc
  unfold ab_dIp at hE
  dsimp only at hE
  rw [Bool.and_eq_true] at hE
  obtain ⟨fk, c3⟩ := hE
  have hi : i + 6 ≤ 3072 := Nat.le_trans hiL hL
  split at c3
  · rename_i r hr
    have hr2 := un_call (a := a) (b := b') (rc := 12) (mid := 212) (na := 2) (mc := 0) (ms := 0) (A := 2) (B := 12) (np := 1285) lw_cal env nl (cs, fx) cl sl lv st r hr
    have hR1 := hR.re
    have hso : ab_so p l e room_1 s m #[Value.ref b] below meth c (lw_Z below #[Value.ref b] s) 7 X D (z, ws, cs.map ab_flg) lw_cal 1282 (op_call 12 212 2 0 0 (2 + a) (12 + b') 1285) := so_callV C K me_X10_image hmR hsR hd1 hd2 (by decide) hy_X10_image tg_1139 hc_X10 rfl rfl tg_1136 tg_1137 tg_1138 tg_143 (by decide +kernel)
    refine hso env nl (cs, fx) (cl + a) (sl + b') lv st _ hr2 (fun S1 hS1 => ?_) z ws H locs ls cst hR1 hl hs
    obtain ⟨S1', hS1', rfl⟩ := List.mem_map.mp hS1
    have c4 := List.all_eq_true.mp c3 S1' hS1'
    obtain ⟨⟨env1, nl1, ⟨cs1, fx1⟩, cl1, sl1⟩, pc1, lv1, st1⟩ := S1'
    unfold ab_dIq at c4
    dsimp only at c4
    rw [Bool.and_eq_true] at c4
    obtain ⟨fk1, c4⟩ := c4
    split at c4
    · rename_i os hos
      intro z1 ws1 H1 locs1 ls1 cst1 hRb hlb hsb
      have hw1 := (show ab_R X D s (z, ws, cs.map ab_flg) env1 nl1 (cs1, fx1) z1 ws1 H1 locs1 from hRb)
      have hz1 : lw_zv X i z1 x := hz.ext hw1.2.2.2.2.2.2.2.2.1
      have sm0 := lw_same_of hR1.2.2.2.1.1.2 fk hw1.2.2.2.2.2.2.2.2.2.2
      refine lw_seg K C hd0 hd1 hd2 hmR hsR hiL hL hos hz1 hw1 hlb hsb (fun k S2 hS2 z2 ws2 H2 locs2 ls2 cst2 hR3 hl3 hs3 => ?_)
      have c5 := List.all_eq_true.mp c4 (k, S2) hS2
      obtain ⟨⟨env2, nl2, ⟨cs2, fx2⟩, cl2, sl2⟩, pc2, lv2, st2⟩ := S2
      unfold ab_dIq2 at c5
      split at c5
      · rename_i env9 nl9 cs9 fx9 cl9 sl9 pc9 lv9 st9 heq
        cases heq
        rw [Bool.and_eq_true, Bool.and_eq_true] at c5
        obtain ⟨cp, fk2, c5⟩ := c5
        have cp := Nat.eq_of_beq_eq_true cp
        subst cp
        dsimp only at hR3 hl3 hs3 ⊢
        split at c5
        · rename_i r2 hr3
          have hr4 := un_call (a := a) (b := b') (rc := 13) (mid := 255) (na := 2) (mc := 0) (ms := 0) (A := 2) (B := 12) (np := 1296) lw_cal env2 nl2 (cs2, fx2) cl2 sl2 lv2 st2 r2 hr3
          have hz2 : lw_zv X i z2 x := hz1.ext hR3.2.2.2.2.2.2.2.2.1
          have sm1 := lw_same_of hw1.2.2.2.1.1.2 fk1 hR3.2.2.2.2.2.2.2.2.2.2
          have hR3b := hR3.re
          have hso2 : ab_so p l e room_1 s m #[Value.ref b] below meth c (lw_Z below #[Value.ref b] s) 7 X D (z2, ws2, cs2.map ab_flg) lw_cal 1293 (op_call 13 255 2 0 0 (2 + a) (12 + b') 1296) := so_callV C K me_X11_image hmR hsR hd1 hd2 (by decide) hy_X11_image tg_1943 hc_X11 rfl rfl tg_1940 tg_1941 tg_1942 tg_158 (by decide +kernel)
          refine hso2 env2 nl2 (cs2, fx2) (cl2 + a) (sl2 + b') lv2 st2 _ hr4 (fun S3 hS3 => ?_) z2 ws2 H2 locs2 ls2 cst2 hR3b hl3 hs3
          obtain ⟨S3', hS3', rfl⟩ := List.mem_map.mp hS3
          have c6 := List.all_eq_true.mp c5 S3' hS3'
          obtain ⟨⟨env3, nl3, ⟨cs3, fx3⟩, cl3, sl3⟩, pc3, lv3, st3⟩ := S3'
          unfold ab_dIq3 at c6
          dsimp only at c6
          rw [Bool.and_eq_true] at c6
          obtain ⟨fk3, c6⟩ := c6
          split at c6
          · rename_i os3 hos3
            intro z3 ws3 H3 locs3 ls3 cst3 hRd hld hsd
            have hw3 := (show ab_R X D s (z2, ws2, cs2.map ab_flg) env3 nl3 (cs3, fx3) z3 ws3 H3 locs3 from hRd)
            have hz3 : lw_zv X i z3 x := hz2.ext hw3.2.2.2.2.2.2.2.2.1
            have sm2 := lw_same_of hR3b.2.2.2.1.1.2 fk2 hw3.2.2.2.2.2.2.2.2.2.2
            refine lw_seg K C hd0 hd1 hd2 hmR hsR hiL hL hos3 hz3 hw3 hld hsd (fun k S' hS' z' ws' H' locs' ls' cst' hR' hl' hs' => ?_)
            have c7 := List.all_eq_true.mp c6 (k, S') hS'
            have hz' := hz3.ext hR'.2.2.2.2.2.2.2.2.1
            refine lw_at23 hi c7 hR' hl' hs' hz'.1 (fun y e9 he9 ho => ?_) next
            have hy := lw_szc_ok ho hR'.1 hR'.2.2.2.1.2 hz'.2.2.1 he9
            have sm3 := lw_same_of hw3.2.2.2.1.1.2 fk3 hR'.2.2.2.2.2.2.2.2.2.2
            have j1 : lw_J ws1 x := hJ.1.keepR hR1.2.2.2.1.1.2 (lw_chk_r fk) (by decide) hw1.2.2.2.2.2.2.2.2.2.2 (Or.inl (Int.le_refl _))
            have j2 : lw_J ws2 x := j1.keepR hw1.2.2.2.1.1.2 (lw_chk_r fk1) (by decide) hR3.2.2.2.2.2.2.2.2.2.2 (Or.inl (Int.le_refl _))
            have j3 : lw_J ws3 x := j2.keepR hR3b.2.2.2.1.1.2 (lw_chk_r fk2) (by decide) hw3.2.2.2.2.2.2.2.2.2.2 (Or.inl (Int.le_refl _))
            exact And.intro (j3.keepR hw3.2.2.2.1.1.2 (lw_chk_r fk3) (by decide) hR'.2.2.2.2.2.2.2.2.2.2 hy) ((((hJ.2.same sm0).same sm1).same sm2).same sm3)
          · cases c6
        · cases c5
      · cases c5
    · cases c4
  · cases c3

theorem lw_caseRp (K : ab_cal l X D d ab_MEL lw_cal) (C : ab_cx p room_1 s m #[Value.ref b] c code RL 7 X D) (hd0 : 40 ≤ d) (hd1 : 16 * (d + 1) ≤ room_1.frames) (hd2 : 200 * (d + 1) ≤ room_1.locals) {i a b' : Nat} (hmR : 2 + a ≤ room_1.cells) (hsR : 12 + b' ≤ room_1.slots) (hiL : i + 6 ≤ X.1.2.1) (hL : X.1.2.1 ≤ 3072) {x : Int32} {S : ab_S} (hpc : S.2.1 = 1307) (hE : ab_dRp S = true) {z0 : ab_Z0} {z : ab_Z} {ws : va_W} {H : Heap} {locs : List Loc} {ls : Array Slot} {cst : List Value} (hz : lw_zv X i z x) (hJ : lw_JJ ws x) (hR : ab_R X D s z0 S.1.1 S.1.2.1 S.1.2.2.1 z ws H locs) (hl : ab_lR X z 7 ls S.2.2.1) (hs : S.2.2.2.map (ab_ev X z) = cst.map some) (next : ∀ (z : ab_Z) (ws : va_W) (H : Heap) (locs : List Loc) (ls : Array Slot), z.1[0]? = some (nI (i + 6)) → ab_R X D s (z, [], []) ab_lT.1 0 (gl_L, ab_FX) z ws H locs → (∀ x, z.1[1]? = some x → lw_JJ ws x) → ab_lR X z 7 ls ab_lvT → W p l e room_1 s m #[Value.ref b] below meth c H locs (a + 2) (b' + 12) (lw_Z below #[Value.ref b] s) (F0 m 23 ls [])) : W p l e room_1 s m #[Value.ref b] below meth c H locs (S.1.2.2.2.1 + a) (S.1.2.2.2.2 + b') (lw_Z below #[Value.ref b] s) (F0 m S.2.1 ls cst) := by
  obtain ⟨⟨env, nl, ⟨cs, fx⟩, cl, sl⟩, pc, lv, st⟩ := S
  dsimp only at hpc hR hl hs ⊢
  subst hpc
  unfold ab_dRp at hE
  dsimp only at hE
  rw [Bool.and_eq_true] at hE
  obtain ⟨fk, c3⟩ := hE
  have hi : i + 6 ≤ 3072 := Nat.le_trans hiL hL
  split at c3
  · rename_i r hr
    have hr2 := un_call (a := a) (b := b') (rc := 12) (mid := 213) (na := 2) (mc := 0) (ms := 0) (A := 2) (B := 12) (np := 1310) lw_cal env nl (cs, fx) cl sl lv st r hr
    have hR1 := hR.re
    have hso : ab_so p l e room_1 s m #[Value.ref b] below meth c (lw_Z below #[Value.ref b] s) 7 X D (z, ws, cs.map ab_flg) lw_cal 1307 (op_call 12 213 2 0 0 (2 + a) (12 + b') 1310) := so_callV C K me_X10_restore hmR hsR hd1 hd2 (by decide) hy_X10_restore tg_1153 hc_X10 rfl rfl tg_1150 tg_1151 tg_1152 tg_143 (by decide +kernel)
    refine hso env nl (cs, fx) (cl + a) (sl + b') lv st _ hr2 (fun S1 hS1 => ?_) z ws H locs ls cst hR1 hl hs
    obtain ⟨S1', hS1', rfl⟩ := List.mem_map.mp hS1
    have c4 := List.all_eq_true.mp c3 S1' hS1'
    obtain ⟨⟨env1, nl1, ⟨cs1, fx1⟩, cl1, sl1⟩, pc1, lv1, st1⟩ := S1'
    unfold ab_dRq at c4
    dsimp only at c4
    rw [Bool.and_eq_true] at c4
    obtain ⟨fk1, c4⟩ := c4
    split at c4
    · rename_i os hos
      intro z1 ws1 H1 locs1 ls1 cst1 hRb hlb hsb
      have hw1 := (show ab_R X D s (z, ws, cs.map ab_flg) env1 nl1 (cs1, fx1) z1 ws1 H1 locs1 from hRb)
      have hz1 : lw_zv X i z1 x := hz.ext hw1.2.2.2.2.2.2.2.2.1
      have sm0 := lw_same_of hR1.2.2.2.1.1.2 fk hw1.2.2.2.2.2.2.2.2.2.2
      refine lw_seg K C hd0 hd1 hd2 hmR hsR hiL hL hos hz1 hw1 hlb hsb (fun k S2 hS2 z2 ws2 H2 locs2 ls2 cst2 hR3 hl3 hs3 => ?_)
      have c5 := List.all_eq_true.mp c4 (k, S2) hS2
      obtain ⟨⟨env2, nl2, ⟨cs2, fx2⟩, cl2, sl2⟩, pc2, lv2, st2⟩ := S2
      unfold ab_dRq2 at c5
      split at c5
      · rename_i env9 nl9 cs9 fx9 cl9 sl9 pc9 lv9 st9 heq
        cases heq
        rw [Bool.and_eq_true, Bool.and_eq_true] at c5
        obtain ⟨cp, fk2, c5⟩ := c5
        have cp := Nat.eq_of_beq_eq_true cp
        subst cp
        dsimp only at hR3 hl3 hs3 ⊢
        split at c5
        · rename_i r2 hr3
          have hr4 := un_call (a := a) (b := b') (rc := 13) (mid := 256) (na := 2) (mc := 0) (ms := 0) (A := 2) (B := 12) (np := 1321) lw_cal env2 nl2 (cs2, fx2) cl2 sl2 lv2 st2 r2 hr3
          have hz2 : lw_zv X i z2 x := hz1.ext hR3.2.2.2.2.2.2.2.2.1
          have sm1 := lw_same_of hw1.2.2.2.1.1.2 fk1 hR3.2.2.2.2.2.2.2.2.2.2
          have hR3b := hR3.re
          have hso2 : ab_so p l e room_1 s m #[Value.ref b] below meth c (lw_Z below #[Value.ref b] s) 7 X D (z2, ws2, cs2.map ab_flg) lw_cal 1318 (op_call 13 256 2 0 0 (2 + a) (12 + b') 1321) := so_callV C K me_X11_restore hmR hsR hd1 hd2 (by decide) hy_X11_restore tg_1947 hc_X11 rfl rfl tg_1944 tg_1945 tg_1946 tg_158 (by decide +kernel)
          refine hso2 env2 nl2 (cs2, fx2) (cl2 + a) (sl2 + b') lv2 st2 _ hr4 (fun S3 hS3 => ?_) z2 ws2 H2 locs2 ls2 cst2 hR3b hl3 hs3
          obtain ⟨S3', hS3', rfl⟩ := List.mem_map.mp hS3
          have c6 := List.all_eq_true.mp c5 S3' hS3'
          obtain ⟨⟨env3, nl3, ⟨cs3, fx3⟩, cl3, sl3⟩, pc3, lv3, st3⟩ := S3'
          unfold ab_dRq3 at c6
          dsimp only at c6
          rw [Bool.and_eq_true] at c6
          obtain ⟨fk3, c6⟩ := c6
          split at c6
          · rename_i os3 hos3
            intro z3 ws3 H3 locs3 ls3 cst3 hRd hld hsd
            have hw3 := (show ab_R X D s (z2, ws2, cs2.map ab_flg) env3 nl3 (cs3, fx3) z3 ws3 H3 locs3 from hRd)
            have hz3 : lw_zv X i z3 x := hz2.ext hw3.2.2.2.2.2.2.2.2.1
            have sm2 := lw_same_of hR3b.2.2.2.1.1.2 fk2 hw3.2.2.2.2.2.2.2.2.2.2
            refine lw_seg K C hd0 hd1 hd2 hmR hsR hiL hL hos3 hz3 hw3 hld hsd (fun k S' hS' z' ws' H' locs' ls' cst' hR' hl' hs' => ?_)
            have c7 := List.all_eq_true.mp c6 (k, S') hS'
            have hz' := hz3.ext hR'.2.2.2.2.2.2.2.2.1
            refine lw_at23 hi c7 hR' hl' hs' hz'.1 (fun y e9 he9 ho => ?_) next
            have hy := lw_szc_ok ho hR'.1 hR'.2.2.2.1.2 hz'.2.2.1 he9
            have sm3 := lw_same_of hw3.2.2.2.1.1.2 fk3 hR'.2.2.2.2.2.2.2.2.2.2
            have j1 : lw_J ws1 x := hJ.1.keepR hR1.2.2.2.1.1.2 (lw_chk_r fk) (by decide) hw1.2.2.2.2.2.2.2.2.2.2 (Or.inl (Int.le_refl _))
            have j2 : lw_J ws2 x := j1.keepR hw1.2.2.2.1.1.2 (lw_chk_r fk1) (by decide) hR3.2.2.2.2.2.2.2.2.2.2 (Or.inl (Int.le_refl _))
            have j3 : lw_J ws3 x := j2.keepR hR3b.2.2.2.1.1.2 (lw_chk_r fk2) (by decide) hw3.2.2.2.2.2.2.2.2.2.2 (Or.inl (Int.le_refl _))
            exact And.intro (j3.keepR hw3.2.2.2.1.1.2 (lw_chk_r fk3) (by decide) hR'.2.2.2.2.2.2.2.2.2.2 hy) ((((hJ.2.same sm0).same sm1).same sm2).same sm3)
          · cases c6
        · cases c5
      · cases c5
    · cases c4
  · cases c3

theorem lw_caseI (K : ab_cal l X D d ab_MEL lw_cal) (C : ab_cx p room_1 s m #[Value.ref b] c code RL 7 X D) (hd0 : 40 ≤ d) (hd1 : 16 * (d + 1) ≤ room_1.frames) (hd2 : 200 * (d + 1) ≤ room_1.locals) {i a b' : Nat} (hmR : 2 + a ≤ room_1.cells) (hsR : 12 + b' ≤ room_1.slots) (hiL : i + 6 ≤ X.1.2.1) (hL : X.1.2.1 ≤ 3072) {x : Int32} {S : ab_S} (hpc : S.2.1 = 1282) (hE : ab_dI S = true) {z0 : ab_Z0} {z : ab_Z} {ws : va_W} {H : Heap} {locs : List Loc} {ls : Array Slot} {cst : List Value} (hz : lw_zv X i z x) (hJ : lw_JJ ws x) (hR : ab_R X D s z0 S.1.1 S.1.2.1 S.1.2.2.1 z ws H locs) (hl : ab_lR X z 7 ls S.2.2.1) (hs : S.2.2.2.map (ab_ev X z) = cst.map some) (next : ∀ (z : ab_Z) (ws : va_W) (H : Heap) (locs : List Loc) (ls : Array Slot), z.1[0]? = some (nI (i + 6)) → ab_R X D s (z, [], []) ab_lT.1 0 (gl_L, ab_FX) z ws H locs → (∀ x, z.1[1]? = some x → lw_JJ ws x) → ab_lR X z 7 ls ab_lvT → W p l e room_1 s m #[Value.ref b] below meth c H locs (a + 2) (b' + 12) (lw_Z below #[Value.ref b] s) (F0 m 23 ls [])) : W p l e room_1 s m #[Value.ref b] below meth c H locs (S.1.2.2.2.1 + a) (S.1.2.2.2.2 + b') (lw_Z below #[Value.ref b] s) (F0 m S.2.1 ls cst) := by
  obtain ⟨⟨env, nl, aw, cl, sl⟩, pc, lv, st⟩ := S
  unfold ab_dI at hE
  dsimp only at hE
  rw [Bool.and_eq_true, Bool.and_eq_true, Bool.and_eq_true] at hE
  obtain ⟨e0, e1, e2, e3⟩ := hE
  have he : ab_evI z.1 (some 4, 0) = some (X.2.1 (i + 1)) := lw_e0 (hz.2.1 1 (by decide))
  have n0 : (0 : Int32).toInt = 0 := by decide
  have n1 : (1 : Int32).toInt = 1 := by decide
  have hb := ab_i32 (X.2.1 (i + 1))
  by_cases h0 : X.2.1 (i + 1) = 0
  · obtain ⟨e', r1, r2⟩ := ab_rf_spec hR.1 he (lo := 0) (hi := 0) (by rw [h0, n0]; exact Int.le_refl _) (by rw [h0, n0]; exact Int.le_refl _)
    rw [ab_rfK_eq, r1] at e0
    exact lw_caseIa (S := ((e', nl, aw, cl, sl), pc, lv, st)) K C hd0 hd1 hd2 hmR hsR hiL hL hpc e0 hz h0 hJ (hR.ref r2) hl hs next
  · by_cases h1 : X.2.1 (i + 1) = 1
    · obtain ⟨e', r1, r2⟩ := ab_rf_spec hR.1 he (lo := 1) (hi := 1) (by rw [h1, n1]; exact Int.le_refl _) (by rw [h1, n1]; exact Int.le_refl _)
      rw [ab_rfK_eq, r1] at e1
      exact lw_caseIb (S := ((e', nl, aw, cl, sl), pc, lv, st)) K C hd0 hd1 hd2 hmR hsR hiL hL hpc e1 hz h1 hJ (hR.ref r2) hl hs next
    · have h2 : ¬ (X.2.1 (i + 1)).toInt = 0 := fun h => h0 (Int32.toInt_inj.mp (h.trans n0.symm))
      have h3 : ¬ (X.2.1 (i + 1)).toInt = 1 := fun h => h1 (Int32.toInt_inj.mp (h.trans n1.symm))
      by_cases h4 : (X.2.1 (i + 1)).toInt ≤ -1
      · obtain ⟨e', r1, r2⟩ := ab_rf_spec hR.1 he (lo := -2147483648) (hi := -1) hb.1 h4
        rw [ab_rfK_eq, r1] at e2
        exact lw_caseIp (S := ((e', nl, aw, cl, sl), pc, lv, st)) K C hd0 hd1 hd2 hmR hsR hiL hL hpc e2 hz hJ (hR.ref r2) hl hs next
      · obtain ⟨e', r1, r2⟩ := ab_rf_spec hR.1 he (lo := 2) (hi := 2147483647) (by omega) hb.2
        rw [ab_rfK_eq, r1] at e3
        exact lw_caseIp (S := ((e', nl, aw, cl, sl), pc, lv, st)) K C hd0 hd1 hd2 hmR hsR hiL hL hpc e3 hz hJ (hR.ref r2) hl hs next

theorem lw_caseR (K : ab_cal l X D d ab_MEL lw_cal) (C : ab_cx p room_1 s m #[Value.ref b] c code RL 7 X D) (hd0 : 40 ≤ d) (hd1 : 16 * (d + 1) ≤ room_1.frames) (hd2 : 200 * (d + 1) ≤ room_1.locals) {i a b' : Nat} (hmR : 2 + a ≤ room_1.cells) (hsR : 12 + b' ≤ room_1.slots) (hiL : i + 6 ≤ X.1.2.1) (hL : X.1.2.1 ≤ 3072) {x : Int32} {S : ab_S} (hpc : S.2.1 = 1307) (hE : ab_dR S = true) {z0 : ab_Z0} {z : ab_Z} {ws : va_W} {H : Heap} {locs : List Loc} {ls : Array Slot} {cst : List Value} (hz : lw_zv X i z x) (hJ : lw_JJ ws x) (hR : ab_R X D s z0 S.1.1 S.1.2.1 S.1.2.2.1 z ws H locs) (hl : ab_lR X z 7 ls S.2.2.1) (hs : S.2.2.2.map (ab_ev X z) = cst.map some) (next : ∀ (z : ab_Z) (ws : va_W) (H : Heap) (locs : List Loc) (ls : Array Slot), z.1[0]? = some (nI (i + 6)) → ab_R X D s (z, [], []) ab_lT.1 0 (gl_L, ab_FX) z ws H locs → (∀ x, z.1[1]? = some x → lw_JJ ws x) → ab_lR X z 7 ls ab_lvT → W p l e room_1 s m #[Value.ref b] below meth c H locs (a + 2) (b' + 12) (lw_Z below #[Value.ref b] s) (F0 m 23 ls [])) : W p l e room_1 s m #[Value.ref b] below meth c H locs (S.1.2.2.2.1 + a) (S.1.2.2.2.2 + b') (lw_Z below #[Value.ref b] s) (F0 m S.2.1 ls cst) := by
  obtain ⟨⟨env, nl, aw, cl, sl⟩, pc, lv, st⟩ := S
  unfold ab_dR at hE
  dsimp only at hE
  rw [Bool.and_eq_true, Bool.and_eq_true, Bool.and_eq_true] at hE
  obtain ⟨e0, e1, e2, e3⟩ := hE
  have he : ab_evI z.1 (some 4, 0) = some (X.2.1 (i + 1)) := lw_e0 (hz.2.1 1 (by decide))
  have n0 : (0 : Int32).toInt = 0 := by decide
  have n1 : (1 : Int32).toInt = 1 := by decide
  have hb := ab_i32 (X.2.1 (i + 1))
  by_cases h0 : X.2.1 (i + 1) = 0
  · obtain ⟨e', r1, r2⟩ := ab_rf_spec hR.1 he (lo := 0) (hi := 0) (by rw [h0, n0]; exact Int.le_refl _) (by rw [h0, n0]; exact Int.le_refl _)
    rw [ab_rfK_eq, r1] at e0
    exact lw_caseRa (S := ((e', nl, aw, cl, sl), pc, lv, st)) K C hd0 hd1 hd2 hmR hsR hiL hL hpc e0 hz h0 hJ (hR.ref r2) hl hs next
  · by_cases h1 : X.2.1 (i + 1) = 1
    · obtain ⟨e', r1, r2⟩ := ab_rf_spec hR.1 he (lo := 1) (hi := 1) (by rw [h1, n1]; exact Int.le_refl _) (by rw [h1, n1]; exact Int.le_refl _)
      rw [ab_rfK_eq, r1] at e1
      exact lw_caseRb (S := ((e', nl, aw, cl, sl), pc, lv, st)) K C hd0 hd1 hd2 hmR hsR hiL hL hpc e1 hz h1 hJ (hR.ref r2) hl hs next
    · have h2 : ¬ (X.2.1 (i + 1)).toInt = 0 := fun h => h0 (Int32.toInt_inj.mp (h.trans n0.symm))
      have h3 : ¬ (X.2.1 (i + 1)).toInt = 1 := fun h => h1 (Int32.toInt_inj.mp (h.trans n1.symm))
      by_cases h4 : (X.2.1 (i + 1)).toInt ≤ -1
      · obtain ⟨e', r1, r2⟩ := ab_rf_spec hR.1 he (lo := -2147483648) (hi := -1) hb.1 h4
        rw [ab_rfK_eq, r1] at e2
        exact lw_caseRp (S := ((e', nl, aw, cl, sl), pc, lv, st)) K C hd0 hd1 hd2 hmR hsR hiL hL hpc e2 hz hJ (hR.ref r2) hl hs next
      · obtain ⟨e', r1, r2⟩ := ab_rf_spec hR.1 he (lo := 2) (hi := 2147483647) (by omega) hb.2
        rw [ab_rfK_eq, r1] at e3
        exact lw_caseRp (S := ((e', nl, aw, cl, sl), pc, lv, st)) K C hd0 hd1 hd2 hmR hsR hiL hL hpc e3 hz hJ (hR.ref r2) hl hs next

theorem lw_caseQ (K : ab_cal l X D d ab_MEL lw_cal) (C : ab_cx p room_1 s m #[Value.ref b] c code RL 7 X D) (hd0 : 40 ≤ d) (hd1 : 16 * (d + 1) ≤ room_1.frames) (hd2 : 200 * (d + 1) ≤ room_1.locals) {i a b' : Nat} (hmR : 2 + a ≤ room_1.cells) (hsR : 12 + b' ≤ room_1.slots) (hiL : i + 6 ≤ X.1.2.1) (hL : X.1.2.1 ≤ 3072) {x : Int32} {S : ab_S} (hpc : S.2.1 = 1238) (hE : ab_dQ S = true) {z0 : ab_Z0} {z : ab_Z} {ws : va_W} {H : Heap} {locs : List Loc} {ls : Array Slot} {cst : List Value} (hz : lw_zv X i z x) (hJ : lw_JJ ws x) (hR : ab_R X D s z0 S.1.1 S.1.2.1 S.1.2.2.1 z ws H locs) (hl : ab_lR X z 7 ls S.2.2.1) (hs : S.2.2.2.map (ab_ev X z) = cst.map some) (next : ∀ (z : ab_Z) (ws : va_W) (H : Heap) (locs : List Loc) (ls : Array Slot), z.1[0]? = some (nI (i + 6)) → ab_R X D s (z, [], []) ab_lT.1 0 (gl_L, ab_FX) z ws H locs → (∀ x, z.1[1]? = some x → lw_JJ ws x) → ab_lR X z 7 ls ab_lvT → W p l e room_1 s m #[Value.ref b] below meth c H locs (a + 2) (b' + 12) (lw_Z below #[Value.ref b] s) (F0 m 23 ls [])) : W p l e room_1 s m #[Value.ref b] below meth c H locs (S.1.2.2.2.1 + a) (S.1.2.2.2.2 + b') (lw_Z below #[Value.ref b] s) (F0 m S.2.1 ls cst) := by
  obtain ⟨⟨env, nl, ⟨cs, fx⟩, cl, sl⟩, pc, lv, st⟩ := S
  dsimp only at hpc hR hl hs ⊢
  subst hpc
  unfold ab_dQ at hE
  dsimp only at hE
  rw [Bool.and_eq_true, Bool.and_eq_true, Bool.and_eq_true] at hE
  obtain ⟨ck, s5, fk, c3⟩ := hE
  have hi : i + 6 ≤ 3072 := Nat.le_trans hiL hL
  split at c3
  · rename_i r hr
    have hst := lw_st0_ok s5
    subst hst
    have hr2 := un_call (a := a) (b := b') (rc := 12) (mid := 210) (na := 1) (mc := 0) (ms := 0) (A := 2) (B := 12) (np := 1241) lw_cal env nl (cs, fx) cl sl lv _ r hr
    have hRa := hR.re
    have hc := cu_ck_ok ck hR.1 hz.three hR.2.2.2.1.1.2
    obtain ⟨q, hq, σ, A, we, b1, b4, b8, al, bl1, bl2⟩ := cu_Sw hc hR.2.2.1
    have hx : σ.1 0 = x := by rw [hz.2.2.1] at b8; exact (Option.some.inj b8).symm
    have hPe := cu_P hR.2.2.2.2.1 (cu_pos b4)
    have hDe := cu_D hR.2.2.2.2.2.1 q.2 (lw_pS_nd q hq) b4
    have hT := lw_tw_b hR hc b1 b4 (lw_pS_in q hq)
    have hA : A_IN0 σ := by
      obtain ⟨n1, n2, n3⟩ := cu_Sn hc hR.2.2.1 q hq
      have x6 := (lw_pS_x q hq).2.2.2
      refine ⟨by rw [hx]; exact hz.2.2.2.2, ?_, ?_, ?_⟩
      · rw [← (tv_S q hq hT).1]; exact n1
      · rw [← lw_S1 q hq hT]; exact n2
      · rw [← lw_S2 q hq hT]; exact n3
    have hst2 := lw_st0_v (lw_posz hR.2.2.1 b1 b4 (lw_pS_x q hq).1) hs
    refine jc_call C K me_X10_sentence hmR hsR hd1 hd2 (by decide) hy_X10_sentence tg_1080 hc_X10 rfl rfl tg_1077 tg_1078 tg_1079 tg_143 (by decide +kernel) hr2 hRa hl hs (m_X10_sentence d (by omega) σ hA) b1 hPe hDe (rest := []) (by rw [hst2]; rfl) rfl (fun S1 hS1 z1 ws1 H1 locs1 r0 u hRb hlb hsb hpb hxb hpo hwu hPu => ?_)
    obtain ⟨S1', hS1', rfl⟩ := List.mem_map.mp hS1
    have c4 := List.all_eq_true.mp c3 S1' hS1'
    obtain ⟨⟨env1, nl1, ⟨cs1, fx1⟩, cl1, sl1⟩, pc1, lv1, st1⟩ := S1'
    have hpb : pc1 = 1238 + 3 := hpb
    subst hpb
    unfold ab_dQ1 at c4
    split at c4
    · rename_i env8 nl8 cs8 fx8 cl8 sl8 pc8 lv8 av heq
      cases heq
      rw [Bool.and_eq_true] at c4
      obtain ⟨fk1, c4⟩ := c4
      have hRb : ab_R X D s (z, ws, cs.map ab_flg) env1 nl1 (cs1, fx1) z1 ws1 H1 locs1 := hRb
      have hlb : ab_lR X z1 7 ls lv1 := hlb
      have hsb : [Sum.inl av].map (ab_ev X z1) = (Value.int r0 :: []).map some := hsb
      have hz1 : lw_zv X i z1 x := hz.ext hxb
      have hav : ab_evI z1.1 av = some r0 := by
        have h9 : ab_ev X z1 (.inl av) = some (.int r0) := by
          simp only [List.map_cons, List.map_nil, List.cons.injEq, and_true] at hsb
          exact hsb
        obtain ⟨y9, e1, e2⟩ := ab_evi h9
        cases e1
        exact e2
      split at c4
      · rename_i os hos
        have sm0 := lw_same_of hRa.2.2.2.1.1.2 fk hRb.2.2.2.2.2.2.2.2.2.2
        refine lw_seg (S := ((env1, nl1, (cs1, fx1), cl1, sl1), 1238 + 3, lv1, [Sum.inl av])) (cst := [Value.int r0]) K C hd0 hd1 hd2 hmR hsR hiL hL hos hz1 hRb hlb hsb (fun k S2 hS2 z2 ws2 H2 locs2 ls2 cst2 hR3 hl3 hs3 => ?_)
        have c5 := List.all_eq_true.mp c4 (k, S2) hS2
        obtain ⟨⟨env2, nl2, ⟨cs2, fx2⟩, cl2, sl2⟩, pc2, lv2, st2⟩ := S2
        unfold ab_dQ2 at c5
        split at c5
        · rename_i env9 nl9 cs9 fx9 cl9 sl9 pc9 lv9 j9 a9 heq
          cases heq
          rw [Bool.and_eq_true, Bool.and_eq_true, Bool.and_eq_true, Bool.and_eq_true, Bool.and_eq_true] at c5
          obtain ⟨cp, ck2, ⟨ej, ea2⟩, fk2, c5⟩ := c5
          have cp := Nat.eq_of_beq_eq_true cp
          have ej := Nat.eq_of_beq_eq_true ej
          have ea2 := ab_eqI_eq ea2
          subst cp ej ea2
          dsimp only at hR3 hl3 hs3 ⊢
          split at c5
          · rename_i r2 hr3
            have hr4 := un_call (a := a) (b := b') (rc := 13) (mid := 253) (na := 1) (mc := 0) (ms := 0) (A := 2) (B := 12) (np := 1245) lw_cal env2 nl2 (cs2, fx2) cl2 sl2 lv2 _ r2 hr3
            have hz2 : lw_zv X i z2 x := hz1.ext hR3.2.2.2.2.2.2.2.2.1
            have sm1 := lw_same_of hRb.2.2.2.1.1.2 fk1 hR3.2.2.2.2.2.2.2.2.2.2
            have hc2 := cu_ck_ok ck2 hR3.1 hz2.three hR3.2.2.2.1.1.2
            obtain ⟨τ, A2, we2, d1, d4, d8, d9⟩ := cu_T hc2 hR3.2.2.1
            have hx2 : τ.1 1 = x := by rw [hz2.2.2.2.1] at d8; exact (Option.some.inj d8).symm
            have hB : B_S0 τ := ⟨by rw [hx2]; exact hz.2.2.2.2, d9⟩
            have hPe2 := cu_P hR3.2.2.2.2.1 (cu_pos d4)
            have hDe2 := cu_D hR3.2.2.2.2.2.1 lw_pT (by decide) d4
            have hT2 := lw_tw_b hR3 hc2 d1 d4 lw_pT_in
            have hst4 := lw_stQ_v (lw_posz hR3.2.2.1 d1 d4 rfl) (ab_evI.ext hR3.2.2.2.2.2.2.2.2.1 hav) hs3
            refine jc_call C K me_X11_sentence hmR hsR hd1 hd2 (by decide) hy_X11_sentence tg_1903 hc_X11 rfl rfl tg_1900 tg_1901 tg_1902 tg_158 (by decide +kernel) hr4 hR3.re hl3 hs3 (m_X11_sentence d (by omega) τ hB) d1 hPe2 hDe2 (rest := [Value.int r0]) (by rw [hst4]; rfl) rfl (fun S3 hS3 z3 ws3 H3 locs3 r3 u3 hRd hld hsd hpd hxd hpo3 hwu3 hPu3 => ?_)
            obtain ⟨S3', hS3', rfl⟩ := List.mem_map.mp hS3
            have c6 := List.all_eq_true.mp c5 S3' hS3'
            obtain ⟨⟨env3, nl3, ⟨cs3, fx3⟩, cl3, sl3⟩, pc3, lv3, st3⟩ := S3'
            unfold ab_dQ3 at c6
            split at c6
            · rename_i env7 nl7 cs7 fx7 cl7 sl7 pc7 lv7 bv av7 heq
              cases heq
              rw [Bool.and_eq_true] at c6
              obtain ⟨fk3, c6⟩ := c6
              have hRd : ab_R X D s (z2, ws2, cs2.map ab_flg) env3 nl3 (cs3, fx3) z3 ws3 H3 locs3 := hRd
              have hld : ab_lR X z3 7 ls2 lv3 := hld
              split at c6
              · rename_i os3 hos3
                have hz3 : lw_zv X i z3 x := hz2.ext hxd
                have hr03 : r0 = r3 := by
                  obtain ⟨N, v, f1, f2, -⟩ := lw_sen hJ hq ⟨al, bl1, bl2⟩ hT hT2 (sm0.tr sm1) hA hB hx hx2
                  obtain ⟨M, υ9, f9, g1, -⟩ := hpo3
                  have g2 := B_it_eq f1 g1
                  rw [hpo.1, ← f2, g2]
                have sm2 := lw_same_of hR3.re.2.2.2.1.1.2 fk2 hRd.2.2.2.2.2.2.2.2.2.2
                show W p l e room_1 s m #[Value.ref b] below meth c H3 locs3 (cl3 + a) (sl3 + b') (lw_Z below #[Value.ref b] s) (F0 m (1242 + 3) ls2 [.int r3, .int r0])
                refine lv_icmp_eq C.1 C.2.1 (off := 105) (tgt := 1350) (by decide +kernel) (by decide) (fun hP => ?_) (fun hP => absurd hr03 hP)
                refine lw_seg (S := ((env3, nl3, (cs3, fx3), cl3, sl3), 1350, lv3, [])) (cst := []) K C hd0 hd1 hd2 hmR hsR hiL hL hos3 hz3 hRd.re hld rfl (fun k4 S4 hS4 z4 ws4 H4 locs4 ls4 cst4 hR5 hl5 hs5 => ?_)
                have c7 := List.all_eq_true.mp c6 (k4, S4) hS4
                have hz4 := hz3.ext hR5.2.2.2.2.2.2.2.2.1
                refine lw_at23 hi c7 hR5 hl5 hs5 hz4.1 (fun y e9 he9 ho => ?_) next
                have hy := lw_szc_ok ho hR5.1 hR5.2.2.2.1.2 hz4.2.2.1 he9
                have sm3 := lw_same_of hRd.2.2.2.1.1.2 fk3 hR5.2.2.2.2.2.2.2.2.2.2
                have j1 : lw_J ws1 x := hJ.1.keepR hRa.2.2.2.1.1.2 (lw_chk_r fk) (by decide) hRb.2.2.2.2.2.2.2.2.2.2 (Or.inl (Int.le_refl _))
                have j2 : lw_J ws2 x := j1.keepR hRb.2.2.2.1.1.2 (lw_chk_r fk1) (by decide) hR3.2.2.2.2.2.2.2.2.2.2 (Or.inl (Int.le_refl _))
                have j3 : lw_J ws3 x := j2.keepR hR3.re.2.2.2.1.1.2 (lw_chk_r fk2) (by decide) hRd.2.2.2.2.2.2.2.2.2.2 (Or.inl (Int.le_refl _))
                exact And.intro (j3.keepR hRd.2.2.2.1.1.2 (lw_chk_r fk3) (by decide) hR5.2.2.2.2.2.2.2.2.2.2 hy) ((((hJ.2.same sm0).same sm1).same sm2).same sm3)
              · cases c6
            · cases c6
          · cases c5
        · cases c5
      · cases c4
    · cases c4
  · cases c3

end
