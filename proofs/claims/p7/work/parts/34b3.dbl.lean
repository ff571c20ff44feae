/-! The law: valley, image, restore, count by two contracts on each side. -/

theorem lw_J.keepR {X : ab_X} {z : ab_Z} {s : State} {cs : List ab_C} {ws ws' : va_W} {x y : Int32} {R : List (Nat × Nat × Nat)} (h : lw_J ws x) (hw : ∀ (k : Nat) (c : ab_C), cs[k]? = some c → ∃ q, ws[k]? = some q ∧ ab_cR X z s c q.2) (hk : lw_flk R cs = true) (hR : (17, 0, 940) ∈ R ∧ (4, 2, 940) ∈ R ∧ (38, 1, 22) ∈ R ∧ (150, 1, 22) ∈ R) (hfr : ab_fr (cs.map ab_flg) ws ws') (hy : y.toInt ≤ x.toInt ∨ y.toInt ≤ 0) : lw_J ws' y := by
  refine ⟨fun j hj => ?_, h.2.keep hw hk hfr hR.2.2.1 hR.2.2.2⟩
  rw [(lw_kf hw hk hfr hR.1 (Or.inl rfl)).1, (lw_kf hw hk hfr hR.2.1 (Or.inr rfl)).1]
  exact h.1 j (by omega)
theorem lw_posn {ws we : va_W} {z : ab_Z} (hz : ws.map Prod.fst = z.2.2) {A : ex_A} {X : ab_X} {s : State} {w : List ex_E} (hw : ex_wR X A s w we) {pos : List Nat} (hp : pos.map (fun k => ws[k]?) = we.map some) {i k : Nat} (hi : pos[i]? = some k) : z.2.2[k]? = some (A.1.getD i 0) := by
  obtain ⟨q, q1, q2⟩ := cu_at hp hi
  rw [cu_ad hz q1, List.getD_eq_getElem?_getD, ← hw.1, List.getElem?_map, q2]; rfl
theorem lw_stD_ok {k o : Nat} {st : List ab_V} (h : lw_stD k o st = true) : st = [.inr (.inr (2, o)), .inl (some 5, 0), .inl (some 4, 0), .inr (.inr (2, k))] := by
  unfold lw_stD at h
  split at h
  · rw [Bool.and_eq_true, Bool.and_eq_true, Bool.and_eq_true] at h
    rw [Nat.eq_of_beq_eq_true h.1, ab_eqI_eq h.2.1, ab_eqI_eq h.2.2.1, Nat.eq_of_beq_eq_true h.2.2.2]
  · cases h
theorem lw_stE_ok {k : Nat} {st : List ab_V} (h : lw_stE k st = true) : st = [.inl (some 5, 0), .inl (some 4, 0), .inr (.inr (2, k))] := by
  unfold lw_stE at h
  split at h
  · rw [Bool.and_eq_true, Bool.and_eq_true] at h
    rw [ab_eqI_eq h.1, ab_eqI_eq h.2.1, Nat.eq_of_beq_eq_true h.2.2]
  · cases h
theorem lw_stD_v {X : ab_X} {i : Nat} {z : ab_Z} {x : Int32} (hz : lw_zv X i z x) {k o a ao : Nat} (ha : z.2.2[k]? = some a) (hao : z.2.2[o]? = some ao) {cst : List Value} (h : [.inr (.inr (2, o)), .inl (some 5, 0), .inl (some 4, 0), .inr (.inr (2, k))].map (ab_ev X z) = cst.map some) : cst = [.ref ao, .int (X.2.1 (i + 2)), .int (X.2.1 (i + 1)), .ref a] := by
  have h3 := congrArg (List.filterMap id) h
  rw [lw_fm] at h3
  have v2 : ab_ev X z (.inl (some 5, 0)) = some (.int (X.2.1 (i + 2))) := by
    show (ab_evI z.1 (some 5, 0)).map _ = _
    rw [lw_e0 (hz.2.1 2 (by decide))]; rfl
  have v1 : ab_ev X z (.inl (some 4, 0)) = some (.int (X.2.1 (i + 1))) := by
    show (ab_evI z.1 (some 4, 0)).map _ = _
    rw [lw_e0 (hz.2.1 1 (by decide))]; rfl
  have v0 : ab_ev X z (.inr (.inr (2, k))) = some (.ref a) := by
    show (z.2.2[k]?).map _ = _
    rw [ha]; rfl
  have v3 : ab_ev X z (.inr (.inr (2, o))) = some (.ref ao) := by
    show (z.2.2[o]?).map _ = _
    rw [hao]; rfl
  have h4 : [ab_ev X z (.inr (.inr (2, o))), ab_ev X z (.inl (some 5, 0)), ab_ev X z (.inl (some 4, 0)), ab_ev X z (.inr (.inr (2, k)))].filterMap id = cst := h3
  rw [v3, v2, v1, v0] at h4
  exact h4.symm
theorem lw_stE_v {X : ab_X} {i : Nat} {z : ab_Z} {x : Int32} (hz : lw_zv X i z x) {k a : Nat} (ha : z.2.2[k]? = some a) {cst : List Value} (h : [.inl (some 5, 0), .inl (some 4, 0), .inr (.inr (2, k))].map (ab_ev X z) = cst.map some) : cst = [.int (X.2.1 (i + 2)), .int (X.2.1 (i + 1)), .ref a] := by
  have h3 := congrArg (List.filterMap id) h
  rw [lw_fm] at h3
  have v2 : ab_ev X z (.inl (some 5, 0)) = some (.int (X.2.1 (i + 2))) := by
    show (ab_evI z.1 (some 5, 0)).map _ = _
    rw [lw_e0 (hz.2.1 2 (by decide))]; rfl
  have v1 : ab_ev X z (.inl (some 4, 0)) = some (.int (X.2.1 (i + 1))) := by
    show (ab_evI z.1 (some 4, 0)).map _ = _
    rw [lw_e0 (hz.2.1 1 (by decide))]; rfl
  have v0 : ab_ev X z (.inr (.inr (2, k))) = some (.ref a) := by
    show (z.2.2[k]?).map _ = _
    rw [ha]; rfl
  have h4 : [ab_ev X z (.inl (some 5, 0)), ab_ev X z (.inl (some 4, 0)), ab_ev X z (.inr (.inr (2, k)))].filterMap id = cst := h3
  rw [v2, v1, v0] at h4
  exact h4.symm
theorem lw_lvi_ok {i : Nat} {a : ab_I} {lv : List (Nat × ab_V)} (h : lw_lvi i a lv = true) {X : ab_X} {z : ab_Z} {nL : Nat} {ls : Array Slot} (hl : ab_lR X z nL ls lv) {r : Int32} (ha : ab_evI z.1 a = some r) : ls[i]? = some (.val (.int r)) := by
  unfold lw_lvi at h
  obtain ⟨q, hq, hb⟩ := List.any_eq_true.mp h
  rw [Bool.and_eq_true] at hb
  obtain ⟨b1, b2⟩ := hb
  have b1 := Nat.eq_of_beq_eq_true b1
  obtain ⟨v, v1, v2⟩ := hl.2.2 q hq
  rw [b1] at v2
  split at b2
  · rename_i b' hq2
    have b2 := ab_eqI_eq b2
    rw [hq2, b2] at v1
    have v3 : (ab_evI z.1 a).map Value.int = some v := v1
    rw [ha] at v3
    rw [v2, ← Option.some.inj v3]
  · cases b2
theorem lw_lvr_ok {i k : Nat} {lv : List (Nat × ab_V)} (h : lw_lvr i k lv = true) {X : ab_X} {z : ab_Z} {nL : Nat} {ls : Array Slot} (hl : ab_lR X z nL ls lv) {r : Nat} (ha : z.2.2[k]? = some r) : ls[i]? = some (.val (.ref r)) := by
  unfold lw_lvr at h
  obtain ⟨q, hq, hb⟩ := List.any_eq_true.mp h
  rw [Bool.and_eq_true] at hb
  obtain ⟨b1, b2⟩ := hb
  have b1 := Nat.eq_of_beq_eq_true b1
  obtain ⟨v, v1, v2⟩ := hl.2.2 q hq
  rw [b1] at v2
  split at b2
  · rename_i j hq2
    have b2 := Nat.eq_of_beq_eq_true b2
    rw [hq2, b2] at v1
    have v3 : (z.2.2[k]?).map Value.ref = some v := v1
    rw [ha] at v3
    rw [v2, ← Option.some.inj v3]
  · cases b2
theorem lw_due {ws ws2 : va_W} {X : ab_X} {D : va_G} {A A2 : ex_A} {q : lw_VT × List Nat} {σ τ : ex_S} (hJ : lw_JX ws) (hq : q ∈ lw_pD) (hl : ∃ ad, cu_a ws q.1.1 = some ad ∧ cu_v ws 10 2 = .ref ad) (hT : lw_Tw X D A q.2 (WD σ) ws) (hT2 : lw_Tw X D A2 lw_pK (WK τ) ws2) (sm : lw_same lw_R4 lw_F4 true ws ws2) (hN : 0 ≤ (σ.1 0).toInt ∧ (σ.1 0).toInt ≤ 7) (hI : 0 ≤ (σ.1 1).toInt ∧ (σ.1 1).toInt ≤ 12) (t day : Int32) : τ.2.2.1 0 1 = σ.1 1 ∧ ((∃ v : Int32, D_due t day σ = some v ∧ J_due t day τ = (v, sI 0 (0 : Int32) τ)) ∨ (D_due t day σ = none ∧ J_due t day τ = ((0 : Int32), sI 0 (1 : Int32) τ))) := by
  obtain ⟨h1, hne, h2, h3⟩ := hJ
  obtain ⟨ad, l1, l2⟩ := hl
  obtain ⟨a9, m1, m2⟩ := h2 q.1 (lw_pD_V q hq)
  have e9 := lw_cua m1 l1
  subst e9
  obtain ⟨s0, s1, s2, s3, s4⟩ := (tv_D q hq hT).of (m2 l2)
  have e : ∀ k : Nat, k < 100 → τ.2.2.1 0 k = cu_f ws 1 k := fun k hk => by
    rw [← hT2.f (i := 1) (k := 1) rfl rfl (Or.inl rfl) (WK_1 _) k (by omega) (by omega)]
    exact sm.2.2.1 rfl k hk
  have e1 : τ.2.2.1 0 1 = σ.1 1 := (e 1 (by decide)).trans s1.symm
  have g : ∀ j : Nat, j < (σ.1 1).toInt.toNat → j < 12 ∧ (j : Int) < (cu_f ws 1 1).toInt := fun j hj => by
    rw [← s1]
    omega
  refine ⟨e1, E_due hN ((e 0 (by decide)).trans s0.symm) e1 (fun j hj => ?_) (fun j hj => ?_)⟩
  · obtain ⟨g1, g2⟩ := g j hj
    obtain ⟨c1, c2, c3, c4, -⟩ := s4 j g1 g2
    rw [e (20 + j) (by omega), e (32 + j) (by omega), e (44 + j) (by omega), e (56 + j) (by omega)]
    exact ⟨c1, c2, c3, c4⟩
  · obtain ⟨g1, g2⟩ := g j hj
    obtain ⟨-, -, -, c4, c5⟩ := s4 j g1 g2
    rw [c4]
    omega
/-- what both calls leave: thrown, and the answers alike -/
theorem lw_dueK {ws1 ws2 ws3 : va_W} {X : ab_X} {D : va_G} {A A2 : ex_A} {q : lw_VT × List Nat} {σ τ : ex_S} {u1 u3 : List ex_E} {r0 r3 t day : Int32} (hq : q ∈ lw_pD) (hT1 : lw_Tw X D A q.2 u1 ws1) (hT2 : lw_Tw X D A2 lw_pK (WK τ) ws2) (hT3 : lw_Tw X D A2 lw_pK u3 ws3) (so : cu_q ws2 166 = cu_q ws1 166) (hpo : (r0 = (0 : Int32) ∧ ∃ v : Int32, D_due t day σ = some v ∧ u1 = WD (sQ 5 (vp_updL (σ.2.2.2 5) 0 v.toInt64) σ)) ∨ (r0 = (1 : Int32) ∧ D_due t day σ = none ∧ u1 = WD σ)) (E : (∃ v : Int32, D_due t day σ = some v ∧ J_due t day τ = (v, sI 0 (0 : Int32) τ)) ∨ (D_due t day σ = none ∧ J_due t day τ = ((0 : Int32), sI 0 (1 : Int32) τ))) (hpo3 : r3 = (J_due t day τ).1 ∧ u3 = WK (J_due t day τ).2) : cu_i ws3 0 0 = r0 ∧ (r0 = 0 → cu_q ws3 166 0 = r3.toInt64) := by
  rcases hpo with ⟨rfl, v, e1, rfl⟩ | ⟨rfl, e1, rfl⟩
  · rcases E with ⟨v2, g1, g2⟩ | ⟨g1, g2⟩
    · rw [e1] at g1
      cases g1
      rw [g2] at hpo3
      obtain ⟨p1, p2⟩ := hpo3
      have p1 : r3 = v := p1
      subst p2
      subst p1
      refine ⟨(hT3.i (i := 0) (k := 0) (q := 0) rfl rfl (WK_0 _) rfl (by decide) rfl).trans rfl, fun _ => ?_⟩
      rw [hT3.q (i := 6) (k := 166) rfl rfl (WK_6 _) 0 (by decide) (by decide)]
      show τ.2.2.2 5 0 = _
      rw [← hT2.q (i := 6) (k := 166) rfl rfl (WK_6 _) 0 (by decide) (by decide), so, hT1.q (i := 15) (k := 166) (lw_pD_15 q hq) rfl (WD_15 _) 0 (by decide) (by decide)]
      show vp_updL (σ.2.2.2 5) 0 _ 0 = _
      exact if_pos rfl
    · rw [e1] at g1
      cases g1
  · rcases E with ⟨v2, g1, g2⟩ | ⟨g1, g2⟩
    · rw [e1] at g1
      cases g1
    · rw [g2] at hpo3
      obtain ⟨p1, p2⟩ := hpo3
      subst p2
      exact ⟨(hT3.i (i := 0) (k := 0) (q := 0) rfl rfl (WK_0 _) rfl (by decide) rfl).trans rfl, fun h => absurd h (by decide)⟩
theorem ex_wR.cell {X : ab_X} {s : State} {A : ex_A} {w : List ex_E} {ws : va_W} (h : ex_wR X A s w ws) {k : Nat} {c : ex_E} (hk : w[k]? = some c) : ∃ e, ws[k]? = some (ex_ad X A k, e) ∧ ex_cR X A s c e := by
  obtain ⟨h1, ⟨h2, h4⟩, h3⟩ := h
  obtain ⟨⟨a, e⟩, q1, q2⟩ := h3 k c hk
  have hk9 : k < 1000000 := by
    have := (List.getElem?_eq_some_iff.mp hk).1
    omega
  have ha : A.1[k]? = some a := by rw [← h1, List.getElem?_map, q1]; rfl
  have h9 : ex_ad X A k = a := by
    unfold ex_ad
    rw [if_pos hk9, List.getD_eq_getElem?_getD, ha]; rfl
  exact ⟨e, by rw [h9]; exact q1, q2⟩
theorem lw_av1 {X : ab_X} {z : ab_Z} {av : ab_I} {r : Int32} (h : [Sum.inl av].map (ab_ev X z) = (Value.int r :: []).map some) : ab_evI z.1 av = some r := by
  have h9 : ab_ev X z (.inl av) = some (.int r) := by
    simp only [List.map_cons, List.map_nil, List.cons.injEq, and_true] at h
    exact h
  obtain ⟨y9, e1, e2⟩ := ab_evi h9
  cases e1
  exact e2
theorem lw_ext2 {z z' : ab_Z} (h : ab_ext z z') {k a : Nat} (ha : z.2.2[k]? = some a) : z'.2.2[k]? = some a := by
  obtain ⟨-, -, ⟨t, ht⟩⟩ := h
  rw [ht]
  exact ab_get_app ha
section
variable {p : Program} {l : Launch} {e : Env} {s : State} {m : MethodId} {below : List Frame} {meth : Method} {c : Code} {b L : Nat} {xs : Nat → Int32} {X : ab_X} {D : va_G} {d : Nat}
theorem lw_caseIa (K : ab_cal l X D d ab_MEL lw_cal) (C : ab_cx p room_1 s m #[Value.ref b] c code RL 7 X D) (hd0 : 10 ≤ d) (hd1 : 16 * (d + 1) ≤ room_1.frames) (hd2 : 200 * (d + 1) ≤ room_1.locals) {i a b' : Nat} (hmR : 2 + a ≤ room_1.cells) (hsR : 12 + b' ≤ room_1.slots) (hiL : i + 6 ≤ X.1.2.1) (hL : X.1.2.1 ≤ 3072) {x : Int32} {S : ab_S} (hpc : S.2.1 = 1310) (hE : ab_dIa0 S = true) {z0 : ab_Z0} {z : ab_Z} {ws : va_W} {H : Heap} {locs : List Loc} {ls : Array Slot} {cst : List Value} (hz : lw_zv X i z x) (hk : X.2.1 (i + 1) = 0) (hJ : lw_JJ ws x) (hR : ab_R X D s z0 S.1.1 S.1.2.1 S.1.2.2.1 z ws H locs) (hl : ab_lR X z 7 ls S.2.2.1) (hs : S.2.2.2.map (ab_ev X z) = cst.map some) (next : ∀ (z : ab_Z) (ws : va_W) (H : Heap) (locs : List Loc) (ls : Array Slot), z.1[0]? = some (nI (i + 6)) → ab_R X D s (z, [], []) ab_lT.1 0 (gl_L, ab_FX) z ws H locs → (∀ x, z.1[1]? = some x → lw_JJ ws x) → ab_lR X z 7 ls ab_lvT → W p l e room_1 s m #[Value.ref b] below meth c H locs (a + 2) (b' + 12) (lw_Z below #[Value.ref b] s) (F0 m 23 ls [])) : W p l e room_1 s m #[Value.ref b] below meth c H locs (S.1.2.2.2.1 + a) (S.1.2.2.2.2 + b') (lw_Z below #[Value.ref b] s) (F0 m S.2.1 ls cst) := by
  obtain ⟨⟨env, nl, ⟨cs, fx⟩, cl, sl⟩, pc, lv, st⟩ := S
  dsimp only at hpc hR hl hs ⊢
  subst hpc
  unfold ab_dIa0 at hE
  dsimp only at hE
  rw [Bool.and_eq_true, Bool.and_eq_true, Bool.and_eq_true] at hE
  obtain ⟨ck, s5, fk, c3⟩ := hE
  have hi : i + 6 ≤ 3072 := Nat.le_trans hiL hL
  split at c3
  · rename_i r hr
    have hst := lw_st1_ok s5
    subst hst
    have hr2 := un_call (a := a) (b := b') (rc := 12) (mid := 212) (na := 2) (mc := 0) (ms := 0) (A := 2) (B := 12) (np := 1313) lw_cal env nl (ab_sfm lw_l_I1_0 true false cs, fx) cl sl lv _ r hr
    have hRa := hR.sfm lw_l_I1_0 true false
    have hc := cu_ck_ok ck hR.1 hz.three hR.2.2.2.1.1.2
    obtain ⟨q, hq, g9, σ, A, we, b1, b4, b8, ⟨bg0, bg1⟩, al, bl1, bl2⟩ := cu_Iw hc hR.2.2.1
    have hPe := cu_P hR.2.2.2.2.1 (cu_pos b4)
    have hDe := cu_D hR.2.2.2.2.2.1 q.2 (lw_pI_nd q hq) b4
    have hT := lw_tw_b hR hc b1 b4 (lw_pI_in q hq)
    have hp0 := lw_posz hR.2.2.1 b1 b4 (lw_pI_0 q hq)
    have hst2 := lw_st1_v hz hp0 hs
    rw [hk] at hst2
    refine jc_call C K me_X10_image hmR hsR hd1 hd2 (by decide) hy_X10_image tg_1139 hc_X10 rfl rfl tg_1136 tg_1137 tg_1138 tg_143 (by decide +kernel) hr2 hRa hl hs (m_X10_image_0 d (by omega) g9 (bg0.trans rfl) σ) b1 hPe hDe (rest := []) (by rw [hst2]; rfl) rfl (fun S1 hS1 z1 ws1 H1 locs1 r0 u hRb hlb hsb hpb hxb hpo hwu hPu => ?_)
    obtain ⟨S1', hS1', rfl⟩ := List.mem_map.mp hS1
    have c4 := List.all_eq_true.mp c3 S1' hS1'
    obtain ⟨⟨env1, nl1, ⟨cs1, fx1⟩, cl1, sl1⟩, pc1, lv1, st1⟩ := S1'
    unfold ab_dIa1 at c4
    dsimp only at c4
    rw [Bool.and_eq_true, Bool.and_eq_true] at c4
    obtain ⟨fs1, fk1, c4⟩ := c4
    have hRb : ab_R X D s (z, ws, (ab_sfm lw_l_I1_0 true false cs).map ab_flg) env1 nl1 (cs1, fx1) z1 ws1 H1 locs1 := hRb
    have hpb : pc1 = 1310 + 3 := hpb
    subst hpb
    split at c4
    · rename_i os hos
      have hz1 : lw_zv X i z1 x := hz.ext hxb
      have hR2 := hRb.sfm lw_l_I1_0 false false
      obtain ⟨u1, we1⟩ := u
      dsimp only at hpo hwu hPu
      have sm0 := lw_same_of hRa.2.2.2.1.1.2 fk hRb.2.2.2.2.2.2.2.2.2.2
      have hT1 := lw_tw_a hT sm0.2.2.2 hR2 fs1 (lw_pI_in q hq) lw_KI_lt hwu hPu
      refine lw_seg K C hd0 hd1 hd2 hmR hsR hiL hL hos hz1 hR2 hlb hsb (fun k S2 hS2 z2 ws2 H2 locs2 ls2 cst2 hR3 hl3 hs3 => ?_)
      have c5 := List.all_eq_true.mp c4 (k, S2) hS2
      obtain ⟨⟨env2, nl2, ⟨cs2, fx2⟩, cl2, sl2⟩, pc2, lv2, st2⟩ := S2
      unfold ab_dIa2 at c5
      split at c5
      · rename_i env9 nl9 cs9 fx9 cl9 sl9 pc9 lv9 st9 heq
        cases heq
        rw [Bool.and_eq_true, Bool.and_eq_true, Bool.and_eq_true, Bool.and_eq_true] at c5
        obtain ⟨cp, ck2, s52, fk2, c5⟩ := c5
        have cp := Nat.eq_of_beq_eq_true cp
        subst cp
        have hst2b := lw_st1_ok s52
        subst hst2b
        dsimp only at hR3 hl3 hs3 ⊢
        split at c5
        · rename_i r2 hr3
          have hr4 := un_call (a := a) (b := b') (rc := 13) (mid := 256) (na := 2) (mc := 0) (ms := 0) (A := 2) (B := 12) (np := 1324) lw_cal env2 nl2 (ab_sfm lw_l_I2 true false cs2, fx2) cl2 sl2 lv2 _ r2 hr3
          have hz2 : lw_zv X i z2 x := hz1.ext hR3.2.2.2.2.2.2.2.2.1
          have sm1 := lw_same_of hR2.2.2.2.1.1.2 fk1 hR3.2.2.2.2.2.2.2.2.2.2
          have hc2 := cu_ck_ok ck2 hR3.1 hz2.three hR3.2.2.2.1.1.2
          obtain ⟨τ, A2, we2, d1, d4, d8⟩ := cu_J hc2 hR3.2.2.1
          have hPe2 := cu_P hR3.2.2.2.2.1 (cu_pos d4)
          have hDe2 := cu_D hR3.2.2.2.2.2.1 lw_pJ (by decide) d4
          have hT2 := lw_tw_b hR3 hc2 d1 d4 lw_pJ_in
          have hst4 := lw_st1_v hz2 (lw_posz hR3.2.2.1 d1 d4 rfl) hs3
          rw [hk] at hst4
          have hR3a := hR3.sfm lw_l_I2 true false
          refine jc_call C K me_X11_image hmR hsR hd1 hd2 (by decide) hy_X11_image tg_1947 hc_X11 rfl rfl tg_1944 tg_1945 tg_1946 tg_158 (by decide +kernel) hr4 hR3a hl3 hs3 (m_X11_image_0 d (by omega) τ) d1 hPe2 hDe2 (rest := []) (by rw [hst4]; rfl) rfl (fun S3 hS3 z3 ws3 H3 locs3 r3 u3 hRd hld hsd hpd hxd hpo3 hwu3 hPu3 => ?_)
          obtain ⟨S3', hS3', rfl⟩ := List.mem_map.mp hS3
          have c6 := List.all_eq_true.mp c5 S3' hS3'
          obtain ⟨⟨env3, nl3, ⟨cs3, fx3⟩, cl3, sl3⟩, pc3, lv3, st3⟩ := S3'
          unfold ab_dIa3 at c6
          dsimp only at c6
          rw [Bool.and_eq_true, Bool.and_eq_true] at c6
          obtain ⟨fs3, fk3, c6⟩ := c6
          have hRd : ab_R X D s (z2, ws2, (ab_sfm lw_l_I2 true false cs2).map ab_flg) env3 nl3 (cs3, fx3) z3 ws3 H3 locs3 := hRd
          have hpd : pc3 = 1321 + 3 := hpd
          subst hpd
          split at c6
          · rename_i os3 hos3
            have hz3 : lw_zv X i z3 x := hz2.ext hxd
            have hRe := hRd.sfm lw_l_I2 false false
            obtain ⟨u31, we3⟩ := u3
            dsimp only at hpo3 hwu3 hPu3
            have sm2 := lw_same_of hR3a.2.2.2.1.1.2 fk2 hRd.2.2.2.2.2.2.2.2.2.2
            have hT3 := lw_tw_a hT2 sm2.2.2.2 hRe fs3 lw_pJ_in lw_KJ_lt hwu3 hPu3
            refine lw_seg K C hd0 hd1 hd2 hmR hsR hiL hL hos3 hz3 hRe hld hsd (fun k4 S4 hS4 z4 ws4 H4 locs4 ls4 cst4 hR5 hl5 hs5 => ?_)
            have c7 := List.all_eq_true.mp c6 (k4, S4) hS4
            have hz4 := hz3.ext hR5.2.2.2.2.2.2.2.2.1
            refine lw_at23 hi c7 hR5 hl5 hs5 hz4.1 (fun y e9 he9 ho => ?_) next
            have hy := lw_szc_ok ho hR5.1 hR5.2.2.2.1.2 hz4.2.2.1 he9
            have sm3 := lw_same_of hRe.2.2.2.1.1.2 fk3 hR5.2.2.2.2.2.2.2.2.2.2
            have j1 : lw_J ws1 x := hJ.1.keepR hRa.2.2.2.1.1.2 (lw_chk_r fk) (by decide) hRb.2.2.2.2.2.2.2.2.2.2 (Or.inl (Int.le_refl _))
            have j2 : lw_J ws2 x := j1.keepR hR2.2.2.2.1.1.2 (lw_chk_r fk1) (by decide) hR3.2.2.2.2.2.2.2.2.2.2 (Or.inl (Int.le_refl _))
            have j3 : lw_J ws3 x := j2.keepR hR3a.2.2.2.1.1.2 (lw_chk_r fk2) (by decide) hRd.2.2.2.2.2.2.2.2.2.2 (Or.inl (Int.le_refl _))
            refine And.intro (j3.keepR hRe.2.2.2.1.1.2 (lw_chk_r fk3) (by decide) hR5.2.2.2.2.2.2.2.2.2.2 hy) (lw_JX.same sm3 ?_)
            exact lw_stepI0 hJ.2 hq ⟨al, bl1, bl2⟩ hT hT1 hpo sm0 sm1 hT2 hT3 hpo3 sm2
          · cases c6
        · cases c5
      · cases c5
    · cases c4
  · cases c3

theorem lw_caseIb (K : ab_cal l X D d ab_MEL lw_cal) (C : ab_cx p room_1 s m #[Value.ref b] c code RL 7 X D) (hd0 : 10 ≤ d) (hd1 : 16 * (d + 1) ≤ room_1.frames) (hd2 : 200 * (d + 1) ≤ room_1.locals) {i a b' : Nat} (hmR : 2 + a ≤ room_1.cells) (hsR : 12 + b' ≤ room_1.slots) (hiL : i + 6 ≤ X.1.2.1) (hL : X.1.2.1 ≤ 3072) {x : Int32} {S : ab_S} (hpc : S.2.1 = 1310) (hE : ab_dIb0 S = true) {z0 : ab_Z0} {z : ab_Z} {ws : va_W} {H : Heap} {locs : List Loc} {ls : Array Slot} {cst : List Value} (hz : lw_zv X i z x) (hk : X.2.1 (i + 1) = 1) (hJ : lw_JJ ws x) (hR : ab_R X D s z0 S.1.1 S.1.2.1 S.1.2.2.1 z ws H locs) (hl : ab_lR X z 7 ls S.2.2.1) (hs : S.2.2.2.map (ab_ev X z) = cst.map some) (next : ∀ (z : ab_Z) (ws : va_W) (H : Heap) (locs : List Loc) (ls : Array Slot), z.1[0]? = some (nI (i + 6)) → ab_R X D s (z, [], []) ab_lT.1 0 (gl_L, ab_FX) z ws H locs → (∀ x, z.1[1]? = some x → lw_JJ ws x) → ab_lR X z 7 ls ab_lvT → W p l e room_1 s m #[Value.ref b] below meth c H locs (a + 2) (b' + 12) (lw_Z below #[Value.ref b] s) (F0 m 23 ls [])) : W p l e room_1 s m #[Value.ref b] below meth c H locs (S.1.2.2.2.1 + a) (S.1.2.2.2.2 + b') (lw_Z below #[Value.ref b] s) (F0 m S.2.1 ls cst) := by
  obtain ⟨⟨env, nl, ⟨cs, fx⟩, cl, sl⟩, pc, lv, st⟩ := S
  dsimp only at hpc hR hl hs ⊢
  subst hpc
  unfold ab_dIb0 at hE
  dsimp only at hE
  rw [Bool.and_eq_true, Bool.and_eq_true, Bool.and_eq_true] at hE
  obtain ⟨ck, s5, fk, c3⟩ := hE
  have hi : i + 6 ≤ 3072 := Nat.le_trans hiL hL
  split at c3
  · rename_i r hr
    have hst := lw_st1_ok s5
    subst hst
    have hr2 := un_call (a := a) (b := b') (rc := 12) (mid := 212) (na := 2) (mc := 0) (ms := 0) (A := 2) (B := 12) (np := 1313) lw_cal env nl (ab_sfm lw_l_I1_1 true false cs, fx) cl sl lv _ r hr
    have hRa := hR.sfm lw_l_I1_1 true false
    have hc := cu_ck_ok ck hR.1 hz.three hR.2.2.2.1.1.2
    obtain ⟨q, hq, g9, σ, A, we, b1, b4, b8, ⟨bg0, bg1⟩, al, bl1, bl2⟩ := cu_Iw hc hR.2.2.1
    have hPe := cu_P hR.2.2.2.2.1 (cu_pos b4)
    have hDe := cu_D hR.2.2.2.2.2.1 q.2 (lw_pI_nd q hq) b4
    have hT := lw_tw_b hR hc b1 b4 (lw_pI_in q hq)
    have hp0 := lw_posz hR.2.2.1 b1 b4 (lw_pI_0 q hq)
    have hst2 := lw_st1_v hz hp0 hs
    rw [hk] at hst2
    refine jc_call C K me_X10_image hmR hsR hd1 hd2 (by decide) hy_X10_image tg_1139 hc_X10 rfl rfl tg_1136 tg_1137 tg_1138 tg_143 (by decide +kernel) hr2 hRa hl hs (m_X10_image_1 d (by omega) g9 (bg1.trans rfl) σ) b1 hPe hDe (rest := []) (by rw [hst2]; rfl) rfl (fun S1 hS1 z1 ws1 H1 locs1 r0 u hRb hlb hsb hpb hxb hpo hwu hPu => ?_)
    obtain ⟨S1', hS1', rfl⟩ := List.mem_map.mp hS1
    have c4 := List.all_eq_true.mp c3 S1' hS1'
    obtain ⟨⟨env1, nl1, ⟨cs1, fx1⟩, cl1, sl1⟩, pc1, lv1, st1⟩ := S1'
    unfold ab_dIb1 at c4
    dsimp only at c4
    rw [Bool.and_eq_true, Bool.and_eq_true] at c4
    obtain ⟨fs1, fk1, c4⟩ := c4
    have hRb : ab_R X D s (z, ws, (ab_sfm lw_l_I1_1 true false cs).map ab_flg) env1 nl1 (cs1, fx1) z1 ws1 H1 locs1 := hRb
    have hpb : pc1 = 1310 + 3 := hpb
    subst hpb
    split at c4
    · rename_i os hos
      have hz1 : lw_zv X i z1 x := hz.ext hxb
      have hR2 := hRb.sfm lw_l_I1_1 false false
      obtain ⟨u1, we1⟩ := u
      dsimp only at hpo hwu hPu
      have sm0 := lw_same_of hRa.2.2.2.1.1.2 fk hRb.2.2.2.2.2.2.2.2.2.2
      have hT1 := lw_tw_a hT sm0.2.2.2 hR2 fs1 (lw_pI_in q hq) lw_KI_lt hwu hPu
      refine lw_seg K C hd0 hd1 hd2 hmR hsR hiL hL hos hz1 hR2 hlb hsb (fun k S2 hS2 z2 ws2 H2 locs2 ls2 cst2 hR3 hl3 hs3 => ?_)
      have c5 := List.all_eq_true.mp c4 (k, S2) hS2
      obtain ⟨⟨env2, nl2, ⟨cs2, fx2⟩, cl2, sl2⟩, pc2, lv2, st2⟩ := S2
      unfold ab_dIb2 at c5
      split at c5
      · rename_i env9 nl9 cs9 fx9 cl9 sl9 pc9 lv9 st9 heq
        cases heq
        rw [Bool.and_eq_true, Bool.and_eq_true, Bool.and_eq_true, Bool.and_eq_true] at c5
        obtain ⟨cp, ck2, s52, fk2, c5⟩ := c5
        have cp := Nat.eq_of_beq_eq_true cp
        subst cp
        have hst2b := lw_st1_ok s52
        subst hst2b
        dsimp only at hR3 hl3 hs3 ⊢
        split at c5
        · rename_i r2 hr3
          have hr4 := un_call (a := a) (b := b') (rc := 13) (mid := 256) (na := 2) (mc := 0) (ms := 0) (A := 2) (B := 12) (np := 1324) lw_cal env2 nl2 (ab_sfm lw_l_I2 true false cs2, fx2) cl2 sl2 lv2 _ r2 hr3
          have hz2 : lw_zv X i z2 x := hz1.ext hR3.2.2.2.2.2.2.2.2.1
          have sm1 := lw_same_of hR2.2.2.2.1.1.2 fk1 hR3.2.2.2.2.2.2.2.2.2.2
          have hc2 := cu_ck_ok ck2 hR3.1 hz2.three hR3.2.2.2.1.1.2
          obtain ⟨τ, A2, we2, d1, d4, d8⟩ := cu_J hc2 hR3.2.2.1
          have hPe2 := cu_P hR3.2.2.2.2.1 (cu_pos d4)
          have hDe2 := cu_D hR3.2.2.2.2.2.1 lw_pJ (by decide) d4
          have hT2 := lw_tw_b hR3 hc2 d1 d4 lw_pJ_in
          have hst4 := lw_st1_v hz2 (lw_posz hR3.2.2.1 d1 d4 rfl) hs3
          rw [hk] at hst4
          have hR3a := hR3.sfm lw_l_I2 true false
          refine jc_call C K me_X11_image hmR hsR hd1 hd2 (by decide) hy_X11_image tg_1947 hc_X11 rfl rfl tg_1944 tg_1945 tg_1946 tg_158 (by decide +kernel) hr4 hR3a hl3 hs3 (m_X11_image_1 d (by omega) τ) d1 hPe2 hDe2 (rest := []) (by rw [hst4]; rfl) rfl (fun S3 hS3 z3 ws3 H3 locs3 r3 u3 hRd hld hsd hpd hxd hpo3 hwu3 hPu3 => ?_)
          obtain ⟨S3', hS3', rfl⟩ := List.mem_map.mp hS3
          have c6 := List.all_eq_true.mp c5 S3' hS3'
          obtain ⟨⟨env3, nl3, ⟨cs3, fx3⟩, cl3, sl3⟩, pc3, lv3, st3⟩ := S3'
          unfold ab_dIb3 at c6
          dsimp only at c6
          rw [Bool.and_eq_true, Bool.and_eq_true] at c6
          obtain ⟨fs3, fk3, c6⟩ := c6
          have hRd : ab_R X D s (z2, ws2, (ab_sfm lw_l_I2 true false cs2).map ab_flg) env3 nl3 (cs3, fx3) z3 ws3 H3 locs3 := hRd
          have hpd : pc3 = 1321 + 3 := hpd
          subst hpd
          split at c6
          · rename_i os3 hos3
            have hz3 : lw_zv X i z3 x := hz2.ext hxd
            have hRe := hRd.sfm lw_l_I2 false false
            obtain ⟨u31, we3⟩ := u3
            dsimp only at hpo3 hwu3 hPu3
            have sm2 := lw_same_of hR3a.2.2.2.1.1.2 fk2 hRd.2.2.2.2.2.2.2.2.2.2
            have hT3 := lw_tw_a hT2 sm2.2.2.2 hRe fs3 lw_pJ_in lw_KJ_lt hwu3 hPu3
            refine lw_seg K C hd0 hd1 hd2 hmR hsR hiL hL hos3 hz3 hRe hld hsd (fun k4 S4 hS4 z4 ws4 H4 locs4 ls4 cst4 hR5 hl5 hs5 => ?_)
            have c7 := List.all_eq_true.mp c6 (k4, S4) hS4
            have hz4 := hz3.ext hR5.2.2.2.2.2.2.2.2.1
            refine lw_at23 hi c7 hR5 hl5 hs5 hz4.1 (fun y e9 he9 ho => ?_) next
            have hy := lw_szc_ok ho hR5.1 hR5.2.2.2.1.2 hz4.2.2.1 he9
            have sm3 := lw_same_of hRe.2.2.2.1.1.2 fk3 hR5.2.2.2.2.2.2.2.2.2.2
            have j1 : lw_J ws1 x := hJ.1.keepR hRa.2.2.2.1.1.2 (lw_chk_r fk) (by decide) hRb.2.2.2.2.2.2.2.2.2.2 (Or.inl (Int.le_refl _))
            have j2 : lw_J ws2 x := j1.keepR hR2.2.2.2.1.1.2 (lw_chk_r fk1) (by decide) hR3.2.2.2.2.2.2.2.2.2.2 (Or.inl (Int.le_refl _))
            have j3 : lw_J ws3 x := j2.keepR hR3a.2.2.2.1.1.2 (lw_chk_r fk2) (by decide) hRd.2.2.2.2.2.2.2.2.2.2 (Or.inl (Int.le_refl _))
            refine And.intro (j3.keepR hRe.2.2.2.1.1.2 (lw_chk_r fk3) (by decide) hR5.2.2.2.2.2.2.2.2.2.2 hy) (lw_JX.same sm3 ?_)
            exact lw_stepI1 hJ.2 hq ⟨al, bl1, bl2⟩ hT hT1 hpo sm0 sm1 hT2 hT3 hpo3 sm2
          · cases c6
        · cases c5
      · cases c5
    · cases c4
  · cases c3

theorem lw_caseRa (K : ab_cal l X D d ab_MEL lw_cal) (C : ab_cx p room_1 s m #[Value.ref b] c code RL 7 X D) (hd0 : 10 ≤ d) (hd1 : 16 * (d + 1) ≤ room_1.frames) (hd2 : 200 * (d + 1) ≤ room_1.locals) {i a b' : Nat} (hmR : 2 + a ≤ room_1.cells) (hsR : 12 + b' ≤ room_1.slots) (hiL : i + 6 ≤ X.1.2.1) (hL : X.1.2.1 ≤ 3072) {x : Int32} {S : ab_S} (hpc : S.2.1 = 1335) (hE : ab_dR0 S = true) {z0 : ab_Z0} {z : ab_Z} {ws : va_W} {H : Heap} {locs : List Loc} {ls : Array Slot} {cst : List Value} (hz : lw_zv X i z x) (hk : X.2.1 (i + 1) = 0) (hJ : lw_JJ ws x) (hR : ab_R X D s z0 S.1.1 S.1.2.1 S.1.2.2.1 z ws H locs) (hl : ab_lR X z 7 ls S.2.2.1) (hs : S.2.2.2.map (ab_ev X z) = cst.map some) (next : ∀ (z : ab_Z) (ws : va_W) (H : Heap) (locs : List Loc) (ls : Array Slot), z.1[0]? = some (nI (i + 6)) → ab_R X D s (z, [], []) ab_lT.1 0 (gl_L, ab_FX) z ws H locs → (∀ x, z.1[1]? = some x → lw_JJ ws x) → ab_lR X z 7 ls ab_lvT → W p l e room_1 s m #[Value.ref b] below meth c H locs (a + 2) (b' + 12) (lw_Z below #[Value.ref b] s) (F0 m 23 ls [])) : W p l e room_1 s m #[Value.ref b] below meth c H locs (S.1.2.2.2.1 + a) (S.1.2.2.2.2 + b') (lw_Z below #[Value.ref b] s) (F0 m S.2.1 ls cst) := by
  obtain ⟨⟨env, nl, ⟨cs, fx⟩, cl, sl⟩, pc, lv, st⟩ := S
  dsimp only at hpc hR hl hs ⊢
  subst hpc
  unfold ab_dR0 at hE
  dsimp only at hE
  rw [Bool.and_eq_true, Bool.and_eq_true, Bool.and_eq_true] at hE
  obtain ⟨ck, s5, fk, c3⟩ := hE
  have hi : i + 6 ≤ 3072 := Nat.le_trans hiL hL
  split at c3
  · rename_i r hr
    have hst := lw_st1_ok s5
    subst hst
    have hr2 := un_call (a := a) (b := b') (rc := 12) (mid := 213) (na := 2) (mc := 0) (ms := 0) (A := 2) (B := 12) (np := 1338) lw_cal env nl (ab_sfm lw_l_R1 true false cs, fx) cl sl lv _ r hr
    have hRa := hR.sfm lw_l_R1 true false
    have hc := cu_ck_ok ck hR.1 hz.three hR.2.2.2.1.1.2
    obtain ⟨q, hq, g9, σ, A, we, b1, b4, b8, ⟨bg0, bg1⟩, al, bl1, bl2⟩ := cu_Iw hc hR.2.2.1
    have hPe := cu_P hR.2.2.2.2.1 (cu_pos b4)
    have hDe := cu_D hR.2.2.2.2.2.1 q.2 (lw_pI_nd q hq) b4
    have hT := lw_tw_b hR hc b1 b4 (lw_pI_in q hq)
    have hp0 := lw_posz hR.2.2.1 b1 b4 (lw_pI_0 q hq)
    have hst2 := lw_st1_v hz hp0 hs
    rw [hk] at hst2
    refine jc_call C K me_X10_restore hmR hsR hd1 hd2 (by decide) hy_X10_restore tg_1153 hc_X10 rfl rfl tg_1150 tg_1151 tg_1152 tg_143 (by decide +kernel) hr2 hRa hl hs (m_X10_restore_0 d (by omega) g9 (bg0.trans rfl) σ) b1 hPe hDe (rest := []) (by rw [hst2]; rfl) rfl (fun S1 hS1 z1 ws1 H1 locs1 r0 u hRb hlb hsb hpb hxb hpo hwu hPu => ?_)
    obtain ⟨S1', hS1', rfl⟩ := List.mem_map.mp hS1
    have c4 := List.all_eq_true.mp c3 S1' hS1'
    obtain ⟨⟨env1, nl1, ⟨cs1, fx1⟩, cl1, sl1⟩, pc1, lv1, st1⟩ := S1'
    unfold ab_dR1 at c4
    dsimp only at c4
    rw [Bool.and_eq_true, Bool.and_eq_true] at c4
    obtain ⟨fs1, fk1, c4⟩ := c4
    have hRb : ab_R X D s (z, ws, (ab_sfm lw_l_R1 true false cs).map ab_flg) env1 nl1 (cs1, fx1) z1 ws1 H1 locs1 := hRb
    have hpb : pc1 = 1335 + 3 := hpb
    subst hpb
    split at c4
    · rename_i os hos
      have hz1 : lw_zv X i z1 x := hz.ext hxb
      have hR2 := hRb.sfm lw_l_R1 false false
      obtain ⟨u1, we1⟩ := u
      dsimp only at hpo hwu hPu
      have sm0 := lw_same_of hRa.2.2.2.1.1.2 fk hRb.2.2.2.2.2.2.2.2.2.2
      have hT1 := lw_tw_a hT sm0.2.2.2 hR2 fs1 (lw_pI_in q hq) lw_KI_lt hwu hPu
      refine lw_seg K C hd0 hd1 hd2 hmR hsR hiL hL hos hz1 hR2 hlb hsb (fun k S2 hS2 z2 ws2 H2 locs2 ls2 cst2 hR3 hl3 hs3 => ?_)
      have c5 := List.all_eq_true.mp c4 (k, S2) hS2
      obtain ⟨⟨env2, nl2, ⟨cs2, fx2⟩, cl2, sl2⟩, pc2, lv2, st2⟩ := S2
      unfold ab_dR2 at c5
      split at c5
      · rename_i env9 nl9 cs9 fx9 cl9 sl9 pc9 lv9 st9 heq
        cases heq
        rw [Bool.and_eq_true, Bool.and_eq_true, Bool.and_eq_true, Bool.and_eq_true] at c5
        obtain ⟨cp, ck2, s52, fk2, c5⟩ := c5
        have cp := Nat.eq_of_beq_eq_true cp
        subst cp
        have hst2b := lw_st1_ok s52
        subst hst2b
        dsimp only at hR3 hl3 hs3 ⊢
        split at c5
        · rename_i r2 hr3
          have hr4 := un_call (a := a) (b := b') (rc := 13) (mid := 257) (na := 2) (mc := 0) (ms := 0) (A := 2) (B := 12) (np := 1349) lw_cal env2 nl2 (ab_sfm lw_l_R2 true true cs2, fx2) cl2 sl2 lv2 _ r2 hr3
          have hz2 : lw_zv X i z2 x := hz1.ext hR3.2.2.2.2.2.2.2.2.1
          have sm1 := lw_same_of hR2.2.2.2.1.1.2 fk1 hR3.2.2.2.2.2.2.2.2.2.2
          have hc2 := cu_ck_ok ck2 hR3.1 hz2.three hR3.2.2.2.1.1.2
          obtain ⟨τ, A2, we2, d1, d4, d8⟩ := cu_J hc2 hR3.2.2.1
          have hPe2 := cu_P hR3.2.2.2.2.1 (cu_pos d4)
          have hDe2 := cu_D hR3.2.2.2.2.2.1 lw_pJ (by decide) d4
          have hT2 := lw_tw_b hR3 hc2 d1 d4 lw_pJ_in
          have hst4 := lw_st1_v hz2 (lw_posz hR3.2.2.1 d1 d4 rfl) hs3
          rw [hk] at hst4
          have hR3a := hR3.sfm lw_l_R2 true true
          refine jc_call C K me_X11_restore hmR hsR hd1 hd2 (by decide) hy_X11_restore tg_1951 hc_X11 rfl rfl tg_1948 tg_1949 tg_1950 tg_158 (by decide +kernel) hr4 hR3a hl3 hs3 (m_X11_restore_0 d (by omega) τ) d1 hPe2 hDe2 (rest := []) (by rw [hst4]; rfl) rfl (fun S3 hS3 z3 ws3 H3 locs3 r3 u3 hRd hld hsd hpd hxd hpo3 hwu3 hPu3 => ?_)
          obtain ⟨S3', hS3', rfl⟩ := List.mem_map.mp hS3
          have c6 := List.all_eq_true.mp c5 S3' hS3'
          obtain ⟨⟨env3, nl3, ⟨cs3, fx3⟩, cl3, sl3⟩, pc3, lv3, st3⟩ := S3'
          unfold ab_dR3 at c6
          dsimp only at c6
          rw [Bool.and_eq_true, Bool.and_eq_true] at c6
          obtain ⟨fs3, fk3, c6⟩ := c6
          have hRd : ab_R X D s (z2, ws2, (ab_sfm lw_l_R2 true true cs2).map ab_flg) env3 nl3 (cs3, fx3) z3 ws3 H3 locs3 := hRd
          have hpd : pc3 = 1346 + 3 := hpd
          subst hpd
          split at c6
          · rename_i os3 hos3
            have hz3 : lw_zv X i z3 x := hz2.ext hxd
            have hRe := hRd.sfm lw_l_R2 false true
            obtain ⟨u31, we3⟩ := u3
            dsimp only at hpo3 hwu3 hPu3
            have sm2 := lw_same_of hR3a.2.2.2.1.1.2 fk2 hRd.2.2.2.2.2.2.2.2.2.2
            have hT3 := lw_tw_a hT2 sm2.2.2.2 hRe fs3 lw_pJ_in lw_KJ_lt hwu3 hPu3
            refine lw_seg K C hd0 hd1 hd2 hmR hsR hiL hL hos3 hz3 hRe hld hsd (fun k4 S4 hS4 z4 ws4 H4 locs4 ls4 cst4 hR5 hl5 hs5 => ?_)
            have c7 := List.all_eq_true.mp c6 (k4, S4) hS4
            have hz4 := hz3.ext hR5.2.2.2.2.2.2.2.2.1
            refine lw_at23 hi c7 hR5 hl5 hs5 hz4.1 (fun y e9 he9 ho => ?_) next
            have hy := lw_szc_ok ho hR5.1 hR5.2.2.2.1.2 hz4.2.2.1 he9
            have sm3 := lw_same_of hRe.2.2.2.1.1.2 fk3 hR5.2.2.2.2.2.2.2.2.2.2
            have j1 : lw_J ws1 x := hJ.1.keepR hRa.2.2.2.1.1.2 (lw_chk_r fk) (by decide) hRb.2.2.2.2.2.2.2.2.2.2 (Or.inl (Int.le_refl _))
            have j2 : lw_J ws2 x := j1.keepR hR2.2.2.2.1.1.2 (lw_chk_r fk1) (by decide) hR3.2.2.2.2.2.2.2.2.2.2 (Or.inl (Int.le_refl _))
            have j3 : lw_J ws3 x := j2.keepR hR3a.2.2.2.1.1.2 (lw_chk_r fk2) (by decide) hRd.2.2.2.2.2.2.2.2.2.2 (Or.inl (Int.le_refl _))
            refine And.intro (j3.keepR hRe.2.2.2.1.1.2 (lw_chk_r fk3) (by decide) hR5.2.2.2.2.2.2.2.2.2.2 hy) (lw_JX.same sm3 ?_)
            exact lw_stepR0 hJ.2 hq ⟨al, bl1, bl2⟩ hT hT1 hpo sm0 sm1 hT2 hT3 hpo3 sm2
          · cases c6
        · cases c5
      · cases c5
    · cases c4
  · cases c3

theorem lw_caseRb (K : ab_cal l X D d ab_MEL lw_cal) (C : ab_cx p room_1 s m #[Value.ref b] c code RL 7 X D) (hd0 : 10 ≤ d) (hd1 : 16 * (d + 1) ≤ room_1.frames) (hd2 : 200 * (d + 1) ≤ room_1.locals) {i a b' : Nat} (hmR : 2 + a ≤ room_1.cells) (hsR : 12 + b' ≤ room_1.slots) (hiL : i + 6 ≤ X.1.2.1) (hL : X.1.2.1 ≤ 3072) {x : Int32} {S : ab_S} (hpc : S.2.1 = 1335) (hE : ab_dR0 S = true) {z0 : ab_Z0} {z : ab_Z} {ws : va_W} {H : Heap} {locs : List Loc} {ls : Array Slot} {cst : List Value} (hz : lw_zv X i z x) (hk : X.2.1 (i + 1) = 1) (hJ : lw_JJ ws x) (hR : ab_R X D s z0 S.1.1 S.1.2.1 S.1.2.2.1 z ws H locs) (hl : ab_lR X z 7 ls S.2.2.1) (hs : S.2.2.2.map (ab_ev X z) = cst.map some) (next : ∀ (z : ab_Z) (ws : va_W) (H : Heap) (locs : List Loc) (ls : Array Slot), z.1[0]? = some (nI (i + 6)) → ab_R X D s (z, [], []) ab_lT.1 0 (gl_L, ab_FX) z ws H locs → (∀ x, z.1[1]? = some x → lw_JJ ws x) → ab_lR X z 7 ls ab_lvT → W p l e room_1 s m #[Value.ref b] below meth c H locs (a + 2) (b' + 12) (lw_Z below #[Value.ref b] s) (F0 m 23 ls [])) : W p l e room_1 s m #[Value.ref b] below meth c H locs (S.1.2.2.2.1 + a) (S.1.2.2.2.2 + b') (lw_Z below #[Value.ref b] s) (F0 m S.2.1 ls cst) := by
  obtain ⟨⟨env, nl, ⟨cs, fx⟩, cl, sl⟩, pc, lv, st⟩ := S
  dsimp only at hpc hR hl hs ⊢
  subst hpc
  unfold ab_dR0 at hE
  dsimp only at hE
  rw [Bool.and_eq_true, Bool.and_eq_true, Bool.and_eq_true] at hE
  obtain ⟨ck, s5, fk, c3⟩ := hE
  have hi : i + 6 ≤ 3072 := Nat.le_trans hiL hL
  split at c3
  · rename_i r hr
    have hst := lw_st1_ok s5
    subst hst
    have hr2 := un_call (a := a) (b := b') (rc := 12) (mid := 213) (na := 2) (mc := 0) (ms := 0) (A := 2) (B := 12) (np := 1338) lw_cal env nl (ab_sfm lw_l_R1 true false cs, fx) cl sl lv _ r hr
    have hRa := hR.sfm lw_l_R1 true false
    have hc := cu_ck_ok ck hR.1 hz.three hR.2.2.2.1.1.2
    obtain ⟨q, hq, g9, σ, A, we, b1, b4, b8, ⟨bg0, bg1⟩, al, bl1, bl2⟩ := cu_Iw hc hR.2.2.1
    have hPe := cu_P hR.2.2.2.2.1 (cu_pos b4)
    have hDe := cu_D hR.2.2.2.2.2.1 q.2 (lw_pI_nd q hq) b4
    have hT := lw_tw_b hR hc b1 b4 (lw_pI_in q hq)
    have hp0 := lw_posz hR.2.2.1 b1 b4 (lw_pI_0 q hq)
    have hst2 := lw_st1_v hz hp0 hs
    rw [hk] at hst2
    refine jc_call C K me_X10_restore hmR hsR hd1 hd2 (by decide) hy_X10_restore tg_1153 hc_X10 rfl rfl tg_1150 tg_1151 tg_1152 tg_143 (by decide +kernel) hr2 hRa hl hs (m_X10_restore_1 d (by omega) g9 (bg1.trans rfl) σ) b1 hPe hDe (rest := []) (by rw [hst2]; rfl) rfl (fun S1 hS1 z1 ws1 H1 locs1 r0 u hRb hlb hsb hpb hxb hpo hwu hPu => ?_)
    obtain ⟨S1', hS1', rfl⟩ := List.mem_map.mp hS1
    have c4 := List.all_eq_true.mp c3 S1' hS1'
    obtain ⟨⟨env1, nl1, ⟨cs1, fx1⟩, cl1, sl1⟩, pc1, lv1, st1⟩ := S1'
    unfold ab_dR1 at c4
    dsimp only at c4
    rw [Bool.and_eq_true, Bool.and_eq_true] at c4
    obtain ⟨fs1, fk1, c4⟩ := c4
    have hRb : ab_R X D s (z, ws, (ab_sfm lw_l_R1 true false cs).map ab_flg) env1 nl1 (cs1, fx1) z1 ws1 H1 locs1 := hRb
    have hpb : pc1 = 1335 + 3 := hpb
    subst hpb
    split at c4
    · rename_i os hos
      have hz1 : lw_zv X i z1 x := hz.ext hxb
      have hR2 := hRb.sfm lw_l_R1 false false
      obtain ⟨u1, we1⟩ := u
      dsimp only at hpo hwu hPu
      have sm0 := lw_same_of hRa.2.2.2.1.1.2 fk hRb.2.2.2.2.2.2.2.2.2.2
      have hT1 := lw_tw_a hT sm0.2.2.2 hR2 fs1 (lw_pI_in q hq) lw_KI_lt hwu hPu
      refine lw_seg K C hd0 hd1 hd2 hmR hsR hiL hL hos hz1 hR2 hlb hsb (fun k S2 hS2 z2 ws2 H2 locs2 ls2 cst2 hR3 hl3 hs3 => ?_)
      have c5 := List.all_eq_true.mp c4 (k, S2) hS2
      obtain ⟨⟨env2, nl2, ⟨cs2, fx2⟩, cl2, sl2⟩, pc2, lv2, st2⟩ := S2
      unfold ab_dR2 at c5
      split at c5
      · rename_i env9 nl9 cs9 fx9 cl9 sl9 pc9 lv9 st9 heq
        cases heq
        rw [Bool.and_eq_true, Bool.and_eq_true, Bool.and_eq_true, Bool.and_eq_true] at c5
        obtain ⟨cp, ck2, s52, fk2, c5⟩ := c5
        have cp := Nat.eq_of_beq_eq_true cp
        subst cp
        have hst2b := lw_st1_ok s52
        subst hst2b
        dsimp only at hR3 hl3 hs3 ⊢
        split at c5
        · rename_i r2 hr3
          have hr4 := un_call (a := a) (b := b') (rc := 13) (mid := 257) (na := 2) (mc := 0) (ms := 0) (A := 2) (B := 12) (np := 1349) lw_cal env2 nl2 (ab_sfm lw_l_R2 true true cs2, fx2) cl2 sl2 lv2 _ r2 hr3
          have hz2 : lw_zv X i z2 x := hz1.ext hR3.2.2.2.2.2.2.2.2.1
          have sm1 := lw_same_of hR2.2.2.2.1.1.2 fk1 hR3.2.2.2.2.2.2.2.2.2.2
          have hc2 := cu_ck_ok ck2 hR3.1 hz2.three hR3.2.2.2.1.1.2
          obtain ⟨τ, A2, we2, d1, d4, d8⟩ := cu_J hc2 hR3.2.2.1
          have hPe2 := cu_P hR3.2.2.2.2.1 (cu_pos d4)
          have hDe2 := cu_D hR3.2.2.2.2.2.1 lw_pJ (by decide) d4
          have hT2 := lw_tw_b hR3 hc2 d1 d4 lw_pJ_in
          have hst4 := lw_st1_v hz2 (lw_posz hR3.2.2.1 d1 d4 rfl) hs3
          rw [hk] at hst4
          have hR3a := hR3.sfm lw_l_R2 true true
          refine jc_call C K me_X11_restore hmR hsR hd1 hd2 (by decide) hy_X11_restore tg_1951 hc_X11 rfl rfl tg_1948 tg_1949 tg_1950 tg_158 (by decide +kernel) hr4 hR3a hl3 hs3 (m_X11_restore_1 d (by omega) τ) d1 hPe2 hDe2 (rest := []) (by rw [hst4]; rfl) rfl (fun S3 hS3 z3 ws3 H3 locs3 r3 u3 hRd hld hsd hpd hxd hpo3 hwu3 hPu3 => ?_)
          obtain ⟨S3', hS3', rfl⟩ := List.mem_map.mp hS3
          have c6 := List.all_eq_true.mp c5 S3' hS3'
          obtain ⟨⟨env3, nl3, ⟨cs3, fx3⟩, cl3, sl3⟩, pc3, lv3, st3⟩ := S3'
          unfold ab_dR3 at c6
          dsimp only at c6
          rw [Bool.and_eq_true, Bool.and_eq_true] at c6
          obtain ⟨fs3, fk3, c6⟩ := c6
          have hRd : ab_R X D s (z2, ws2, (ab_sfm lw_l_R2 true true cs2).map ab_flg) env3 nl3 (cs3, fx3) z3 ws3 H3 locs3 := hRd
          have hpd : pc3 = 1346 + 3 := hpd
          subst hpd
          split at c6
          · rename_i os3 hos3
            have hz3 : lw_zv X i z3 x := hz2.ext hxd
            have hRe := hRd.sfm lw_l_R2 false true
            obtain ⟨u31, we3⟩ := u3
            dsimp only at hpo3 hwu3 hPu3
            have sm2 := lw_same_of hR3a.2.2.2.1.1.2 fk2 hRd.2.2.2.2.2.2.2.2.2.2
            have hT3 := lw_tw_a hT2 sm2.2.2.2 hRe fs3 lw_pJ_in lw_KJ_lt hwu3 hPu3
            refine lw_seg K C hd0 hd1 hd2 hmR hsR hiL hL hos3 hz3 hRe hld hsd (fun k4 S4 hS4 z4 ws4 H4 locs4 ls4 cst4 hR5 hl5 hs5 => ?_)
            have c7 := List.all_eq_true.mp c6 (k4, S4) hS4
            have hz4 := hz3.ext hR5.2.2.2.2.2.2.2.2.1
            refine lw_at23 hi c7 hR5 hl5 hs5 hz4.1 (fun y e9 he9 ho => ?_) next
            have hy := lw_szc_ok ho hR5.1 hR5.2.2.2.1.2 hz4.2.2.1 he9
            have sm3 := lw_same_of hRe.2.2.2.1.1.2 fk3 hR5.2.2.2.2.2.2.2.2.2.2
            have j1 : lw_J ws1 x := hJ.1.keepR hRa.2.2.2.1.1.2 (lw_chk_r fk) (by decide) hRb.2.2.2.2.2.2.2.2.2.2 (Or.inl (Int.le_refl _))
            have j2 : lw_J ws2 x := j1.keepR hR2.2.2.2.1.1.2 (lw_chk_r fk1) (by decide) hR3.2.2.2.2.2.2.2.2.2.2 (Or.inl (Int.le_refl _))
            have j3 : lw_J ws3 x := j2.keepR hR3a.2.2.2.1.1.2 (lw_chk_r fk2) (by decide) hRd.2.2.2.2.2.2.2.2.2.2 (Or.inl (Int.le_refl _))
            refine And.intro (j3.keepR hRe.2.2.2.1.1.2 (lw_chk_r fk3) (by decide) hR5.2.2.2.2.2.2.2.2.2.2 hy) (lw_JX.same sm3 ?_)
            exact lw_stepR1 hJ.2 hq ⟨al, bl1, bl2⟩ hT hT1 hpo sm0 sm1 hT2 hT3 hpo3 sm2
          · cases c6
        · cases c5
      · cases c5
    · cases c4
  · cases c3

theorem lw_caseV (K : ab_cal l X D d ab_MEL lw_cal) (C : ab_cx p room_1 s m #[Value.ref b] c code RL 7 X D) (hd0 : 10 ≤ d) (hd1 : 16 * (d + 1) ≤ room_1.frames) (hd2 : 200 * (d + 1) ≤ room_1.locals) {i a b' : Nat} (hmR : 2 + a ≤ room_1.cells) (hsR : 12 + b' ≤ room_1.slots) (hiL : i + 6 ≤ X.1.2.1) (hL : X.1.2.1 ≤ 3072) {x : Int32} {S : ab_S} (hpc : S.2.1 = 319) (hE : ab_dV0 S = true) {z0 : ab_Z0} {z : ab_Z} {ws : va_W} {H : Heap} {locs : List Loc} {ls : Array Slot} {cst : List Value} (hz : lw_zv X i z x) (hJ : lw_JJ ws x) (hR : ab_R X D s z0 S.1.1 S.1.2.1 S.1.2.2.1 z ws H locs) (hl : ab_lR X z 7 ls S.2.2.1) (hs : S.2.2.2.map (ab_ev X z) = cst.map some) (next : ∀ (z : ab_Z) (ws : va_W) (H : Heap) (locs : List Loc) (ls : Array Slot), z.1[0]? = some (nI (i + 6)) → ab_R X D s (z, [], []) ab_lT.1 0 (gl_L, ab_FX) z ws H locs → (∀ x, z.1[1]? = some x → lw_JJ ws x) → ab_lR X z 7 ls ab_lvT → W p l e room_1 s m #[Value.ref b] below meth c H locs (a + 2) (b' + 12) (lw_Z below #[Value.ref b] s) (F0 m 23 ls [])) : W p l e room_1 s m #[Value.ref b] below meth c H locs (S.1.2.2.2.1 + a) (S.1.2.2.2.2 + b') (lw_Z below #[Value.ref b] s) (F0 m S.2.1 ls cst) := by
  obtain ⟨⟨env, nl, ⟨cs, fx⟩, cl, sl⟩, pc, lv, st⟩ := S
  dsimp only at hpc hR hl hs ⊢
  subst hpc
  unfold ab_dV0 at hE
  dsimp only at hE
  rw [Bool.and_eq_true, Bool.and_eq_true, Bool.and_eq_true] at hE
  obtain ⟨ck, s5, fk, c3⟩ := hE
  have hi : i + 6 ≤ 3072 := Nat.le_trans hiL hL
  split at c3
  · rename_i r hr
    have hst := lw_st0_ok s5
    subst hst
    have hr2 := un_call (a := a) (b := b') (rc := 12) (mid := 176) (na := 1) (mc := 0) (ms := 0) (A := 2) (B := 12) (np := 322) lw_cal env nl (ab_sfm lw_l_V1 true false cs, fx) cl sl lv _ r hr
    have hRa := hR.sfm lw_l_V1 true false
    have hc := cu_ck_ok ck hR.1 hz.three hR.2.2.2.1.1.2
    obtain ⟨q, hq, σ, A, we, lv0, lv1, lv2, lv3, lv4, lv5, lv6, lv7, lv8, lv9, lv10, lv11, lv12, lv13, lv14, lv15, b1, b4, b8, ⟨al, bl1, bl2⟩, ad, bd1, bd2⟩ := cu_Vw hc hR.2.2.1 hJ.2.1
    have hx : σ.1 0 = x := by rw [hz.2.2.1] at b8; exact (Option.some.inj b8).symm
    have hI : 0 ≤ (σ.1 0).toInt ∧ (σ.1 0).toInt ≤ 940 := by rw [hx]; exact hz.2.2.2.2
    have hPe := cu_P hR.2.2.2.2.1 (cu_pos b4)
    have hDe := cu_D hR.2.2.2.2.2.1 q.2.2 (lw_pV_nd q hq) b4
    have hT := lw_tw_b hR hc b1 b4 (lw_pV_in q hq)
    have hp0 := lw_posz hR.2.2.1 b1 b4 (lw_pV_0 q hq)
    have hst2 := lw_st0_v hp0 hs
    skip
    refine jc_call C K me_X10_valley hmR hsR hd1 hd2 (by decide) hy_X10_valley tg_651 hc_X10 rfl rfl tg_648 tg_649 tg_650 tg_143 (by decide +kernel) hr2 hRa hl hs (m_X10_valley d (by omega) _ σ hI) b1 hPe hDe (rest := []) (by rw [hst2]; rfl) rfl (fun S1 hS1 z1 ws1 H1 locs1 r0 u hRb hlb hsb hpb hxb hpo hwu hPu => ?_)
    obtain ⟨S1', hS1', rfl⟩ := List.mem_map.mp hS1
    have c4 := List.all_eq_true.mp c3 S1' hS1'
    obtain ⟨⟨env1, nl1, ⟨cs1, fx1⟩, cl1, sl1⟩, pc1, lv1, st1⟩ := S1'
    unfold ab_dV1 at c4
    dsimp only at c4
    rw [Bool.and_eq_true, Bool.and_eq_true] at c4
    obtain ⟨fs1, fk1, c4⟩ := c4
    have hRb : ab_R X D s (z, ws, (ab_sfm lw_l_V1 true false cs).map ab_flg) env1 nl1 (cs1, fx1) z1 ws1 H1 locs1 := hRb
    have hpb : pc1 = 319 + 3 := hpb
    subst hpb
    split at c4
    · rename_i os hos
      have hz1 : lw_zv X i z1 x := hz.ext hxb
      have hR2 := hRb.sfm lw_l_V1 false false
      obtain ⟨u1, we1⟩ := u
      dsimp only at hpo hwu hPu
      have sm0 := lw_same_of hRa.2.2.2.1.1.2 fk hRb.2.2.2.2.2.2.2.2.2.2
      have hT1 := lw_tw_a hT sm0.2.2.2 hR2 fs1 (lw_pV_in q hq) lw_KV_lt hwu hPu
      refine lw_seg K C hd0 hd1 hd2 hmR hsR hiL hL hos hz1 hR2 hlb hsb (fun k S2 hS2 z2 ws2 H2 locs2 ls2 cst2 hR3 hl3 hs3 => ?_)
      have c5 := List.all_eq_true.mp c4 (k, S2) hS2
      obtain ⟨⟨env2, nl2, ⟨cs2, fx2⟩, cl2, sl2⟩, pc2, lv2, st2⟩ := S2
      unfold ab_dV2 at c5
      split at c5
      · rename_i env9 nl9 cs9 fx9 cl9 sl9 pc9 lv9 st9 heq
        cases heq
        rw [Bool.and_eq_true, Bool.and_eq_true, Bool.and_eq_true, Bool.and_eq_true] at c5
        obtain ⟨cp, ck2, s52, fk2, c5⟩ := c5
        have cp := Nat.eq_of_beq_eq_true cp
        subst cp
        have hst2b := lw_st0_ok s52
        subst hst2b
        dsimp only at hR3 hl3 hs3 ⊢
        split at c5
        · rename_i r2 hr3
          have hr4 := un_call (a := a) (b := b') (rc := 13) (mid := 220) (na := 1) (mc := 0) (ms := 0) (A := 2) (B := 12) (np := 327) lw_cal env2 nl2 (ab_sfm lw_l_V2 true true cs2, fx2) cl2 sl2 lv2 _ r2 hr3
          have hz2 : lw_zv X i z2 x := hz1.ext hR3.2.2.2.2.2.2.2.2.1
          have sm1 := lw_same_of hR2.2.2.2.1.1.2 fk1 hR3.2.2.2.2.2.2.2.2.2.2
          have hc2 := cu_ck_ok ck2 hR3.1 hz2.three hR3.2.2.2.1.1.2
          obtain ⟨τ, A2, we2, d1, d4, d8⟩ := cu_B hc2 hR3.2.2.1
          have hx2 : τ.1 1 = x := by rw [hz2.2.2.2.1] at d8; exact (Option.some.inj d8).symm
          have hI2 : 0 ≤ (τ.1 1).toInt ∧ (τ.1 1).toInt ≤ 940 := by rw [hx2]; exact hz.2.2.2.2
          have hPe2 := cu_P hR3.2.2.2.2.1 (cu_pos d4)
          have hDe2 := cu_D hR3.2.2.2.2.2.1 lw_pB (by decide) d4
          have hT2 := lw_tw_b hR3 hc2 d1 d4 lw_pB_in
          have hst4 := lw_st0_v (lw_posz hR3.2.2.1 d1 d4 rfl) hs3
          skip
          have hR3a := hR3.sfm lw_l_V2 true true
          refine jc_call C K me_X11_valley hmR hsR hd1 hd2 (by decide) hy_X11_valley tg_1536 hc_X11 rfl rfl tg_1533 tg_1534 tg_1535 tg_158 (by decide +kernel) hr4 hR3a hl3 hs3 (m_X11_valley d (by omega) τ hI2) d1 hPe2 hDe2 (rest := []) (by rw [hst4]; rfl) rfl (fun S3 hS3 z3 ws3 H3 locs3 r3 u3 hRd hld hsd hpd hxd hpo3 hwu3 hPu3 => ?_)
          obtain ⟨S3', hS3', rfl⟩ := List.mem_map.mp hS3
          have c6 := List.all_eq_true.mp c5 S3' hS3'
          obtain ⟨⟨env3, nl3, ⟨cs3, fx3⟩, cl3, sl3⟩, pc3, lv3, st3⟩ := S3'
          unfold ab_dV3 at c6
          dsimp only at c6
          rw [Bool.and_eq_true, Bool.and_eq_true] at c6
          obtain ⟨fs3, fk3, c6⟩ := c6
          have hRd : ab_R X D s (z2, ws2, (ab_sfm lw_l_V2 true true cs2).map ab_flg) env3 nl3 (cs3, fx3) z3 ws3 H3 locs3 := hRd
          have hpd : pc3 = 324 + 3 := hpd
          subst hpd
          split at c6
          · rename_i os3 hos3
            have hz3 : lw_zv X i z3 x := hz2.ext hxd
            have hRe := hRd.sfm lw_l_V2 false true
            obtain ⟨u31, we3⟩ := u3
            dsimp only at hpo3 hwu3 hPu3
            have sm2 := lw_same_of hR3a.2.2.2.1.1.2 fk2 hRd.2.2.2.2.2.2.2.2.2.2
            have hT3 := lw_tw_a hT2 sm2.2.2.2 hRe fs3 lw_pB_in lw_KB_lt hwu3 hPu3
            refine lw_seg K C hd0 hd1 hd2 hmR hsR hiL hL hos3 hz3 hRe hld hsd (fun k4 S4 hS4 z4 ws4 H4 locs4 ls4 cst4 hR5 hl5 hs5 => ?_)
            have c7 := List.all_eq_true.mp c6 (k4, S4) hS4
            have hz4 := hz3.ext hR5.2.2.2.2.2.2.2.2.1
            refine lw_at23 hi c7 hR5 hl5 hs5 hz4.1 (fun y e9 he9 ho => ?_) next
            have hy := lw_szc_ok ho hR5.1 hR5.2.2.2.1.2 hz4.2.2.1 he9
            have sm3 := lw_same_of hRe.2.2.2.1.1.2 fk3 hR5.2.2.2.2.2.2.2.2.2.2
            have j1 : lw_J ws1 x := hJ.1.keepR hRa.2.2.2.1.1.2 (lw_chk_r fk) (by decide) hRb.2.2.2.2.2.2.2.2.2.2 (Or.inl (Int.le_refl _))
            have j2 : lw_J ws2 x := j1.keepR hR2.2.2.2.1.1.2 (lw_chk_r fk1) (by decide) hR3.2.2.2.2.2.2.2.2.2.2 (Or.inl (Int.le_refl _))
            have j3 : lw_J ws3 x := j2.keepR hR3a.2.2.2.1.1.2 (lw_chk_r fk2) (by decide) hRd.2.2.2.2.2.2.2.2.2.2 (Or.inl (Int.le_refl _))
            refine And.intro (j3.keepR hRe.2.2.2.1.1.2 (lw_chk_r fk3) (by decide) hR5.2.2.2.2.2.2.2.2.2.2 hy) (lw_JX.same sm3 ?_)
            exact lw_stepV hJ hq ⟨al, bl1, bl2⟩ ⟨ad, bd1, bd2⟩ hT hT1 hpo sm0 sm1 hT2 hT3 hpo3 sm2 hx hx2 hz.2.2.2.2
          · cases c6
        · cases c5
      · cases c5
    · cases c4
  · cases c3

theorem lw_caseIp (K : ab_cal l X D d ab_MEL lw_cal) (C : ab_cx p room_1 s m #[Value.ref b] c code RL 7 X D) (hd0 : 10 ≤ d) (hd1 : 16 * (d + 1) ≤ room_1.frames) (hd2 : 200 * (d + 1) ≤ room_1.locals) {i a b' : Nat} (hmR : 2 + a ≤ room_1.cells) (hsR : 12 + b' ≤ room_1.slots) (hiL : i + 6 ≤ X.1.2.1) (hL : X.1.2.1 ≤ 3072) {x : Int32} {S : ab_S} (hpc : S.2.1 = 1310) (hE : ab_dIp S = true) {z0 : ab_Z0} {z : ab_Z} {ws : va_W} {H : Heap} {locs : List Loc} {ls : Array Slot} {cst : List Value} (hz : lw_zv X i z x) (hJ : lw_JJ ws x) (hR : ab_R X D s z0 S.1.1 S.1.2.1 S.1.2.2.1 z ws H locs) (hl : ab_lR X z 7 ls S.2.2.1) (hs : S.2.2.2.map (ab_ev X z) = cst.map some) (next : ∀ (z : ab_Z) (ws : va_W) (H : Heap) (locs : List Loc) (ls : Array Slot), z.1[0]? = some (nI (i + 6)) → ab_R X D s (z, [], []) ab_lT.1 0 (gl_L, ab_FX) z ws H locs → (∀ x, z.1[1]? = some x → lw_JJ ws x) → ab_lR X z 7 ls ab_lvT → W p l e room_1 s m #[Value.ref b] below meth c H locs (a + 2) (b' + 12) (lw_Z below #[Value.ref b] s) (F0 m 23 ls [])) : W p l e room_1 s m #[Value.ref b] below meth c H locs (S.1.2.2.2.1 + a) (S.1.2.2.2.2 + b') (lw_Z below #[Value.ref b] s) (F0 m S.2.1 ls cst) := by
  obtain ⟨⟨env, nl, ⟨cs, fx⟩, cl, sl⟩, pc, lv, st⟩ := S
  dsimp only at hpc hR hl hs ⊢
  subst hpc
  unfold ab_dIp at hE
  dsimp only at hE
  rw [Bool.and_eq_true] at hE
  obtain ⟨fk, c3⟩ := hE
  have hi : i + 6 ≤ 3072 := Nat.le_trans hiL hL
  split at c3
  · rename_i r hr
    have hr2 := un_call (a := a) (b := b') (rc := 12) (mid := 212) (na := 2) (mc := 0) (ms := 0) (A := 2) (B := 12) (np := 1313) lw_cal env nl (cs, fx) cl sl lv st r hr
    have hR1 := hR.re
    have hso : ab_so p l e room_1 s m #[Value.ref b] below meth c (lw_Z below #[Value.ref b] s) 7 X D (z, ws, cs.map ab_flg) lw_cal 1310 (op_call 12 212 2 0 0 (2 + a) (12 + b') 1313) := so_callV C K me_X10_image hmR hsR hd1 hd2 (by decide) hy_X10_image tg_1139 hc_X10 rfl rfl tg_1136 tg_1137 tg_1138 tg_143 (by decide +kernel)
    refine hso env nl (cs, fx) (cl + a) (sl + b') lv st _ hr2 (fun S1 hS1 => ?_) z ws H locs ls cst hR1 hl hs
    obtain ⟨S1', hS1', rfl⟩ := List.mem_map.mp hS1
    have c4 := List.all_eq_true.mp c3 S1' hS1'
    obtain ⟨⟨env1, nl1, ⟨cs1, fx1⟩, cl1, sl1⟩, pc1, lv1, st1⟩ := S1'
    unfold ab_dIq at c4
    dsimp only at c4
    rw [Bool.and_eq_true] at c4
    obtain ⟨fk1, c4⟩ := c4
    split at c4
    · rename_i os hos
      intro z1 ws1 H1 locs1 ls1 cst1 hRb hlb hsb
      have hw1 := (show ab_R X D s (z, ws, cs.map ab_flg) env1 nl1 (cs1, fx1) z1 ws1 H1 locs1 from hRb)
      have hz1 : lw_zv X i z1 x := hz.ext hw1.2.2.2.2.2.2.2.2.1
      have sm0 := lw_same_of hR1.2.2.2.1.1.2 fk hw1.2.2.2.2.2.2.2.2.2.2
      refine lw_seg K C hd0 hd1 hd2 hmR hsR hiL hL hos hz1 hw1 hlb hsb (fun k S2 hS2 z2 ws2 H2 locs2 ls2 cst2 hR3 hl3 hs3 => ?_)
      have c5 := List.all_eq_true.mp c4 (k, S2) hS2
      obtain ⟨⟨env2, nl2, ⟨cs2, fx2⟩, cl2, sl2⟩, pc2, lv2, st2⟩ := S2
      unfold ab_dIq2 at c5
      split at c5
      · rename_i env9 nl9 cs9 fx9 cl9 sl9 pc9 lv9 st9 heq
        cases heq
        rw [Bool.and_eq_true, Bool.and_eq_true] at c5
        obtain ⟨cp, fk2, c5⟩ := c5
        have cp := Nat.eq_of_beq_eq_true cp
        subst cp
        dsimp only at hR3 hl3 hs3 ⊢
        split at c5
        · rename_i r2 hr3
          have hr4 := un_call (a := a) (b := b') (rc := 13) (mid := 256) (na := 2) (mc := 0) (ms := 0) (A := 2) (B := 12) (np := 1324) lw_cal env2 nl2 (cs2, fx2) cl2 sl2 lv2 st2 r2 hr3
          have hz2 : lw_zv X i z2 x := hz1.ext hR3.2.2.2.2.2.2.2.2.1
          have sm1 := lw_same_of hw1.2.2.2.1.1.2 fk1 hR3.2.2.2.2.2.2.2.2.2.2
          have hR3b := hR3.re
          have hso2 : ab_so p l e room_1 s m #[Value.ref b] below meth c (lw_Z below #[Value.ref b] s) 7 X D (z2, ws2, cs2.map ab_flg) lw_cal 1321 (op_call 13 256 2 0 0 (2 + a) (12 + b') 1324) := so_callV C K me_X11_image hmR hsR hd1 hd2 (by decide) hy_X11_image tg_1947 hc_X11 rfl rfl tg_1944 tg_1945 tg_1946 tg_158 (by decide +kernel)
          refine hso2 env2 nl2 (cs2, fx2) (cl2 + a) (sl2 + b') lv2 st2 _ hr4 (fun S3 hS3 => ?_) z2 ws2 H2 locs2 ls2 cst2 hR3b hl3 hs3
          obtain ⟨S3', hS3', rfl⟩ := List.mem_map.mp hS3
          have c6 := List.all_eq_true.mp c5 S3' hS3'
          obtain ⟨⟨env3, nl3, ⟨cs3, fx3⟩, cl3, sl3⟩, pc3, lv3, st3⟩ := S3'
          unfold ab_dIq3 at c6
          dsimp only at c6
          rw [Bool.and_eq_true] at c6
          obtain ⟨fk3, c6⟩ := c6
          split at c6
          · rename_i os3 hos3
            intro z3 ws3 H3 locs3 ls3 cst3 hRd hld hsd
            have hw3 := (show ab_R X D s (z2, ws2, cs2.map ab_flg) env3 nl3 (cs3, fx3) z3 ws3 H3 locs3 from hRd)
            have hz3 : lw_zv X i z3 x := hz2.ext hw3.2.2.2.2.2.2.2.2.1
            have sm2 := lw_same_of hR3b.2.2.2.1.1.2 fk2 hw3.2.2.2.2.2.2.2.2.2.2
            refine lw_seg K C hd0 hd1 hd2 hmR hsR hiL hL hos3 hz3 hw3 hld hsd (fun k S' hS' z' ws' H' locs' ls' cst' hR' hl' hs' => ?_)
            have c7 := List.all_eq_true.mp c6 (k, S') hS'
            have hz' := hz3.ext hR'.2.2.2.2.2.2.2.2.1
            refine lw_at23 hi c7 hR' hl' hs' hz'.1 (fun y e9 he9 ho => ?_) next
            have hy := lw_szc_ok ho hR'.1 hR'.2.2.2.1.2 hz'.2.2.1 he9
            have sm3 := lw_same_of hw3.2.2.2.1.1.2 fk3 hR'.2.2.2.2.2.2.2.2.2.2
            have j1 : lw_J ws1 x := hJ.1.keepR hR1.2.2.2.1.1.2 (lw_chk_r fk) (by decide) hw1.2.2.2.2.2.2.2.2.2.2 (Or.inl (Int.le_refl _))
            have j2 : lw_J ws2 x := j1.keepR hw1.2.2.2.1.1.2 (lw_chk_r fk1) (by decide) hR3.2.2.2.2.2.2.2.2.2.2 (Or.inl (Int.le_refl _))
            have j3 : lw_J ws3 x := j2.keepR hR3b.2.2.2.1.1.2 (lw_chk_r fk2) (by decide) hw3.2.2.2.2.2.2.2.2.2.2 (Or.inl (Int.le_refl _))
            exact And.intro (j3.keepR hw3.2.2.2.1.1.2 (lw_chk_r fk3) (by decide) hR'.2.2.2.2.2.2.2.2.2.2 hy) ((((hJ.2.same sm0).same sm1).same sm2).same sm3)
          · cases c6
        · cases c5
      · cases c5
    · cases c4
  · cases c3

theorem lw_caseRp (K : ab_cal l X D d ab_MEL lw_cal) (C : ab_cx p room_1 s m #[Value.ref b] c code RL 7 X D) (hd0 : 10 ≤ d) (hd1 : 16 * (d + 1) ≤ room_1.frames) (hd2 : 200 * (d + 1) ≤ room_1.locals) {i a b' : Nat} (hmR : 2 + a ≤ room_1.cells) (hsR : 12 + b' ≤ room_1.slots) (hiL : i + 6 ≤ X.1.2.1) (hL : X.1.2.1 ≤ 3072) {x : Int32} {S : ab_S} (hpc : S.2.1 = 1335) (hE : ab_dRp S = true) {z0 : ab_Z0} {z : ab_Z} {ws : va_W} {H : Heap} {locs : List Loc} {ls : Array Slot} {cst : List Value} (hz : lw_zv X i z x) (hJ : lw_JJ ws x) (hR : ab_R X D s z0 S.1.1 S.1.2.1 S.1.2.2.1 z ws H locs) (hl : ab_lR X z 7 ls S.2.2.1) (hs : S.2.2.2.map (ab_ev X z) = cst.map some) (next : ∀ (z : ab_Z) (ws : va_W) (H : Heap) (locs : List Loc) (ls : Array Slot), z.1[0]? = some (nI (i + 6)) → ab_R X D s (z, [], []) ab_lT.1 0 (gl_L, ab_FX) z ws H locs → (∀ x, z.1[1]? = some x → lw_JJ ws x) → ab_lR X z 7 ls ab_lvT → W p l e room_1 s m #[Value.ref b] below meth c H locs (a + 2) (b' + 12) (lw_Z below #[Value.ref b] s) (F0 m 23 ls [])) : W p l e room_1 s m #[Value.ref b] below meth c H locs (S.1.2.2.2.1 + a) (S.1.2.2.2.2 + b') (lw_Z below #[Value.ref b] s) (F0 m S.2.1 ls cst) := by
  obtain ⟨⟨env, nl, ⟨cs, fx⟩, cl, sl⟩, pc, lv, st⟩ := S
  dsimp only at hpc hR hl hs ⊢
  subst hpc
  unfold ab_dRp at hE
  dsimp only at hE
  rw [Bool.and_eq_true] at hE
  obtain ⟨fk, c3⟩ := hE
  have hi : i + 6 ≤ 3072 := Nat.le_trans hiL hL
  split at c3
  · rename_i r hr
    have hr2 := un_call (a := a) (b := b') (rc := 12) (mid := 213) (na := 2) (mc := 0) (ms := 0) (A := 2) (B := 12) (np := 1338) lw_cal env nl (cs, fx) cl sl lv st r hr
    have hR1 := hR.re
    have hso : ab_so p l e room_1 s m #[Value.ref b] below meth c (lw_Z below #[Value.ref b] s) 7 X D (z, ws, cs.map ab_flg) lw_cal 1335 (op_call 12 213 2 0 0 (2 + a) (12 + b') 1338) := so_callV C K me_X10_restore hmR hsR hd1 hd2 (by decide) hy_X10_restore tg_1153 hc_X10 rfl rfl tg_1150 tg_1151 tg_1152 tg_143 (by decide +kernel)
    refine hso env nl (cs, fx) (cl + a) (sl + b') lv st _ hr2 (fun S1 hS1 => ?_) z ws H locs ls cst hR1 hl hs
    obtain ⟨S1', hS1', rfl⟩ := List.mem_map.mp hS1
    have c4 := List.all_eq_true.mp c3 S1' hS1'
    obtain ⟨⟨env1, nl1, ⟨cs1, fx1⟩, cl1, sl1⟩, pc1, lv1, st1⟩ := S1'
    unfold ab_dRq at c4
    dsimp only at c4
    rw [Bool.and_eq_true] at c4
    obtain ⟨fk1, c4⟩ := c4
    split at c4
    · rename_i os hos
      intro z1 ws1 H1 locs1 ls1 cst1 hRb hlb hsb
      have hw1 := (show ab_R X D s (z, ws, cs.map ab_flg) env1 nl1 (cs1, fx1) z1 ws1 H1 locs1 from hRb)
      have hz1 : lw_zv X i z1 x := hz.ext hw1.2.2.2.2.2.2.2.2.1
      have sm0 := lw_same_of hR1.2.2.2.1.1.2 fk hw1.2.2.2.2.2.2.2.2.2.2
      refine lw_seg K C hd0 hd1 hd2 hmR hsR hiL hL hos hz1 hw1 hlb hsb (fun k S2 hS2 z2 ws2 H2 locs2 ls2 cst2 hR3 hl3 hs3 => ?_)
      have c5 := List.all_eq_true.mp c4 (k, S2) hS2
      obtain ⟨⟨env2, nl2, ⟨cs2, fx2⟩, cl2, sl2⟩, pc2, lv2, st2⟩ := S2
      unfold ab_dRq2 at c5
      split at c5
      · rename_i env9 nl9 cs9 fx9 cl9 sl9 pc9 lv9 st9 heq
        cases heq
        rw [Bool.and_eq_true, Bool.and_eq_true] at c5
        obtain ⟨cp, fk2, c5⟩ := c5
        have cp := Nat.eq_of_beq_eq_true cp
        subst cp
        dsimp only at hR3 hl3 hs3 ⊢
        split at c5
        · rename_i r2 hr3
          have hr4 := un_call (a := a) (b := b') (rc := 13) (mid := 257) (na := 2) (mc := 0) (ms := 0) (A := 2) (B := 12) (np := 1349) lw_cal env2 nl2 (cs2, fx2) cl2 sl2 lv2 st2 r2 hr3
          have hz2 : lw_zv X i z2 x := hz1.ext hR3.2.2.2.2.2.2.2.2.1
          have sm1 := lw_same_of hw1.2.2.2.1.1.2 fk1 hR3.2.2.2.2.2.2.2.2.2.2
          have hR3b := hR3.re
          have hso2 : ab_so p l e room_1 s m #[Value.ref b] below meth c (lw_Z below #[Value.ref b] s) 7 X D (z2, ws2, cs2.map ab_flg) lw_cal 1346 (op_call 13 257 2 0 0 (2 + a) (12 + b') 1349) := so_callV C K me_X11_restore hmR hsR hd1 hd2 (by decide) hy_X11_restore tg_1951 hc_X11 rfl rfl tg_1948 tg_1949 tg_1950 tg_158 (by decide +kernel)
          refine hso2 env2 nl2 (cs2, fx2) (cl2 + a) (sl2 + b') lv2 st2 _ hr4 (fun S3 hS3 => ?_) z2 ws2 H2 locs2 ls2 cst2 hR3b hl3 hs3
          obtain ⟨S3', hS3', rfl⟩ := List.mem_map.mp hS3
          have c6 := List.all_eq_true.mp c5 S3' hS3'
          obtain ⟨⟨env3, nl3, ⟨cs3, fx3⟩, cl3, sl3⟩, pc3, lv3, st3⟩ := S3'
          unfold ab_dRq3 at c6
          dsimp only at c6
          rw [Bool.and_eq_true] at c6
          obtain ⟨fk3, c6⟩ := c6
          split at c6
          · rename_i os3 hos3
            intro z3 ws3 H3 locs3 ls3 cst3 hRd hld hsd
            have hw3 := (show ab_R X D s (z2, ws2, cs2.map ab_flg) env3 nl3 (cs3, fx3) z3 ws3 H3 locs3 from hRd)
            have hz3 : lw_zv X i z3 x := hz2.ext hw3.2.2.2.2.2.2.2.2.1
            have sm2 := lw_same_of hR3b.2.2.2.1.1.2 fk2 hw3.2.2.2.2.2.2.2.2.2.2
            refine lw_seg K C hd0 hd1 hd2 hmR hsR hiL hL hos3 hz3 hw3 hld hsd (fun k S' hS' z' ws' H' locs' ls' cst' hR' hl' hs' => ?_)
            have c7 := List.all_eq_true.mp c6 (k, S') hS'
            have hz' := hz3.ext hR'.2.2.2.2.2.2.2.2.1
            refine lw_at23 hi c7 hR' hl' hs' hz'.1 (fun y e9 he9 ho => ?_) next
            have hy := lw_szc_ok ho hR'.1 hR'.2.2.2.1.2 hz'.2.2.1 he9
            have sm3 := lw_same_of hw3.2.2.2.1.1.2 fk3 hR'.2.2.2.2.2.2.2.2.2.2
            have j1 : lw_J ws1 x := hJ.1.keepR hR1.2.2.2.1.1.2 (lw_chk_r fk) (by decide) hw1.2.2.2.2.2.2.2.2.2.2 (Or.inl (Int.le_refl _))
            have j2 : lw_J ws2 x := j1.keepR hw1.2.2.2.1.1.2 (lw_chk_r fk1) (by decide) hR3.2.2.2.2.2.2.2.2.2.2 (Or.inl (Int.le_refl _))
            have j3 : lw_J ws3 x := j2.keepR hR3b.2.2.2.1.1.2 (lw_chk_r fk2) (by decide) hw3.2.2.2.2.2.2.2.2.2.2 (Or.inl (Int.le_refl _))
            exact And.intro (j3.keepR hw3.2.2.2.1.1.2 (lw_chk_r fk3) (by decide) hR'.2.2.2.2.2.2.2.2.2.2 hy) ((((hJ.2.same sm0).same sm1).same sm2).same sm3)
          · cases c6
        · cases c5
      · cases c5
    · cases c4
  · cases c3

theorem lw_caseI (K : ab_cal l X D d ab_MEL lw_cal) (C : ab_cx p room_1 s m #[Value.ref b] c code RL 7 X D) (hd0 : 10 ≤ d) (hd1 : 16 * (d + 1) ≤ room_1.frames) (hd2 : 200 * (d + 1) ≤ room_1.locals) {i a b' : Nat} (hmR : 2 + a ≤ room_1.cells) (hsR : 12 + b' ≤ room_1.slots) (hiL : i + 6 ≤ X.1.2.1) (hL : X.1.2.1 ≤ 3072) {x : Int32} {S : ab_S} (hpc : S.2.1 = 1310) (hE : ab_dI S = true) {z0 : ab_Z0} {z : ab_Z} {ws : va_W} {H : Heap} {locs : List Loc} {ls : Array Slot} {cst : List Value} (hz : lw_zv X i z x) (hJ : lw_JJ ws x) (hR : ab_R X D s z0 S.1.1 S.1.2.1 S.1.2.2.1 z ws H locs) (hl : ab_lR X z 7 ls S.2.2.1) (hs : S.2.2.2.map (ab_ev X z) = cst.map some) (next : ∀ (z : ab_Z) (ws : va_W) (H : Heap) (locs : List Loc) (ls : Array Slot), z.1[0]? = some (nI (i + 6)) → ab_R X D s (z, [], []) ab_lT.1 0 (gl_L, ab_FX) z ws H locs → (∀ x, z.1[1]? = some x → lw_JJ ws x) → ab_lR X z 7 ls ab_lvT → W p l e room_1 s m #[Value.ref b] below meth c H locs (a + 2) (b' + 12) (lw_Z below #[Value.ref b] s) (F0 m 23 ls [])) : W p l e room_1 s m #[Value.ref b] below meth c H locs (S.1.2.2.2.1 + a) (S.1.2.2.2.2 + b') (lw_Z below #[Value.ref b] s) (F0 m S.2.1 ls cst) := by
  obtain ⟨⟨env, nl, aw, cl, sl⟩, pc, lv, st⟩ := S
  unfold ab_dI at hE
  dsimp only at hE
  rw [Bool.and_eq_true, Bool.and_eq_true, Bool.and_eq_true] at hE
  obtain ⟨e0, e1, e2, e3⟩ := hE
  have he : ab_evI z.1 (some 4, 0) = some (X.2.1 (i + 1)) := lw_e0 (hz.2.1 1 (by decide))
  have n0 : (0 : Int32).toInt = 0 := by decide
  have n1 : (1 : Int32).toInt = 1 := by decide
  have hb := ab_i32 (X.2.1 (i + 1))
  by_cases h0 : X.2.1 (i + 1) = 0
  · obtain ⟨e', r1, r2⟩ := ab_rf_spec hR.1 he (lo := 0) (hi := 0) (by rw [h0, n0]; exact Int.le_refl _) (by rw [h0, n0]; exact Int.le_refl _)
    rw [ab_rfK_eq, r1] at e0
    exact lw_caseIa (S := ((e', nl, aw, cl, sl), pc, lv, st)) K C hd0 hd1 hd2 hmR hsR hiL hL hpc e0 hz h0 hJ (hR.ref r2) hl hs next
  · by_cases h1 : X.2.1 (i + 1) = 1
    · obtain ⟨e', r1, r2⟩ := ab_rf_spec hR.1 he (lo := 1) (hi := 1) (by rw [h1, n1]; exact Int.le_refl _) (by rw [h1, n1]; exact Int.le_refl _)
      rw [ab_rfK_eq, r1] at e1
      exact lw_caseIb (S := ((e', nl, aw, cl, sl), pc, lv, st)) K C hd0 hd1 hd2 hmR hsR hiL hL hpc e1 hz h1 hJ (hR.ref r2) hl hs next
    · have h2 : ¬ (X.2.1 (i + 1)).toInt = 0 := fun h => h0 (Int32.toInt_inj.mp (h.trans n0.symm))
      have h3 : ¬ (X.2.1 (i + 1)).toInt = 1 := fun h => h1 (Int32.toInt_inj.mp (h.trans n1.symm))
      by_cases h4 : (X.2.1 (i + 1)).toInt ≤ -1
      · obtain ⟨e', r1, r2⟩ := ab_rf_spec hR.1 he (lo := -2147483648) (hi := -1) hb.1 h4
        rw [ab_rfK_eq, r1] at e2
        exact lw_caseIp (S := ((e', nl, aw, cl, sl), pc, lv, st)) K C hd0 hd1 hd2 hmR hsR hiL hL hpc e2 hz hJ (hR.ref r2) hl hs next
      · obtain ⟨e', r1, r2⟩ := ab_rf_spec hR.1 he (lo := 2) (hi := 2147483647) (by omega) hb.2
        rw [ab_rfK_eq, r1] at e3
        exact lw_caseIp (S := ((e', nl, aw, cl, sl), pc, lv, st)) K C hd0 hd1 hd2 hmR hsR hiL hL hpc e3 hz hJ (hR.ref r2) hl hs next

theorem lw_caseR (K : ab_cal l X D d ab_MEL lw_cal) (C : ab_cx p room_1 s m #[Value.ref b] c code RL 7 X D) (hd0 : 10 ≤ d) (hd1 : 16 * (d + 1) ≤ room_1.frames) (hd2 : 200 * (d + 1) ≤ room_1.locals) {i a b' : Nat} (hmR : 2 + a ≤ room_1.cells) (hsR : 12 + b' ≤ room_1.slots) (hiL : i + 6 ≤ X.1.2.1) (hL : X.1.2.1 ≤ 3072) {x : Int32} {S : ab_S} (hpc : S.2.1 = 1335) (hE : ab_dR S = true) {z0 : ab_Z0} {z : ab_Z} {ws : va_W} {H : Heap} {locs : List Loc} {ls : Array Slot} {cst : List Value} (hz : lw_zv X i z x) (hJ : lw_JJ ws x) (hR : ab_R X D s z0 S.1.1 S.1.2.1 S.1.2.2.1 z ws H locs) (hl : ab_lR X z 7 ls S.2.2.1) (hs : S.2.2.2.map (ab_ev X z) = cst.map some) (next : ∀ (z : ab_Z) (ws : va_W) (H : Heap) (locs : List Loc) (ls : Array Slot), z.1[0]? = some (nI (i + 6)) → ab_R X D s (z, [], []) ab_lT.1 0 (gl_L, ab_FX) z ws H locs → (∀ x, z.1[1]? = some x → lw_JJ ws x) → ab_lR X z 7 ls ab_lvT → W p l e room_1 s m #[Value.ref b] below meth c H locs (a + 2) (b' + 12) (lw_Z below #[Value.ref b] s) (F0 m 23 ls [])) : W p l e room_1 s m #[Value.ref b] below meth c H locs (S.1.2.2.2.1 + a) (S.1.2.2.2.2 + b') (lw_Z below #[Value.ref b] s) (F0 m S.2.1 ls cst) := by
  obtain ⟨⟨env, nl, aw, cl, sl⟩, pc, lv, st⟩ := S
  unfold ab_dR at hE
  dsimp only at hE
  rw [Bool.and_eq_true, Bool.and_eq_true, Bool.and_eq_true] at hE
  obtain ⟨e0, e1, e2, e3⟩ := hE
  have he : ab_evI z.1 (some 4, 0) = some (X.2.1 (i + 1)) := lw_e0 (hz.2.1 1 (by decide))
  have n0 : (0 : Int32).toInt = 0 := by decide
  have n1 : (1 : Int32).toInt = 1 := by decide
  have hb := ab_i32 (X.2.1 (i + 1))
  by_cases h0 : X.2.1 (i + 1) = 0
  · obtain ⟨e', r1, r2⟩ := ab_rf_spec hR.1 he (lo := 0) (hi := 0) (by rw [h0, n0]; exact Int.le_refl _) (by rw [h0, n0]; exact Int.le_refl _)
    rw [ab_rfK_eq, r1] at e0
    exact lw_caseRa (S := ((e', nl, aw, cl, sl), pc, lv, st)) K C hd0 hd1 hd2 hmR hsR hiL hL hpc e0 hz h0 hJ (hR.ref r2) hl hs next
  · by_cases h1 : X.2.1 (i + 1) = 1
    · obtain ⟨e', r1, r2⟩ := ab_rf_spec hR.1 he (lo := 1) (hi := 1) (by rw [h1, n1]; exact Int.le_refl _) (by rw [h1, n1]; exact Int.le_refl _)
      rw [ab_rfK_eq, r1] at e1
      exact lw_caseRb (S := ((e', nl, aw, cl, sl), pc, lv, st)) K C hd0 hd1 hd2 hmR hsR hiL hL hpc e1 hz h1 hJ (hR.ref r2) hl hs next
    · have h2 : ¬ (X.2.1 (i + 1)).toInt = 0 := fun h => h0 (Int32.toInt_inj.mp (h.trans n0.symm))
      have h3 : ¬ (X.2.1 (i + 1)).toInt = 1 := fun h => h1 (Int32.toInt_inj.mp (h.trans n1.symm))
      by_cases h4 : (X.2.1 (i + 1)).toInt ≤ -1
      · obtain ⟨e', r1, r2⟩ := ab_rf_spec hR.1 he (lo := -2147483648) (hi := -1) hb.1 h4
        rw [ab_rfK_eq, r1] at e2
        exact lw_caseRp (S := ((e', nl, aw, cl, sl), pc, lv, st)) K C hd0 hd1 hd2 hmR hsR hiL hL hpc e2 hz hJ (hR.ref r2) hl hs next
      · obtain ⟨e', r1, r2⟩ := ab_rf_spec hR.1 he (lo := 2) (hi := 2147483647) (by omega) hb.2
        rw [ab_rfK_eq, r1] at e3
        exact lw_caseRp (S := ((e', nl, aw, cl, sl), pc, lv, st)) K C hd0 hd1 hd2 hmR hsR hiL hL hpc e3 hz hJ (hR.ref r2) hl hs next

/-- behind the third call: thrown is as told; if nothing was thrown, the answers are alike -/
theorem lw_dueT {R : Room} {args : Array Value} (C : ab_cx p R s m args c code RL 7 X D) {A : ex_A} {τ : ex_S} {we : va_W} {H : Heap} {locs : List Loc} {ls : Array Slot} {cl sl : Nat} {Q : State → Prop} {k bb t : Int32} (hwe : ex_wR X A s (WK τ) we) (hP : va_P D vwCl we H) (h5 : ls[5]? = some (.val (.int k))) (h6 : ls[6]? = some (.val (.int bb))) (h3 : ls[3]? = some (.val (.ref (ex_ad X A 6)))) (hkt : t = k) (hkv : k = 0 → τ.2.2.2 5 0 = bb.toInt64) (next : W p l e R s m args below meth c H locs cl sl Q (F0 m 449 ls [])) : W p l e R s m args below meth c H locs cl sl Q (F0 m (422 + 3) ls [.int t]) := by
  refine lv_iload (i := 5) C.1 C.2.1 (by decide +kernel) h5 ?_
  refine lv_icmp_eq C.1 C.2.1 (off := 5) (tgt := 432) (by decide +kernel) (by decide) (fun _ => ?_) (fun hP9 => absurd hkt hP9)
  refine lv_iload (i := 5) C.1 C.2.1 (by decide +kernel) h5 ?_
  refine lv_if_ne C.1 C.2.1 (off := 15) (tgt := 449) (by decide +kernel) (by decide) (fun _ => next) (fun h0 => ?_)
  refine lv_aload_n (k := 3) C.1 C.2.1 (by decide +kernel) rfl h3 ?_
  refine lv_iconst (n := 0) C.1 C.2.1 (by decide +kernel) (v := (0 : Int32)) (by decide) ?_
  obtain ⟨e0, c1, g1, g2, g3, cA, rfl, g4⟩ := hwe.cell (WK_6 τ)
  refine va_lald (cl := vwCl) (D := D) (tys := [(cA, .long)]) C.1 C.2.1 ((ab_cxE C).Kt g4) hP 6 0 c1 rfl (ex_in g2 (i := (0 : Int32)) (show 0 ≤ (0 : Int32).toInt ∧ (0 : Int32).toInt < ((1 : Nat) : Int) from by decide)) (by decide +kernel) ?_
  refine lv_iload (i := 6) C.1 C.2.1 (by decide +kernel) h6 ?_
  refine lv_i2l C.1 C.2.1 (by decide +kernel) rfl ?_
  refine W.lcmp C.1 C.2.1 (by decide +kernel) ?_
  refine lv_if_eq C.1 C.2.1 (off := 5) (tgt := 449) (by decide +kernel) (by decide) (fun _ => next) (fun h9 => absurd ((lg_cmp_eq _ _).mpr (hkv h0)) h9)
theorem lw_caseD (hst : l.stackTraces = false) (K : ab_cal l X D d ab_MEL lw_cal) (C : ab_cx p room_1 s m #[Value.ref b] c code RL 7 X D) (hd0 : 10 ≤ d) (hd1 : 16 * (d + 1) ≤ room_1.frames) (hd2 : 200 * (d + 1) ≤ room_1.locals) {i a b' : Nat} (hmR : 2 + a ≤ room_1.cells) (hsR : 12 + b' ≤ room_1.slots) (hiL : i + 6 ≤ X.1.2.1) (hL : X.1.2.1 ≤ 3072) {x : Int32} {S : ab_S} (hpc : S.2.1 = 398) (hE : ab_dD S = true) {z0 : ab_Z0} {z : ab_Z} {ws : va_W} {H : Heap} {locs : List Loc} {ls : Array Slot} {cst : List Value} (hz : lw_zv X i z x) (hJ : lw_JJ ws x) (hR : ab_R X D s z0 S.1.1 S.1.2.1 S.1.2.2.1 z ws H locs) (hl : ab_lR X z 7 ls S.2.2.1) (hs : S.2.2.2.map (ab_ev X z) = cst.map some) (next : ∀ (z : ab_Z) (ws : va_W) (H : Heap) (locs : List Loc) (ls : Array Slot), z.1[0]? = some (nI (i + 6)) → ab_R X D s (z, [], []) ab_lT.1 0 (gl_L, ab_FX) z ws H locs → (∀ x, z.1[1]? = some x → lw_JJ ws x) → ab_lR X z 7 ls ab_lvT → W p l e room_1 s m #[Value.ref b] below meth c H locs (a + 2) (b' + 12) (lw_Z below #[Value.ref b] s) (F0 m 23 ls [])) : W p l e room_1 s m #[Value.ref b] below meth c H locs (S.1.2.2.2.1 + a) (S.1.2.2.2.2 + b') (lw_Z below #[Value.ref b] s) (F0 m S.2.1 ls cst) := by
  obtain ⟨⟨env, nl, ⟨cs, fx⟩, cl, sl⟩, pc, lv, st⟩ := S
  dsimp only at hpc hR hl hs ⊢
  subst hpc
  unfold ab_dD at hE
  dsimp only at hE
  rw [Bool.and_eq_true, Bool.and_eq_true, Bool.and_eq_true] at hE
  obtain ⟨ck, s5, fk, c3⟩ := hE
  have hi : i + 6 ≤ 3072 := Nat.le_trans hiL hL
  split at c3
  · rename_i r hr
    have hst0 := lw_stD_ok s5
    subst hst0
    have hr2 := un_call (a := a) (b := b') (rc := 0) (mid := 260) (na := 4) (mc := 1) (ms := 6) (A := 2) (B := 12) (np := 401) lw_cal env nl (ab_sfm lw_l_D1 true false cs, fx) cl sl lv _ r hr
    have hRa := hR.sfm lw_l_D1 true false
    have hc := cu_ck_ok ck hR.1 hz.three hR.2.2.2.1.1.2
    obtain ⟨q, hq, σ, A, we, b1, b4, al, bl1, bl2⟩ := cu_Dw hc hR.2.2.1
    have hn := cu_Dn hc hR.2.2.1 q hq
    have hPe := cu_P hR.2.2.2.2.1 (cu_pos b4)
    have hDe := cu_D hR.2.2.2.2.2.1 q.2 (lw_pD_nd q hq) b4
    have hT := lw_tw_b hR hc b1 b4 (lw_pD_in q hq)
    have tv := tv_D q hq hT
    have hI : 0 ≤ (σ.1 1).toInt ∧ (σ.1 1).toInt ≤ 12 := by rw [← tv.2.1]; exact hn.2
    have hN : 0 ≤ (σ.1 0).toInt ∧ (σ.1 0).toInt ≤ 7 := by rw [← tv.1]; exact hn.1
    have hst2 := lw_stD_v hz (lw_posn hR.2.2.1 b1 b4 (lw_pD_0 q hq)) (lw_posn hR.2.2.1 b1 b4 (lw_pD_15 q hq)) hs
    refine jc_callSW C K me_L_due hmR hsR hd1 hd2 (by decide) hy_L_due tg_1240 rfl tg_1238 tg_1239 tg_142 (by decide +kernel) hr2 hRa hl hs (m_L_due hst d (by omega) (X.2.1 (i + 1)) (X.2.1 (i + 2)) σ hI) b1 hPe hDe (rest := []) (by rw [hst2]; rfl) rfl (fun S1 hS1 z1 ws1 H1 locs1 r0 u hRb hlb hsb hpb hxb hpo hwu hPu => ?_)
    obtain ⟨S1', hS1', rfl⟩ := List.mem_map.mp hS1
    have c4 := List.all_eq_true.mp c3 S1' hS1'
    obtain ⟨⟨env1, nl1, ⟨cs1, fx1⟩, cl1, sl1⟩, pc1, lv1, st1⟩ := S1'
    have hpb : pc1 = 398 + 3 := hpb
    subst hpb
    unfold ab_dD1 at c4
    split at c4
    · rename_i env8 nl8 cs8 fx8 cl8 sl8 pc8 lv8 av heq
      cases heq
      rw [Bool.and_eq_true, Bool.and_eq_true, Bool.and_eq_true] at c4
      obtain ⟨fs1, fo1, fk1, c4⟩ := c4
      have hRb : ab_R X D s (z, ws, (ab_sfm lw_l_D1 true false cs).map ab_flg) env1 nl1 (cs1, fx1) z1 ws1 H1 locs1 := hRb
      have hlb : ab_lR X z1 7 ls lv1 := hlb
      have hsb : [Sum.inl av].map (ab_ev X z1) = (Value.int r0 :: []).map some := hsb
      have hz1 : lw_zv X i z1 x := hz.ext hxb
      have hav : ab_evI z1.1 av = some r0 := lw_av1 hsb
      have hR2 := hRb.sfm lw_l_D1 false false
      obtain ⟨u1, we1⟩ := u
      dsimp only at hpo hwu hPu
      split at c4
      · rename_i os hos
        have sm0 := lw_same_of hRa.2.2.2.1.1.2 fk hRb.2.2.2.2.2.2.2.2.2.2
        have hT1 := lw_tw_a hT sm0.2.2.2 hR2 fs1 (lw_pD_in q hq) lw_KD_lt hwu hPu
        refine lw_seg (S := ((env1, nl1, (ab_sfm lw_l_D1 false false cs1, fx1), cl1, sl1), 398 + 3, lv1, [Sum.inl av])) (cst := [Value.int r0]) K C hd0 hd1 hd2 hmR hsR hiL hL hos hz1 hR2 hlb hsb (fun k S2 hS2 z2 ws2 H2 locs2 ls2 cst2 hR3 hl3 hs3 => ?_)
        have c5 := List.all_eq_true.mp c4 (k, S2) hS2
        obtain ⟨⟨env2, nl2, ⟨cs2, fx2⟩, cl2, sl2⟩, pc2, lv2, st2⟩ := S2
        unfold ab_dD2 at c5
        split at c5
        · rename_i env9 nl9 cs9 fx9 cl9 sl9 pc9 lv9 st9 heq
          cases heq
          rw [Bool.and_eq_true, Bool.and_eq_true, Bool.and_eq_true, Bool.and_eq_true] at c5
          obtain ⟨cp, ck2, s52, fk2, c5⟩ := c5
          have cp := Nat.eq_of_beq_eq_true cp
          subst cp
          have hst2b := lw_stE_ok s52
          subst hst2b
          dsimp only at hR3 hl3 hs3 ⊢
          split at c5
          · rename_i r2 hr3
            have hr4 := un_call (a := a) (b := b') (rc := 13) (mid := 223) (na := 3) (mc := 0) (ms := 0) (A := 2) (B := 12) (np := 419) lw_cal env2 nl2 (ab_sfm lw_l_D2 true false cs2, fx2) cl2 sl2 lv2 _ r2 hr3
            have hz2 : lw_zv X i z2 x := hz1.ext hR3.2.2.2.2.2.2.2.2.1
            have sm1 := lw_same_of hR2.2.2.2.1.1.2 fk1 hR3.2.2.2.2.2.2.2.2.2.2
            have so1 := lw_same_of hR2.2.2.2.1.1.2 fo1 hR3.2.2.2.2.2.2.2.2.2.2
            have hR3a := hR3.sfm lw_l_D2 true false
            have hc2 := cu_ck_ok ck2 hR3.1 hz2.three hR3a.2.2.2.1.1.2
            obtain ⟨τ, A2, we2, d1, d4, d8⟩ := cu_K hc2 hR3.2.2.1
            have hPe2 := cu_P hR3.2.2.2.2.1 (cu_pos d4)
            have hDe2 := cu_D hR3.2.2.2.2.2.1 lw_pK (by decide) d4
            have hT2 := lw_tw_b hR3 hc2 d1 d4 lw_pK_in
            have hst4 := lw_stE_v hz2 (lw_posn (i := 0) hR3.2.2.1 d1 d4 rfl) hs3
            obtain ⟨eI, E⟩ := lw_due hJ.2 hq ⟨al, bl1, bl2⟩ hT hT2 (sm0.tr sm1) hN hI (X.2.1 (i + 1)) (X.2.1 (i + 2))
            have hI2 : 0 ≤ (τ.2.2.1 0 1).toInt ∧ (τ.2.2.1 0 1).toInt ≤ 12 := by rw [eI]; exact hI
            refine jc_call C K me_X11_due hmR hsR hd1 hd2 (by decide) hy_X11_due tg_1668 hc_X11 rfl rfl tg_1665 tg_1666 tg_1667 tg_158 (by decide +kernel) hr4 hR3a hl3 hs3 (m_X11_due d (by omega) (X.2.1 (i + 1)) (X.2.1 (i + 2)) τ hI2) d1 hPe2 hDe2 (rest := []) (by rw [hst4]; rfl) rfl (fun S3 hS3 z3 ws3 H3 locs3 r3 u3 hRd hld hsd hpd hxd hpo3 hwu3 hPu3 => ?_)
            obtain ⟨S3', hS3', rfl⟩ := List.mem_map.mp hS3
            have c6 := List.all_eq_true.mp c5 S3' hS3'
            obtain ⟨⟨env3, nl3, ⟨cs3, fx3⟩, cl3, sl3⟩, pc3, lv3, st3⟩ := S3'
            have hpd : pc3 = 416 + 3 := hpd
            subst hpd
            unfold ab_dD3 at c6
            split at c6
            · rename_i env7 nl7 cs7 fx7 cl7 sl7 pc7 lv7 bv heq
              cases heq
              rw [Bool.and_eq_true, Bool.and_eq_true, Bool.and_eq_true] at c6
              obtain ⟨fs3, fo3, fk3, c6⟩ := c6
              have hRd : ab_R X D s (z2, ws2, (ab_sfm lw_l_D2 true false cs2).map ab_flg) env3 nl3 (cs3, fx3) z3 ws3 H3 locs3 := hRd
              have hld : ab_lR X z3 7 ls2 lv3 := hld
              have hsd : [Sum.inl bv].map (ab_ev X z3) = (Value.int r3 :: []).map some := hsd
              have hz3 : lw_zv X i z3 x := hz2.ext hxd
              have hbv : ab_evI z3.1 bv = some r3 := lw_av1 hsd
              have hRe := hRd.sfm lw_l_D2 false false
              obtain ⟨u31, we3⟩ := u3
              dsimp only at hpo3 hwu3 hPu3
              split at c6
              · rename_i os3 hos3
                have sm2 := lw_same_of hR3a.2.2.2.1.1.2 fk2 hRd.2.2.2.2.2.2.2.2.2.2
                have hT3 := lw_tw_a hT2 sm2.2.2.2 hRe fs3 lw_pK_in lw_KK_lt hwu3 hPu3
                have kk := lw_dueK hq hT1 hT2 hT3 ((so1.1 166 1 1 (by decide)).2 rfl) hpo E hpo3
                refine lw_seg (S := ((env3, nl3, (ab_sfm lw_l_D2 false false cs3, fx3), cl3, sl3), 416 + 3, lv3, [Sum.inl bv])) (cst := [Value.int r3]) K C hd0 hd1 hd2 hmR hsR hiL hL hos3 hz3 hRe hld hsd (fun k4 S4 hS4 z4 ws4 H4 locs4 ls4 cst4 hR5 hl5 hs5 => ?_)
                have c7 := List.all_eq_true.mp c6 (k4, S4) hS4
                obtain ⟨⟨env4, nl4, ⟨cs4, fx4⟩, cl4, sl4⟩, pc4, lv4, st4⟩ := S4
                unfold ab_dD4 at c7
                split at c7
                · rename_i env10 nl10 cs10 fx10 cl10 sl10 pc10 lv10 st10 heq
                  cases heq
                  rw [Bool.and_eq_true, Bool.and_eq_true, Bool.and_eq_true, Bool.and_eq_true] at c7
                  obtain ⟨cp4, ck4, s54, fk4, c7⟩ := c7
                  have cp4 := Nat.eq_of_beq_eq_true cp4
                  subst cp4
                  have hst4b := lw_st0_ok s54
                  subst hst4b
                  dsimp only at hR5 hl5 hs5 ⊢
                  split at c7
                  · rename_i r4 hr5
                    have hr6 := un_call (a := a) (b := b') (rc := 13) (mid := 215) (na := 1) (mc := 0) (ms := 0) (A := 2) (B := 12) (np := 425) lw_cal env4 nl4 (ab_sfm lw_l_D3 true false cs4, fx4) cl4 sl4 lv4 _ r4 hr5
                    have hz4 : lw_zv X i z4 x := hz3.ext hR5.2.2.2.2.2.2.2.2.1
                    have sm3 := lw_same_of hRe.2.2.2.1.1.2 fk3 hR5.2.2.2.2.2.2.2.2.2.2
                    have so3 := lw_same_of hRe.2.2.2.1.1.2 fo3 hR5.2.2.2.2.2.2.2.2.2.2
                    have hR5a := hR5.sfm lw_l_D3 true false
                    have hc4 := cu_ck_ok ck4 hR5.1 hz4.three hR5a.2.2.2.1.1.2
                    obtain ⟨υ, A4, we4, f1, f4, f8⟩ := cu_K hc4 hR5.2.2.1
                    have hPe4 := cu_P hR5.2.2.2.2.1 (cu_pos f4)
                    have hDe4 := cu_D hR5.2.2.2.2.2.1 lw_pK (by decide) f4
                    have hT4 := lw_tw_b hR5 hc4 f1 f4 lw_pK_in
                    have hst6 := lw_st0_v (lw_posn (i := 0) hR5.2.2.1 f1 f4 rfl) hs5
                    have hk : υ.1 0 = r0 := by
                      rw [← kk.1, ← hT4.i (i := 0) (k := 0) (q := 0) rfl rfl (WK_0 _) rfl (by decide) rfl]
                      unfold cu_i
                      rw [so3.2.1 0 11 0 (by decide)]
                    have hv : r0 = 0 → υ.2.2.2 5 0 = r3.toInt64 := fun h0 => by
                      rw [← kk.2 h0, ← hT4.q (i := 6) (k := 166) rfl rfl (WK_6 _) 0 (by decide) (by decide), (so3.1 166 1 1 (by decide)).2 rfl]
                    have hp3 := lw_posn (i := 6) (k := 166) hR5.2.2.1 f1 f4 rfl
                    refine jc_call C K me_X11_thrown hmR hsR hd1 hd2 (by decide) hy_X11_thrown tg_1334 hc_X11 rfl rfl tg_1331 tg_1332 tg_1333 tg_158 (by decide +kernel) hr6 hR5a hl5 hs5 (m_X11_thrown d (by omega) υ) f1 hPe4 hDe4 (rest := []) (by rw [hst6]; rfl) rfl (fun S5 hS5 z5 ws5 H5 locs5 r5 u5 hRf hlf hsf hpf hxf hpo5 hwu5 hPu5 => ?_)
                    obtain ⟨S5', hS5', rfl⟩ := List.mem_map.mp hS5
                    have c8 := List.all_eq_true.mp c7 S5' hS5'
                    obtain ⟨⟨env5, nl5, ⟨cs5, fx5⟩, cl5, sl5⟩, pc5, lv5, st5⟩ := S5'
                    have hpf : pc5 = 422 + 3 := hpf
                    subst hpf
                    unfold ab_dD5 at c8
                    split at c8
                    · rename_i env11 nl11 cs11 fx11 cl11 sl11 pc11 lv11 tv11 heq
                      cases heq
                      rw [Bool.and_eq_true, Bool.and_eq_true, Bool.and_eq_true, Bool.and_eq_true] at c8
                      obtain ⟨l5, l6, l3, fk5, c8⟩ := c8
                      have hRf : ab_R X D s (z4, ws4, (ab_sfm lw_l_D3 true false cs4).map ab_flg) env5 nl5 (cs5, fx5) z5 ws5 H5 locs5 := hRf
                      have hlf : ab_lR X z5 7 ls4 lv5 := hlf
                      have hz5 : lw_zv X i z5 x := hz4.ext hxf
                      have hRg := hRf.re
                      obtain ⟨u51, we5⟩ := u5
                      dsimp only at hpo5 hwu5 hPu5
                      obtain ⟨e5, rfl⟩ := hpo5
                      split at c8
                      · rename_i os5 hos5
                        have sm4 := lw_same_of hR5a.2.2.2.1.1.2 fk4 hRf.2.2.2.2.2.2.2.2.2.2
                        have x13 : ab_ext z1 z5 := ((ab_ext.tr hR3.2.2.2.2.2.2.2.2.1 hxd).tr hR5.2.2.2.2.2.2.2.2.1).tr hxf
                        have x35 : ab_ext z3 z5 := ab_ext.tr hR5.2.2.2.2.2.2.2.2.1 hxf
                        have h5 := lw_lvi_ok l5 hlf (ab_evI.ext x13 hav)
                        have h6 := lw_lvi_ok l6 hlf (ab_evI.ext x35 hbv)
                        have h3 := lw_lvr_ok l3 hlf (lw_ext2 hxf hp3)
                        refine lw_dueT C hwu5 hPu5 h5 h6 h3 (e5.trans hk) hv ?_
                        refine lw_seg (S := ((env5, nl5, (cs5, fx5), cl5, sl5), 449, lv5, [])) (cst := []) K C hd0 hd1 hd2 hmR hsR hiL hL hos5 hz5 hRg hlf rfl (fun k6 S6 hS6 z6 ws6 H6 locs6 ls6 cst6 hR7 hl7 hs7 => ?_)
                        have c9 := List.all_eq_true.mp c8 (k6, S6) hS6
                        have hz6 := hz5.ext hR7.2.2.2.2.2.2.2.2.1
                        refine lw_at23 hi c9 hR7 hl7 hs7 hz6.1 (fun y e9 he9 ho => ?_) next
                        have hy := lw_szc_ok ho hR7.1 hR7.2.2.2.1.2 hz6.2.2.1 he9
                        have sm5 := lw_same_of hRg.2.2.2.1.1.2 fk5 hR7.2.2.2.2.2.2.2.2.2.2
                        have j1 : lw_J ws1 x := hJ.1.keepR hRa.2.2.2.1.1.2 (lw_chk_r fk) (by decide) hRb.2.2.2.2.2.2.2.2.2.2 (Or.inl (Int.le_refl _))
                        have j2 : lw_J ws2 x := j1.keepR hR2.2.2.2.1.1.2 (lw_chk_r fk1) (by decide) hR3.2.2.2.2.2.2.2.2.2.2 (Or.inl (Int.le_refl _))
                        have j3 : lw_J ws3 x := j2.keepR hR3a.2.2.2.1.1.2 (lw_chk_r fk2) (by decide) hRd.2.2.2.2.2.2.2.2.2.2 (Or.inl (Int.le_refl _))
                        have j4 : lw_J ws4 x := j3.keepR hRe.2.2.2.1.1.2 (lw_chk_r fk3) (by decide) hR5.2.2.2.2.2.2.2.2.2.2 (Or.inl (Int.le_refl _))
                        have j5 : lw_J ws5 x := j4.keepR hR5a.2.2.2.1.1.2 (lw_chk_r fk4) (by decide) hRf.2.2.2.2.2.2.2.2.2.2 (Or.inl (Int.le_refl _))
                        exact And.intro (j5.keepR hRg.2.2.2.1.1.2 (lw_chk_r fk5) (by decide) hR7.2.2.2.2.2.2.2.2.2.2 hy) ((((((hJ.2.same sm0).same sm1).same sm2).same sm3).same sm4).same sm5)
                      · cases c8
                    · cases c8
                  · cases c7
                · cases c7
              · cases c6
            · cases c6
          · cases c5
        · cases c5
      · cases c4
    · cases c4
  · cases c3

end
