/-! The law: its head, shadows, feed. -/

theorem lw_JX.sameT {ws ws' : va_W} (hs : lw_same lw_RT lw_F4 true ws ws') (h : lw_JX ws) : lw_JX ws' := h.sameX hs lw_RT_in
theorem lw_JX.sameB {ws ws' : va_W} (hs : lw_same lw_RB lw_F4 true ws ws') (h : lw_JX ws) : lw_JX ws' := h.sameX hs lw_RB_in
theorem lw_pA_nd : ∀ p ∈ lw_pA, p.Nodup := by decide
theorem lw_pA_in : ∀ p ∈ lw_pA, ∀ k ∈ p, k ∈ cu_KA := by decide
theorem lw_pA_at : ∀ p ∈ lw_pA, p[0]? = some 10 ∧ p[1]? = some 3 ∧ p[2]? = some 17 ∧ p[3]? = some 38 := by decide
theorem lw_pB_in : ∀ k ∈ lw_pB, k ∈ cu_KB := by decide
theorem lw_pJ_in : ∀ k ∈ lw_pJ, k ∈ cu_KJ := by decide
theorem lw_pI_nd : ∀ q ∈ lw_pI, q.2.Nodup := by decide
theorem lw_pI_in : ∀ q ∈ lw_pI, ∀ k ∈ q.2, k ∈ cu_KI := by decide
theorem lw_pV_nd : ∀ q ∈ lw_pV, q.2.2.Nodup := by decide
theorem lw_pS_nd : ∀ q ∈ lw_pS, q.2.Nodup := by decide
theorem lw_pS_in : ∀ q ∈ lw_pS, ∀ k ∈ q.2, k ∈ cu_KS := by decide
theorem lw_pT_in : ∀ k ∈ lw_pT, k ∈ cu_KT := by decide
theorem lw_pV_in : ∀ q ∈ lw_pV, ∀ k ∈ q.2.2, k ∈ cu_KV := by decide
theorem lw_KA_lt : ∀ k ∈ cu_KA, k < gl_L.length := by decide +kernel
theorem lw_KB_lt : ∀ k ∈ cu_KB, k < gl_L.length := by decide +kernel
theorem lw_KV_lt : ∀ k ∈ cu_KV, k < gl_L.length := by decide +kernel
theorem lw_KI_lt : ∀ k ∈ cu_KI, k < gl_L.length := by decide +kernel
theorem lw_KS_lt : ∀ k ∈ cu_KS, k < gl_L.length := by decide +kernel
theorem lw_KT_lt : ∀ k ∈ cu_KT, k < gl_L.length := by decide +kernel
theorem lw_KJ_lt : ∀ k ∈ cu_KJ, k < gl_L.length := by decide +kernel
section
variable {p : Program} {l : Launch} {e : Env} {s : State} {m : MethodId} {below : List Frame} {meth : Method} {c : Code} {b L : Nat} {xs : Nat → Int32} {X : ab_X} {D : va_G} {d : Nat}
/-- the end: 1 on the stack -/
theorem ab_lexit (C0 : lw_At p s m meth c b L xs) (hXs : X.1.2.2 = s.heap.size) {H : Heap} {locs : List Loc} {cl sl : Nat} {ls : Array Slot} (hS : va_S (ab_Ar X) s.heap H locs) (h1 : cl ≤ 601024) (h2 : sl ≤ 7293034) : W p l e room_1 s m #[Value.ref b] below meth c H locs cl sl (lw_Z below #[Value.ref b] s) (F0 m 1356 ls []) := by
  refine lv_iconst C0.1 C0.2.1 (n := 1) (v := 1) (by decide +kernel) (by decide) ?_
  refine va_forget (fun q hq => by have h9 := hS.2.2 q hq; rw [← hXs]; exact h9) ?_
  refine W.widen (k := 601024) (n := 7293034) h1 h2 ?_
  exact lw_ret C0.1 C0.2.1 C0.2.2.1 C0.2.2.2.2.2.2.2.2.1 (by decide +kernel)
theorem ab_lhead (C0 : lw_At p s m meth c b L xs) (hX1 : X.1 = (b, L, s.heap.size)) (hL : L ≤ 3072) (C : ab_cx p room_1 s m #[Value.ref b] c code RL 7 X D) {i a b' : Nat} (hi : i ≤ 3072) (ha : a ≤ 601024) (hb : b' ≤ 7293034) {z : ab_Z} {ws : va_W} {H : Heap} {locs : List Loc} {ls : Array Slot} {aw : ab_H} {E0 : ab_E} (hz : z.1[0]? = some (nI i)) (hR : ab_R X D s (z, [], []) E0 0 aw z ws H locs) (hl : ab_lR X z 7 ls ab_lvT)
    (kk : i + 6 ≤ L → W p l e room_1 s m #[Value.ref b] below meth c H locs a b' (lw_Z below #[Value.ref b] s) (F0 m 33 ls [])) : W p l e room_1 s m #[Value.ref b] below meth c H locs a b' (lw_Z below #[Value.ref b] s) (F0 m 23 ls []) := by
  obtain ⟨x4, e4, l4⟩ := hl.at (i := 4) (v := .inl (some 0, 0)) rfl
  obtain ⟨x0, e0, l0⟩ := hl.at (i := 0) (v := .inr (.inr (1, 0))) rfl
  have hx4 : x4 = .int (nI i) := by
    simp only [ab_ev, ab_evI, hz, Option.map_some, Option.some.injEq] at e4
    rw [← e4]
    have : Int32.ofInt 0 = 0 := rfl
    rw [this, Int32.add_zero]
  have hx0 : x0 = .ref X.1.1 := by
    simp only [ab_ev, ab_evR, Option.some.injEq] at e0
    exact e0.symm
  subst hx4 hx0
  obtain ⟨q1, q2⟩ := (ab_cxE C).2.2.2.1
  have e1 : X.1.1 = b := by rw [hX1]
  have e2 : X.1.2.1 = L := by rw [hX1]
  have e3 : X.1.2.2 = s.heap.size := by rw [hX1]
  refine lv_iload C0.1 C0.2.1 (i := 4) (by decide +kernel) l4 ?_
  refine lv_aload_n C0.1 C0.2.1 (k := 0) (i := 0) (by decide +kernel) rfl l0 ?_
  refine va_slen (A := ab_Ar X) C0.1 C0.2.1 q1 (Nat.lt_of_lt_of_le q2 (ab_cxE C).1) (Nat.not_le.mpr q2) hR.2.2.2.2.2.2.1 (by decide +kernel) ?_
  refine lv_bipush C0.1 C0.2.1 (n := 6) (v := 6) (by decide +kernel) (by decide) ?_
  refine lv_isub C0.1 C0.2.1 (by decide +kernel) ?_
  refine lv_icmp_gt C0.1 C0.2.1 (off := 1326) (tgt := 1356) (by decide +kernel) (by decide) (fun hP => ?_) (fun hP => ?_)
  · exact ab_lexit C0 e3 hR.2.2.2.2.2.2.1 ha hb
  · apply kk
    rw [e2] at hP
    have h1 : (nI i).toInt = (i : Int) := nI_toInt (by omega)
    have h2 : (Int32.ofNat L).toInt = (L : Int) := nI_toInt (by omega)
    have h3 : (Int32.ofNat L - 6).toInt = (L : Int) - 6 := by
      rw [Int32.toInt_sub, h2]
      have : (6 : Int32).toInt = 6 := rfl
      rw [this]
      exact Int.bmod_eq_of_le (by omega) (by omega)
    rw [Int32.lt_iff_toInt_lt, h1, h3] at hP
    omega

/-- an end at the loop's head -/
theorem lw_at23 {i a b' : Nat} (hi : i + 6 ≤ 3072) {o : ab_E → List ab_Y → ab_I → Bool} {k : Nat} {S : ab_S} (hE : ab_lw1 o (k, S) = true) {z0 : ab_Z0} {z : ab_Z} {ws : va_W} {H : Heap} {locs : List Loc} {ls : Array Slot} {cst : List Value} (hR : ab_R X D s z0 S.1.1 S.1.2.1 S.1.2.2.1 z ws H locs) (hl : ab_lR X z 7 ls S.2.2.1) (hs : S.2.2.2.map (ab_ev X z) = cst.map some) (hz0 : z.1[0]? = some (nI i)) (hJ : ∀ (y : Int32) (e : ab_I), ab_evI z.1 e = some y → o S.1.1 S.1.2.2.1.2 e = true → lw_JJ ws y) (next : ∀ (z : ab_Z) (ws : va_W) (H : Heap) (locs : List Loc) (ls : Array Slot), z.1[0]? = some (nI (i + 6)) → ab_R X D s (z, [], []) ab_lT.1 0 (gl_L, ab_FX) z ws H locs → (∀ x, z.1[1]? = some x → lw_JJ ws x) → ab_lR X z 7 ls ab_lvT → W p l e room_1 s m #[Value.ref b] below meth c H locs (a + 2) (b' + 12) (lw_Z below #[Value.ref b] s) (F0 m 23 ls [])) : W p l e room_1 s m #[Value.ref b] below meth c H locs (S.1.2.2.2.1 + a) (S.1.2.2.2.2 + b') (lw_Z below #[Value.ref b] s) (F0 m S.2.1 ls cst) := by
  obtain ⟨⟨env, nl, aw, cl, sl⟩, pc, lv, st⟩ := S
  dsimp only at hR hl hs hJ ⊢
  unfold ab_lw1 at hE
  split at hE
  · rename_i env9 nl9 aw9 cl9 sl9 pc9 lv9 st9 heq
    cases heq
    rw [Bool.and_eq_true, Bool.and_eq_true] at hE
    obtain ⟨⟨c1, c2⟩, c3⟩ := hE
    have c1 := Nat.le_of_ble_eq_true c1
    have c2 := Nat.le_of_ble_eq_true c2
    obtain ⟨z', sg, g1, g2, g3, g4, g5, g6, g7, -, -⟩ := ab_subS_ok c3 hR hl
    dsimp only at g6 g7
    subst g6
    cases cst with
    | cons _ _ => simp at hs
    | nil =>
      unfold ab_l6 at g5
      split at g5
      · rename_i c9 e9 sr
        rw [Bool.and_eq_true, ab_ie_iff] at g5
        obtain ⟨g5, g8⟩ := g5
        subst g5
        have hin : (nI i).toInt = (i : Int) := nI_toInt (by omega)
        have hsg := congrArg (List.filterMap id) g3
        rw [lw_fm] at hsg
        have h6 : nI i + Int32.ofInt 6 = nI (i + 6) := by
          apply Int32.toInt_inj.mp
          rw [ab_addI _ _ (by omega) (by omega), hin, nI_toInt (by omega)]
          omega
        have e0 : ab_evI z.1 (some 0, 6) = some (nI (i + 6)) := by
          simp only [ab_evI, hz0, Option.map_some]
          rw [h6]
        obtain ⟨y0, d1, d2⟩ := ab_map_at (u := 0) g3 rfl
        obtain ⟨y1, d3, d4⟩ := ab_map_at (u := 1) g3 rfl
        rw [e0] at d1
        cases d1
        refine W.widen (k := a + 2) (n := b' + 12) (show cl + a ≤ a + 2 by omega) (show sl + b' ≤ b' + 12 by omega) ?_
        have h9 := next z' ws H locs ls d2 g1.no (fun x hx => by
          rw [hx] at d4
          cases d4
          exact hJ _ _ d3 g8) g2
        show W p l e room_1 s m #[Value.ref b] below meth c H locs (a + 2) (b' + 12) (lw_Z below #[Value.ref b] s) (F0 m pc ls [])
        rw [g7]
        exact h9
      · cases g5
  · cases hE
/-- a piece of the law's code, from one state on -/
theorem lw_seg (K : ab_cal l X D d ab_MEL lw_cal) (C : ab_cx p room_1 s m #[Value.ref b] c code RL 7 X D) (hd0 : 40 ≤ d) (hd1 : 16 * (d + 1) ≤ room_1.frames) (hd2 : 200 * (d + 1) ≤ room_1.locals) {i a b' : Nat} (hmR : 2 + a ≤ room_1.cells) (hsR : 12 + b' ≤ room_1.slots) (hiL : i + 6 ≤ X.1.2.1) (hL : X.1.2.1 ≤ 3072) {Q : State → Prop} {x : Int32} {S : ab_S} {n : Nat} {os : List (Nat × ab_S)} (h : ab_run (tb_LC 2 12) lw_cal n [S] [] = some os) {z0 : ab_Z0} {z : ab_Z} {ws : va_W} {H : Heap} {locs : List Loc} {ls : Array Slot} {cst : List Value} (hz : lw_zv X i z x) (hR : ab_R X D s z0 S.1.1 S.1.2.1 S.1.2.2.1 z ws H locs) (hl : ab_lR X z 7 ls S.2.2.1) (hs : S.2.2.2.map (ab_ev X z) = cst.map some)
    (hend : ∀ (k : Nat) (S' : ab_S), (k, S') ∈ os → ∀ (z' : ab_Z) (ws' : va_W) (H' : Heap) (locs' : List Loc) (ls' : Array Slot) (cst' : List Value), ab_R X D s (z, ws, S.1.2.2.1.1.map ab_flg) S'.1.1 S'.1.2.1 S'.1.2.2.1 z' ws' H' locs' → ab_lR X z' 7 ls' S'.2.2.1 → S'.2.2.2.map (ab_ev X z') = cst'.map some → W p l e room_1 s m #[Value.ref b] below meth c H' locs' (S'.1.2.2.2.1 + a) (S'.1.2.2.2.2 + b') Q (F0 m S'.2.1 ls' cst')) : W p l e room_1 s m #[Value.ref b] below meth c H locs (S.1.2.2.2.1 + a) (S.1.2.2.2.2 + b') Q (F0 m S.2.1 ls cst) := by
  have hT := sn_LC (p := p) (l := l) (e := e) (R := room_1) (s := s) (m := m) (args := #[Value.ref b]) (below := below) (meth := meth) (c := c) (Q := Q) (z0 := (z, ws, S.1.2.2.1.1.map ab_flg)) (a := a) (b := b') K C hd1 hd2 (A := 2) (B := 12) hmR hsR (i0 := i) hz.1 hz.2.1 hiL hL
  have hok : ab_ok p l e room_1 s m #[Value.ref b] below meth c Q 7 X D (z, ws, S.1.2.2.1.1.map ab_flg) (ab_sh a b' S) :=
    ab_run_gen (P := fun S9 => ab_ok p l e room_1 s m #[Value.ref b] below meth c Q 7 X D (z, ws, S.1.2.2.1.1.map ab_flg) (ab_sh a b' S9)) (fun bb hb9 q hq h9 env nl aw cl sl lv st r hr hk => hT bb hb9 q hq h9 env nl aw cl sl lv st r hr hk) h (fun k S' hS' => fun z' ws' H' locs' ls' cst' hR' hl' hs' => hend k S' hS' z' ws' H' locs' ls' cst' hR' hl' hs') S List.mem_cons_self
  exact hok z ws H locs ls cst hR.re hl hs
/-- shadows: the tapes are empty behind it -/
theorem lw_caseS (K : ab_cal l X D d ab_MEL lw_cal) (C : ab_cx p room_1 s m #[Value.ref b] c code RL 7 X D) (hd0 : 40 ≤ d) (hd1 : 16 * (d + 1) ≤ room_1.frames) (hd2 : 200 * (d + 1) ≤ room_1.locals) {i a b' : Nat} (hmR : 2 + a ≤ room_1.cells) (hsR : 12 + b' ≤ room_1.slots) (hiL : i + 6 ≤ X.1.2.1) (hL : X.1.2.1 ≤ 3072) {x : Int32} {S : ab_S} (hpc : S.2.1 = 901) (hE : ab_cS S = true) {z0 : ab_Z0} {z : ab_Z} {ws : va_W} {H : Heap} {locs : List Loc} {ls : Array Slot} {cst : List Value} (hz : lw_zv X i z x) (hJ : lw_JJ ws x) (hR : ab_R X D s z0 S.1.1 S.1.2.1 S.1.2.2.1 z ws H locs) (hl : ab_lR X z 7 ls S.2.2.1) (hs : S.2.2.2.map (ab_ev X z) = cst.map some) (next : ∀ (z : ab_Z) (ws : va_W) (H : Heap) (locs : List Loc) (ls : Array Slot), z.1[0]? = some (nI (i + 6)) → ab_R X D s (z, [], []) ab_lT.1 0 (gl_L, ab_FX) z ws H locs → (∀ x, z.1[1]? = some x → lw_JJ ws x) → ab_lR X z 7 ls ab_lvT → W p l e room_1 s m #[Value.ref b] below meth c H locs (a + 2) (b' + 12) (lw_Z below #[Value.ref b] s) (F0 m 23 ls [])) : W p l e room_1 s m #[Value.ref b] below meth c H locs (S.1.2.2.2.1 + a) (S.1.2.2.2.2 + b') (lw_Z below #[Value.ref b] s) (F0 m S.2.1 ls cst) := by
  obtain ⟨⟨env, nl, ⟨cs, fx⟩, cl, sl⟩, pc, lv, st⟩ := S
  dsimp only at hpc hR hl hs ⊢
  subst hpc
  unfold ab_cS at hE
  dsimp only at hE
  rw [Bool.and_eq_true] at hE
  obtain ⟨fk, c3⟩ := hE
  have hi : i + 6 ≤ 3072 := Nat.le_trans hiL hL
  split at c3
  · rename_i r hr
    have hr2 := un_call (a := a) (b := b') (rc := 13) (mid := 241) (na := 1) (mc := 0) (ms := 0) (A := 2) (B := 12) (np := 904) lw_cal env nl (ab_sfl 4 true cs, fx) cl sl lv st r hr
    have hR1 := hR.sfl 4 true
    have hso : ab_so p l e room_1 s m #[Value.ref b] below meth c (lw_Z below #[Value.ref b] s) 7 X D (z, ws, (ab_sfl 4 true cs).map ab_flg) lw_cal 901 (op_call 13 241 1 0 0 (2 + a) (12 + b') 904) := so_callV C K me_X11_shadows hmR hsR hd1 hd2 (by decide) hy_X11_shadows tg_1814 hc_X11 rfl rfl tg_1811 tg_1812 tg_1813 tg_158 (by decide +kernel)
    refine hso env nl (ab_sfl 4 true cs, fx) (cl + a) (sl + b') lv st _ hr2 (fun S1 hS1 => ?_) z ws H locs ls cst hR1 hl hs
    obtain ⟨S1', hS1', rfl⟩ := List.mem_map.mp hS1
    have c4 := List.all_eq_true.mp c3 S1' hS1'
    obtain ⟨⟨env1, nl1, ⟨cs1, fx1⟩, cl1, sl1⟩, pc1, lv1, st1⟩ := S1'
    unfold ab_cS1 at c4
    dsimp only at c4
    rw [Bool.and_eq_true] at c4
    obtain ⟨fk1, c4⟩ := c4
    split at c4
    · rename_i os hos
      intro z1 ws1 H1 locs1 ls1 cst1 hRb hlb hsb
      have hw1 := (show ab_R X D s (z, ws, (ab_sfl 4 true cs).map ab_flg) env1 nl1 (cs1, fx1) z1 ws1 H1 locs1 from hRb)
      have hz1 : lw_zv X i z1 x := hz.ext hw1.2.2.2.2.2.2.2.2.1
      have hW1 : lw_Wd ws1 := hJ.1.2.keep hR1.2.2.2.1.1.2 (lw_chk_r fk) hw1.2.2.2.2.2.2.2.2.2.2 (by decide) (by decide)
      have hR2 := hw1.sfl 4 false
      refine lw_seg K C hd0 hd1 hd2 hmR hsR hiL hL hos hz1 hR2 hlb hsb (fun k S' hS' z' ws' H' locs' ls' cst' hR' hl' hs' => ?_)
      have c5 := List.all_eq_true.mp c4 (k, S') hS'
      refine lw_at23 hi c5 hR' hl' hs' (hz1.ext hR'.2.2.2.2.2.2.2.2.1).1 (fun y e9 he9 ho => ?_) next
      have sm1 := lw_same_of hR1.2.2.2.1.1.2 fk hw1.2.2.2.2.2.2.2.2.2.2
      have sm2 := lw_same_of hR2.2.2.2.1.1.2 fk1 hR'.2.2.2.2.2.2.2.2.2.2
      refine And.intro (And.intro (fun j hj => ?_) (hW1.keep hR2.2.2.2.1.1.2 (lw_chk_r fk1) hR'.2.2.2.2.2.2.2.2.2.2 (by decide) (by decide))) ((hJ.2.sameT sm1).same sm2)
      exfalso
      unfold lw_sz0 at ho
      rw [ab_ivK_eq, ab_le_iff] at ho
      have h2 := ab_iv_spec hR'.1 he9
      omega
    · cases c4
  · cases c3
/-- feed: by two contracts on each side -/
theorem lw_caseF (K : ab_cal l X D d ab_MEL lw_cal) (C : ab_cx p room_1 s m #[Value.ref b] c code RL 7 X D) (hd0 : 40 ≤ d) (hd1 : 16 * (d + 1) ≤ room_1.frames) (hd2 : 200 * (d + 1) ≤ room_1.locals) {i a b' : Nat} (hmR : 2 + a ≤ room_1.cells) (hsR : 12 + b' ≤ room_1.slots) (hiL : i + 6 ≤ X.1.2.1) (hL : X.1.2.1 ≤ 3072) {x : Int32} {S : ab_S} (hpc : S.2.1 = 251) (hE : ab_cF S = true) {z0 : ab_Z0} {z : ab_Z} {ws : va_W} {H : Heap} {locs : List Loc} {ls : Array Slot} {cst : List Value} (hz : lw_zv X i z x) (hJ : lw_JJ ws x) (hR : ab_R X D s z0 S.1.1 S.1.2.1 S.1.2.2.1 z ws H locs) (hl : ab_lR X z 7 ls S.2.2.1) (hs : S.2.2.2.map (ab_ev X z) = cst.map some) (next : ∀ (z : ab_Z) (ws : va_W) (H : Heap) (locs : List Loc) (ls : Array Slot), z.1[0]? = some (nI (i + 6)) → ab_R X D s (z, [], []) ab_lT.1 0 (gl_L, ab_FX) z ws H locs → (∀ x, z.1[1]? = some x → lw_JJ ws x) → ab_lR X z 7 ls ab_lvT → W p l e room_1 s m #[Value.ref b] below meth c H locs (a + 2) (b' + 12) (lw_Z below #[Value.ref b] s) (F0 m 23 ls [])) : W p l e room_1 s m #[Value.ref b] below meth c H locs (S.1.2.2.2.1 + a) (S.1.2.2.2.2 + b') (lw_Z below #[Value.ref b] s) (F0 m S.2.1 ls cst) := by
  obtain ⟨⟨env, nl, ⟨cs, fx⟩, cl, sl⟩, pc, lv, st⟩ := S
  dsimp only at hpc hR hl hs ⊢
  subst hpc
  unfold ab_cF at hE
  dsimp only at hE
  rw [Bool.and_eq_true, Bool.and_eq_true, Bool.and_eq_true] at hE
  obtain ⟨ck, s5, fk, c3⟩ := hE
  have hi : i + 6 ≤ 3072 := Nat.le_trans hiL hL
  split at c3
  · rename_i r hr
    have hst := lw_st5_ok s5
    subst hst
    have hr2 := un_call (a := a) (b := b') (rc := 12) (mid := 174) (na := 6) (mc := 0) (ms := 0) (A := 2) (B := 12) (np := 254) lw_cal env nl (ab_sfl 17 true cs, fx) cl sl lv _ r hr
    have hRa := hR.sfl 17 true
    have hc := cu_ck_ok ck hR.1 hz.three hR.2.2.2.1.1.2
    obtain ⟨pos, hpos, σ, A, we, b1, b4, b8⟩ := cu_Aw hc hR.2.2.1
    have hPe := cu_P hR.2.2.2.2.1 (cu_pos b4)
    have hDe := cu_D hR.2.2.2.2.2.1 pos (lw_pA_nd pos hpos) b4
    have hT := lw_tw_b hR hc b1 b4 (lw_pA_in pos hpos)
    obtain ⟨p0, p1, p2, p3⟩ := lw_pA_at pos hpos
    have hx : σ.1 0 = x := by rw [hz.2.2.1] at b8; exact (Option.some.inj b8).symm
    have hst2 := lw_st5_v hz (lw_posz hR.2.2.1 b1 b4 p0) hs
    have hI : 0 ≤ (σ.1 0).toInt ∧ (σ.1 0).toInt ≤ 940 := by rw [hx]; exact hz.2.2.2.2
    refine jc_call C K me_X10_feed hmR hsR hd1 hd2 (by decide) hy_X10_feed tg_639 hc_X10 rfl rfl tg_636 tg_637 tg_638 tg_143 (by decide +kernel) hr2 hRa hl hs (m_X10_feed d (by omega) (2000000, []) 6 (X.2.1 (i + 1)) (X.2.1 (i + 2)) (X.2.1 (i + 3)) (X.2.1 (i + 4)) (X.2.1 (i + 5)) σ hI) b1 hPe hDe (rest := []) (by rw [hst2]; rfl) rfl (fun S1 hS1 z1 ws1 H1 locs1 r0 u hRb hlb hsb hpb hxb hpo hwu hPu => ?_)
    obtain ⟨S1', hS1', rfl⟩ := List.mem_map.mp hS1
    have c4 := List.all_eq_true.mp c3 S1' hS1'
    obtain ⟨⟨env1, nl1, ⟨cs1, fx1⟩, cl1, sl1⟩, pc1, lv1, st1⟩ := S1'
    unfold ab_cF1 at c4
    dsimp only at c4
    rw [Bool.and_eq_true, Bool.and_eq_true] at c4
    obtain ⟨fk1, fs1, c4⟩ := c4
    have hRb : ab_R X D s (z, ws, (ab_sfl 17 true cs).map ab_flg) env1 nl1 (cs1, fx1) z1 ws1 H1 locs1 := hRb
    have hpb : pc1 = 251 + 3 := hpb
    subst hpb
    split at c4
    · rename_i ez hez
      split at c4
      · rename_i os hos
        have hz1 : lw_zv X i z1 x := hz.ext hxb
        have hR2 := hRb.sfl 17 false
        obtain ⟨u1, we1⟩ := u
        obtain ⟨-, hu1⟩ := hpo
        dsimp only at hu1 hwu hPu
        subst hu1
        have sm0 := lw_same_of hRa.2.2.2.1.1.2 fk hRb.2.2.2.2.2.2.2.2.2.2
        have hT1 := lw_tw_a hT sm0.2.2.2 hRb fs1 (lw_pA_in pos hpos) lw_KA_lt hwu hPu
        have hrow := hT1.f p2 (by rfl) (Or.inl rfl) (WA_2 _ _ _)
        obtain ⟨a3, vs3, y3, h3, hy3, hey3⟩ := lw_sz_ok hRb.2.2.2.1.1.2 hez
        have hyy : y3 = (A_feed (X.2.1 (i + 1)) (X.2.1 (i + 2)) (X.2.1 (i + 3)) (X.2.1 (i + 4)) (X.2.1 (i + 5)) σ).2.1 0 := by
          have h9 := hT1.v (q := 1) p1 (by rfl) (WA_1 _ _ _) (r := (RX4, TX4, 15)) rfl (by decide) rfl
          rw [cu_v_of h3, hy3] at h9
          exact Value.int.inj h9
        refine lw_seg K C hd0 hd1 hd2 hmR hsR hiL hL hos hz1 hR2 hlb hsb (fun k S2 hS2 z2 ws2 H2 locs2 ls2 cst2 hR3 hl3 hs3 => ?_)
        have c5 := List.all_eq_true.mp c4 (k, S2) hS2
        obtain ⟨⟨env2, nl2, ⟨cs2, fx2⟩, cl2, sl2⟩, pc2, lv2, st2⟩ := S2
        unfold ab_cF2 at c5
        split at c5
        · rename_i env9 nl9 cs9 fx9 cl9 sl9 pc9 lv9 st9 heq
          cases heq
          rw [Bool.and_eq_true, Bool.and_eq_true, Bool.and_eq_true, Bool.and_eq_true] at c5
          obtain ⟨cp, ck2, s52, fk2, c5⟩ := c5
          have cp := Nat.eq_of_beq_eq_true cp
          subst cp
          have hst2b := lw_st5_ok s52
          subst hst2b
          dsimp only at hR3 hl3 hs3 ⊢
          split at c5
          · rename_i r2 hr3
            have hr4 := un_call (a := a) (b := b') (rc := 13) (mid := 215) (na := 6) (mc := 0) (ms := 0) (A := 2) (B := 12) (np := 289) lw_cal env2 nl2 (ab_sfl 4 true cs2, fx2) cl2 sl2 lv2 _ r2 hr3
            have hz2 : lw_zv X i z2 x := hz1.ext hR3.2.2.2.2.2.2.2.2.1
            have hc2 := cu_ck_ok ck2 hR3.1 hz2.three hR3.2.2.2.1.1.2
            obtain ⟨τ, A2, we2, d1, d4, d8⟩ := cu_B hc2 hR3.2.2.1
            have hPe2 := cu_P hR3.2.2.2.2.1 (cu_pos d4)
            have hDe2 := cu_D hR3.2.2.2.2.2.1 lw_pB (by decide) d4
            have hT2 := lw_tw_b hR3 hc2 d1 d4 lw_pB_in
            have hx2 : τ.1 1 = x := by rw [hz2.2.2.2.1] at d8; exact (Option.some.inj d8).symm
            have hst4 := lw_st5_v hz2 (lw_posz hR3.2.2.1 d1 d4 rfl) hs3
            have hI2 : 0 ≤ (τ.1 1).toInt ∧ (τ.1 1).toInt ≤ 940 := by rw [hx2]; exact hz.2.2.2.2
            -- the tapes ahead of the second call
            have hw0 := hRa.2.2.2.1.1.2
            have k4 := lw_kf hw0 (lw_chk_r fk) hRb.2.2.2.2.2.2.2.2.2.2 (k := 4) (t := 2) (n := 940) (by decide) (Or.inr rfl)
            have k4b := lw_kf hR2.2.2.2.1.1.2 (lw_chk_r fk1) hR3.2.2.2.2.2.2.2.2.2.2 (k := 4) (t := 2) (n := 940) (by decide) (Or.inr rfl)
            have k17b := lw_kf hR2.2.2.2.1.1.2 (lw_chk_r fk1) hR3.2.2.2.2.2.2.2.2.2.2 (k := 17) (t := 0) (n := 940) (by decide) (Or.inl rfl)
            have hEJ : E_J σ τ := by
              refine And.intro (hx.trans hx2.symm) (fun j hj => ?_)
              have hj9 : j < 940 := by have h9 := hI.2; omega
              rw [← hT.f p2 (by rfl) (Or.inl rfl) (WA_2 _ _ _) j hj9 hj9, ← hT2.f (i := 1) (k := 4) rfl (by rfl) (Or.inr (Or.inl rfl)) (WB_1 _) j hj9 hj9, k4b.1, k4.1]
              exact hJ.1.1 j (by rw [← hx]; exact hj)
            have hEJ2 := E_feed (X.2.1 (i + 1)) (X.2.1 (i + 2)) (X.2.1 (i + 3)) (X.2.1 (i + 4)) (X.2.1 (i + 5)) hI hEJ
            have hR3a := hR3.sfl 4 true
            refine jc_call C K me_X11_feed hmR hsR hd1 hd2 (by decide) hy_X11_feed tg_1334 hc_X11 rfl rfl tg_1331 tg_1332 tg_1333 tg_158 (by decide +kernel) hr4 hR3a hl3 hs3 (m_X11_feed d (by omega) (X.2.1 (i + 1)) (X.2.1 (i + 2)) (X.2.1 (i + 3)) (X.2.1 (i + 4)) (X.2.1 (i + 5)) τ hI2) d1 hPe2 hDe2 (rest := []) (by rw [hst4]; rfl) rfl (fun S3 hS3 z3 ws3 H3 locs3 r3 u3 hRd hld hsd hpd hxd hpo3 hwu3 hPu3 => ?_)
            obtain ⟨S3', hS3', rfl⟩ := List.mem_map.mp hS3
            have c6 := List.all_eq_true.mp c5 S3' hS3'
            obtain ⟨⟨env3, nl3, ⟨cs3, fx3⟩, cl3, sl3⟩, pc3, lv3, st3⟩ := S3'
            unfold ab_cF3 at c6
            dsimp only at c6
            rw [Bool.and_eq_true, Bool.and_eq_true] at c6
            obtain ⟨fk3, fs3, c6⟩ := c6
            have hRd : ab_R X D s (z2, ws2, (ab_sfl 4 true cs2).map ab_flg) env3 nl3 (cs3, fx3) z3 ws3 H3 locs3 := hRd
            have hpd : pc3 = 286 + 3 := hpd
            subst hpd
            split at c6
            · rename_i os3 hos3
              have hz3 : lw_zv X i z3 x := hz2.ext hxd
              have hRe := hRd.sfl 4 false
              obtain ⟨u31, we3⟩ := u3
              obtain ⟨-, hu3⟩ := hpo3
              dsimp only at hu3 hwu3 hPu3
              subst hu3
              have sm2 := lw_same_of hR3a.2.2.2.1.1.2 fk2 hRd.2.2.2.2.2.2.2.2.2.2
              have hT3 := lw_tw_a hT2 sm2.2.2.2 hRd fs3 lw_pB_in lw_KB_lt hwu3 hPu3
              have hrow3 := hT3.f (i := 1) (k := 4) rfl (by rfl) (Or.inr (Or.inl rfl)) (WB_1 _)
              refine lw_seg K C hd0 hd1 hd2 hmR hsR hiL hL hos3 hz3 hRe hld hsd (fun k4 S4 hS4 z4 ws4 H4 locs4 ls4 cst4 hR5 hl5 hs5 => ?_)
              have c7 := List.all_eq_true.mp c6 (k4, S4) hS4
              refine lw_at23 hi c7 hR5 hl5 hs5 (hz3.ext hR5.2.2.2.2.2.2.2.2.1).1 (fun y e9 he9 ho => ?_) next
              -- the new size
              have e99 : e9 = ez := ab_eqI_eq ho
              subst e99
              have hext : ab_ext z1 z4 := (hR3.2.2.2.2.2.2.2.2.1.tr hxd).tr hR5.2.2.2.2.2.2.2.2.1
              have hy4 : y = y3 := Option.some.inj (he9.symm.trans (ab_evI.ext hext hey3))
              have kw1 := lw_kf (ws' := ws3) hR3a.2.2.2.1.1.2 (lw_chk_r fk2) hRd.2.2.2.2.2.2.2.2.2.2 (k := 17) (t := 0) (n := 940) (by decide) (Or.inl rfl)
              have kw2 := lw_kf hRe.2.2.2.1.1.2 (lw_chk_r fk3) hR5.2.2.2.2.2.2.2.2.2.2 (k := 17) (t := 0) (n := 940) (by decide) (Or.inl rfl)
              have kw3 := lw_kf hRe.2.2.2.1.1.2 (lw_chk_r fk3) hR5.2.2.2.2.2.2.2.2.2.2 (k := 4) (t := 2) (n := 940) (by decide) (Or.inr rfl)
              have sm1 := lw_same_of hR2.2.2.2.1.1.2 fk1 hR3.2.2.2.2.2.2.2.2.2.2
              have sm3 := lw_same_of hRe.2.2.2.1.1.2 fk3 hR5.2.2.2.2.2.2.2.2.2.2
              refine And.intro (And.intro (fun j hj => ?_) ?_) ((((hJ.2.sameB sm0).same sm1).sameT sm2).same sm3)
              · have hyb : y.toInt ≤ 940 := by
                  rw [hy4, hyy]
                  exact A_feed_le hI
                have hj9 : j < 940 := by omega
                rw [kw2.1, kw1.1, k17b.1, kw3.1, hrow j hj9 hj9, hrow3 j hj9 hj9]
                exact hEJ2.2 j (by rw [← hyy, ← hy4]; exact hj)
              · have w1 := hJ.1.2.keep hw0 (lw_chk_r fk) hRb.2.2.2.2.2.2.2.2.2.2 (by decide) (by decide)
                have w2 := w1.keep hR2.2.2.2.1.1.2 (lw_chk_r fk1) hR3.2.2.2.2.2.2.2.2.2.2 (by decide) (by decide)
                have w3 := w2.keep hR3a.2.2.2.1.1.2 (lw_chk_r fk2) hRd.2.2.2.2.2.2.2.2.2.2 (by decide) (by decide)
                exact w3.keep hRe.2.2.2.1.1.2 (lw_chk_r fk3) hR5.2.2.2.2.2.2.2.2.2.2 (by decide) (by decide)
            · cases c6
          · cases c5
        · cases c5
      · cases c4
    · cases c4
  · cases c3

end
