/-! The law's loop. -/
section
variable {p : Program} {l : Launch} {e : Env} {s : State} {m : MethodId} {below : List Frame} {meth : Method} {c : Code} {b L : Nat} {xs : Nat → Int32} {X : ab_X} {D : va_G} {d : Nat}
/-- the end: 1 on the stack -/
theorem ab_lexit (C0 : lw_At p s m meth c b L xs) (hXs : X.1.2.2 = s.heap.size) {H : Heap} {locs : List Loc} {cl sl : Nat} {ls : Array Slot} (hS : va_S (ab_Ar X) s.heap H locs) (h1 : cl ≤ 601024) (h2 : sl ≤ 7293034) : W p l e room_1 s m #[Value.ref b] below meth c H locs cl sl (lw_Z below #[Value.ref b] s) (F0 m 1356 ls []) := by
  refine lv_iconst C0.1 C0.2.1 (n := 1) (v := 1) (by decide +kernel) (by decide) ?_
  refine va_forget (fun q hq => by have h9 := hS.2.2 q hq; rw [← hXs]; exact h9) ?_
  refine W.widen (k := 601024) (n := 7293034) h1 h2 ?_
  exact lw_ret C0.1 C0.2.1 C0.2.2.1 C0.2.2.2.2.2.2.2.2.1 (by decide +kernel)
theorem ab_lhead (C0 : lw_At p s m meth c b L xs) (hX1 : X.1 = (b, L, s.heap.size)) (hL : L ≤ 3072) (C : ab_cx p room_1 s m #[Value.ref b] c code RL 7 X D) {i a b' : Nat} (hi : i ≤ 3072) (ha : a ≤ 601024) (hb : b' ≤ 7293034) {z : ab_Z} {ws : va_W} {H : Heap} {locs : List Loc} {ls : Array Slot} {aw : ab_H} {E0 : ab_E} (hz : z.1[0]? = some (nI i)) (hR : ab_R X D s (z, [], []) E0 0 aw z ws H locs) (hl : ab_lR X z 7 ls ab_lvT)
    (kk : i + 6 ≤ L → W p l e room_1 s m #[Value.ref b] below meth c H locs a b' (lw_Z below #[Value.ref b] s) (F0 m 33 ls [])) : W p l e room_1 s m #[Value.ref b] below meth c H locs a b' (lw_Z below #[Value.ref b] s) (F0 m 23 ls []) := by
  obtain ⟨x4, e4, l4⟩ := hl.at (i := 4) (v := .inl (some 0, 0)) rfl
  obtain ⟨x0, e0, l0⟩ := hl.at (i := 0) (v := .inr (.inr (1, 0))) rfl
  have hx4 : x4 = .int (nI i) := by
    simp only [ab_ev, ab_evI, hz, Option.map_some, Option.some.injEq] at e4
    rw [← e4]
    have : Int32.ofInt 0 = 0 := rfl
    rw [this, Int32.add_zero]
  have hx0 : x0 = .ref X.1.1 := by
    simp only [ab_ev, ab_evR, Option.some.injEq] at e0
    exact e0.symm
  subst hx4 hx0
  obtain ⟨q1, q2⟩ := (ab_cxE C).2.2.2.1
  have e1 : X.1.1 = b := by rw [hX1]
  have e2 : X.1.2.1 = L := by rw [hX1]
  have e3 : X.1.2.2 = s.heap.size := by rw [hX1]
  refine lv_iload C0.1 C0.2.1 (i := 4) (by decide +kernel) l4 ?_
  refine lv_aload_n C0.1 C0.2.1 (k := 0) (i := 0) (by decide +kernel) rfl l0 ?_
  refine va_slen (A := ab_Ar X) C0.1 C0.2.1 q1 (Nat.lt_of_lt_of_le q2 (ab_cxE C).1) (Nat.not_le.mpr q2) hR.2.2.2.2.2.2.1 (by decide +kernel) ?_
  refine lv_bipush C0.1 C0.2.1 (n := 6) (v := 6) (by decide +kernel) (by decide) ?_
  refine lv_isub C0.1 C0.2.1 (by decide +kernel) ?_
  refine lv_icmp_gt C0.1 C0.2.1 (off := 1326) (tgt := 1356) (by decide +kernel) (by decide) (fun hP => ?_) (fun hP => ?_)
  · exact ab_lexit C0 e3 hR.2.2.2.2.2.2.1 ha hb
  · apply kk
    rw [e2] at hP
    have h1 : (nI i).toInt = (i : Int) := nI_toInt (by omega)
    have h2 : (Int32.ofNat L).toInt = (L : Int) := nI_toInt (by omega)
    have h3 : (Int32.ofNat L - 6).toInt = (L : Int) - 6 := by
      rw [Int32.toInt_sub, h2]
      have : (6 : Int32).toInt = 6 := rfl
      rw [this]
      exact Int.bmod_eq_of_le (by omega) (by omega)
    rw [Int32.lt_iff_toInt_lt, h1, h3] at hP
    omega
set_option maxHeartbeats 4000000 in
theorem ab_lloop (C0 : lw_At p s m meth c b L xs) (hX1 : X.1 = (b, L, s.heap.size)) (hX2 : X.2.1 = xs) (hL : L ≤ 3072) (C : ab_cx p room_1 s m #[Value.ref b] c code RL 7 X D) (K : ab_cal l X D d ab_MEL lw_cal) (hd1 : 16 * (d + 1) ≤ room_1.frames) (hd2 : 200 * (d + 1) ≤ room_1.locals) : ∀ (n i a b' : Nat), L < i + 6 * n + 6 → i ≤ 3072 → a + 2 * n ≤ 601024 → b' + 12 * n ≤ 7293034 → ∀ (z : ab_Z) (ws : va_W) (H : Heap) (locs : List Loc) (ls : Array Slot), z.1[0]? = some (nI i) → ab_R X D s (z, [], []) ab_lT.1 0 (gl_L, ab_FX) z ws H locs → ab_lR X z 7 ls ab_lvT → W p l e room_1 s m #[Value.ref b] below meth c H locs a b' (lw_Z below #[Value.ref b] s) (F0 m 23 ls []) := by
  intro n
  induction n with
  | zero =>
    intro i a b' hn hi ha hb z ws H locs ls hz hR hl
    exact ab_lhead C0 hX1 hL C hi (by omega) (by omega) hz hR hl (fun h => absurd h (by omega))
  | succ n ih =>
    intro i a b' hn hi ha hb z ws H locs ls hz hR hl
    refine ab_lhead C0 hX1 hL C hi (by omega) (by omega) hz hR hl (fun hiL => ?_)
    have e2 : X.1.2.1 = L := by rw [hX1]
    have hin : (nI i).toInt = (i : Int) := nI_toInt (by omega)
    have hi32 : ∀ y : Int32, (-2147483648 : Int) ≤ y.toInt ∧ y.toInt ≤ 2147483647 := ab_i32
    obtain ⟨z1, zl, za⟩ := z
    dsimp only at hz
    have hlen : z1.length = lw_n := hR.1.1
    have hR2 : ab_R X D s ((z1 ++ [xs i, xs (i + 1), xs (i + 2), xs (i + 3), xs (i + 4), xs (i + 5)], zl, za), [], []) ab_l33.1.1 0 (gl_L, ab_FX) (z1 ++ [xs i, xs (i + 1), xs (i + 2), xs (i + 3), xs (i + 4), xs (i + 5)], zl, za) ws H locs := by
      obtain ⟨r1, r2, r3, r4, r5, r6, r7, r8, r9⟩ := hR
      have hen : ∃ r, ab_lT.1 = (0, 3072) :: r ∧ ab_l33.1.1 = (0, 3066) :: (r ++ [(-2147483648, 2147483647), (-2147483648, 2147483647), (-2147483648, 2147483647), (-2147483648, 2147483647), (-2147483648, 2147483647), (-2147483648, 2147483647)]) := ⟨_, rfl, rfl⟩
      obtain ⟨er, h1, h2⟩ := hen
      refine ⟨?_, r2, r3, r4.ext (ab_ext_v (z := (z1, zl, za))), r5, r6, r7, trivial, ab_ext.rf, ⟨_, rfl⟩, fun k q0 h => by simp at h⟩
      rw [h2]
      dsimp only at r1 ⊢
      have r1 : ab_eR ab_lT.1 z1 := r1
      rw [h1] at r1
      cases z1 with
      | nil => simp at hz
      | cons y zr =>
        simp only [List.getElem?_cons_zero, Option.some.injEq] at hz
        subst hz
        have hl9 : er.length = zr.length := by
          have := r1.1.symm
          simpa using this
        refine ⟨by simp [hl9], fun v q hq => ?_⟩
        cases v with
        | zero => cases hq; exact ⟨_, rfl, by dsimp only; omega, by dsimp only; omega⟩
        | succ v =>
          simp only [List.cons_append, List.getElem?_cons_succ] at hq ⊢
          by_cases hv : v < er.length
          · rw [List.getElem?_append_left hv] at hq
            obtain ⟨x, g1, g2⟩ := r1.2 (v + 1) q (by simpa using hq)
            simp only [List.getElem?_cons_succ] at g1
            exact ⟨x, by rw [List.getElem?_append_left (by omega)]; exact g1, g2⟩
          · rw [List.getElem?_append_right (by omega)] at hq ⊢
            rw [hl9] at hq
            generalize v - zr.length = u at hq ⊢
            match u, hq with
            | 0, hq => cases hq; exact ⟨_, rfl, hi32 _⟩
            | 1, hq => cases hq; exact ⟨_, rfl, hi32 _⟩
            | 2, hq => cases hq; exact ⟨_, rfl, hi32 _⟩
            | 3, hq => cases hq; exact ⟨_, rfl, hi32 _⟩
            | 4, hq => cases hq; exact ⟨_, rfl, hi32 _⟩
            | 5, hq => cases hq; exact ⟨_, rfl, hi32 _⟩
            | u + 6, hq => cases hq
    have hl2 : ab_lR X (z1 ++ [xs i, xs (i + 1), xs (i + 2), xs (i + 3), xs (i + 4), xs (i + 5)], zl, za) 7 ls ab_lvT := hl.ext (ab_ext_v (z := (z1, zl, za)))
    obtain ⟨os, ho, hE⟩ := lw_gd
    have hT := sn_LB (p := p) (l := l) (e := e) (R := room_1) (s := s) (m := m) (args := #[Value.ref b]) (below := below) (meth := meth) (c := c) (Q := lw_Z below #[Value.ref b] s) (z0 := ((z1 ++ [xs i, xs (i + 1), xs (i + 2), xs (i + 3), xs (i + 4), xs (i + 5)], zl, za), [], [])) (a := a) (b := b') K C hd1 hd2 (A := 2) (B := 12) (show 2 + a ≤ 601024 by omega) (show 12 + b' ≤ 7293034 by omega) (i0 := i) (ab_get_app hz) (fun j hj => by
      rw [hX2]
      show (z1 ++ [xs i, xs (i + 1), xs (i + 2), xs (i + 3), xs (i + 4), xs (i + 5)])[j + lw_n]? = _
      rw [List.getElem?_append_right (by omega), hlen, Nat.add_sub_cancel]
      match j, hj with
      | 0, _ => rfl
      | 1, _ => rfl
      | 2, _ => rfl
      | 3, _ => rfl
      | 4, _ => rfl
      | 5, _ => rfl
      | j + 6, hj => omega) (by rw [e2]; exact hiL) (by rw [e2]; exact hL)
    have hok : ab_ok p l e room_1 s m #[Value.ref b] below meth c (lw_Z below #[Value.ref b] s) 7 X D ((z1 ++ [xs i, xs (i + 1), xs (i + 2), xs (i + 3), xs (i + 4), xs (i + 5)], zl, za), [], []) (ab_sh a b' ab_l33) := by
      refine ab_run_gen (P := fun S => ab_ok p l e room_1 s m #[Value.ref b] below meth c (lw_Z below #[Value.ref b] s) 7 X D ((z1 ++ [xs i, xs (i + 1), xs (i + 2), xs (i + 3), xs (i + 4), xs (i + 5)], zl, za), [], []) (ab_sh a b' S)) (fun bb hb9 q hq h9 env nl aw cl sl lv st r hr hk => hT bb hb9 q hq h9 env nl aw cl sl lv st r hr hk) ho (fun k S hS => ?_) ab_l33 List.mem_cons_self
      have h1 := List.all_eq_true.mp hE (k, S) hS
      unfold ab_lw1 at h1
      split at h1
      · rename_i env nl aw cl sl pc lv st heq
        cases heq
        rw [Bool.and_eq_true, Bool.and_eq_true] at h1
        obtain ⟨⟨c1, c2⟩, c3⟩ := h1
        have c1 := Nat.le_of_ble_eq_true c1
        have c2 := Nat.le_of_ble_eq_true c2
        intro z3 ws3 H3 locs3 ls3 cst3 hR3 hl3 hs3
        obtain ⟨z', sg, g1, g2, g3, g4, g5, g6, g7, -, -⟩ := ab_subS_ok c3 hR3 hl3
        dsimp only at g6 g7
        subst g6
        cases cst3 with
        | cons _ _ => simp [ab_sh] at hs3
        | nil =>
          obtain ⟨⟨t, ht⟩, -, -⟩ := hR3.2.2.2.2.2.2.2.2.1
          have hz0 : z3.1[0]? = some (nI i) := by
            rw [ht]; exact ab_get_app (ab_get_app hz)
          unfold ab_l6 at g5
          split at g5
          · rename_i c9 sr
            rw [ab_ie_iff] at g5
            subst g5
            have hz' : z'.1[0]? = some (nI (i + 6)) := by
              simp only [List.map_cons, ab_evI, hz0, Option.map_some] at g3
              have h6 : nI i + Int32.ofInt 6 = nI (i + 6) := by
                apply Int32.toInt_inj.mp
                rw [ab_addI _ _ (by omega) (by omega), hin, nI_toInt (by omega)]
                omega
              rw [h6] at g3
              cases hz9 : z'.1 with
              | nil => rw [hz9] at g3; cases g3
              | cons y r =>
                rw [hz9] at g3
                simp only [List.map_cons, List.cons.injEq, Option.some.injEq] at g3
                rw [← g3.1]; rfl
            refine W.widen (k := a + 2) (n := b' + 12) (show cl + a ≤ a + 2 by omega) (show sl + b' ≤ b' + 12 by omega) ?_
            have h9 := ih (i + 6) (a + 2) (b' + 12) (by omega) (by omega) (by omega) (by omega) z' ws3 H3 locs3 ls3 hz' g1 g2
            show W p l e room_1 s m #[Value.ref b] below meth c H3 locs3 (a + 2) (b' + 12) (lw_Z below #[Value.ref b] s) (F0 m pc ls3 [])
            rw [g7]
            exact h9
          · cases g5
      · cases h1
    have h9 := hok _ ws H locs ls [] hR2 hl2 rfl
    have e9 : ab_l33.1.2.2.2.1 + a = a := Nat.zero_add a
    have e8 : ab_l33.1.2.2.2.2 + b' = b' := Nat.zero_add b'
    show W p l e room_1 s m #[Value.ref b] below meth c H locs a b' (lw_Z below #[Value.ref b] s) (F0 m 33 ls [])
    have h8 : W p l e room_1 s m #[Value.ref b] below meth c H locs (ab_l33.1.2.2.2.1 + a) (ab_l33.1.2.2.2.2 + b') (lw_Z below #[Value.ref b] s) (F0 m 33 ls []) := h9
    rw [e9, e8] at h8
    exact h8
end
