/-! The law's loop. -/
section
variable {p : Program} {l : Launch} {e : Env} {s : State} {m : MethodId} {below : List Frame} {meth : Method} {c : Code} {b L : Nat} {xs : Nat → Int32} {X : ab_X} {D : va_G} {d : Nat}
set_option maxHeartbeats 4000000 in
theorem ab_lloop (C0 : lw_At p s m meth c b L xs) (hX1 : X.1 = (b, L, s.heap.size)) (hX2 : X.2.1 = xs) (hL : L ≤ 3072) (C : ab_cx p room_1 s m #[Value.ref b] c code RL 7 X D) (K : ab_cal l X D d ab_MEL lw_cal) (hd0 : 40 ≤ d) (hd1 : 16 * (d + 1) ≤ room_1.frames) (hd2 : 200 * (d + 1) ≤ room_1.locals) : ∀ (n i a b' : Nat), L < i + 6 * n + 6 → i ≤ 3072 → a + 2 * n ≤ 601024 → b' + 12 * n ≤ 7293034 → ∀ (z : ab_Z) (ws : va_W) (H : Heap) (locs : List Loc) (ls : Array Slot), z.1[0]? = some (nI i) → ab_R X D s (z, [], []) ab_lT.1 0 (gl_L, ab_FX) z ws H locs → (∀ x, z.1[1]? = some x → lw_JJ ws x) → ab_lR X z 7 ls ab_lvT → W p l e room_1 s m #[Value.ref b] below meth c H locs a b' (lw_Z below #[Value.ref b] s) (F0 m 23 ls []) := by
  intro n
  induction n with
  | zero =>
    intro i a b' hn hi ha hb z ws H locs ls hz hR hJ hl
    exact ab_lhead C0 hX1 hL C hi (by omega) (by omega) hz hR hl (fun h => absurd h (by omega))
  | succ n ih =>
    intro i a b' hn hi ha hb z ws H locs ls hz hR hJ hl
    refine ab_lhead C0 hX1 hL C hi (by omega) (by omega) hz hR hl (fun hiL => ?_)
    have e2 : X.1.2.1 = L := by rw [hX1]
    have hin : (nI i).toInt = (i : Int) := nI_toInt (by omega)
    have hi32 : ∀ y : Int32, (-2147483648 : Int) ≤ y.toInt ∧ y.toInt ≤ 2147483647 := ab_i32
    obtain ⟨x, hx1, hx2, hx3, hx4⟩ := lw_eq hR
    have hJx := hJ x hx1
    obtain ⟨z1, zl, za⟩ := z
    dsimp only at hz hx1 hx2
    have hlen : z1.length = lw_n := hR.1.1
    have hR2 : ab_R X D s ((z1 ++ [xs i, xs (i + 1), xs (i + 2), xs (i + 3), xs (i + 4), xs (i + 5)], zl, za), ws, gl_L.map ab_flg) ab_l33.1.1 0 (gl_L, ab_FX) (z1 ++ [xs i, xs (i + 1), xs (i + 2), xs (i + 3), xs (i + 4), xs (i + 5)], zl, za) ws H locs := by
      obtain ⟨r1, r2, r3, r4, r5, r6, r7, r8, r9⟩ := hR
      have hen : ∃ r, ab_lT.1 = (0, 3072) :: r ∧ ab_l33.1.1 = (0, 3066) :: (r ++ [(-2147483648, 2147483647), (-2147483648, 2147483647), (-2147483648, 2147483647), (-2147483648, 2147483647), (-2147483648, 2147483647), (-2147483648, 2147483647)]) := ⟨_, rfl, rfl⟩
      obtain ⟨er, h1, h2⟩ := hen
      refine ⟨?_, r2, r3, r4.ext (ab_ext_v (z := (z1, zl, za))), r5, r6, r7, trivial, ab_ext.rf, ⟨[], by simp⟩, ab_fr.rf⟩
      rw [h2]
      dsimp only at r1 ⊢
      have r1 : ab_eR ab_lT.1 z1 := r1
      rw [h1] at r1
      cases z1 with
      | nil => simp at hz
      | cons y zr =>
        simp only [List.getElem?_cons_zero, Option.some.injEq] at hz
        subst hz
        have hl9 : er.length = zr.length := by
          have := r1.1.symm
          simpa using this
        refine ⟨by simp [hl9], fun v q hq => ?_⟩
        cases v with
        | zero => cases hq; exact ⟨_, rfl, by dsimp only; omega, by dsimp only; omega⟩
        | succ v =>
          simp only [List.cons_append, List.getElem?_cons_succ] at hq ⊢
          by_cases hv : v < er.length
          · rw [List.getElem?_append_left hv] at hq
            obtain ⟨x, g1, g2⟩ := r1.2 (v + 1) q (by simpa using hq)
            simp only [List.getElem?_cons_succ] at g1
            exact ⟨x, by rw [List.getElem?_append_left (by omega)]; exact g1, g2⟩
          · rw [List.getElem?_append_right (by omega)] at hq ⊢
            rw [hl9] at hq
            generalize v - zr.length = u at hq ⊢
            match u, hq with
            | 0, hq => cases hq; exact ⟨_, rfl, hi32 _⟩
            | 1, hq => cases hq; exact ⟨_, rfl, hi32 _⟩
            | 2, hq => cases hq; exact ⟨_, rfl, hi32 _⟩
            | 3, hq => cases hq; exact ⟨_, rfl, hi32 _⟩
            | 4, hq => cases hq; exact ⟨_, rfl, hi32 _⟩
            | 5, hq => cases hq; exact ⟨_, rfl, hi32 _⟩
            | u + 6, hq => cases hq
    have hl2 : ab_lR X (z1 ++ [xs i, xs (i + 1), xs (i + 2), xs (i + 3), xs (i + 4), xs (i + 5)], zl, za) 7 ls ab_lvT := hl.ext (ab_ext_v (z := (z1, zl, za)))
    have hzv : lw_zv X i (z1 ++ [xs i, xs (i + 1), xs (i + 2), xs (i + 3), xs (i + 4), xs (i + 5)], zl, za) x := by
      refine ⟨ab_get_app hz, fun j hj => ?_, ab_get_app hx1, ab_get_app hx2, hx3, hx4⟩
      rw [hX2]
      show (z1 ++ [xs i, xs (i + 1), xs (i + 2), xs (i + 3), xs (i + 4), xs (i + 5)])[j + lw_n]? = _
      rw [List.getElem?_append_right (by omega), hlen, Nat.add_sub_cancel]
      match j, hj with
      | 0, _ => rfl
      | 1, _ => rfl
      | 2, _ => rfl
      | 3, _ => rfl
      | 4, _ => rfl
      | 5, _ => rfl
      | j + 6, hj => omega
    have hiL2 : i + 6 ≤ X.1.2.1 := by rw [e2]; exact hiL
    have hL2 : X.1.2.1 ≤ 3072 := by rw [e2]; exact hL
    have hmR : 2 + a ≤ room_1.cells := show 2 + a ≤ 601024 by omega
    have hsR : 12 + b' ≤ room_1.slots := show 12 + b' ≤ 7293034 by omega
    have hi6 : i + 6 ≤ 3072 := by omega
    have next := ih (i + 6) (a + 2) (b' + 12) (by omega) (by omega) (by omega) (by omega)
    have hT := sn_LC (p := p) (l := l) (e := e) (R := room_1) (s := s) (m := m) (args := #[Value.ref b]) (below := below) (meth := meth) (c := c) (Q := lw_Z below #[Value.ref b] s) (z0 := ((z1 ++ [xs i, xs (i + 1), xs (i + 2), xs (i + 3), xs (i + 4), xs (i + 5)], zl, za), ws, gl_L.map ab_flg)) (a := a) (b := b') K C hd1 hd2 (A := 2) (B := 12) hmR hsR (i0 := i) hzv.1 hzv.2.1 hiL2 hL2
    have hw0 := hR2.2.2.2.1.1.2
    obtain ⟨os, ho, hE⟩ := lw_gd
    have hok : ab_ok p l e room_1 s m #[Value.ref b] below meth c (lw_Z below #[Value.ref b] s) 7 X D ((z1 ++ [xs i, xs (i + 1), xs (i + 2), xs (i + 3), xs (i + 4), xs (i + 5)], zl, za), ws, gl_L.map ab_flg) (ab_sh a b' ab_l33) := by
      refine ab_run_gen (P := fun S => ab_ok p l e room_1 s m #[Value.ref b] below meth c (lw_Z below #[Value.ref b] s) 7 X D ((z1 ++ [xs i, xs (i + 1), xs (i + 2), xs (i + 3), xs (i + 4), xs (i + 5)], zl, za), ws, gl_L.map ab_flg) (ab_sh a b' S)) (fun bb hb9 q hq h9 env nl aw cl sl lv st r hr hk => hT bb hb9 q hq h9 env nl aw cl sl lv st r hr hk) ho (fun k S hS => ?_) ab_l33 List.mem_cons_self
      have h1 := List.all_eq_true.mp hE (k, S) hS
      intro z3 ws3 H3 locs3 ls3 cst3 hR3 hl3 hs3
      have hzv3 := hzv.ext hR3.2.2.2.2.2.2.2.2.1
      have hJ3 : ∀ y : Int32, y.toInt ≤ x.toInt ∨ y.toInt ≤ 0 → lw_JJ ws3 y := fun y hy => And.intro (hJx.1.keep hw0 lw_R4L hR3.2.2.2.2.2.2.2.2.2.2 hy) (hJx.2.same (lw_same_of hw0 lw_R4C hR3.2.2.2.2.2.2.2.2.2.2))
      have hJ3x := hJ3 x (Or.inl (Int.le_refl _))
      have hR3 : ab_R X D s ((z1 ++ [xs i, xs (i + 1), xs (i + 2), xs (i + 3), xs (i + 4), xs (i + 5)], zl, za), ws, gl_L.map ab_flg) S.1.1 S.1.2.1 S.1.2.2.1 z3 ws3 H3 locs3 := hR3
      show W p l e room_1 s m #[Value.ref b] below meth c H3 locs3 (S.1.2.2.2.1 + a) (S.1.2.2.2.2 + b') (lw_Z below #[Value.ref b] s) (F0 m S.2.1 ls3 cst3)
      unfold ab_lw2 at h1
      cases hk4 : Nat.beq k 4
      · rw [show Nat.beq (k, S).1 4 = false from hk4] at h1; cases h1
      · rw [show Nat.beq (k, S).1 4 = true from hk4, cond_true] at h1
        cases h23 : Nat.beq S.2.1 23
        · rw [show Nat.beq (k, S).2.2.1 23 = false from h23, cond_false] at h1
          cases hF : Nat.beq S.2.1 251
          · rw [show Nat.beq (k, S).2.2.1 251 = false from hF, cond_false] at h1
            cases hV : Nat.beq S.2.1 319
            · rw [show Nat.beq (k, S).2.2.1 319 = false from hV, cond_false] at h1
              cases hS : Nat.beq S.2.1 901
              · rw [show Nat.beq (k, S).2.2.1 901 = false from hS, cond_false] at h1
                cases hI : Nat.beq S.2.1 1282
                · rw [show Nat.beq (k, S).2.2.1 1282 = false from hI, cond_false] at h1
                  cases hR : Nat.beq S.2.1 1307
                  · rw [show Nat.beq (k, S).2.2.1 1307 = false from hR, cond_false] at h1
                    cases hQ : Nat.beq S.2.1 1238
                    · rw [show Nat.beq (k, S).2.2.1 1238 = false from hQ, cond_false] at h1; cases h1
                    · rw [show Nat.beq (k, S).2.2.1 1238 = true from hQ, cond_true] at h1
                      exact lw_caseQ K C hd0 hd1 hd2 hmR hsR hiL2 hL2 (Nat.eq_of_beq_eq_true hQ) h1 hzv3 hJ3x hR3 hl3 hs3 next
                  · rw [show Nat.beq (k, S).2.2.1 1307 = true from hR, cond_true] at h1
                    exact lw_caseR K C hd0 hd1 hd2 hmR hsR hiL2 hL2 (Nat.eq_of_beq_eq_true hR) h1 hzv3 hJ3x hR3 hl3 hs3 next
                · rw [show Nat.beq (k, S).2.2.1 1282 = true from hI, cond_true] at h1
                  exact lw_caseI K C hd0 hd1 hd2 hmR hsR hiL2 hL2 (Nat.eq_of_beq_eq_true hI) h1 hzv3 hJ3x hR3 hl3 hs3 next
              · rw [show Nat.beq (k, S).2.2.1 901 = true from hS, cond_true] at h1
                exact lw_caseS K C hd0 hd1 hd2 hmR hsR hiL2 hL2 (Nat.eq_of_beq_eq_true hS) h1 hzv3 hJ3x hR3 hl3 hs3 next
            · rw [show Nat.beq (k, S).2.2.1 319 = true from hV, cond_true] at h1
              exact lw_caseV K C hd0 hd1 hd2 hmR hsR hiL2 hL2 (Nat.eq_of_beq_eq_true hV) h1 hzv3 hJ3x hR3 hl3 hs3 next
          · rw [show Nat.beq (k, S).2.2.1 251 = true from hF, cond_true] at h1
            exact lw_caseF K C hd0 hd1 hd2 hmR hsR hiL2 hL2 (Nat.eq_of_beq_eq_true hF) h1 hzv3 hJ3x hR3 hl3 hs3 next
        · rw [show Nat.beq (k, S).2.2.1 23 = true from h23, cond_true] at h1
          exact lw_at23 hi6 h1 hR3 hl3 hs3 hzv3.1 (fun y e9 he9 ho9 => hJ3 y (lw_szc_ok ho9 hR3.1 hR3.2.2.2.1.2 hzv3.2.2.1 he9)) next
    have h9 := hok _ ws H locs ls [] hR2 hl2 rfl
    have e9 : ab_l33.1.2.2.2.1 + a = a := Nat.zero_add a
    have e8 : ab_l33.1.2.2.2.2 + b' = b' := Nat.zero_add b'
    show W p l e room_1 s m #[Value.ref b] below meth c H locs a b' (lw_Z below #[Value.ref b] s) (F0 m 33 ls [])
    have h8 : W p l e room_1 s m #[Value.ref b] below meth c H locs (ab_l33.1.2.2.2.1 + a) (ab_l33.1.2.2.2.2 + b') (lw_Z below #[Value.ref b] s) (F0 m 33 ls []) := h9
    rw [e9, e8] at h8
    exact h8
end
