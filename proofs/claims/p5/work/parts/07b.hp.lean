/-! Rows of references, copies, the script, texts, statics, switches, Math. -/
/-- each of some cells, on the stack -/
noncomputable def ab_krK (env : ab_E) (nl : Nat) (aw : ab_H) (cl sl np : Nat) (lv : List (Nat × ab_V)) (st : List ab_V) : List Nat → (List ab_S → ab_A) → ab_A
  | [], c => c []
  | q :: r, c => ab_krK env nl aw cl sl np lv st r (fun L => c (((env, nl, aw, cl, sl), np, lv, .inr (.inr (2, q)) :: st) :: L))
theorem ab_krK_ok {env : ab_E} {nl : Nat} {aw : ab_H} {cl sl np : Nat} {lv : List (Nat × ab_V)} {st : List ab_V} : ∀ {ks : List Nat} {c : List ab_S → ab_A} {r : List ab_S}, ab_krK env nl aw cl sl np lv st ks c = some r → ∃ L, c L = some r ∧ ∀ q ∈ ks, ((env, nl, aw, cl, sl), np, lv, .inr (.inr (2, q)) :: st) ∈ L
  | [], c, r, h => ⟨[], h, fun q hq => by cases hq⟩
  | q :: ks, c, r, h => by
    obtain ⟨L, h1, h2⟩ := ab_krK_ok (ks := ks) h
    refine ⟨_, h1, fun q' hq => ?_⟩
    rcases List.mem_cons.mp hq with rfl | hq
    · exact List.mem_cons_self
    · exact List.mem_cons_of_mem _ (h2 q' hq)
/-- a reference of a row: a row that holds any of some cells everywhere, or one place -/
noncomputable def op_aald (ci np : Nat) : ab_P := fun _ env nl aw cl sl lv st => match st with
  | .inl i :: .inr (.inr (2, j)) :: st => (match ab_get aw.1 j with
    | some (.inr (t', n, _, d, ov)) => bif Nat.beq (ci + 4) t' && Nat.ble n 100000 then ab_ivK env i (fun lo hi => bif ab_le 0 lo && ab_le (hi + 1) n then
        (match ov with
        | [] => (match d with
          | .inr (.inr (some ks)) => ab_krK env nl aw cl sl np lv st ks (fun L => some L)
          | _ => none)
        | _ => bif ab_ie lo hi then ab_fn lo.toNat (fun q => ab_atK d ov q (fun w => match w with
          | .inl (.inr (.inr (2, q))) => some [((env, nl, aw, cl, sl), np, lv, .inr (.inr (2, q)) :: st)]
          | .inr (.inr (some ks)) => ab_krK env nl aw cl sl np lv st ks (fun L => some L)
          | _ => none)) else none) else none) else none
    | _ => none)
  | _ => none
/-- a cell put into a row that may hold it everywhere, or at one place -/
noncomputable def ab_memb (q : Nat) : List Nat → Bool
  | [] => false
  | a :: r => bif Nat.beq a q then true else ab_memb q r
theorem ab_memb_ok {q : Nat} : ∀ {l : List Nat}, ab_memb q l = true → q ∈ l
  | [], h => by cases h
  | a :: r, h => by
    simp only [ab_memb] at h
    cases hb : Nat.beq a q
    · rw [hb] at h; exact List.mem_cons_of_mem _ (ab_memb_ok h)
    · rw [Nat.eq_of_beq_eq_true hb]; exact List.mem_cons_self
noncomputable def op_aast (ci np : Nat) : ab_P := fun _ env nl aw cl sl lv st => match st with
  | .inr (.inr (2, q)) :: .inl i :: .inr (.inr (2, j)) :: st => (match ab_get aw.1 q with
    | some (.inl (cj, _)) => bif Nat.beq ci cj && Nat.ble j 2147483647 then (match ab_get aw.1 j with
      | some (.inr (t', n, true, d, ov)) => bif Nat.beq (ci + 4) t' && Nat.ble n 100000 then ab_ivK env i (fun lo hi => bif ab_le 0 lo && ab_le (hi + 1) n then
          (match d, ov with
          | .inr (.inr (some ks)), [] => bif ab_memb q ks then ab_dropK j aw.2 (fun fx => some [((env, nl, (aw.1, fx), cl, sl), np, lv, st)]) else none
          | d, ov => bif ab_ie lo hi then ab_fn lo.toNat (fun x => ab_putK ov x (.inl (.inr (.inr (2, q)))) (fun ov => ab_setK aw.1 j (.inr (t', n, true, d, ov)) (fun cs => ab_dropK j aw.2 (fun fx => some [((env, nl, (cs, fx), cl, sl), np, lv, st)])))) else none) else none) else none
      | _ => none) else none
    | _ => none)
  | _ => none
/-- the script's ints, by a row's own place -/
noncomputable def op_sld (np : Nat) : ab_P := fun _ env nl aw cl sl lv st => match st with
  | .inl (some 0, c) :: .inr (.inr (1, _)) :: st => bif ab_le 0 c && ab_le c 5 then ab_frK env (-2147483648) 2147483647 (fun env a => some [((env, nl, aw, cl, sl), np, lv, .inl a :: st)]) else none
  | _ => none
noncomputable def op_gval (np : Nat) : ab_P := fun _ env nl aw cl sl lv st => match st with
  | .inr (.inr (3, i)) :: st => bif Nat.blt i 6 then some [((env, nl, aw, cl, sl), np, lv, .inr (.inr (4, i)) :: st)] else none
  | _ => none
noncomputable def op_gcod (np : Nat) : ab_P := fun _ env nl aw cl sl lv st => match st with
  | .inr (.inr (3, i)) :: st => bif Nat.blt i 6 then some [((env, nl, aw, cl, sl), np, lv, .inl (none, 0) :: st)] else none
  | _ => none
noncomputable def op_tlen (np : Nat) : ab_P := fun _ env nl aw cl sl lv st => match st with
  | .inr (.inr (4, i)) :: st => bif Nat.blt i 6 then ab_fn (ab_len.getD i 0) (fun n => some [((env, nl, aw, cl, sl), np, lv, .inl (none, (n : Int)) :: st)]) else none
  | _ => none
noncomputable def op_tb (np : Nat) : ab_P := fun _ env nl aw cl sl lv st => match st with
  | .inl i :: .inr (.inr (4, k)) :: st => bif Nat.blt k 6 then ab_ivK env i (fun lo hi => bif ab_le 0 lo && ab_le (hi + 1) (ab_len.getD k 0 : Nat) then
      (bif ab_ie lo hi then ab_fi ((ab_bys.getD k []).getD lo.toNat 0).toInt (fun x => some [((env, nl, aw, cl, sl), np, lv, .inl (none, x) :: st)]) else ab_frK env (-2147483648) 2147483647 (fun env a => some [((env, nl, aw, cl, sl), np, lv, .inl a :: st)])) else none) else none
  | _ => none
noncomputable def op_hlen (np : Nat) : ab_P := fun _ env nl aw cl sl lv st => match st with
  | .inr (.inr (5, 0)) :: st => some [((env, nl, aw, cl, sl), np, lv, .inl (none, 3) :: st)]
  | _ => none
noncomputable def op_hld (np : Nat) : ab_P := fun _ env nl aw cl sl lv st => match st with
  | .inl i :: .inr (.inr (5, k)) :: st => bif Nat.blt k 2 then ab_ivK env i (fun lo hi => bif ab_le 0 lo && ab_le hi 2 then ab_frK env (-2147483648) 2147483647 (fun env a => some [((env, nl, aw, cl, sl), np, lv, .inl a :: st)]) else none) else none
  | _ => none
/-- tableswitch: the targets in their order, the other one -/
noncomputable def ab_twK (a : ab_I) (env : ab_E) (nl : Nat) (aw : ab_H) (cl sl : Nat) (lv : List (Nat × ab_V)) (st : List ab_V) : List Nat → Int → (List ab_S → ab_A) → ab_A
  | [], _, k => k []
  | t :: r, q, k => ab_rfK env a q q (fun o => match o with
    | none => ab_fi (q + 1) (fun q => ab_twK a env nl aw cl sl lv st r q k)
    | some env' => ab_fi (q + 1) (fun q => ab_twK a env nl aw cl sl lv st r q (fun L => k (((env', nl, aw, cl, sl), t, lv, st) :: L))))
noncomputable def op_tsw (lo hi : Int) (tg : List Nat) (dt : Nat) : ab_P := fun _ env nl aw cl sl lv st => match st with
  | .inl a :: st => ab_twK a env nl aw cl sl lv st tg lo (fun L => ab_rfK env a (-2147483648) (lo - 1) (fun o1 => ab_rfK env a (hi + 1) 2147483647 (fun o2 => ab_o1 o1 (fun r1 => ab_o1 o2 (fun r2 => some (ab_frk nl aw cl sl lv st r1 dt (ab_frk nl aw cl sl lv st r2 dt L)))))))
  | _ => none
section
variable {p : Program} {l : Launch} {e : Env} {R : Room} {s : State} {m : MethodId} {args : Array Value} {below : List Frame} {meth : Method} {c : Code} {Q : State → Prop} {cc : ByteArray} {own : String} {nL : Nat} {X : ab_X} {D : va_G} {z0 : ab_Z0} {cal : ab_K} {pc : Nat}
theorem so_aald (C : ab_cx p R s m args c cc own nL X D) {ci N : Nat} {cn : String} {T : u_T} (hc : vwCl[ci]? = some (cn, T, N)) (d : decode cc pc = .ok (.aaload, 1)) : ab_so p l e R s m args below meth c Q nL X D z0 cal pc (op_aald ci (pc + 1)) := by
  intro env nl aw cl sl lv st r hr hk z ws H locs ls cst hR hl hs
  dsimp only at hR hl hs
  unfold op_aald at hr
  split at hr
  · rename_i i j st'
    rw [ab_get_eq] at hr
    split at hr
    · rename_i t' n fl dv ov hj
      cases hb : (Nat.beq (ci + 4) t' && Nat.ble n 100000)
      · rw [hb] at hr; cases hr
      · rw [hb, cond_true, ab_ivK_eq] at hr
        rw [Bool.and_eq_true] at hb
        have hn : n < 2 ^ 31 := Nat.lt_of_le_of_lt (Nat.le_of_ble_eq_true hb.2) (by decide)
        have ht := Nat.eq_of_beq_eq_true hb.1
        subst ht
        cases hb2 : (ab_le 0 (ab_iv env i).1 && ab_le ((ab_iv env i).2 + 1) n)
        · rw [hb2] at hr; cases hr
        · rw [hb2, cond_true] at hr
          rw [Bool.and_eq_true, ab_le_iff, ab_le_iff] at hb2
          obtain ⟨x, r0, rfl, h1, h2⟩ := ab_st1 hs
          obtain ⟨y, rfl, h3⟩ := ab_evi h1
          obtain ⟨x2, r1, rfl, h4, h5⟩ := ab_st1 h2
          obtain ⟨a, rfl, h6⟩ := ab_ref2 h4
          obtain ⟨a', e', c1, c2, cA, xx, rfl, ⟨f, rfl⟩, c5, c6⟩ := hR.cell hj
          cases Option.some.inj (c2.symm.trans h6)
          have hi := ab_iv_spec hR.1 h3
          obtain ⟨k3, e1, k2⟩ := ab_ixin (y := y) (n := n) (by omega) (by omega) hn
          have c5' : ArrOfT s cA (.object cn) ∧ va_RA s cA (.object cn) := by
            have e0 : ab_ft (ci + 4) = .object cn := by simp only [ab_ft, hc]
            rw [e0] at c5; exact c5
          refine va_aldq (cl := vwCl) (D := D) (C := cn) (tys := [(cA, .object cn)]) C.1 C.2.1 ((ab_cxE C).Kt c5') hR.2.2.2.2.1 j 0 c1 rfl k3 d ?_
          have c7 := c6 _ k2
          have key : ∀ ks, ab_krK env nl aw cl sl (pc + 1) lv st' ks (fun L => some L) = some r → ab_ho X z (.inr (.inr (some ks))) (va_rf (f y.toNatClampNeg)) → W p l e R s m args below meth c H locs cl sl Q (F0 m (pc + 1) ls (va_rf (f y.toNatClampNeg) :: r1)) := by
            intro ks hks hho
            obtain ⟨L, l1, l2⟩ := ab_krK_ok hks
            cases l1
            obtain ⟨q, hq, b, b1, hbv⟩ := hho
            rw [hbv]
            exact hk _ (l2 q hq) z ws H locs ls (.ref b :: r1) hR hl (by simp only [List.map_cons, ab_ev, ab_evR, b1]; rw [h5]; rfl)
          split at hr
          · split at hr
            · exact key _ hr c7
            · cases hr
          · cases hb3 : ab_ie (ab_iv env i).1 (ab_iv env i).2
            · rw [hb3] at hr; cases hr
            · rw [hb3, cond_true, ab_fn_eq, ab_atK_eq] at hr
              rw [ab_ie_iff] at hb3
              have e2 : (ab_iv env i).1.toNat = y.toNatClampNeg := by omega
              rw [e2] at hr
              have c8 : ab_ho X z (ab_at dv ov y.toNatClampNeg) (va_rf (f y.toNatClampNeg)) := c7
              generalize hww : ab_at dv ov y.toNatClampNeg = wv at hr c8
              split at hr
              · cases hr
                exact hk _ List.mem_cons_self z ws H locs ls (_ :: r1) hR hl (by simp only [List.map_cons]; rw [h5]; exact congrArg (· :: _) c8)
              · exact key _ hr c8
              · cases hr
    · cases hr
  · cases hr
theorem so_aast (C : ab_cx p R s m args c cc own nL X D) {ci N : Nat} {cn : String} {T : u_T} (hc : vwCl[ci]? = some (cn, T, N)) (d : decode cc pc = .ok (.aastore, 1)) : ab_so p l e R s m args below meth c Q nL X D z0 cal pc (op_aast ci (pc + 1)) := by
  intro env nl aw cl sl lv st r hr hk z ws H locs ls cst hR hl hs
  dsimp only at hR hl hs
  unfold op_aast at hr
  split at hr
  · rename_i q0 i j st'
    rw [ab_get_eq] at hr
    split at hr
    · rename_i cj fs hq
      cases hb0 : (Nat.beq ci cj && Nat.ble j 2147483647)
      · rw [hb0] at hr; cases hr
      · rw [hb0, cond_true, ab_get_eq] at hr
        rw [Bool.and_eq_true] at hb0
        have hj9 : j < 2147483648 := Nat.lt_succ_of_le (Nat.le_of_ble_eq_true hb0.2)
        cases Nat.eq_of_beq_eq_true hb0.1
        split at hr
        · rename_i t' n dv ov hj
          cases hb : (Nat.beq (ci + 4) t' && Nat.ble n 100000)
          · rw [hb] at hr; cases hr
          · rw [hb, cond_true, ab_ivK_eq] at hr
            rw [Bool.and_eq_true] at hb
            have hn : n < 2 ^ 31 := Nat.lt_of_le_of_lt (Nat.le_of_ble_eq_true hb.2) (by decide)
            have ht := Nat.eq_of_beq_eq_true hb.1
            subst ht
            cases hb2 : (ab_le 0 (ab_iv env i).1 && ab_le ((ab_iv env i).2 + 1) n)
            · rw [hb2] at hr; cases hr
            · rw [hb2, cond_true] at hr
              rw [Bool.and_eq_true, ab_le_iff, ab_le_iff] at hb2
              obtain ⟨x, r0, rfl, h1, h2⟩ := ab_st1 hs
              obtain ⟨b, rfl, hb6⟩ := ab_ref2 h1
              obtain ⟨x3, r1, rfl, h4, h5⟩ := ab_st1 h2
              obtain ⟨y, rfl, h3⟩ := ab_evi h4
              obtain ⟨x4, r2, rfl, h7, h8⟩ := ab_st1 h5
              obtain ⟨a, rfl, h6⟩ := ab_ref2 h7
              obtain ⟨a', e', c1, c2, cA, xx, rfl, ⟨f, rfl⟩, c5, c6⟩ := hR.cell hj
              cases Option.some.inj (c2.symm.trans h6)
              obtain ⟨b', e'', p1, p2, vs, rfl, p4⟩ := hR.cell hq
              cases Option.some.inj (p2.symm.trans hb6)
              have hi := ab_iv_spec hR.1 h3
              obtain ⟨k3, e1, k2⟩ := ab_ixin (y := y) (n := n) (by omega) (by omega) hn
              have c5' : ArrOfT s cA (.object cn) ∧ va_RA s cA (.object cn) := by
                have e0 : ab_ft (ci + 4) = .object cn := by simp only [ab_ft, hc]
                rw [e0] at c5; exact c5
              refine va_astq (cl := vwCl) (D := D) (r := (cn, T, N)) (tys := [(cA, .object cn)]) C.1 C.2.1 ((ab_cxE C).Kt c5') hR.2.2.2.2.1 hR.2.2.2.2.2.1 hR.2.2.2.2.2.2.1 j 0 q0 ci c1 rfl p1 hc k3 d (fun H1 locs1 g1 g2 g3 => ?_)
              split at hr
              · rename_i ks
                cases hm : ab_memb q0 ks
                · rw [hm] at hr; cases hr
                · rw [hm, cond_true, ab_dropK_eq] at hr
                  cases hr
                  have hR2 := hR.set hj c1 (c := .inr (ci + 4, n, true, .inr (.inr (some ks)), [])) (e := .inl (cA, n, .inr (.inr (.inr (.inr (va_up f y.toNatClampNeg (some b))))))) ⟨cA, _, rfl, ⟨_, rfl⟩, c5, fun q hqn => by
                    by_cases hqe : q = y.toNatClampNeg
                    · refine ⟨q0, ab_memb_ok hm, b, hb6, ?_⟩
                      simp only [ab_cv, va_up, hqe, if_true]; rfl
                    · have := c6 q hqn
                      simp only [ab_cv, va_up, hqe, if_false] at this ⊢
                      exact this⟩ rfl (ab_fC_nm rfl) (ab_fs.set hj9 hR.2.2.2.1.2) g1 g2 g3
                  have e9 : aw.1.set j (.inr (ci + 4, n, true, .inr (.inr (some ks)), [])) = aw.1 := by
                    apply List.ext_getElem?
                    intro q
                    by_cases hqj : q = j
                    · subst hqj
                      rw [List.getElem?_set_self (List.getElem?_eq_some_iff.mp hj).1, hj]
                    · rw [List.getElem?_set_ne (Ne.symm hqj)]
                  rw [e9] at hR2
                  exact hk _ List.mem_cons_self z _ H1 locs1 ls r2 hR2 hl h8
              · cases hb3 : ab_ie (ab_iv env i).1 (ab_iv env i).2
                · rw [hb3] at hr; cases hr
                · rw [hb3, cond_true, ab_fn_eq] at hr
                  rw [ab_ie_iff] at hb3
                  have e2 : (ab_iv env i).1.toNat = y.toNatClampNeg := by omega
                  rw [e2] at hr
                  simp only [ab_putK_eq, ab_setK_eq, ab_dropK_eq, Option.some.injEq] at hr
                  subst hr
                  refine hk _ List.mem_cons_self z _ H1 locs1 ls r2 (hR.set hj c1 (c := .inr (ci + 4, n, true, dv, ab_put ov y.toNatClampNeg (.inl (.inr (.inr (2, q0)))))) ⟨cA, _, rfl, ⟨_, rfl⟩, c5, fun q hqn => ?_⟩ rfl (ab_fC_nm rfl) (ab_fs.set hj9 hR.2.2.2.1.2) g1 g2 g3) hl h8
                  rw [ab_at_put]
                  by_cases hqe : q = y.toNatClampNeg
                  · rw [if_pos hqe]
                    show ab_ev X z (.inr (.inr (2, q0))) = _
                    rw [h1]
                    simp only [ab_cv, va_up, hqe, if_true]; rfl
                  · rw [if_neg hqe]
                    have := c6 q hqn
                    simp only [ab_cv, va_up, hqe, if_false] at this ⊢
                    exact this
        · cases hr
    · cases hr
  · cases hr
theorem so_sld (C : ab_cx p R s m args c cc own nL X D) {i0 : Nat} (h0 : z0.1.1[0]? = some (nI i0)) (hi0 : i0 + 6 ≤ X.1.2.1) (hL : X.1.2.1 ≤ 3072) (d : decode cc pc = .ok (.iaload, 1)) : ab_so p l e R s m args below meth c Q nL X D z0 cal pc (op_sld (pc + 1)) := by
  intro env nl aw cl sl lv st r hr hk z ws H locs ls cst hR hl hs
  dsimp only at hR hl hs
  unfold op_sld at hr
  split at hr
  · rename_i c0 j st'
    cases hb : (ab_le 0 c0 && ab_le c0 5)
    · rw [hb] at hr; cases hr
    · rw [hb, cond_true] at hr
      rw [Bool.and_eq_true, ab_le_iff, ab_le_iff] at hb
      obtain ⟨x, r0, rfl, h1, h2⟩ := ab_st1 hs
      obtain ⟨y, rfl, h3⟩ := ab_evi h1
      obtain ⟨x2, r1, rfl, h4, h5⟩ := ab_st1 h2
      cases h4
      obtain ⟨⟨⟨t, ht⟩, -, -⟩, -⟩ := hR.2.2.2.2.2.2.2.2
      have e0 : z.1[0]? = some (nI i0) := by rw [ht]; exact ab_get_app h0
      simp only [ab_evI, e0, Option.map_some, Option.some.injEq] at h3
      have e1 : (nI i0).toInt = (i0 : Int) := nI_toInt (by omega)
      have e2 : y.toInt = i0 + c0 := by
        rw [← h3, ab_addI _ _ (by omega) (by omega), e1]
      obtain ⟨hin, -, -⟩ := ab_ixin (y := y) (n := X.1.2.1) (by omega) (by omega) (by omega)
      obtain ⟨q1, q2⟩ := (ab_cxE C).2.2.2.1
      refine va_sld (A := ab_Ar X) C.1 C.2.1 q1 (Nat.lt_of_lt_of_le q2 (ab_cxE C).1) (Nat.not_le.mpr q2) hR.2.2.2.2.2.2.1 hin d ?_
      exact so_ifr hr hk hR hl h5 _ (ab_i32 _).1 (ab_i32 _).2
  · cases hr
theorem so_gval (C : ab_cx p R s m args c cc own nL X D) {i : Nat} (hw : Cond.fieldLink own i "java/lang/String" "value" "[B" ∈ ab_TG) (d : decode cc pc = .ok (.getfield i, 3)) : ab_so p l e R s m args below meth c Q nL X D z0 cal pc (op_gval (pc + 3)) := by
  intro env nl aw cl sl lv st r hr hk z ws H locs ls cst hR hl hs
  dsimp only at hR hl hs
  unfold op_gval at hr
  split at hr
  · rename_i k st'
    cases hb : Nat.blt k 6
    · rw [hb] at hr; cases hr
    · rw [hb, cond_true] at hr
      cases hr
      have hk9 : k < 6 := Nat.le_of_ble_eq_true hb
      obtain ⟨x, r0, rfl, h1, h2⟩ := ab_st1 hs
      cases h1
      refine vk_getf (A := ab_Ar X) C.1 C.2.1 ((ab_cxE C).2.2.2.2.2.2.1.1 k hk9).2.2.1 hR.2.2.2.2.2.2.1 C.2.2.2.1 (C.2.2.2.2.1 _ hw) (fun _ h => h) d ?_
      exact hk _ List.mem_cons_self z ws H locs ls (.ref _ :: r0) hR hl (by simp only [List.map_cons, ab_ev, ab_evR, ab_evI, Option.map_some]; rw [h2])
  · cases hr
theorem so_gcod (C : ab_cx p R s m args c cc own nL X D) {i : Nat} (hw : Cond.fieldLink own i "java/lang/String" "coder" "B" ∈ ab_TG) (d : decode cc pc = .ok (.getfield i, 3)) : ab_so p l e R s m args below meth c Q nL X D z0 cal pc (op_gcod (pc + 3)) := by
  intro env nl aw cl sl lv st r hr hk z ws H locs ls cst hR hl hs
  dsimp only at hR hl hs
  unfold op_gcod at hr
  split at hr
  · rename_i k st'
    cases hb : Nat.blt k 6
    · rw [hb] at hr; cases hr
    · rw [hb, cond_true] at hr
      cases hr
      have hk9 : k < 6 := Nat.le_of_ble_eq_true hb
      obtain ⟨x, r0, rfl, h1, h2⟩ := ab_st1 hs
      cases h1
      refine vk_getf (A := ab_Ar X) C.1 C.2.1 ((ab_cxE C).2.2.2.2.2.2.1.1 k hk9).2.1 hR.2.2.2.2.2.2.1 C.2.2.2.1 (C.2.2.2.2.1 _ hw) (fun _ h => h) d ?_
      exact hk _ List.mem_cons_self z ws H locs ls (.int 0 :: r0) hR hl (by simp only [List.map_cons, ab_ev, ab_evR, ab_evI, Option.map_some]; rw [h2]; rfl)
  · cases hr
theorem so_tlen (C : ab_cx p R s m args c cc own nL X D) (d : decode cc pc = .ok (.arraylength, 1)) : ab_so p l e R s m args below meth c Q nL X D z0 cal pc (op_tlen (pc + 1)) := by
  intro env nl aw cl sl lv st r hr hk z ws H locs ls cst hR hl hs
  dsimp only at hR hl hs
  unfold op_tlen at hr
  split at hr
  · rename_i k st'
    cases hb : Nat.blt k 6
    · rw [hb] at hr; cases hr
    · rw [hb, cond_true, ab_fn_eq] at hr
      cases hr
      have hk9 : k < 6 := Nat.le_of_ble_eq_true hb
      obtain ⟨x, r0, rfl, h1, h2⟩ := ab_st1 hs
      cases h1
      refine va_tlen (A := ab_Ar X) C.1 C.2.1 ((ab_cxE C).2.2.2.2.2.2.1.1 k hk9).2.2.2 hR.2.2.2.2.2.2.1 rfl d ?_
      exact hk _ List.mem_cons_self z ws H locs ls (.int (Int32.ofNat (ab_len.getD k 0)) :: r0) hR hl (by simp only [List.map_cons, ab_ev, ab_evI, Option.map_some]; rw [h2]; rfl)
  · cases hr
theorem so_tb (C : ab_cx p R s m args c cc own nL X D) (d : decode cc pc = .ok (.baload, 1)) : ab_so p l e R s m args below meth c Q nL X D z0 cal pc (op_tb (pc + 1)) := by
  intro env nl aw cl sl lv st r hr hk z ws H locs ls cst hR hl hs
  dsimp only at hR hl hs
  unfold op_tb at hr
  split at hr
  · rename_i i k st'
    cases hb : Nat.blt k 6
    · rw [hb] at hr; cases hr
    · rw [hb, cond_true, ab_ivK_eq] at hr
      have hk9 : k < 6 := Nat.le_of_ble_eq_true hb
      have hlen : ab_len.getD k 0 < 1000 := by
        have : ∀ k, k < 6 → ab_len.getD k 0 < 1000 := by decide
        exact this k hk9
      cases hb2 : (ab_le 0 (ab_iv env i).1 && ab_le ((ab_iv env i).2 + 1) (ab_len.getD k 0 : Nat))
      · rw [hb2] at hr; cases hr
      · rw [hb2, cond_true] at hr
        rw [Bool.and_eq_true, ab_le_iff, ab_le_iff] at hb2
        obtain ⟨x, r0, rfl, h1, h2⟩ := ab_st1 hs
        obtain ⟨y, rfl, h3⟩ := ab_evi h1
        obtain ⟨x2, r1, rfl, h4, h5⟩ := ab_st1 h2
        cases h4
        have hi := ab_iv_spec hR.1 h3
        obtain ⟨k3, e1, k2⟩ := ab_ixin (y := y) (n := ab_len.getD k 0) (by omega) (by omega) (by omega)
        refine va_tb (A := ab_Ar X) (v := .int ((ab_bys.getD k []).getD y.toNatClampNeg 0)) C.1 C.2.1 ((ab_cxE C).2.2.2.2.2.2.1.1 k hk9).2.2.2 hR.2.2.2.2.2.2.1 k3 rfl d ?_
        cases hb3 : ab_ie (ab_iv env i).1 (ab_iv env i).2
        · rw [hb3, cond_false] at hr
          exact so_ifr hr hk hR hl h5 _ (ab_i32 _).1 (ab_i32 _).2
        · rw [hb3, cond_true, ab_fi_eq] at hr
          cases hr
          rw [ab_ie_iff] at hb3
          have e2 : (ab_iv env i).1.toNat = y.toNatClampNeg := by omega
          exact hk _ List.mem_cons_self z ws H locs ls (_ :: r1) hR hl (by simp only [List.map_cons, ab_ev, ab_evI, Option.map_some, Int32.ofInt_toInt, e2]; rw [h5])
  · cases hr
theorem so_hlen (C : ab_cx p R s m args c cc own nL X D) (d : decode cc pc = .ok (.arraylength, 1)) : ab_so p l e R s m args below meth c Q nL X D z0 cal pc (op_hlen (pc + 1)) := by
  intro env nl aw cl sl lv st r hr hk z ws H locs ls cst hR hl hs
  dsimp only at hR hl hs
  unfold op_hlen at hr
  split at hr
  · cases hr
    obtain ⟨x, r0, rfl, h1, h2⟩ := ab_st1 hs
    cases h1
    refine va_tlen (A := ab_Ar X) C.1 C.2.1 (ab_cxE C).2.2.2.2.2.2.2.2.2.2.1 hR.2.2.2.2.2.2.1 rfl d ?_
    exact hk _ List.mem_cons_self z ws H locs ls (.int (Int32.ofNat 3) :: r0) hR hl (by simp only [List.map_cons, ab_ev, ab_evI, Option.map_some]; rw [h2]; rfl)
  · cases hr
theorem so_hld (C : ab_cx p R s m args c cc own nL X D) (d : decode cc pc = .ok (.iaload, 1)) : ab_so p l e R s m args below meth c Q nL X D z0 cal pc (op_hld (pc + 1)) := by
  intro env nl aw cl sl lv st r hr hk z ws H locs ls cst hR hl hs
  dsimp only at hR hl hs
  unfold op_hld at hr
  split at hr
  · rename_i i k st'
    cases hb : Nat.blt k 2
    · rw [hb] at hr; cases hr
    · rw [hb, cond_true, ab_ivK_eq] at hr
      have hk9 : k < 2 := Nat.le_of_ble_eq_true hb
      cases hb2 : (ab_le 0 (ab_iv env i).1 && ab_le (ab_iv env i).2 2)
      · rw [hb2] at hr; cases hr
      · rw [hb2, cond_true] at hr
        rw [Bool.and_eq_true, ab_le_iff, ab_le_iff] at hb2
        obtain ⟨x, r0, rfl, h1, h2⟩ := ab_st1 hs
        obtain ⟨y, rfl, h3⟩ := ab_evi h1
        obtain ⟨x2, r1, rfl, h4, h5⟩ := ab_st1 h2
        cases h4
        have hi := ab_iv_spec hR.1 h3
        obtain ⟨k3, e1, k2⟩ := ab_ixin (y := y) (n := 3) (by omega) (by omega) (by decide)
        rcases (show k = 0 ∨ k = 1 by omega) with rfl | rfl
        · refine va_ti (A := ab_Ar X) (v := .int (ab_hi.getD y.toNatClampNeg 0)) C.1 C.2.1 (ab_cxE C).2.2.2.2.2.2.2.2.2.2.1 hR.2.2.2.2.2.2.1 k3 rfl d ?_
          exact so_ifr hr hk hR hl h5 _ (ab_i32 _).1 (ab_i32 _).2
        · refine va_ti (A := ab_Ar X) (v := .int (ab_lo.getD y.toNatClampNeg 0)) C.1 C.2.1 (ab_cxE C).2.2.2.2.2.2.2.2.2.2.2.2.2.2.2.2 hR.2.2.2.2.2.2.1 k3 rfl d ?_
          exact so_ifr hr hk hR hl h5 _ (ab_i32 _).1 (ab_i32 _).2
  · cases hr
theorem so_gCS (C : ab_cx p R s m args c cc own nL X D) {i : Nat} (hw : Cond.fieldLink own i "java/lang/String" "COMPACT_STRINGS" "Z" ∈ ab_TG) (d : decode cc pc = .ok (.getstatic i, 3)) : ab_so p l e R s m args below meth c Q nL X D z0 cal pc (op_push (.inl (none, 1)) (pc + 3)) := by
  intro env nl aw cl sl lv st r hr hk z ws H locs ls cst hR hl hs
  dsimp only at hR hl hs
  simp only [op_push, Option.some.injEq] at hr
  subst hr
  refine va_gets (A := ab_Ar X) C.1 C.2.1 (ab_cxE C).2.2.2.2.2.2.2.1 hR.2.2.2.2.2.2.1 C.2.2.2.1 (C.2.2.2.2.1 _ hw) (fun _ h => h) d ?_
  exact hk _ List.mem_cons_self z ws H locs ls (.int 1 :: cst) hR hl (by simp only [List.map_cons]; rw [hs]; rfl)
theorem so_gSF (C : ab_cx p R s m args c cc own nL X D) {i : Nat} (hw : Cond.fieldLink own i "jdk/internal/util/Preconditions" "SIOOBE_FORMATTER" "Ljava/util/function/BiFunction;" ∈ ab_TG) (d : decode cc pc = .ok (.getstatic i, 3)) : ab_so p l e R s m args below meth c Q nL X D z0 cal pc (op_push (.inr (.inr (6, 0))) (pc + 3)) := by
  intro env nl aw cl sl lv st r hr hk z ws H locs ls cst hR hl hs
  dsimp only at hR hl hs
  simp only [op_push, Option.some.injEq] at hr
  subst hr
  refine va_gets (A := ab_Ar X) C.1 C.2.1 (ab_cxE C).2.2.2.2.2.2.2.2.1 hR.2.2.2.2.2.2.1 C.2.2.2.1 (C.2.2.2.2.1 _ hw) (fun _ h => h) d ?_
  exact hk _ List.mem_cons_self z ws H locs ls (X.2.2.2.2.2 :: cst) hR hl (by simp only [List.map_cons]; rw [hs]; rfl)
theorem so_gHI (C : ab_cx p R s m args c cc own nL X D) {i : Nat} (hw : Cond.fieldLink own i "SundialTreaty$ValleyText" "HIGHEST" "[I" ∈ ab_TG) (d : decode cc pc = .ok (.getstatic i, 3)) : ab_so p l e R s m args below meth c Q nL X D z0 cal pc (op_push (.inr (.inr (5, 0))) (pc + 3)) := by
  intro env nl aw cl sl lv st r hr hk z ws H locs ls cst hR hl hs
  dsimp only at hR hl hs
  simp only [op_push, Option.some.injEq] at hr
  subst hr
  refine va_gets (A := ab_Ar X) C.1 C.2.1 (ab_cxE C).2.2.2.2.2.2.2.2.2.1 hR.2.2.2.2.2.2.1 C.2.2.2.1 (C.2.2.2.2.1 _ hw) (fun _ h => h) d ?_
  exact hk _ List.mem_cons_self z ws H locs ls (.ref (X.2.2.2.2.1 0) :: cst) hR hl (by simp only [List.map_cons]; rw [hs]; rfl)
theorem so_ldcS (C : ab_cx p R s m args c cc own nL X D) {i j : Nat} {tx : String} (hj : ab_str[j]? = some (own, i, tx)) (d : decode cc pc = .ok (.ldc i, 2)) : ab_so p l e R s m args below meth c Q nL X D z0 cal pc (op_push (.inr (.inr (3, j))) (pc + 2)) := by
  intro env nl aw cl sl lv st r hr hk z ws H locs ls cst hR hl hs
  dsimp only at hR hl hs
  simp only [op_push, Option.some.injEq] at hr
  subst hr
  refine va_ldcS C.1 C.2.1 C.2.2.2.1 ((ab_cxE C).2.2.2.2.2.1 j _ hj) d ?_
  exact hk _ List.mem_cons_self z ws H locs ls (.ref (X.2.2.1 j) :: cst) hR hl (by simp only [List.map_cons]; rw [hs]; rfl)
theorem so_gLO (C : ab_cx p R s m args c cc own nL X D) {i : Nat} (hw : Cond.fieldLink own i "SundialTreaty$ValleyText" "LEAST" "[I" ∈ ab_TG) (d : decode cc pc = .ok (.getstatic i, 3)) : ab_so p l e R s m args below meth c Q nL X D z0 cal pc (op_push (.inr (.inr (5, 1))) (pc + 3)) := by
  intro env nl aw cl sl lv st r hr hk z ws H locs ls cst hR hl hs
  dsimp only at hR hl hs
  simp only [op_push, Option.some.injEq] at hr
  subst hr
  refine va_gets (A := ab_Ar X) C.1 C.2.1 (ab_cxE C).2.2.2.2.2.2.2.2.2.2.2.2.2.2.2.1 hR.2.2.2.2.2.2.1 C.2.2.2.1 (C.2.2.2.2.1 _ hw) (fun _ h => h) d ?_
  exact hk _ List.mem_cons_self z ws H locs ls (.ref (X.2.2.2.2.1 1) :: cst) hR hl (by simp only [List.map_cons]; rw [hs]; rfl)
theorem so_ldcwS (C : ab_cx p R s m args c cc own nL X D) {i j : Nat} {tx : String} (hj : ab_str[j]? = some (own, i, tx)) (d : decode cc pc = .ok (.ldc_w i, 3)) : ab_so p l e R s m args below meth c Q nL X D z0 cal pc (op_push (.inr (.inr (3, j))) (pc + 3)) := by
  intro env nl aw cl sl lv st r hr hk z ws H locs ls cst hR hl hs
  dsimp only at hR hl hs
  simp only [op_push, Option.some.injEq] at hr
  subst hr
  have hZ := (ab_cxE C).2.2.2.2.2.1 j _ hj
  intro T hT X9
  obtain ⟨t, a1, b1⟩ := hk _ List.mem_cons_self z ws H locs ls (.ref (X.2.2.1 j) :: cst) hR hl (by simp only [List.map_cons]; rw [hs]; rfl) T hT X9
  exact ⟨t, X9.ldcStringW C.1 C.2.2.2.1 (text := tx) (a := X.2.2.1 j) hZ.1 hZ.2 (g := F0 m pc ls cst) rfl (by rw [C.2.1]; exact d) t a1, b1⟩
theorem ab_twK_ok {a : ab_I} {env : ab_E} {nl : Nat} {aw : ab_H} {cl sl : Nat} {lv : List (Nat × ab_V)} {st : List ab_V} : ∀ (tg : List Nat) (lo : Int), ∃ L, (∀ k : List ab_S → ab_A, ab_twK a env nl aw cl sl lv st tg lo k = k L) ∧ ∀ (rho : List Int32) (x : Int32) (q t : Nat), ab_eR env rho → ab_evI rho a = some x → x.toInt = lo + q → tg[q]? = some t → ∃ env', ab_eR env' rho ∧ ((env', nl, aw, cl, sl), t, lv, st) ∈ L
  | [], lo => ⟨[], fun k => rfl, fun _ _ q t _ _ _ h => by simp at h⟩
  | t0 :: r, lo => by
    obtain ⟨L, h1, h2⟩ := ab_twK_ok (a := a) (env := env) (nl := nl) (aw := aw) (cl := cl) (sl := sl) (lv := lv) (st := st) r (lo + 1)
    cases hc : ab_rf env a lo lo with
    | none =>
      refine ⟨L, fun k => by simp only [ab_twK, ab_rfK_eq, hc, ab_fi_eq, h1], fun rho x q t hR hx e hq => ?_⟩
      cases q with
      | zero =>
        obtain ⟨e', g1, -⟩ := ab_rf_spec (lo := lo) (hi := lo) hR hx (by simp at e; omega) (by simp at e; omega)
        rw [hc] at g1; cases g1
      | succ q =>
        rw [List.getElem?_cons_succ] at hq
        exact h2 rho x q t hR hx (by rw [e]; push_cast; omega) hq
    | some env' =>
      refine ⟨((env', nl, aw, cl, sl), t0, lv, st) :: L, fun k => by simp only [ab_twK, ab_rfK_eq, hc, ab_fi_eq, h1], fun rho x q t hR hx e hq => ?_⟩
      cases q with
      | zero =>
        rw [List.getElem?_cons_zero] at hq
        cases hq
        obtain ⟨e', g1, g2⟩ := ab_rf_spec (lo := lo) (hi := lo) hR hx (by simp at e; omega) (by simp at e; omega)
        rw [hc] at g1; cases g1
        exact ⟨_, g2, List.mem_cons_self⟩
      | succ q =>
        rw [List.getElem?_cons_succ] at hq
        obtain ⟨e', g1, g2⟩ := h2 rho x q t hR hx (by rw [e]; push_cast; omega) hq
        exact ⟨e', g1, List.mem_cons_of_mem _ g2⟩
theorem so_tsw (C : ab_cx p R s m args c cc own nL X D) {df lo hi : Int} {offs : Array Int} {len dt : Nat} {tg : List Nat} (hn : (tg.length : Int) = hi - lo + 1) (htg : ∀ (q t : Nat), tg[q]? = some t → ∃ off, offs[q]? = some off ∧ (pc : Int) + off = t) (hdt : (pc : Int) + df = dt) (d : decode cc pc = .ok (.tableswitch df lo hi offs, len)) : ab_so p l e R s m args below meth c Q nL X D z0 cal pc (op_tsw lo hi tg dt) := by
  intro env nl aw cl sl lv st r hr hk z ws H locs ls cst hR hl hs
  dsimp only at hR hl hs
  unfold op_tsw at hr
  split at hr
  · rename_i a st'
    obtain ⟨L, f1, f2⟩ := ab_twK_ok (a := a) (env := env) (nl := nl) (aw := aw) (cl := cl) (sl := sl) (lv := lv) (st := st') tg lo
    rw [f1] at hr
    simp only [ab_rfK_eq] at hr
    obtain ⟨x, r0, rfl, h1, h2⟩ := ab_st1 hs
    obtain ⟨y, rfl, h3⟩ := ab_evi h1
    have hi32 := ab_i32 y
    by_cases hlo : y.toInt < lo
    · obtain ⟨e1, g1, g2⟩ := ab_rf_spec (lo := -2147483648) (hi := lo - 1) hR.1 h3 (by omega) (by omega)
      rw [g1] at hr
      refine lv_tableOut C.1 C.2.1 d (Or.inl hlo) hdt ?_
      cases ho : ab_rf env a (hi + 1) 2147483647 with
      | none =>
        rw [ho] at hr
        simp only [ab_o1, Option.some.injEq] at hr
        subst hr
        exact hk _ (ab_frk_in List.mem_cons_self) z ws H locs ls r0 (hR.ref g2) hl h2
      | some e2 =>
        rw [ho] at hr
        simp only [ab_o1, Option.some.injEq] at hr
        subst hr
        exact hk _ (ab_frk_in List.mem_cons_self) z ws H locs ls r0 (hR.ref g2) hl h2
    · by_cases hhi : hi < y.toInt
      · obtain ⟨e1, g1, g2⟩ := ab_rf_spec (lo := hi + 1) (hi := 2147483647) hR.1 h3 (by omega) (by omega)
        rw [g1] at hr
        refine lv_tableOut C.1 C.2.1 d (Or.inr hhi) hdt ?_
        cases ho : ab_rf env a (-2147483648) (lo - 1) with
        | none =>
          rw [ho] at hr
          simp only [ab_o1, Option.some.injEq] at hr
          subst hr
          exact hk _ (ab_frk_rest (ab_frk_in List.mem_cons_self)) z ws H locs ls r0 (hR.ref g2) hl h2
        | some e2 =>
          rw [ho] at hr
          simp only [ab_o1, Option.some.injEq] at hr
          subst hr
          exact hk _ (ab_frk_rest (ab_frk_in List.mem_cons_self)) z ws H locs ls r0 (hR.ref g2) hl h2
      · have hq : (y.toInt - lo).toNat < tg.length := by omega
        obtain ⟨off, o1, o2⟩ := htg (y.toInt - lo).toNat _ (List.getElem?_eq_getElem hq)
        obtain ⟨e1, g1, g2⟩ := f2 z.1 y (y.toInt - lo).toNat _ hR.1 h3 (by omega) (List.getElem?_eq_getElem hq)
        refine lv_tableIn C.1 C.2.1 d hlo hhi o1 o2 ?_
        have fin : ∀ r1 r2 : List ab_E, ab_frk nl aw cl sl lv st' r1 dt (ab_frk nl aw cl sl lv st' r2 dt L) = r → W p l e R s m args below meth c H locs cl sl Q (F0 m (tg[(y.toInt - lo).toNat]'hq) ls r0) := by
          intro r1 r2 e0
          subst e0
          exact hk _ (ab_frk_rest (ab_frk_rest g2)) z ws H locs ls r0 (hR.ref g1) hl h2
        generalize ab_rf env a (-2147483648) (lo - 1) = o1 at hr
        generalize ab_rf env a (hi + 1) 2147483647 = o2 at hr
        cases o1 <;> cases o2 <;> simp only [ab_o1, Option.some.injEq] at hr <;> exact fin _ _ hr
  · cases hr
end
