/-! A store that keeps what is said of other places, and tells its own. -/
noncomputable def ab_drpK {β : Type} (env : ab_E) (j : Nat) (i : ab_I) (q q' : Nat) : List ab_Y → (List ab_Y → β) → β
  | [], c => c []
  | (kd, l) :: r, c => bif ab_sp j (ab_nc kd) l || ab_kep env j i q q' (kd, l) then ab_drpK env j i q q' r (fun t => c ((kd, l) :: t)) else ab_drpK env j i q q' r c
theorem ab_drpK_eq {β : Type} (env : ab_E) (j : Nat) (i : ab_I) (q q' : Nat) : ∀ (l : List ab_Y) (c : List ab_Y → β), ab_drpK env j i q q' l c = c (l.filter (fun f => ab_sp j (ab_nc f.1) f.2 || ab_kep env j i q q' f))
  | [], c => rfl
  | (kd, l) :: r, c => by
    simp only [ab_drpK, List.filter]
    cases (ab_sp j (ab_nc kd) l || ab_kep env j i q q' (kd, l))
    · simp only [cond_false]; exact ab_drpK_eq env j i q q' r c
    · simp only [cond_true]; exact ab_drpK_eq env j i q q' r _
theorem ab_drp_ok {env : ab_E} {z : ab_Z} {ws : va_W} {j a n : Nat} {cA : ClassId} {fn : Nat → Int32} {i va : ab_I} {y v : Int32} {q q' : Nat} (hj9 : j < 2147483648) (hR : ab_eR env z.1) (hj : ws[j]? = some (a, .inl (cA, n, .inl fn))) (hy : ab_evI z.1 i = some y) (hy0 : 0 ≤ y.toInt) (hyn : y.toInt < n) (h1 : q ≤ y.toNatClampNeg) (h2 : y.toNatClampNeg ≤ q') (hv : ab_evI z.1 va = some v) {fx : List ab_Y} (hf : ∀ f ∈ fx, ab_fs z ws f) : ∀ f ∈ (1, [(none, (j : Int)), i, va]) :: fx.filter (fun f => ab_sp j (ab_nc f.1) f.2 || ab_kep env j i q q' f), ab_fs z (ws.set j (a, .inl (cA, n, .inl (upd fn y.toNatClampNeg v)))) f := by
  intro f hm
  rcases List.mem_cons.mp hm with rfl | hm
  · have e := ab_of (j : Int) (by omega) (by omega)
    refine ⟨[Int32.ofInt j, y, v], by simp only [List.map_cons, List.map_nil, hy, hv]; rfl, ?_⟩
    refine ⟨Int32.ofInt j, y, v, n, upd fn y.toNatClampNeg v, rfl, ?_, hy0, hyn, by simp only [upd, if_true]⟩
    have e2 : (Int32.ofInt (j : Int)).toNatClampNeg = j := by
      show (Int32.ofInt (j : Int)).toInt.toNat = j
      rw [e]; rfl
    rw [e2]
    exact (ab_arr_upd hj).1
  · obtain ⟨m1, m2⟩ := List.mem_filter.mp hm
    rw [Bool.or_eq_true] at m2
    rcases m2 with m2 | m2
    · exact ab_fs.set hj9 hf f (List.mem_filter.mpr ⟨m1, m2⟩)
    · exact ab_kep_ok hR hj hy hy0 h1 h2 m2 (hf f m1)
noncomputable def op_astK (np : Nat) : ab_P := fun _ env nl aw cl sl lv st => match st with
  | .inl v :: .inl i :: .inr (.inr (2, j)) :: st => (match ab_get aw.1 j with
    | some (.inr (t', n, true, d, ov)) => bif Nat.beq 0 t' && ab_b6 env i n d && ab_fit (ab_ft 0) env (.inl v) && Nat.ble j 2147483647 then ab_ivK env i (fun lo hi => bif ab_le 0 lo && ab_le (hi + 1) n then
        ab_fn lo.toNat (fun q => bif ab_ie lo hi then ab_putK ov q (.inl (.inl v)) (fun ov => ab_setK aw.1 j (.inr (t', n, true, d, ov)) (fun cs => ab_drpK env j i q q aw.2 (fun fx => some [((env, nl, (cs, (1, [(none, (j : Int)), i, v]) :: fx), cl, sl), np, lv, st)])))
        else ab_fn hi.toNat (fun q' => ab_ivK env v (fun vl vh => ab_wivK env d (fun x y => ab_fi (ab_mn x vl) (fun x => ab_fi (ab_mx y vh) (fun y => ab_hulK env q q' ov x y (fun x y => ab_setK aw.1 j (.inr (t', n, true, d, (q, q', .inr (.inl (x, y))) :: ov)) (fun cs => ab_drpK env j i q q' aw.2 (fun fx => some [((env, nl, (cs, (1, [(none, (j : Int)), i, v]) :: fx), cl, sl), np, lv, st)]))) none))) none))) else none) else none
    | _ => none)
  | _ => none
section
variable {p : Program} {l : Launch} {e : Env} {R : Room} {s : State} {m : MethodId} {args : Array Value} {below : List Frame} {meth : Method} {c : Code} {Q : State → Prop} {cc : ByteArray} {own : String} {nL : Nat} {X : ab_X} {D : va_G} {z0 : ab_Z0} {cal : ab_K} {pc : Nat}
theorem so_iastK (C : ab_cx p R s m args c cc own nL X D) (d : decode cc pc = .ok (.iastore, 1)) : ab_so p l e R s m args below meth c Q nL X D z0 cal pc (op_astK (pc + 1)) := by
  intro env nl aw cl sl lv st r hr hk z ws H locs ls cst hR hl hs
  dsimp only at hR hl hs
  unfold op_astK at hr
  split at hr
  · rename_i v i j st'
    rw [ab_get_eq] at hr
    split at hr
    · rename_i t' n dv ov hj
      cases hb : (Nat.beq 0 t' && ab_b6 env i n dv && ab_fit (ab_ft 0) env (.inl v) && Nat.ble j 2147483647)
      · rw [hb] at hr; cases hr
      · rw [hb, cond_true, ab_ivK_eq] at hr
        rw [Bool.and_eq_true, Bool.and_eq_true, Bool.and_eq_true] at hb
        obtain ⟨⟨⟨hb1, hb2⟩, hb3⟩, hb4⟩ := hb
        have hn : n < 2 ^ 31 := Nat.lt_of_le_of_lt (ab_b6_ok hb2).1 (by decide)
        have hj9 : j < 2147483648 := Nat.lt_succ_of_le (Nat.le_of_ble_eq_true hb4)
        have ht := Nat.eq_of_beq_eq_true hb1
        subst ht
        cases hb5 : (ab_le 0 (ab_iv env i).1 && ab_le ((ab_iv env i).2 + 1) n)
        · rw [hb5] at hr; cases hr
        · rw [hb5, cond_true, ab_fn_eq] at hr
          rw [Bool.and_eq_true, ab_le_iff, ab_le_iff] at hb5
          obtain ⟨x, r0, rfl, h1, h2⟩ := ab_st1 hs
          obtain ⟨y2, rfl, hv9⟩ := ab_evi h1
          obtain ⟨x3, r1, rfl, h4, h5⟩ := ab_st1 h2
          obtain ⟨y, rfl, h3⟩ := ab_evi h4
          obtain ⟨x4, r2, rfl, h7, h8⟩ := ab_st1 h5
          obtain ⟨a, rfl, h6⟩ := ab_ref2 h7
          obtain ⟨n1, n2⟩ := ab_fit_ok hR.1 hb3 h1
          obtain ⟨a', e', c1, c2, cA, xx, rfl, ⟨f, rfl⟩, c5, c6⟩ := hR.cell hj
          cases Option.some.inj (c2.symm.trans h6)
          have hi := ab_iv_spec hR.1 h3
          obtain ⟨k3, e1, k2⟩ := ab_ixin (y := y) (n := n) (by omega) (by omega) hn

          refine va_iast (cl := vwCl) (D := D) (tys := [(cA, .int)]) C.1 C.2.1 ((ab_cxE C).Kt c5) hR.2.2.2.2.1 hR.2.2.2.2.2.1 hR.2.2.2.2.2.2.1 j 0 c1 rfl k3 d (fun H1 locs1 g1 g2 g3 => ?_)

          have hfx := fun (q1 q2 : Nat) (h1 : q1 ≤ y.toNatClampNeg) (h2 : y.toNatClampNeg ≤ q2) => ab_drp_ok (v := y2) (va := v) hj9 hR.1 c1 h3 (show 0 ≤ y.toInt by omega) (show y.toInt < n by omega) h1 h2 hv9 hR.2.2.2.1.2
          cases hb6 : ab_ie (ab_iv env i).1 (ab_iv env i).2
          · rw [hb6, cond_false, ab_fn_eq, ab_ivK_eq] at hr
            obtain ⟨x0, y0, w1, w2⟩ := ab_wivK_ok (X := X) hR.1 hr
            rw [ab_fi_eq, ab_fi_eq] at w1
            obtain ⟨x', y', q1, q2, q3, q4⟩ := ab_hulK_ok (X := X) hR.1 w1
            simp only [ab_setK_eq, ab_drpK_eq, Option.some.injEq] at q1
            subst q1
            have hvi := ab_iv_spec hR.1 hv9
            have m1 : ab_mn x0 (ab_iv env v).1 ≤ x0 ∧ ab_mn x0 (ab_iv env v).1 ≤ (ab_iv env v).1 := by
              unfold ab_mn
              cases hc : ab_le x0 (ab_iv env v).1
              · rw [ab_le_false] at hc; exact ⟨by simp only [cond_false]; omega, by simp only [cond_false]; omega⟩
              · rw [ab_le_iff] at hc; exact ⟨by simp only [cond_true]; omega, by simp only [cond_true]; omega⟩
            have m2 : y0 ≤ ab_mx y0 (ab_iv env v).2 ∧ (ab_iv env v).2 ≤ ab_mx y0 (ab_iv env v).2 := by
              unfold ab_mx
              cases hc : ab_le y0 (ab_iv env v).2
              · rw [ab_le_false] at hc; exact ⟨by simp only [cond_false]; omega, by simp only [cond_false]; omega⟩
              · rw [ab_le_iff] at hc; exact ⟨by simp only [cond_true]; omega, by simp only [cond_true]; omega⟩
            refine hk _ List.mem_cons_self z _ H1 locs1 ls r2 (hR.set hj c1 (c := .inr (0, n, true, dv, ((ab_iv env i).1.toNat, (ab_iv env i).2.toNat, .inr (.inl (x', y'))) :: ov)) ⟨cA, _, rfl, ⟨_, rfl⟩, c5, fun q hq => ?_⟩ rfl (ab_fC_st (fun h9 => by have h7 := (ab_b6_ok hb2).2 h9; omega)) (hfx _ _ (by omega) (by omega)) g1 g2 g3) hl h8
            rw [ab_at_rng]
            by_cases hqr : (ab_iv env i).1.toNat ≤ q ∧ q ≤ (ab_iv env i).2.toNat
            · rw [if_pos hqr]
              show ∃ n : Int32, _ = Value.int n ∧ _
              by_cases hqe : q = y.toNatClampNeg
              · refine ⟨y2, ?_, by omega, by omega⟩
                simp only [ab_cv, upd, hqe, if_true]
              · have hin := ab_at_cases (P := fun w => ∀ v, ab_ho X z w v → ∃ n : Int32, v = .int n ∧ x' ≤ n.toInt ∧ n.toInt ≤ y') (d := dv) (ov := ov) (lo := (ab_iv env i).1.toNat) (hi := (ab_iv env i).2.toNat) (fun v hv => by
                  obtain ⟨n, rfl, u1, u2⟩ := w2 v hv
                  exact ⟨n, rfl, by omega, by omega⟩) q4 (j := q) hqr.1 hqr.2
                obtain ⟨nn, hnn, u1, u2⟩ := hin _ (c6 q hq)
                refine ⟨nn, ?_, u1, u2⟩
                rw [← hnn]
                simp only [ab_cv, upd, hqe, if_false]
            · rw [if_neg hqr]
              have hqe : ¬ q = y.toNatClampNeg := by omega
              have := c6 q hq
              simp only [ab_cv, upd, hqe, if_false] at this ⊢
              exact this
          · rw [hb6, cond_true] at hr
            rw [ab_ie_iff] at hb6
            have e2 : (ab_iv env i).1.toNat = y.toNatClampNeg := by omega
            rw [e2] at hr
            simp only [ab_putK_eq, ab_setK_eq, ab_drpK_eq, Option.some.injEq] at hr
            subst hr
            refine hk _ List.mem_cons_self z _ H1 locs1 ls r2 (hR.set hj c1 (c := .inr (0, n, true, dv, ab_put ov y.toNatClampNeg (.inl (.inl v)))) ⟨cA, _, rfl, ⟨_, rfl⟩, c5, fun q hq => ?_⟩ rfl (ab_fC_st (fun h9 => by have h7 := (ab_b6_ok hb2).2 h9; omega)) (hfx _ _ (by omega) (by omega)) g1 g2 g3) hl h8
            rw [ab_at_put]
            by_cases hqe : q = y.toNatClampNeg
            · rw [if_pos hqe]
              show ab_ev X z (.inl v) = _
              rw [h1]
              simp only [ab_cv, upd, hqe, if_true]
            · rw [if_neg hqe]
              have := c6 q hq
              simp only [ab_cv, upd, hqe, if_false] at this ⊢
              exact this
    · cases hr
  · cases hr
end
