/-! A read that remembers. -/
noncomputable def op_aldK (np : Nat) : ab_P := fun _ env nl aw cl sl lv st => match st with
  | .inl i :: .inr (.inr (2, j)) :: st => (match ab_get aw.1 j with
    | some (.inr (t', n, _, d, ov)) => bif Nat.beq 0 t' && Nat.ble n 100000 && Nat.ble j 2147483647 then ab_ivK env i (fun lo hi => bif ab_le 0 lo && ab_le (hi + 1) n then
        (match ab_f1 j i aw.2 with
        | some v => some [((env, nl, aw, cl, sl), np, lv, .inl v :: st)]
        | none => ab_fn lo.toNat (fun q => ab_fn hi.toNat (fun q' => ab_wivK env d (fun x y => ab_hulK env q q' ov x y (fun x y => ab_frK env x y (fun env a => some [((env, nl, (aw.1, (1, [(none, (j : Int)), i, a]) :: aw.2), cl, sl), np, lv, .inl a :: st)])) none) none))) else none) else none
    | _ => none)
  | _ => none
section
variable {p : Program} {l : Launch} {e : Env} {R : Room} {s : State} {m : MethodId} {args : Array Value} {below : List Frame} {meth : Method} {c : Code} {Q : State → Prop} {cc : ByteArray} {own : String} {nL : Nat} {X : ab_X} {D : va_G} {z0 : ab_Z0} {cal : ab_K} {pc : Nat}
theorem so_ialdK (C : ab_cx p R s m args c cc own nL X D) (d : decode cc pc = .ok (.iaload, 1)) : ab_so p l e R s m args below meth c Q nL X D z0 cal pc (op_aldK (pc + 1)) := by
  intro env nl aw cl sl lv st r hr hk z ws H locs ls cst hR hl hs
  dsimp only at hR hl hs
  unfold op_aldK at hr
  split at hr
  · rename_i i j st'
    rw [ab_get_eq] at hr
    split at hr
    · rename_i t' n fl dv ov hj
      cases hb : (Nat.beq 0 t' && Nat.ble n 100000 && Nat.ble j 2147483647)
      · rw [hb] at hr; cases hr
      · rw [hb, cond_true, ab_ivK_eq] at hr
        rw [Bool.and_eq_true, Bool.and_eq_true] at hb
        obtain ⟨⟨hb1, hb2⟩, hb9⟩ := hb
        have hj9 := Nat.le_of_ble_eq_true hb9
        have hn : n < 2 ^ 31 := Nat.lt_of_le_of_lt (Nat.le_of_ble_eq_true hb2) (by decide)
        have ht := Nat.eq_of_beq_eq_true hb1
        subst ht
        cases hb2 : (ab_le 0 (ab_iv env i).1 && ab_le ((ab_iv env i).2 + 1) n)
        · rw [hb2] at hr; cases hr
        · rw [hb2, cond_true] at hr
          rw [Bool.and_eq_true, ab_le_iff, ab_le_iff] at hb2
          obtain ⟨x, r0, rfl, h1, h2⟩ := ab_st1 hs
          obtain ⟨y, rfl, h3⟩ := ab_evi h1
          obtain ⟨x2, r1, rfl, h4, h5⟩ := ab_st1 h2
          obtain ⟨a, rfl, h6⟩ := ab_ref2 h4
          obtain ⟨a', e', c1, c2, cA, xx, rfl, ⟨f, rfl⟩, c5, c6⟩ := hR.cell hj
          cases Option.some.inj (c2.symm.trans h6)
          have hi := ab_iv_spec hR.1 h3
          obtain ⟨k3, e1, k2⟩ := ab_ixin (y := y) (n := n) (by omega) (by omega) hn
          refine va_iald (cl := vwCl) (D := D) (tys := [(cA, .int)]) C.1 C.2.1 ((ab_cxE C).Kt c5) hR.2.2.2.2.1 j 0 c1 rfl k3 d ?_
          have c7 := c6 _ k2
          have harr : ab_arr ws j = some (n, f) := by unfold ab_arr; rw [c1]
          split at hr
          · rename_i v hv
            cases hr
            have e7 := ab_f1_ok hj9 hv hR.2.2.2.1.2 harr h3
            exact hk _ List.mem_cons_self z ws H locs ls (.int (f y.toNatClampNeg) :: r1) hR hl (by simp only [List.map_cons]; rw [h5]; exact congrArg (· :: _) (ab_evc e7))
          · rw [ab_fn_eq, ab_fn_eq] at hr
            obtain ⟨x0, y0, w1, w2⟩ := ab_wivK_ok (X := X) hR.1 hr
            obtain ⟨x', y', g1, g2, g3, g4⟩ := ab_hulK_ok (X := X) hR.1 w1
            have hin := ab_at_cases (P := fun w => ∀ v, ab_ho X z w v → ∃ n : Int32, v = .int n ∧ x' ≤ n.toInt ∧ n.toInt ≤ y') (d := dv) (ov := ov) (lo := (ab_iv env i).1.toNat) (hi := (ab_iv env i).2.toNat) (fun v hv => by
              obtain ⟨n, rfl, q1, q2⟩ := w2 v hv
              exact ⟨n, rfl, by omega, by omega⟩) g4 (j := y.toNatClampNeg) (by omega) (by omega)
            obtain ⟨nn, hnn, q1, q2⟩ := hin _ c7
            simp only [ab_cv, Value.int.injEq] at hnn
            subst hnn
            rw [ab_frK_eq] at g1
            cases g1
            have hev : ab_evI (z.1 ++ [f y.toNatClampNeg]) (some env.length, 0) = some (f y.toNatClampNeg) := by
              simp only [ab_evI]
              rw [List.getElem?_append_right (by rw [hR.1.1]; exact Nat.le_refl _), hR.1.1, Nat.sub_self]
              simp
            have hevi : ab_evI (z.1 ++ [f y.toNatClampNeg]) i = some y := ab_evI.ext (z := z) (z' := (z.1 ++ [f y.toNatClampNeg], z.2)) ab_ext_v h3
            have hf1 : ab_fs (z.1 ++ [f y.toNatClampNeg], z.2) ws (1, [(none, (j : Int)), i, (some env.length, 0)]) := by
              refine ⟨[Int32.ofInt j, y, f y.toNatClampNeg], by simp only [List.map_cons, List.map_nil, hev, hevi]; rfl, Int32.ofInt j, y, f y.toNatClampNeg, n, f, rfl, by rw [ab_nI hj9]; exact harr, by omega, by omega, rfl⟩
            obtain ⟨u1, u2, u3, u4, u5, u6, u7, u8, u9⟩ := hR.vars (t := [f y.toNatClampNeg]) (hR.1.push q1 q2)
            refine hk _ List.mem_cons_self (z.1 ++ [f y.toNatClampNeg], z.2) ws H locs ls (.int (f y.toNatClampNeg) :: r1) ⟨u1, u2, u3, ⟨u4.1, fun g hg => ?_⟩, u5, u6, u7, u8, u9⟩ (hl.ext ab_ext_v) ?_
            · rcases List.mem_cons.mp hg with rfl | hg
              · exact hf1
              · exact u4.2 g hg
            · simp only [List.map_cons]
              rw [ab_evc (z := (z.1 ++ [f y.toNatClampNeg], z.2)) hev, ab_evs.ext (ab_ext_v (t := [f y.toNatClampNeg])) h5]
    · cases hr
  · cases hr
end
