/-! A product by a constant, told by facts. -/
noncomputable def op_mulF (np : Nat) : ab_P := fun _ env nl aw cl sl lv st => match st with
  | .inl y :: .inl (none, k) :: st => ab_ivK env y (fun yl yh => bif ab_le 0 k && ab_le k 1000 && ab_le 0 yl && ab_le yh 1000000 then ab_fi (k * yl) (fun lo => ab_fi (k * yh) (fun hi => ab_frK env lo hi (fun env a => some [((env, nl, (aw.1, (0, [(none, 1), a, (none, 0 - k), y, (none, 0)]) :: (0, [(none, -1), a, (none, k), y, (none, 0)]) :: aw.2), cl, sl), np, lv, .inl a :: st)]))) else none)
  | _ => none
section
variable {p : Program} {l : Launch} {e : Env} {R : Room} {s : State} {m : MethodId} {args : Array Value} {below : List Frame} {meth : Method} {c : Code} {Q : State → Prop} {cc : ByteArray} {own : String} {nL : Nat} {X : ab_X} {D : va_G} {z0 : ab_Z0} {cal : ab_K} {pc : Nat}
theorem so_imulF (C : ab_cx p R s m args c cc own nL X D) (d : decode cc pc = .ok (.imul, 1)) : ab_so p l e R s m args below meth c Q nL X D z0 cal pc (op_mulF (pc + 1)) := by
  intro env nl aw cl sl lv st r hr hk z ws H locs ls cst hR hl hs
  dsimp only at hR hl hs
  unfold op_mulF at hr
  split at hr
  · rename_i b k st'
    rw [ab_ivK_eq] at hr
    cases hb : (ab_le 0 k && ab_le k 1000 && ab_le 0 (ab_iv env b).1 && ab_le (ab_iv env b).2 1000000)
    · rw [hb] at hr; cases hr
    · rw [hb, cond_true, ab_fi_eq, ab_fi_eq, ab_frK_eq] at hr
      cases hr
      rw [Bool.and_eq_true, Bool.and_eq_true, Bool.and_eq_true, ab_le_iff, ab_le_iff, ab_le_iff, ab_le_iff] at hb
      obtain ⟨⟨⟨b1, b2⟩, b3⟩, b4⟩ := hb
      obtain ⟨x, r, rfl, h1, h2⟩ := ab_st1 hs
      obtain ⟨y, rfl, h3⟩ := ab_evi h1
      obtain ⟨x2, r2, rfl, h4, h5⟩ := ab_st1 h2
      obtain ⟨y2, rfl, h6⟩ := ab_evi h4
      have hy := ab_iv_spec hR.1 h3
      have e2 : y2.toInt = k := by
        simp only [ab_evI, Option.some.injEq] at h6
        rw [← h6]; exact ab_of k (by omega) (by omega)
      have hk0 : 0 ≤ k * y.toInt := Int.mul_nonneg b1 (by omega)
      have hk1 : k * y.toInt ≤ 1000 * 1000000 := Int.mul_le_mul b2 (by omega) (by omega) (by omega)
      have hm : (y2 * y).toInt = k * y.toInt := by
        rw [Int32.toInt_mul, e2]
        exact Int.bmod_eq_of_le (by omega) (by omega)
      have hm1 : k * (ab_iv env b).1 ≤ (y2 * y).toInt := by rw [hm]; exact Int.mul_le_mul_of_nonneg_left hy.1 b1
      have hm2 : (y2 * y).toInt ≤ k * (ab_iv env b).2 := by rw [hm]; exact Int.mul_le_mul_of_nonneg_left hy.2 b1
      refine lv_imul C.1 C.2.1 d ?_
      have hR2 := hR.vars (t := [y2 * y]) (hR.1.push hm1 hm2)
      have hev : ab_evI (z.1 ++ [y2 * y]) (some env.length, 0) = some (y2 * y) := by
        simp only [ab_evI]
        rw [List.getElem?_append_right (by rw [hR.1.1]; exact Nat.le_refl _), hR.1.1, Nat.sub_self]
        simp
      have hevy : ab_evI (z.1 ++ [y2 * y]) b = some y := ab_evI.ext (z := z) (z' := (z.1 ++ [y2 * y], z.2)) ab_ext_v h3
      have k1 : (Int32.ofInt 1).toInt = 1 := ab_of 1 (by omega) (by omega)
      have k2 : (Int32.ofInt (-1)).toInt = -1 := ab_of (-1) (by omega) (by omega)
      have k3 : (Int32.ofInt k).toInt = k := ab_of k (by omega) (by omega)
      have k4 : (Int32.ofInt (0 - k)).toInt = 0 - k := ab_of (0 - k) (by omega) (by omega)
      have k5 : (Int32.ofInt 0).toInt = 0 := ab_of 0 (by omega) (by omega)
      have hf1 : ab_fs (z.1 ++ [y2 * y], z.2) ws (0, [(none, 1), (some env.length, 0), (none, 0 - k), b, (none, 0)]) := by
        refine ⟨[Int32.ofInt 1, y2 * y, Int32.ofInt (0 - k), y, Int32.ofInt 0], ?_, ?_⟩
        · simp only [List.map_cons, List.map_nil, hev, hevy]; rfl
        · show (0 : Int) ≤ ab_lin _
          simp only [ab_lin, k1, k4, k5, hm]
          rw [Int.sub_mul]; omega
      have hf2 : ab_fs (z.1 ++ [y2 * y], z.2) ws (0, [(none, -1), (some env.length, 0), (none, k), b, (none, 0)]) := by
        refine ⟨[Int32.ofInt (-1), y2 * y, Int32.ofInt k, y, Int32.ofInt 0], ?_, ?_⟩
        · simp only [List.map_cons, List.map_nil, hev, hevy]; rfl
        · show (0 : Int) ≤ ab_lin _
          simp only [ab_lin, k2, k3, k5, hm]
          omega
      obtain ⟨w1, w2, w3, w4, w5, w6, w7, w8, w9⟩ := hR2
      refine hk _ List.mem_cons_self (z.1 ++ [y2 * y], z.2) ws H locs ls (.int (y2 * y) :: r2) ⟨w1, w2, w3, ⟨w4.1, fun f hf => ?_⟩, w5, w6, w7, w8, w9⟩ (hl.ext ab_ext_v) ?_
      · rcases List.mem_cons.mp hf with rfl | hf
        · exact hf1
        · rcases List.mem_cons.mp hf with rfl | hf
          · exact hf2
          · exact w4.2 f hf
      · simp only [List.map_cons]
        rw [ab_evc (z := (z.1 ++ [y2 * y], z.2)) hev, ab_evs.ext (ab_ext_v (t := [y2 * y])) h5]
  · cases hr
end
