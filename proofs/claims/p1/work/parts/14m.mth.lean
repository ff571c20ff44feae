/-! Math.min of an int that is never the larger, Math.abs of one never below 0. -/
def op_mmin (mc ms np : Nat) : ab_P := fun _ env nl aw cl sl lv st => match st with
  | .inl y :: .inl x :: st => bif Nat.ble (ab_csum st) 8 && Nat.ble cl mc && Nat.ble sl ms then ab_ivK env x (fun _ xh => ab_ivK env y (fun yl _ => bif ab_le xh yl then some [((env, nl, aw, cl, sl), np, lv, .inl x :: st)] else none)) else none
  | _ => none
def op_mabs (mc ms np : Nat) : ab_P := fun _ env nl aw cl sl lv st => match st with
  | .inl x :: st => bif Nat.ble (ab_csum st) 8 && Nat.ble cl mc && Nat.ble sl ms then ab_ivK env x (fun xl _ => bif ab_le 0 xl then some [((env, nl, aw, cl, sl), np, lv, .inl x :: st)] else none) else none
  | _ => none
theorem tg_mmin : Cond.code Lib.Math.min.name Lib.Math.min.code 2 (some .int) ∈ ab_TG := ab_in (tk_3 201 (by decide +kernel)) (by decide +kernel)
theorem tg_mabs : Cond.code Lib.Math.abs.name Lib.Math.abs.code 1 (some .int) ∈ ab_TG := ab_in (tk_3 148 (by decide +kernel)) (by decide +kernel)
section
variable {p : Program} {l : Launch} {e : Env} {R : Room} {s : State} {m : MethodId} {args : Array Value} {below : List Frame} {meth : Method} {c : Code} {Q : State → Prop} {cc : ByteArray} {own : String} {nL : Nat} {X : ab_X} {D : va_G} {z0 : ab_Z} {cal : ab_K} {pc : Nat}
theorem so_mmin (C : ab_cx p R s m args c cc own nL X D) {i mc ms : Nat} (hmc : mc ≤ R.cells) (hms : ms ≤ R.slots) (h1 : Cond.methodLink own i Lib.Math.min.name ∈ ab_TG) (h2 : Cond.static Lib.Math.min.name ∈ ab_TG) (h3 : Cond.initialized "java/lang/Math" ∈ ab_TG) (d : decode cc pc = .ok (.invokestatic i, 3)) : ab_so p l e R s m args below meth c Q nL X D z0 cal pc (op_mmin mc ms (pc + 3)) := by
  intro env nl aw cl sl lv st r hr hk z ws H locs ls cst hR hl hs
  dsimp only at hR hl hs
  unfold op_mmin at hr
  split at hr
  · rename_i y x st'
    cases hb : (Nat.ble (ab_csum st') 8 && Nat.ble cl mc && Nat.ble sl ms)
    · rw [hb] at hr; cases hr
    · rw [hb, cond_true, ab_ivK_eq, ab_ivK_eq] at hr
      rw [Bool.and_eq_true, Bool.and_eq_true] at hb
      obtain ⟨⟨b1, b2⟩, b3⟩ := hb
      obtain ⟨x1, r1, rfl, p1, q1⟩ := ab_st1 hs
      obtain ⟨y1, rfl, u1⟩ := ab_evi p1
      obtain ⟨x2, r2, rfl, p2, q2⟩ := ab_st1 q1
      obtain ⟨y2, rfl, u2⟩ := ab_evi p2
      have i1 := ab_iv_spec hR.1 u1
      have i2 := ab_iv_spec hR.1 u2
      cases hc : ab_le (ab_iv env x).2 (ab_iv env y).1
      · rw [hc] at hr; cases hr
      · rw [hc, cond_true] at hr
        rw [ab_le_iff] at hc
        cases hr
        have hcs := ab_csum_ok (ab_cxE C).2.2.2.2.1 q2
        have hb1 := Nat.le_of_ble_eq_true b1
        have hn : ¬ y1 < y2 := fun h => by
          have := Int32.lt_iff_toInt_lt.mp h
          omega
        have hfr := C.2.2.2.2.2.2.1
        have hlo := C.2.2.2.2.2.2.2
        refine va_mmin (x := y2) (y := y1) C.1 C.2.1 (C.2.2.1.trans hl.1.symm) C.2.2.2.1 (C.2.2.2.2.1 _ h1) (C.2.2.2.2.1 _ h2) (C.2.2.2.2.1 _ h3) (C.2.2.2.2.1 _ tg_mmin) (by omega) (by rw [hcs]; omega) (Nat.le_trans (Nat.le_of_ble_eq_true b2) hmc) (Nat.le_trans (Nat.le_of_ble_eq_true b3) hms) d ?_
        rw [if_neg hn]
        exact hk _ List.mem_cons_self z ws H locs ls (.int y2 :: r2) hR hl (by simp only [List.map_cons, p2]; rw [q2])
  · cases hr
theorem so_mabs (C : ab_cx p R s m args c cc own nL X D) {i mc ms : Nat} (hmc : mc ≤ R.cells) (hms : ms ≤ R.slots) (h1 : Cond.methodLink own i Lib.Math.abs.name ∈ ab_TG) (h2 : Cond.static Lib.Math.abs.name ∈ ab_TG) (h3 : Cond.initialized "java/lang/Math" ∈ ab_TG) (d : decode cc pc = .ok (.invokestatic i, 3)) : ab_so p l e R s m args below meth c Q nL X D z0 cal pc (op_mabs mc ms (pc + 3)) := by
  intro env nl aw cl sl lv st r hr hk z ws H locs ls cst hR hl hs
  dsimp only at hR hl hs
  unfold op_mabs at hr
  split at hr
  · rename_i x st'
    cases hb : (Nat.ble (ab_csum st') 8 && Nat.ble cl mc && Nat.ble sl ms)
    · rw [hb] at hr; cases hr
    · rw [hb, cond_true, ab_ivK_eq] at hr
      rw [Bool.and_eq_true, Bool.and_eq_true] at hb
      obtain ⟨⟨b1, b2⟩, b3⟩ := hb
      obtain ⟨x2, r2, rfl, p2, q2⟩ := ab_st1 hs
      obtain ⟨y2, rfl, u2⟩ := ab_evi p2
      have i2 := ab_iv_spec hR.1 u2
      cases hc : ab_le 0 (ab_iv env x).1
      · rw [hc] at hr; cases hr
      · rw [hc, cond_true] at hr
        rw [ab_le_iff] at hc
        cases hr
        have hcs := ab_csum_ok (ab_cxE C).2.2.2.2.1 q2
        have hb1 := Nat.le_of_ble_eq_true b1
        have hn : (0 : Int32) ≤ y2 := Int32.le_iff_toInt_le.mpr (by
          have : (0 : Int32).toInt = 0 := by decide +kernel
          omega)
        have hfr := C.2.2.2.2.2.2.1
        have hlo := C.2.2.2.2.2.2.2
        refine va_mabs (x := y2) C.1 C.2.1 (C.2.2.1.trans hl.1.symm) C.2.2.2.1 (C.2.2.2.2.1 _ h1) (C.2.2.2.2.1 _ h2) (C.2.2.2.2.1 _ h3) (C.2.2.2.2.1 _ tg_mabs) (by omega) (by rw [hcs]; omega) (Nat.le_trans (Nat.le_of_ble_eq_true b2) hmc) (Nat.le_trans (Nat.le_of_ble_eq_true b3) hms) d ?_
        rw [if_pos hn]
        exact hk _ List.mem_cons_self z ws H locs ls (.int y2 :: r2) hR hl (by simp only [List.map_cons, p2]; rw [q2])
  · cases hr
end
