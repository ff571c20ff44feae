/-! Long constants of any size, kept: the words that the constructors lay. -/
noncomputable def ab_lcF (v : Int64) (np : Nat) : ab_P := fun _ env nl aw cl sl lv st => ab_fi v.toInt (fun n => some [((env, nl, aw, cl, sl), np, lv, .inr (.inl (.inl (none, n))) :: st)])
noncomputable def op_lorC (np : Nat) : ab_P := fun K env nl aw cl sl lv st => match st with
  | .inr (.inl (.inl (none, y))) :: .inr (.inl (.inl (none, x))) :: st => ab_lcF (Int64.ofInt x ||| Int64.ofInt y) np K env nl aw cl sl lv st
  | .inr (.inl _) :: .inr (.inl _) :: st => op_lfr np K env nl aw cl sl lv st
  | _ => none
noncomputable def op_lshlC (np : Nat) : ab_P := fun K env nl aw cl sl lv st => match st with
  | .inl (none, y) :: .inr (.inl (.inl (none, x))) :: st => ab_lcF (Int64.ofInt x <<< ((Int32.ofInt y).toInt64 &&& 63)) np K env nl aw cl sl lv st
  | .inl _ :: .inr (.inl _) :: st => op_lfr np K env nl aw cl sl lv st
  | _ => none
noncomputable def op_laldC (np : Nat) : ab_P := fun K env nl aw cl sl lv st => match st with
  | .inl (none, i) :: .inr (.inr (2, j)) :: st' => (match ab_get aw.1 j with
    | some (.inr (1, n, _, d, ov)) => bif ab_le 0 i && ab_le (i + 1) n && Nat.ble n 100000 then ab_atK d ov i.toNat (fun w => match w with
      | .inl (.inr (.inl (.inl (none, c)))) => some [((env, nl, aw, cl, sl), np, lv, .inr (.inl (.inl (none, c))) :: st')]
      | _ => op_lald np K env nl aw cl sl lv st) else none
    | _ => none)
  | _ => op_lald np K env nl aw cl sl lv st
noncomputable def op_lastC (np : Nat) : ab_P := fun _ env nl aw cl sl lv st => match st with
  | .inr (.inl v) :: .inl (none, i) :: .inr (.inr (2, j)) :: st => (match ab_get aw.1 j with
    | some (.inr (1, n, true, d, ov)) => bif ab_le 0 i && ab_le (i + 1) n && Nat.ble n 100000 && Nat.ble j 2147483647 then ab_fn i.toNat (fun q => ab_putK ov q (.inl (.inr (.inl v))) (fun ov => ab_setK aw.1 j (.inr (1, n, true, d, ov)) (fun cs => ab_dropK j aw.2 (fun fx => some [((env, nl, (cs, fx), cl, sl), np, lv, st)])))) else none
    | _ => none)
  | _ => none
section
variable {p : Program} {l : Launch} {e : Env} {R : Room} {s : State} {m : MethodId} {args : Array Value} {below : List Frame} {meth : Method} {c : Code} {Q : State → Prop} {cc : ByteArray} {own : String} {nL : Nat} {X : ab_X} {D : va_G} {z0 : ab_Z0} {cal : ab_K} {pc : Nat}
theorem so_lcF {np : Nat} {rest : List Value} {lv : List (Nat × ab_V)} {st : List ab_V} {env : ab_E} {nl : Nat} {aw : ab_H} {cl sl : Nat} {z : ab_Z} {ws : va_W} {H : Heap} {locs : List Loc} {ls : Array Slot} {r : List ab_S} {y : Int64} (hr : ab_lcF y np cal env nl aw cl sl lv st = some r) (hk : ∀ S ∈ r, ab_ok p l e R s m args below meth c Q nL X D z0 S) (hR : ab_R X D s z0 env nl aw z ws H locs) (hl : ab_lR X z nL ls lv) (hs : st.map (ab_ev X z) = rest.map some) : W p l e R s m args below meth c H locs cl sl Q (F0 m np ls (.long y :: rest)) := by
  unfold ab_lcF at hr
  rw [ab_fi_eq, Option.some.injEq] at hr
  subst hr
  exact hk _ List.mem_cons_self z ws H locs ls (.long y :: rest) hR hl (by simp only [List.map_cons, ab_ev, ab_evL, Option.map_some, ab_i64o]; rw [hs])
theorem so_lorC (C : ab_cx p R s m args c cc own nL X D) (d : decode cc pc = .ok (.lor, 1)) : ab_so p l e R s m args below meth c Q nL X D z0 cal pc (op_lorC (pc + 1)) := by
  intro env nl aw cl sl lv st r hr hk z ws H locs ls cst hR hl hs
  dsimp only at hR hl hs
  unfold op_lorC at hr
  split at hr
  · obtain ⟨x, r, rfl, h1, h2⟩ := ab_st1 hs
    obtain ⟨y, rfl, h3⟩ := ab_evl h1
    obtain ⟨x2, r2, rfl, h4, h5⟩ := ab_st1 h2
    obtain ⟨y2, rfl, h6⟩ := ab_evl h4
    simp only [ab_evL, Option.some.injEq] at h3 h6
    subst h3 h6
    exact lv_lor C.1 C.2.1 d (so_lcF hr hk hR hl h5)
  · obtain ⟨x, r, rfl, h1, h2⟩ := ab_st1 hs
    obtain ⟨y, rfl, h3⟩ := ab_evl h1
    obtain ⟨x2, r2, rfl, h4, h5⟩ := ab_st1 h2
    obtain ⟨y2, rfl, h6⟩ := ab_evl h4
    exact lv_lor C.1 C.2.1 d (so_lfr hr hk hR hl h5 _)
  · cases hr
theorem so_lshlC (C : ab_cx p R s m args c cc own nL X D) (d : decode cc pc = .ok (.lshl, 1)) : ab_so p l e R s m args below meth c Q nL X D z0 cal pc (op_lshlC (pc + 1)) := by
  intro env nl aw cl sl lv st r hr hk z ws H locs ls cst hR hl hs
  dsimp only at hR hl hs
  unfold op_lshlC at hr
  split at hr
  · obtain ⟨x, r, rfl, h1, h2⟩ := ab_st1 hs
    obtain ⟨y, rfl, h3⟩ := ab_evi h1
    obtain ⟨x2, r2, rfl, h4, h5⟩ := ab_st1 h2
    obtain ⟨y2, rfl, h6⟩ := ab_evl h4
    simp only [ab_evI, Option.some.injEq] at h3
    simp only [ab_evL, Option.some.injEq] at h6
    subst h3 h6
    exact lv_lshl C.1 C.2.1 d rfl (so_lcF hr hk hR hl h5)
  · obtain ⟨x, r, rfl, h1, h2⟩ := ab_st1 hs
    obtain ⟨y, rfl, h3⟩ := ab_evi h1
    obtain ⟨x2, r2, rfl, h4, h5⟩ := ab_st1 h2
    obtain ⟨y2, rfl, h6⟩ := ab_evl h4
    exact lv_lshl C.1 C.2.1 d rfl (so_lfr hr hk hR hl h5 _)
  · cases hr
theorem so_laldC (C : ab_cx p R s m args c cc own nL X D) (d : decode cc pc = .ok (.laload, 1)) : ab_so p l e R s m args below meth c Q nL X D z0 cal pc (op_laldC (pc + 1)) := by
  intro env nl aw cl sl lv st r hr hk
  unfold op_laldC at hr
  split at hr
  · rename_i i j st'
    rw [ab_get_eq] at hr
    split at hr
    · rename_i n fl dv ov hj
      cases hb : (ab_le 0 i && ab_le (i + 1) n && Nat.ble n 100000)
      · rw [hb] at hr; cases hr
      · rw [hb, cond_true, ab_atK_eq] at hr
        rw [Bool.and_eq_true, Bool.and_eq_true, ab_le_iff, ab_le_iff] at hb
        obtain ⟨⟨b1, b2⟩, b3⟩ := hb
        have hn9 := Nat.le_of_ble_eq_true b3
        have hn : n < 2 ^ 31 := Nat.lt_of_le_of_lt hn9 (by decide)
        split at hr
        · rename_i c0 hw
          cases hr
          intro z ws H locs ls cst hR hl hs
          dsimp only at hR hl hs
          obtain ⟨x, r0, rfl, h1, h2⟩ := ab_st1 hs
          obtain ⟨y, rfl, h3⟩ := ab_evi h1
          obtain ⟨x2, r1, rfl, h4, h5⟩ := ab_st1 h2
          obtain ⟨a, rfl, h6⟩ := ab_ref2 h4
          obtain ⟨a', e', c1, c2, cA, xx, rfl, ⟨f, rfl⟩, c5, c6⟩ := hR.cell hj
          cases Option.some.inj (c2.symm.trans h6)
          have hy : y.toInt = i := by
            have e9 := Option.some.inj h3
            rw [← e9]; exact ab_of i (by omega) (by omega)
          obtain ⟨k3, e1, k2⟩ := ab_ixin (y := y) (n := n) (by omega) (by omega) hn
          refine va_lald (cl := vwCl) (D := D) (tys := [(cA, .long)]) C.1 C.2.1 ((ab_cxE C).Kt c5) hR.2.2.2.2.1 j 0 c1 rfl k3 d ?_
          have h9 := c6 i.toNat (show i.toNat < n by omega)
          have h9 : ab_ho X z (ab_at dv ov i.toNat) (.long (f i.toNat)) := h9
          rw [hw] at h9
          have e0 : y.toNatClampNeg = i.toNat := by rw [Int32.toNatClampNeg, hy]
          rw [e0]
          exact hk _ List.mem_cons_self z ws H locs ls (.long (f i.toNat) :: r1) hR hl (by
            simp only [List.map_cons]
            rw [h5]
            exact congrArg (fun q => q :: r1.map some) h9)
        · exact so_lald C d env nl aw cl sl lv _ r hr hk
    · cases hr
  · exact so_lald C d env nl aw cl sl lv _ r hr hk
theorem so_lastC (C : ab_cx p R s m args c cc own nL X D) (d : decode cc pc = .ok (.lastore, 1)) : ab_so p l e R s m args below meth c Q nL X D z0 cal pc (op_lastC (pc + 1)) := by
  intro env nl aw cl sl lv st r hr hk z ws H locs ls cst hR hl hs
  dsimp only at hR hl hs
  unfold op_lastC at hr
  split at hr
  · rename_i v i j st'
    rw [ab_get_eq] at hr
    split at hr
    · rename_i n dv ov hj
      cases hb : (ab_le 0 i && ab_le (i + 1) n && Nat.ble n 100000 && Nat.ble j 2147483647)
      · rw [hb] at hr; cases hr
      · rw [hb, cond_true, ab_fn_eq, ab_putK_eq] at hr
        rw [Bool.and_eq_true, Bool.and_eq_true, Bool.and_eq_true, ab_le_iff, ab_le_iff] at hb
        obtain ⟨⟨⟨b1, b2⟩, b3⟩, b4⟩ := hb
        have hn9 := Nat.le_of_ble_eq_true b3
        have hn : n < 2 ^ 31 := Nat.lt_of_le_of_lt hn9 (by decide)
        have hj9 : j < 2147483648 := Nat.lt_succ_of_le (Nat.le_of_ble_eq_true b4)
        obtain ⟨x, r0, rfl, h1, h2⟩ := ab_st1 hs
        obtain ⟨y2, rfl, hv9⟩ := ab_evl h1
        obtain ⟨x3, r1, rfl, h4, h5⟩ := ab_st1 h2
        obtain ⟨y, rfl, h3⟩ := ab_evi h4
        obtain ⟨x4, r2, rfl, h7, h8⟩ := ab_st1 h5
        obtain ⟨a, rfl, h6⟩ := ab_ref2 h7
        obtain ⟨a', e', c1, c2, cA, xx, rfl, ⟨f, rfl⟩, c5, c6⟩ := hR.cell hj
        cases Option.some.inj (c2.symm.trans h6)
        have hy : y.toInt = i := by
          have e9 := Option.some.inj h3
          rw [← e9]; exact ab_of i (by omega) (by omega)
        have e0 : y.toNatClampNeg = i.toNat := by rw [Int32.toNatClampNeg, hy]
        obtain ⟨k3, e1, k2⟩ := ab_ixin (y := y) (n := n) (by omega) (by omega) hn
        refine va_last (cl := vwCl) (D := D) (tys := [(cA, .long)]) C.1 C.2.1 ((ab_cxE C).Kt c5) hR.2.2.2.2.1 hR.2.2.2.2.2.1 hR.2.2.2.2.2.2.1 j 0 c1 rfl k3 d (fun H1 locs1 g1 g2 g3 => ?_)
        simp only [ab_setK_eq, ab_dropK_eq, Option.some.injEq] at hr
        subst hr
        refine hk _ List.mem_cons_self z _ H1 locs1 ls r2 (hR.set hj c1 (c := .inr (1, n, true, dv, ab_put ov i.toNat (.inl (.inr (.inl v))))) ⟨cA, _, rfl, ⟨_, rfl⟩, c5, fun q hq => ?_⟩ rfl (ab_fC_nm rfl) (ab_fs.set hj9 hR.2.2.2.1.2) g1 g2 g3) hl h8
        dsimp only
        rw [ab_at_put]
        show ab_ho X z _ (.long (vp_updL f y.toNatClampNeg y2 q))
        unfold vp_updL
        rw [e0]
        by_cases hq9 : q = i.toNat
        · rw [if_pos hq9, if_pos hq9]; exact h1
        · rw [if_neg hq9, if_neg hq9]; exact c6 q hq
    · cases hr
  · cases hr
end
