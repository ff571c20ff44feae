/-! Shifts and 'and' of long constants of an int's size. -/
noncomputable def ab_lcS (v : Int64) (np : Nat) : ab_P := fun K env nl aw cl sl lv st => ab_fi v.toInt (fun n => bif ab_ie (Int32.ofInt n).toInt64.toInt n then some [((env, nl, aw, cl, sl), np, lv, .inr (.inl (.inl (none, n))) :: st)] else op_lfr np K env nl aw cl sl lv st)
noncomputable def op_lshC (np : Nat) : ab_P := fun K env nl aw cl sl lv st => match st with
  | .inl (none, y) :: .inr (.inl (.inl (none, x))) :: st => ab_lcS (Int64.ofInt x >>> ((Int32.ofInt y).toInt64 &&& 63)) np K env nl aw cl sl lv st
  | .inl _ :: .inr (.inl _) :: st => op_lfr np K env nl aw cl sl lv st
  | _ => none
noncomputable def op_landC (np : Nat) : ab_P := fun K env nl aw cl sl lv st => match st with
  | .inr (.inl (.inl (none, y))) :: .inr (.inl (.inl (none, x))) :: st => ab_lcS (Int64.ofInt x &&& Int64.ofInt y) np K env nl aw cl sl lv st
  | .inr (.inl _) :: .inr (.inl _) :: st => op_lfr np K env nl aw cl sl lv st
  | _ => none
section
variable {p : Program} {l : Launch} {e : Env} {R : Room} {s : State} {m : MethodId} {args : Array Value} {below : List Frame} {meth : Method} {c : Code} {Q : State → Prop} {cc : ByteArray} {own : String} {nL : Nat} {X : ab_X} {D : va_G} {z0 : ab_Z0} {cal : ab_K} {pc : Nat}
theorem so_lcS {np : Nat} {rest : List Value} {lv : List (Nat × ab_V)} {st : List ab_V} {env : ab_E} {nl : Nat} {aw : ab_H} {cl sl : Nat} {z : ab_Z} {ws : va_W} {H : Heap} {locs : List Loc} {ls : Array Slot} {r : List ab_S} {y : Int64} (hr : ab_lcS y np cal env nl aw cl sl lv st = some r) (hk : ∀ S ∈ r, ab_ok p l e R s m args below meth c Q nL X D z0 S) (hR : ab_R X D s z0 env nl aw z ws H locs) (hl : ab_lR X z nL ls lv) (hs : st.map (ab_ev X z) = rest.map some) : W p l e R s m args below meth c H locs cl sl Q (F0 m np ls (.long y :: rest)) := by
  unfold ab_lcS at hr
  rw [ab_fi_eq] at hr
  cases hb : ab_ie (Int32.ofInt y.toInt).toInt64.toInt y.toInt
  · rw [hb, cond_false] at hr
    exact so_lfr hr hk hR hl hs y
  · rw [hb, cond_true, Option.some.injEq] at hr
    subst hr
    have he : Int64.ofInt y.toInt = y := ab_i64o y
    exact hk _ List.mem_cons_self z ws H locs ls (.long y :: rest) hR hl (by simp only [List.map_cons, ab_ev, ab_evL, Option.map_some, he]; rw [hs])
theorem so_lshrC (C : ab_cx p R s m args c cc own nL X D) (d : decode cc pc = .ok (.lshr, 1)) : ab_so p l e R s m args below meth c Q nL X D z0 cal pc (op_lshC (pc + 1)) := by
  intro env nl aw cl sl lv st r hr hk z ws H locs ls cst hR hl hs
  dsimp only at hR hl hs
  unfold op_lshC at hr
  split at hr
  · obtain ⟨x, r, rfl, h1, h2⟩ := ab_st1 hs
    obtain ⟨y, rfl, h3⟩ := ab_evi h1
    obtain ⟨x2, r2, rfl, h4, h5⟩ := ab_st1 h2
    obtain ⟨y2, rfl, h6⟩ := ab_evl h4
    simp only [ab_evI, Option.some.injEq] at h3
    simp only [ab_evL, Option.some.injEq] at h6
    subst h3 h6
    exact lv_lshr C.1 C.2.1 d rfl (so_lcS hr hk hR hl h5)
  · obtain ⟨x, r, rfl, h1, h2⟩ := ab_st1 hs
    obtain ⟨y, rfl, h3⟩ := ab_evi h1
    obtain ⟨x2, r2, rfl, h4, h5⟩ := ab_st1 h2
    obtain ⟨y2, rfl, h6⟩ := ab_evl h4
    exact lv_lshr C.1 C.2.1 d rfl (so_lfr hr hk hR hl h5 _)
  · cases hr
theorem so_landC (C : ab_cx p R s m args c cc own nL X D) (d : decode cc pc = .ok (.land, 1)) : ab_so p l e R s m args below meth c Q nL X D z0 cal pc (op_landC (pc + 1)) := by
  intro env nl aw cl sl lv st r hr hk z ws H locs ls cst hR hl hs
  dsimp only at hR hl hs
  unfold op_landC at hr
  split at hr
  · obtain ⟨x, r, rfl, h1, h2⟩ := ab_st1 hs
    obtain ⟨y, rfl, h3⟩ := ab_evl h1
    obtain ⟨x2, r2, rfl, h4, h5⟩ := ab_st1 h2
    obtain ⟨y2, rfl, h6⟩ := ab_evl h4
    simp only [ab_evL, Option.some.injEq] at h3 h6
    subst h3 h6
    exact lv_land C.1 C.2.1 d (so_lcS hr hk hR hl h5)
  · obtain ⟨x, r, rfl, h1, h2⟩ := ab_st1 hs
    obtain ⟨y, rfl, h3⟩ := ab_evl h1
    obtain ⟨x2, r2, rfl, h4, h5⟩ := ab_st1 h2
    obtain ⟨y2, rfl, h6⟩ := ab_evl h4
    exact lv_land C.1 C.2.1 d (so_lfr hr hk hR hl h5 _)
  · cases hr
end
