/-! The script's ints behind other variables. -/
noncomputable def op_sldW (o np : Nat) : ab_P := fun _ env nl aw cl sl lv st => match st with
  | .inl (some 0, c) :: .inr (.inr (1, _)) :: st => bif ab_le 0 c && ab_le c 5 then ab_fn (c.toNat + o) (fun v => some [((env, nl, aw, cl, sl), np, lv, .inl (some v, 0) :: st)]) else none
  | _ => none
section
variable {p : Program} {l : Launch} {e : Env} {R : Room} {s : State} {m : MethodId} {args : Array Value} {below : List Frame} {meth : Method} {c : Code} {Q : State → Prop} {cc : ByteArray} {own : String} {nL : Nat} {X : ab_X} {D : va_G} {z0 : ab_Z0} {cal : ab_K} {pc : Nat}
theorem so_sldW {o : Nat} (C : ab_cx p R s m args c cc own nL X D) {i0 : Nat} (h0 : z0.1.1[0]? = some (nI i0)) (hv : ∀ j : Nat, j < 6 → z0.1.1[j + o]? = some (X.2.1 (i0 + j))) (hi0 : i0 + 6 ≤ X.1.2.1) (hL : X.1.2.1 ≤ 3072) (d : decode cc pc = .ok (.iaload, 1)) : ab_so p l e R s m args below meth c Q nL X D z0 cal pc (op_sldW o (pc + 1)) := by
  intro env nl aw cl sl lv st r hr hk z ws H locs ls cst hR hl hs
  dsimp only at hR hl hs
  unfold op_sldW at hr
  split at hr
  · rename_i c0 j st'
    cases hb : (ab_le 0 c0 && ab_le c0 5)
    · rw [hb] at hr; cases hr
    · rw [hb, cond_true, ab_fn_eq] at hr
      cases hr
      rw [Bool.and_eq_true, ab_le_iff, ab_le_iff] at hb
      obtain ⟨x, r0, rfl, h1, h2⟩ := ab_st1 hs
      obtain ⟨y, rfl, h3⟩ := ab_evi h1
      obtain ⟨x2, r1, rfl, h4, h5⟩ := ab_st1 h2
      cases h4
      obtain ⟨⟨⟨t, ht⟩, -, -⟩, -⟩ := hR.2.2.2.2.2.2.2.2
      have e0 : z.1[0]? = some (nI i0) := by rw [ht]; exact ab_get_app h0
      have e9 : z.1[c0.toNat + o]? = some (X.2.1 (i0 + c0.toNat)) := by rw [ht]; exact ab_get_app (hv c0.toNat (by omega))
      simp only [ab_evI, e0, Option.map_some, Option.some.injEq] at h3
      have e1 : (nI i0).toInt = (i0 : Int) := nI_toInt (by omega)
      have e2 : y.toInt = i0 + c0 := by
        rw [← h3, ab_addI _ _ (by omega) (by omega), e1]
      obtain ⟨hin, -, -⟩ := ab_ixin (y := y) (n := X.1.2.1) (by omega) (by omega) (by omega)
      obtain ⟨q1, q2⟩ := (ab_cxE C).2.2.2.1
      refine va_sld (A := ab_Ar X) C.1 C.2.1 q1 (Nat.lt_of_lt_of_le q2 (ab_cxE C).1) (Nat.not_le.mpr q2) hR.2.2.2.2.2.2.1 hin d ?_
      have e3 : y.toInt.toNat = i0 + c0.toNat := by omega
      have e4 : y.toNatClampNeg = i0 + c0.toNat := by rw [Int32.toNatClampNeg]; exact e3
      refine hk _ List.mem_cons_self z ws H locs ls (.int _ :: r1) hR hl ?_
      simp only [List.map_cons]
      rw [h5]
      refine congrArg (· :: _) (ab_evc ?_)
      simp only [ab_evI, e9, Option.map_some]
      first
        | (rw [e4]; simp)
        | (rw [e3]; simp)
        | simp [e4]
  · cases hr
end
theorem un_sldW {a b o np : Nat} : ab_un a b (op_sldW o np) (op_sldW o np) := by
  intro cal env nl aw cl sl lv st r h
  unfold op_sldW at h ⊢
  split at h
  · rename_i c0 j st'
    cases hn : (ab_le 0 c0 && ab_le c0 5)
    · rw [hn] at h; cases h
    · rw [hn, cond_true, ab_fn_eq] at h
      rw [cond_true, ab_fn_eq]
      cases h; rfl
  · cases h
