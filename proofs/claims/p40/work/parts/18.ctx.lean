/-! Contexts: a call of a method by its context, its contract. -/
/-- rank; the template at the entry: variables, longs, facts, arguments, where the variables stand, longs' locals; cells; facts behind; the answer; templates; does it throw -/
abbrev ab_SM : Type := Nat × (ab_E × Nat × List ab_Y × List ab_V × List (Nat × Nat × Nat) × List Nat) × ab_Q × List ab_T × Bool
noncomputable def ab_smT (m : ab_SM) : ab_T := (m.2.1.1, m.2.1.2.1, (m.2.2.1.1, m.2.1.2.2.1), 0, ab_ent 0 m.2.1.2.2.2.1, m.2.1.2.2.2.2.1, m.2.1.2.2.2.2.2, 0, [])
noncomputable def ab_smS (m : ab_SM) : ab_S := ((m.2.1.1, m.2.1.2.1, (m.2.2.1.1, m.2.1.2.2.1), 0, 0), 0, ab_ent 0 m.2.1.2.2.2.1, [])
noncomputable def ab_smF (m : ab_SM) (fx : List ab_Y) : List ab_Y := bif ab_nwa m.2.2.1.1 then m.2.2.1.2.1 ++ fx else m.2.2.1.2.1
noncomputable def ab_smO (ret : Option FieldType) (m : ab_SM) (env : ab_E) (nl : Nat) (cs : List ab_C) (fx : List ab_Y) : List ab_O := (match ret with
  | some _ => (1, some (.inl (some env.length, 0)), (env ++ [(m.2.2.1.2.2.1, m.2.2.1.2.2.2)], nl, (cs, ab_smF m fx), 0, 0))
  | none => (2, none, (env, nl, (cs, ab_smF m fx), 0, 0))) :: (bif m.2.2.2.2 then [(3, none, (env, nl, (cs, ab_smF m fx), 0, 0))] else [])
noncomputable def ab_smK (ret : Option FieldType) (m : ab_SM) (env : ab_E) (nl : Nat) (aw : ab_H) (as : List ab_V) : Option (List ab_O) :=
  bif ab_subS ((env, nl, (ab_refs aw.1 m.2.2.1.1, aw.2), 0, 0), 0, ab_ent 0 as, []) (ab_smT m) (fun _ => true) then (match ab_mgs aw.1 m.2.2.1.1 with
    | some cs => some (ab_smO ret m env nl cs aw.2)
    | none => none) else none
/-- the facts of a context speak of no variable -/
noncomputable def ab_cf (f : ab_Y) : Bool := ab_subI [] f.2 f.2
/-- a context that was checked -/
noncomputable def ab_smC (tab : ab_tab) (cal : ab_K) (fuel : Nat) (ret : Option FieldType) (mc ms kd : Nat) (m : ab_SM) : Bool := (match ab_run tab cal fuel [ab_smS m] [] with
  | some os => ab_eds m.2.2.2.1 none ret m.2.2.1 mc ms os
  | none => false) && ab_ckA tab cal fuel m.2.2.2.1 ret m.2.2.1 mc ms m.2.2.2.1 && m.2.2.1.2.1.all ab_cf && (m.2.2.2.2 || Nat.beq kd 0)
section
variable {p : Program} {l : Launch} {e : Env} {R : Room} {s : State} {m : MethodId} {args : Array Value} {below : List Frame} {meth : Method} {c : Code} {cc : ByteArray} {own : String} {nL : Nat} {X : ab_X} {D : va_G}
variable {M : ab_SM} {ret : Option FieldType} {env : ab_E} {nl : Nat} {aw : ab_H} {z : ab_Z} {ws : va_W} {cs : List ab_C} {mc ms : Nat}
/-- at an end: what the caller knows -/
theorem ab_ctxU (hin : ab_inn X env nl z ws) (hw : ab_wR X z s aw ws) (hmg : ab_mgs aw.1 M.2.2.1.1 = some cs) (hcf : M.2.2.1.2.1.all ab_cf = true) {FL : List (List Bool)} (hFL : ∃ t, M.2.2.1.1.map ab_flg = FL ++ t) (hFLl : FL.length = aw.1.length)
    {zz z1 : ab_Z} {S : ab_S} {ws1 : va_W} {H1 : Heap} {locs1 : List Loc} (hR1 : ab_R X D s (zz, ws, FL) S.1.1 S.1.2.1 S.1.2.2.1 z1 ws1 H1 locs1) (hsub : ab_subCs S.1.1 [] S.1.2.2.1.1 M.2.2.1.1 = true) (hfx : ab_subFx [] S.1.2.2.1.2 M.2.2.1.2.1 = true) {zu : ab_Z} (hzu : ab_ext z zu) (hzu2 : zu.2.2 = z.2.2) {t : State} (hvm : s.vm.Alike t.vm) :
    ws1.map Prod.fst = zu.2.2 ∧ ab_e0 (z, ws, aw.1.map ab_flg) (cs, ab_smF M aw.2) zu ws1 ∧ ab_wR X zu t (cs, ab_smF M aw.2) ws1 := by
  obtain ⟨r1, r2, r3, r4, r5, r6, r7, r8, r9, ⟨tt, rt⟩, r11⟩ := hR1
  obtain ⟨m1, m2, m3⟩ := ab_mgs_at hmg
  have hv0 : ab_vr z1 z1 [] := ⟨rfl, fun u a h => by simp at h⟩
  obtain ⟨c1, -, c3⟩ := ab_subCs_ok (X := X) (s := s) r1 hv0 hsub
  have hlen : ws1.length = ws.length := by rw [← r4.1.1, ← c1, m2, hw.1.1]
  have hadr : ws1.map Prod.fst = ws.map Prod.fst := r11.len hlen
  have hz12 : zu.2.2 = z1.2.2 := by rw [hzu2, ← r3, hadr, hin.2.2.1]
  obtain ⟨t0, ht0⟩ := hFL
  have hflk : ∀ (k : Nat) (g : ab_C), M.2.2.1.1[k]? = some g → FL[k]? = some (ab_flg g) := by
    intro k g hg
    have hk : k < FL.length := by rw [hFLl, ← m2]; exact (List.getElem?_eq_some_iff.mp hg).1
    have h9 : (M.2.2.1.1.map ab_flg)[k]? = some (ab_flg g) := by rw [List.getElem?_map, hg]; rfl
    rw [ht0, List.getElem?_append_left hk] at h9
    exact h9
  have cell : ∀ (k : Nat) (c' : ab_C), cs[k]? = some c' → ∃ c g q q0, aw.1[k]? = some c ∧ M.2.2.1.1[k]? = some g ∧ ws[k]? = some q0 ∧ ws1[k]? = some q ∧ q.1 = q0.1 ∧ ab_fC (ab_flg g) q.2 q0.2 ∧ ab_cR X zu t c' q.2 ∧ ab_flg c' = ab_flg c := by
    intro k c' hk
    obtain ⟨c, g, a1, a2, a3⟩ := m3 k c' hk
    obtain ⟨q0, b1, b2⟩ := hw.1.2 k c a1
    obtain ⟨q, d1, d2, d3⟩ := r11 k q0 b1
    have hfc := d3 _ (hflk k g a2)
    obtain ⟨cS, e1, e2⟩ := c3 k g a2
    obtain ⟨q', f1, f2⟩ := r4.1.2 k cS e1
    cases Option.some.inj (f1.symm.trans d1)
    have hg9 := ((e2 _ f2).1).moved hvm
    obtain ⟨x1, x2⟩ := ab_mgC_ok hz12 hzu hvm a3 b2 hg9 hfc
    exact ⟨c, g, q, q0, a1, a2, b1, d1, d2, hfc, x1, x2⟩
  have hflg : cs.map ab_flg = aw.1.map ab_flg := by
    apply List.ext_getElem?
    intro j
    rw [List.getElem?_map, List.getElem?_map]
    cases hj : cs[j]? with
    | none => rw [List.getElem?_eq_none (by rw [← m1]; exact List.getElem?_eq_none_iff.mp hj)]
    | some c' =>
      obtain ⟨c, g, q, q0, a1, -, -, -, -, -, -, a8⟩ := cell j c' hj
      rw [a1]; simp [a8]
  have hback : ∀ (k : Nat) (q0 : Nat × va_E), ws[k]? = some q0 → ∃ c', cs[k]? = some c' := by
    intro k q0 hk
    have hk2 : k < cs.length := by rw [m1, hw.1.1]; exact (List.getElem?_eq_some_iff.mp hk).1
    exact ⟨_, List.getElem?_eq_getElem hk2⟩
  refine ⟨by rw [hadr, hin.2.2.1, hzu2], ⟨hzu, ⟨[], by rw [List.append_nil]; exact hflg⟩, fun k q0 hk => ?_⟩, ⟨by rw [m1, hw.1.1, hlen], fun k c' hk => ?_⟩, fun f hf => ?_⟩
  · obtain ⟨c', hc'⟩ := hback k q0 hk
    obtain ⟨c9, g, q, q0', a1, a2, a3, a4, a5, a6, a7, a8⟩ := cell k c' hc'
    cases Option.some.inj (a3.symm.trans hk)
    refine ⟨q, a4, a5, fun fl hfl => ?_⟩
    have e1 : fl = ab_flg c9 := by
      have h9 : (aw.1.map ab_flg)[k]? = some fl := hfl
      rw [List.getElem?_map, a1] at h9
      cases h9; rfl
    subst e1
    have hmc := (m3 k c' hc')
    obtain ⟨c8, g8, w1, w2, w3⟩ := hmc
    cases Option.some.inj (w1.symm.trans a1)
    cases Option.some.inj (w2.symm.trans a2)
    exact ab_fC_mono w3 a6
  · obtain ⟨c9, g, q, q0', a1, a2, a3, a4, a5, a6, a7, a8⟩ := cell k c' hk
    exact ⟨q, a4, a7⟩
  · have hpost : ∀ f ∈ M.2.2.1.2.1, ab_fs zu ws1 f := by
      intro f hf
      obtain ⟨xs, h1, h2⟩ := ab_subFx_ok hv0 r4.2 hfx f hf
      have hc9 : ab_subI [] f.2 f.2 = true := List.all_eq_true.mp hcf f hf
      have hv9 : ab_vr z1 zu [] := ⟨hz12, fun u a h => by simp at h⟩
      exact ⟨xs, ab_subI_ok hv9 hc9 h1, h2⟩
    have hf' : f ∈ ab_smF M aw.2 := hf
    unfold ab_smF at hf'
    cases hn : ab_nwa M.2.2.1.1
    · rw [hn, cond_false] at hf'
      exact hpost f hf'
    · rw [hn, cond_true] at hf'
      rcases List.mem_append.mp hf' with hf' | hf'
      · exact hpost f hf'
      · obtain ⟨xs, h1, h2⟩ := (hw.2 f hf').ext hzu
        refine ⟨xs, h1, h2.frame (fun x _ => ?_)⟩
        unfold ab_arr
        generalize x.toNatClampNeg = k
        cases hk : ws[k]? with
        | none => rw [List.getElem?_eq_none (by rw [hlen]; exact List.getElem?_eq_none_iff.mp hk)]
        | some q0 =>
          obtain ⟨c', hc'⟩ := hback k q0 hk
          obtain ⟨c9, g, q, q0', a1, a2, a3, a4, a5, a6, a7, a8⟩ := cell k c' hc'
          cases Option.some.inj (a3.symm.trans hk)
          rw [a4]
          obtain ⟨qa, qe⟩ := q
          obtain ⟨pa, pe⟩ := q0
          dsimp only at a5 a6
          cases pe with
          | inr o =>
            obtain ⟨vs, e9, -⟩ := a6
            subst e9
            rfl
          | inl o =>
            have e9 : qe = .inl o := by
              rcases g with o9 | ⟨t9, n9, fl9, d9, ov9⟩
              · exfalso
                obtain ⟨cS, e1, e2⟩ := c3 k _ a2
                obtain ⟨q', f1, f2⟩ := r4.1.2 k cS e1
                obtain ⟨vs, e8, -⟩ := (e2 _ f2).1
                obtain ⟨c8, g8, w1, w2, w3⟩ := m3 k c' hc'
                cases Option.some.inj (w1.symm.trans a1)
                cases Option.some.inj (w2.symm.trans a2)
                obtain ⟨q8, b1, b2⟩ := hw.1.2 k c9 a1
                cases Option.some.inj (b1.symm.trans hk)
                rcases c9 with o8 | a8
                · obtain ⟨vs8, e7, -⟩ := b2
                  cases e7
                · simp [ab_mgC] at w3
              · have := ab_nwa_at hn k t9 n9 fl9 d9 ov9 a2
                subst this
                exact a6 rfl
            subst e9
            rw [a5]
end
