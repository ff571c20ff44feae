/-! Preludes: ahead of an instruction, what is known is split into cases, or told more narrowly by facts. -/
abbrev ab_PR : Type := ab_E → ab_H → List (Nat × ab_V) → List ab_V → Option (List (ab_E × List ab_Y))
noncomputable def ab_preK (f : ab_P) (cal : ab_K) (nl : Nat) (cs : List ab_C) (cl sl : Nat) (lv : List (Nat × ab_V)) (st : List ab_V) : List (ab_E × List ab_Y) → ab_A
  | [] => some []
  | (env, fx) :: r => (match f cal env nl (cs, fx) cl sl lv st with
    | some a => (match ab_preK f cal nl cs cl sl lv st r with
      | some b => some (a ++ b)
      | none => none)
    | none => none)
noncomputable def op_pre (g : ab_PR) (f : ab_P) : ab_P := fun cal env nl aw cl sl lv st => match g env aw lv st with
  | some l => ab_preK f cal nl aw.1 cl sl lv st l
  | none => none
theorem ab_preK_ok {f : ab_P} {cal : ab_K} {nl : Nat} {cs : List ab_C} {cl sl : Nat} {lv : List (Nat × ab_V)} {st : List ab_V} : ∀ {l : List (ab_E × List ab_Y)} {r : List ab_S}, ab_preK f cal nl cs cl sl lv st l = some r → ∀ q ∈ l, ∃ a, f cal q.1 nl (cs, q.2) cl sl lv st = some a ∧ ∀ S ∈ a, S ∈ r
  | [], r, _, q, hq => by cases hq
  | (env, fx) :: t, r, h, q, hq => by
    simp only [ab_preK] at h
    split at h
    · rename_i a ha
      split at h
      · rename_i b hb
        cases h
        rcases List.mem_cons.mp hq with rfl | hq
        · exact ⟨a, ha, fun S hS => List.mem_append_left _ hS⟩
        · obtain ⟨a', h1, h2⟩ := ab_preK_ok hb q hq
          exact ⟨a', h1, fun S hS => List.mem_append_right _ (h2 S hS)⟩
      · cases h
    · cases h
/-- one of the cases holds -/
noncomputable def ab_prs (X : ab_X) (g : ab_PR) : Prop := ∀ (env : ab_E) (aw : ab_H) (lv : List (Nat × ab_V)) (st : List ab_V) (l : List (ab_E × List ab_Y)) (z : ab_Z) (ws : va_W) (s : State) (cst : List Value), g env aw lv st = some l → ab_eR env z.1 → ab_wR X z s aw ws → (∀ q ∈ lv, ∃ v, ab_ev X z q.2 = some v) → st.map (ab_ev X z) = cst.map some → ∃ q ∈ l, ab_eR q.1 z.1 ∧ ∀ f ∈ q.2, ab_fs z ws f
section
variable {p : Program} {l : Launch} {e : Env} {R : Room} {s : State} {m : MethodId} {args : Array Value} {below : List Frame} {meth : Method} {c : Code} {Q : State → Prop} {cc : ByteArray} {own : String} {nL : Nat} {X : ab_X} {D : va_G} {z0 : ab_Z0} {cal : ab_K} {pc : Nat}
theorem so_pre {g : ab_PR} {f : ab_P} (hg : ab_prs X g) (hf : ab_so p l e R s m args below meth c Q nL X D z0 cal pc f) : ab_so p l e R s m args below meth c Q nL X D z0 cal pc (op_pre g f) := by
  intro env nl aw cl sl lv st r hr hk z ws H locs ls cst hR hl hs
  dsimp only at hR hl hs
  unfold op_pre at hr
  split at hr
  · rename_i L hL
    obtain ⟨h1, h2, h3, h4, h5, h6, h7, h8, h9⟩ := hR
    obtain ⟨q, hq, g1, g2⟩ := hg env aw lv st L z ws s cst hL h1 h4 (fun q hq => by obtain ⟨v, a, -⟩ := hl.2.2 q hq; exact ⟨v, a⟩) hs
    obtain ⟨a, k1, k2⟩ := ab_preK_ok hr q hq
    exact hf q.1 nl (aw.1, q.2) cl sl lv st a k1 (fun S hS => hk S (k2 S hS)) z ws H locs ls cst ⟨g1, h2, h3, ⟨h4.1, g2⟩, h5, h6, h7, h8, h9⟩ hl hs
  · cases hr
end
/-- an int by its values -/
noncomputable def ab_spl (env : ab_E) (a : ab_I) (fx : List ab_Y) : Nat → Int → List (ab_E × List ab_Y)
  | 0, _ => []
  | n + 1, c => match ab_rf env a c c with
    | some e => (e, fx) :: ab_fi (c + 1) (fun c => ab_spl env a fx n c)
    | none => ab_fi (c + 1) (fun c => ab_spl env a fx n c)
theorem ab_spl_ok {env : ab_E} {a : ab_I} {fx : List ab_Y} {rho : List Int32} (hR : ab_eR env rho) {x : Int32} (hx : ab_evI rho a = some x) : ∀ {n : Nat} {c : Int}, c ≤ x.toInt → x.toInt < c + n → ∃ q ∈ ab_spl env a fx n c, ab_eR q.1 rho ∧ q.2 = fx
  | 0, c, h1, h2 => by omega
  | n + 1, c, h1, h2 => by
    by_cases hc : x.toInt = c
    · obtain ⟨e1, g1, g2⟩ := ab_rf_spec hR hx (lo := c) (hi := c) h1 (by omega)
      refine ⟨(e1, fx), ?_, g2, rfl⟩
      simp only [ab_spl, g1]
      exact List.mem_cons_self
    · obtain ⟨q, hq, h3⟩ := ab_spl_ok hR hx (fx := fx) (n := n) (c := c + 1) (by omega) (by omega)
      refine ⟨q, ?_, h3⟩
      simp only [ab_spl, ab_fi_eq]
      split
      · exact List.mem_cons_of_mem _ hq
      · exact hq
noncomputable def ab_splI (env : ab_E) (fx : List ab_Y) (a : ab_I) : List (ab_E × List ab_Y) := ab_ivK env a (fun lo hi => bif ab_le (hi - lo) 48 then ab_spl env a fx (hi - lo + 1).toNat lo else [(env, fx)])
theorem ab_splI_ok {env : ab_E} {a : ab_I} {fx : List ab_Y} {rho : List Int32} (hR : ab_eR env rho) {x : Int32} (hx : ab_evI rho a = some x) : ∃ q ∈ ab_splI env fx a, ab_eR q.1 rho ∧ q.2 = fx := by
  unfold ab_splI
  rw [ab_ivK_eq]
  obtain ⟨h1, h2⟩ := ab_iv_spec hR hx
  cases ab_le ((ab_iv env a).2 - (ab_iv env a).1) 48
  · exact ⟨(env, fx), List.mem_cons_self, hR, rfl⟩
  · exact ab_spl_ok hR hx h1 (by omega)
/-- a local int by its values -/
noncomputable def pr_loc (i : Nat) : ab_PR := fun env aw lv _ => match ab_lk lv i with
  | some (.inl a) => some (ab_splI env aw.2 a)
  | _ => none
theorem pr_loc_ok {X : ab_X} {i : Nat} : ab_prs X (pr_loc i) := by
  intro env aw lv st l z ws s cst h h1 h2 h3 h4
  unfold pr_loc at h
  split at h
  · rename_i a ha
    cases h
    obtain ⟨v, hv⟩ := h3 _ (ab_lk_mem ha)
    obtain ⟨y, -, hy⟩ := ab_evi hv
    obtain ⟨q, hq, g1, g2⟩ := ab_splI_ok (fx := aw.2) h1 hy
    exact ⟨q, hq, g1, fun f hf => h2.2 f (g2 ▸ hf)⟩
  · cases h
/-- the second int of the stack, below 0 or not -/
noncomputable def ab_cut2 (env : ab_E) (fx : List ab_Y) (a : ab_I) : List (ab_E × List ab_Y) := match ab_rf env a (-2147483648) (-1), ab_rf env a 0 2147483647 with
  | some e, some e' => [(e, fx), (e', fx)]
  | some e, none => [(e, fx)]
  | none, some e' => [(e', fx)]
  | none, none => []
noncomputable def pr_sg2 : ab_PR := fun env aw _ st => match st with
  | _ :: .inl a :: _ => some (ab_cut2 env aw.2 a)
  | _ => none
theorem pr_sg2_ok {X : ab_X} : ab_prs X pr_sg2 := by
  intro env aw lv st l z ws s cst h h1 h2 h3 h4
  unfold pr_sg2 at h
  split at h
  · rename_i v a st'
    cases h
    obtain ⟨x, r0, rfl, e1, e2⟩ := ab_st1 h4
    obtain ⟨x2, r1, rfl, e3, -⟩ := ab_st1 e2
    obtain ⟨y, -, hy⟩ := ab_evi e3
    have hi32 := ab_i32 y
    unfold ab_cut2
    by_cases hn : y.toInt < 0
    · obtain ⟨e, g1, g2⟩ := ab_rf_spec h1 hy (lo := -2147483648) (hi := -1) (by omega) (by omega)
      rw [g1]
      cases ab_rf env a 0 2147483647
      · exact ⟨(e, aw.2), List.mem_cons_self, g2, fun f hf => h2.2 f hf⟩
      · exact ⟨(e, aw.2), List.mem_cons_self, g2, fun f hf => h2.2 f hf⟩
    · obtain ⟨e, g1, g2⟩ := ab_rf_spec h1 hy (lo := 0) (hi := 2147483647) (by omega) (by omega)
      rw [g1]
      cases ab_rf env a (-2147483648) (-1)
      · exact ⟨(e, aw.2), List.mem_cons_self, g2, fun f hf => h2.2 f hf⟩
      · exact ⟨(e, aw.2), List.mem_cons_of_mem _ List.mem_cons_self, g2, fun f hf => h2.2 f hf⟩
  · cases h
