/-! x & 255 told exactly; facts that are sums narrow intervals. -/
theorem ab_a255 (u : Int32) : (u &&& Int32.ofInt 255).toInt = u.toInt % 256 := by
  have hb : (u &&& Int32.ofInt 255).toBitVec.toNat = u.toBitVec.toNat % 256 := by
    rw [Int32.toBitVec_and, BitVec.toNat_and]
    have e : (Int32.ofInt 255).toBitVec.toNat = 2 ^ 8 - 1 := by decide
    rw [e, Nat.and_two_pow_sub_one_eq_mod]
  have h2 : (u &&& Int32.ofInt 255).toInt = ((u &&& Int32.ofInt 255).toBitVec.toNat : Int) := by
    show (u &&& Int32.ofInt 255).toBitVec.toInt = _
    rw [BitVec.toInt_eq_toNat_of_lt (by omega)]
  have h3 : u.toInt = u.toBitVec.toInt := rfl
  rw [h2, hb, h3, BitVec.toInt_eq_toNat_cond]
  have := u.toBitVec.isLt
  split <;> omega
noncomputable def ab_an8K {β : Type} (env : ab_E) (x y : ab_I) (k : ab_E → ab_I → β) : β := ab_cnK env x (fun x => ab_cnK env y (fun y => match x, y with
  | (some v, c), (none, d) => bif ab_ie d 255 then ab_ivK env (some v, c) (fun lo hi => bif ab_le 0 lo && ab_le hi 255 then k env (some v, c) else bif ab_le (-256) lo && ab_le hi (-1) then ab_addK env (some v, c) (none, 256) k else ab_andK env (some v, c) (none, d) k) else ab_andK env (some v, c) (none, d) k
  | x, y => ab_andK env x y k))
theorem ab_res.tr {env : ab_E} {x y x' y' : ab_I} {f : Int32 → Int32 → Int32} {env' : ab_E} {a' : ab_I} (hx : ∀ (rho : List Int32) (u : Int32), ab_eR env rho → ab_evI rho x = some u → ab_evI rho x' = some u) (hy : ∀ (rho : List Int32) (u : Int32), ab_eR env rho → ab_evI rho y = some u → ab_evI rho y' = some u) (h : ab_res env x' y' f env' a') : ab_res env x y f env' a' :=
  fun rho u v hR hu hv => h rho u v hR (hx rho u hR hu) (hy rho v hR hv)
theorem ab_an8K_eq {β : Type} (env : ab_E) (x y : ab_I) : ∃ env' a', (∀ k : ab_E → ab_I → β, ab_an8K env x y k = k env' a') ∧ ab_res env x y (fun u v => u &&& v) env' a' := by
  obtain ⟨x', hx, hx2⟩ := ab_cnK_eq (β := β) env x
  obtain ⟨y', hy, hy2⟩ := ab_cnK_eq (β := β) env y
  have hand : ∀ x9 y9 : ab_I, (∀ k : ab_E → ab_I → β, ab_an8K env x y k = ab_andK env x9 y9 k) → x9 = x' → y9 = y' → ∃ env' a', (∀ k : ab_E → ab_I → β, ab_an8K env x y k = k env' a') ∧ ab_res env x y (fun u v => u &&& v) env' a' := by
    intro x9 y9 he e1 e2
    subst e1 e2
    obtain ⟨env', a', h1, h2⟩ := ab_andK_eq (β := β) env x9 y9
    exact ⟨env', a', fun k => by rw [he, h1], h2.tr hx2 hy2⟩
  obtain ⟨v, c⟩ := x'
  obtain ⟨w, d⟩ := y'
  cases v with
  | none => exact hand _ _ (fun k => by simp only [ab_an8K, hx, hy]) rfl rfl
  | some v =>
    cases w with
    | some w => exact hand _ _ (fun k => by simp only [ab_an8K, hx, hy]) rfl rfl
    | none =>
      cases hd : ab_ie d 255
      · exact hand _ _ (fun k => by simp only [ab_an8K, hx, hy, hd, cond_false]) rfl rfl
      · have hd2 := ab_ie_iff.mp hd
        subst hd2
        cases h1 : (ab_le 0 (ab_iv env (some v, c)).1 && ab_le (ab_iv env (some v, c)).2 255)
        · cases h2 : (ab_le (-256) (ab_iv env (some v, c)).1 && ab_le (ab_iv env (some v, c)).2 (-1))
          · exact hand _ _ (fun k => by simp only [ab_an8K, hx, hy, hd, cond_true, ab_ivK_eq, h1, h2, cond_false]) rfl rfl
          · obtain ⟨env', a', g1, g2⟩ := ab_addK_eq (β := β) env (some v, c) (none, 256)
            refine ⟨env', a', fun k => by simp only [ab_an8K, hx, hy, hd, cond_true, ab_ivK_eq, h1, h2, cond_false, g1], fun rho u t hR hu ht => ?_⟩
            rw [Bool.and_eq_true, ab_le_iff, ab_le_iff] at h2
            have e1 := hx2 rho u hR hu
            have e2 := hy2 rho t hR ht
            simp only [ab_evI, Option.some.injEq] at e2
            obtain ⟨q, q1, q2⟩ := g2 rho u (Int32.ofInt 256) hR e1 rfl
            refine ⟨q, q1, q2.trans ?_⟩
            obtain ⟨i1, i2⟩ := ab_iv_spec hR e1
            rw [Option.some.injEq]
            apply Int32.toInt_inj.mp
            rw [← e2, ab_a255, Int32.toInt_add]
            have : (Int32.ofInt 256).toInt = 256 := by decide
            rw [this, Int.bmod_eq_of_le (by omega) (by omega)]
            omega
        · refine ⟨env, (some v, c), fun k => by simp only [ab_an8K, hx, hy, hd, cond_true, ab_ivK_eq, h1], fun rho u t hR hu ht => ⟨[], by rw [List.append_nil]; exact hR, ?_⟩⟩
          rw [Bool.and_eq_true, ab_le_iff, ab_le_iff] at h1
          have e1 := hx2 rho u hR hu
          have e2 := hy2 rho t hR ht
          simp only [ab_evI, Option.some.injEq] at e2
          rw [List.append_nil, e1, Option.some.injEq]
          obtain ⟨i1, i2⟩ := ab_iv_spec hR e1
          apply Int32.toInt_inj.mp
          rw [← e2, ab_a255]
          omega
section
variable {p : Program} {l : Launch} {e : Env} {R : Room} {s : State} {m : MethodId} {args : Array Value} {below : List Frame} {meth : Method} {c : Code} {Q : State → Prop} {cc : ByteArray} {own : String} {nL : Nat} {X : ab_X} {D : va_G} {z0 : ab_Z0} {cal : ab_K} {pc : Nat}
theorem so_iand8 (C : ab_cx p R s m args c cc own nL X D) (d : decode cc pc = .ok (.iand, 1)) : ab_so p l e R s m args below meth c Q nL X D z0 cal pc (op_b2 (ab_an8K) (pc + 1)) :=
  so_b2 (f := fun u v => u &&& v) C (fun env x y => ab_an8K_eq env x y) (fun _ _ _ _ _ _ x y k => lv_iand C.1 C.2.1 d k)
end
/-- at most: a sum of products by constants, and a last number -/
noncomputable def ab_lub (env : ab_E) : List ab_I → Option Int
  | k :: x :: r => (match ab_lub env r, k with
    | some u, (none, c) => bif ab_le (-2147483648) c && ab_le c 2147483647 then some ((bif ab_le 0 c then c * (ab_iv env x).2 else c * (ab_iv env x).1) + u) else none
    | _, _ => none)
  | k :: [] => some (ab_iv env k).2
  | [] => some 0
/-- each int with factor 1 or -1, narrowed: T is at least the sum -/
noncomputable def ab_nar (env : ab_E) (T : Int) : List ab_I → ab_E → Option ab_E
  | (none, c) :: x :: r, e => bif ab_ie c 1 then (match ab_rf e x ((ab_iv env x).2 - T) 2147483647 with
      | some e => ab_nar env T r e
      | none => none) else bif ab_ie c (-1) then (match ab_rf e x (-2147483648) (T + (ab_iv env x).1) with
      | some e => ab_nar env T r e
      | none => none) else ab_nar env T r e
  | _, e => some e
theorem ab_mul_ub {c lo hi x : Int} (h1 : lo ≤ x) (h2 : x ≤ hi) : c * x ≤ (bif ab_le 0 c then c * hi else c * lo) := by
  cases h : ab_le 0 c
  · have : ¬ 0 ≤ c := fun h0 => by rw [ab_le_iff.mpr h0] at h; cases h
    rw [cond_false]
    exact Int.mul_le_mul_of_nonpos_left (by omega) h1
  · rw [cond_true]
    exact Int.mul_le_mul_of_nonneg_left h2 (ab_le_iff.mp h)
theorem ab_lub_ok {env : ab_E} {rho : List Int32} (hR : ab_eR env rho) : ∀ {l : List ab_I} {xs : List Int32} {u : Int}, l.map (ab_evI rho) = xs.map some → ab_lub env l = some u → ab_lin xs ≤ u
  | [], [], u, _, h => by simp only [ab_lub, Option.some.injEq] at h; subst h; exact Int.le_refl _
  | [], _ :: _, _, e, _ => by simp at e
  | _ :: _, [], _, e, _ => by simp at e
  | [k], [y], u, e, h => by
    simp only [ab_lub, Option.some.injEq] at h
    simp only [List.map_cons, List.map_nil, List.cons.injEq, and_true] at e
    subst h
    exact (ab_iv_spec hR e).2
  | [_], _ :: _ :: _, _, e, _ => by simp at e
  | _ :: _ :: _, [_], _, e, _ => by simp at e
  | k :: x :: r, y :: w :: ys, u, e, h => by
    simp only [List.map_cons, List.cons.injEq] at e
    obtain ⟨e1, e2, e3⟩ := e
    simp only [ab_lub] at h
    split at h
    · rename_i u0 c hu
      cases hb : (ab_le (-2147483648) c && ab_le c 2147483647)
      · rw [hb] at h; cases h
      · rw [hb, cond_true, Option.some.injEq] at h
        rw [Bool.and_eq_true, ab_le_iff, ab_le_iff] at hb
        have ih := ab_lub_ok hR e3 hu
        obtain ⟨i1, i2⟩ := ab_iv_spec hR e2
        simp only [ab_evI, Option.some.injEq] at e1
        have hc : y.toInt = c := by rw [← e1]; exact ab_of c hb.1 hb.2
        have := ab_mul_ub (c := c) i1 i2
        simp only [ab_lin, hc]
        omega
    · cases h
