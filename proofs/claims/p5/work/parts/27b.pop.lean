/-! Bits that are set: results told by facts, and their use. -/
noncomputable def op_b2F (i : Nat) (K : ab_E → ab_I → ab_I → (ab_E → ab_I → ab_A) → ab_A) (np : Nat) : ab_P := fun _ env nl aw cl sl lv st => match st with
  | .inl y :: .inl x :: st => K env x y (fun env a => some [((env, nl, (aw.1, (i + 7, [(none, 4000), (none, 4000), a, x, y]) :: aw.2), cl, sl), np, lv, .inl a :: st)])
  | _ => none
section
variable {p : Program} {l : Launch} {e : Env} {R : Room} {s : State} {m : MethodId} {args : Array Value} {below : List Frame} {meth : Method} {c : Code} {Q : State → Prop} {cc : ByteArray} {own : String} {nL : Nat} {X : ab_X} {D : va_G} {z0 : ab_Z0} {cal : ab_K} {pc : Nat}
theorem so_b2F (C : ab_cx p R s m args c cc own nL X D) {i : Nat} {K : ab_E → ab_I → ab_I → (ab_E → ab_I → ab_A) → ab_A} {f : Int32 → Int32 → Int32} {np : Nat} (hf : ∀ u v, f u v = fk_op i u v) (hK : ∀ env x y, ∃ env' a', (∀ k, K env x y k = k env' a') ∧ ab_res env x y f env' a') (hp : ∀ (H : Heap) (locs : List Loc) (cl sl : Nat) (ls : Array Slot) (rest : List Value) (x y : Int32), W p l e R s m args below meth c H locs cl sl Q (F0 m np ls (.int (f x y) :: rest)) → W p l e R s m args below meth c H locs cl sl Q (F0 m pc ls (.int y :: .int x :: rest))) : ab_so p l e R s m args below meth c Q nL X D z0 cal pc (op_b2F i K np) := by
  intro env nl aw cl sl lv st r hr hk z ws H locs ls cst hR hl hs
  dsimp only at hR hl hs
  unfold op_b2F at hr
  split at hr
  · rename_i b a st'
    obtain ⟨env', a', q1, q2⟩ := hK env a b
    rw [q1] at hr
    cases hr
    obtain ⟨x, r, rfl, h1, h2⟩ := ab_st1 hs
    obtain ⟨y, rfl, h3⟩ := ab_evi h1
    obtain ⟨x2, r2, rfl, h4, h5⟩ := ab_st1 h2
    obtain ⟨y2, rfl, h6⟩ := ab_evi h4
    obtain ⟨t, t1, t2⟩ := q2 z.1 y2 y hR.1 h6 h3
    refine hp _ _ _ _ _ _ _ _ ?_
    have e1 : ab_evI (z.1 ++ t) b = some y := ab_evI.ext (z := z) (z' := (z.1 ++ t, z.2)) ab_ext_v h3
    have e2 : ab_evI (z.1 ++ t) a = some y2 := ab_evI.ext (z := z) (z' := (z.1 ++ t, z.2)) ab_ext_v h6
    obtain ⟨w1, w2, w3, w4, w5, w6, w7, w8, w9⟩ := hR.vars t1
    refine hk _ List.mem_cons_self (z.1 ++ t, z.2) ws H locs ls (.int (f y2 y) :: r2) ⟨w1, w2, w3, ⟨w4.1, fun g hg => ?_⟩, w5, w6, w7, w8, w9⟩ (hl.ext ab_ext_v) (by simp only [List.map_cons]; rw [ab_evc (z := (z.1 ++ t, z.2)) t2, ab_evs.ext (ab_ext_v (t := t)) h5])
    rcases List.mem_cons.mp hg with rfl | hg
    · refine ⟨[Int32.ofInt 4000, Int32.ofInt 4000, f y2 y, y2, y], by simp only [List.map_cons, List.map_nil, t2, e1, e2]; rfl, ?_⟩
      exact ⟨f y2 y, y2, y, rfl, hf y2 y⟩
    · exact w4.2 g hg
  · cases hr
theorem so_iorF (C : ab_cx p R s m args c cc own nL X D) (d : decode cc pc = .ok (.ior, 1)) : ab_so p l e R s m args below meth c Q nL X D z0 cal pc (op_b2F 0 (ab_binK (fun u v => u ||| v)) (pc + 1)) :=
  so_b2F (f := fun u v => u ||| v) C (fun _ _ => rfl) (fun env x y => ab_binK_eq _ env x y) (fun _ _ _ _ _ _ x y k => lv_ior C.1 C.2.1 d k)
theorem so_iandF (C : ab_cx p R s m args c cc own nL X D) (d : decode cc pc = .ok (.iand, 1)) : ab_so p l e R s m args below meth c Q nL X D z0 cal pc (op_b2F 1 (ab_an8K) (pc + 1)) :=
  so_b2F (f := fun u v => u &&& v) C (fun _ _ => rfl) (fun env x y => ab_an8K_eq env x y) (fun _ _ _ _ _ _ x y k => lv_iand C.1 C.2.1 d k)
theorem so_ixorF (C : ab_cx p R s m args c cc own nL X D) (d : decode cc pc = .ok (.ixor, 1)) : ab_so p l e R s m args below meth c Q nL X D z0 cal pc (op_b2F 2 (ab_binK (fun u v => u ^^^ v)) (pc + 1)) :=
  so_b2F (f := fun u v => u ^^^ v) C (fun _ _ => rfl) (fun env x y => ab_binK_eq _ env x y) (fun _ _ _ _ _ _ x y k => lv_ixor C.1 C.2.1 d k)
theorem so_ishlF (C : ab_cx p R s m args c cc own nL X D) (d : decode cc pc = .ok (.ishl, 1)) : ab_so p l e R s m args below meth c Q nL X D z0 cal pc (op_b2F 3 (ab_binK (fun u v => u <<< (v &&& 31))) (pc + 1)) :=
  so_b2F (f := fun u v => u <<< (v &&& 31)) C (fun _ _ => rfl) (fun env x y => ab_binK_eq _ env x y) (fun _ _ _ _ _ _ x y k => lv_ishl C.1 C.2.1 d k)
theorem so_ishrF (C : ab_cx p R s m args c cc own nL X D) (d : decode cc pc = .ok (.ishr, 1)) : ab_so p l e R s m args below meth c Q nL X D z0 cal pc (op_b2F 4 (ab_binK (fun u v => u >>> (v &&& 31))) (pc + 1)) :=
  so_b2F (f := fun u v => u >>> (v &&& 31)) C (fun _ _ => rfl) (fun env x y => ab_binK_eq _ env x y) (fun _ _ _ _ _ _ x y k => lv_ishr C.1 C.2.1 d k)
end
noncomputable def ab_fop (k : Nat) (r : ab_I) : List ab_Y → Option (ab_I × ab_I)
  | [] => none
  | f :: l => (match f with
    | (kd, [_, _, r', x, y]) => bif Nat.beq kd (k + 7) && ab_eqI r' r then some (x, y) else ab_fop k r l
    | _ => ab_fop k r l)
theorem ab_fop_ok {k : Nat} {r : ab_I} {z : ab_Z} {ws : va_W} : ∀ {fx : List ab_Y} {x y : ab_I}, ab_fop k r fx = some (x, y) → (∀ f ∈ fx, ab_fs z ws f) → ∃ a b c : Int32, ab_evI z.1 r = some a ∧ ab_evI z.1 x = some b ∧ ab_evI z.1 y = some c ∧ a = fk_op k b c
  | [], x, y, h, _ => by cases h
  | f :: l, x, y, h, hf => by
    have ih : ab_fop k r l = some (x, y) → _ := fun h9 => ab_fop_ok h9 (fun g hg => hf g (List.mem_cons_of_mem _ hg))
    simp only [ab_fop] at h
    split at h
    · rename_i kd q1 q2 r' x' y'
      cases hb : (Nat.beq kd (k + 7) && ab_eqI r' r)
      · rw [hb, cond_false] at h; exact ih h
      · rw [hb, cond_true] at h
        cases h
        rw [Bool.and_eq_true] at hb
        have e1 := Nat.eq_of_beq_eq_true hb.1
        subst e1
        cases ab_eqI_eq hb.2
        obtain ⟨xs, e, hm⟩ := hf _ List.mem_cons_self
        obtain ⟨x1, r1, rfl, e1, e⟩ := ab_m1 e
        obtain ⟨x2, r2, rfl, e2, e⟩ := ab_m1 e
        obtain ⟨x3, r3, rfl, e3, e⟩ := ab_m1 e
        obtain ⟨x4, r4, rfl, e4, e⟩ := ab_m1 e
        obtain ⟨x5, r5, rfl, e5, e⟩ := ab_m1 e
        cases ab_m0 e
        obtain ⟨a, b, c, hy, hr⟩ := hm
        simp only [List.drop_succ_cons, List.drop_zero, List.cons.injEq, and_true] at hy
        obtain ⟨rfl, rfl, rfl⟩ := hy
        exact ⟨_, _, _, e3, e4, e5, hr⟩
    · exact ih h
/-- how many bits of u are set, at least -/
noncomputable def ab_f6 (u : ab_I) : List ab_Y → Option Int
  | [] => none
  | f :: l => (match f with
    | (6, [_, _, u', (none, d)]) => bif ab_eqI u' u && ab_le 0 d && ab_le d 8 then some d else ab_f6 u l
    | _ => ab_f6 u l)
theorem ab_f6_ok {u : ab_I} {z : ab_Z} {ws : va_W} : ∀ {fx : List ab_Y} {d : Int}, ab_f6 u fx = some d → (∀ f ∈ fx, ab_fs z ws f) → ∃ a : Int32, ab_evI z.1 u = some a ∧ 0 ≤ d ∧ d ≤ 8 ∧ d ≤ fk_p8 a
  | [], d, h, _ => by cases h
  | f :: l, d, h, hf => by
    have ih : ab_f6 u l = some d → _ := fun h9 => ab_f6_ok h9 (fun g hg => hf g (List.mem_cons_of_mem _ hg))
    simp only [ab_f6] at h
    split at h
    · rename_i q1 q2 u' d'
      cases hb : (ab_eqI u' u && ab_le 0 d' && ab_le d' 8)
      · rw [hb, cond_false] at h; exact ih h
      · rw [hb, cond_true] at h
        cases h
        rw [Bool.and_eq_true, Bool.and_eq_true, ab_le_iff, ab_le_iff] at hb
        obtain ⟨⟨b1, b2⟩, b3⟩ := hb
        cases ab_eqI_eq b1
        obtain ⟨xs, e, hm⟩ := hf _ List.mem_cons_self
        obtain ⟨x1, r1, rfl, e1, e⟩ := ab_m1 e
        obtain ⟨x2, r2, rfl, e2, e⟩ := ab_m1 e
        obtain ⟨x3, r3, rfl, e3, e⟩ := ab_m1 e
        obtain ⟨x4, r4, rfl, e4, e⟩ := ab_m1 e
        cases ab_m0 e
        obtain ⟨a, b, hy, hr⟩ := hm
        simp only [List.drop_succ_cons, List.drop_zero, List.cons.injEq, and_true] at hy
        obtain ⟨rfl, rfl⟩ := hy
        simp only [ab_evI, Option.some.injEq] at e4
        subst e4
        rw [ab_of d (by omega) (by omega)] at hr
        exact ⟨_, e3, b2, b3, hr⟩
    · exact ih h
noncomputable def ab_f6m (u : ab_I) (d : Int) : ab_Y := (6, [(none, 4000), (none, 4000), u, (none, d)])
theorem ab_f6_of {u : ab_I} {d : Int} {z : ab_Z} {ws : va_W} {a : Int32} (h : ab_evI z.1 u = some a) (h0 : 0 ≤ d) (h1 : d ≤ 8) (h2 : d ≤ fk_p8 a) : ab_fs z ws (ab_f6m u d) := by
  refine ⟨[Int32.ofInt 4000, Int32.ofInt 4000, a, Int32.ofInt d], by simp only [ab_f6m, List.map_cons, List.map_nil, h]; rfl, a, Int32.ofInt d, rfl, ?_⟩
  rw [ab_of d (by omega) (by omega)]; exact h2
noncomputable def ab_rnq (env : ab_E) (a : ab_I) (lo hi : Int) : Bool := ab_ivK env a (fun x y => ab_le lo x && ab_le y hi)
theorem ab_rng_ok {env : ab_E} {rho : List Int32} (hR : ab_eR env rho) {a : ab_I} {lo hi : Int} (h : ab_rnq env a lo hi = true) {x : Int32} (hx : ab_evI rho a = some x) : lo ≤ x.toInt ∧ x.toInt ≤ hi := by
  rw [ab_rnq, ab_ivK_eq, Bool.and_eq_true, ab_le_iff, ab_le_iff] at h
  have := ab_iv_spec hR hx
  omega
theorem ab_isw {u : Int32} {n : Nat} (h0 : 0 ≤ u.toInt) (h1 : u.toInt < n) (h2 : n ≤ 256) : ∃ k, k < n ∧ u = Int32.ofNat k := by
  refine ⟨u.toInt.toNat, by omega, ?_⟩
  apply Int32.toInt_inj.mp
  have : Int32.ofNat u.toInt.toNat = Int32.ofInt (u.toInt.toNat : Int) := rfl
  rw [this, ab_of _ (by omega) (by omega)]
  omega
theorem fk_po : ∀ n < 256, ∀ k < 8, ((Int32.ofNat n >>> (Int32.ofNat k &&& 31)) &&& 1 = 0 → fk_p8 (Int32.ofNat n) + 1 ≤ fk_p8 (Int32.ofNat n ||| ((1 : Int32) <<< (Int32.ofNat k &&& 31)))) ∧ 0 ≤ (Int32.ofNat n ||| ((1 : Int32) <<< (Int32.ofNat k &&& 31))).toInt ∧ (Int32.ofNat n ||| ((1 : Int32) <<< (Int32.ofNat k &&& 31))).toInt ≤ 255 := by
  decide +kernel
theorem fk_pa : ∀ n < 256, ∀ k < 8, fk_p8 (Int32.ofNat n) ≤ fk_p8 (Int32.ofNat n &&& (((1 : Int32) <<< (Int32.ofNat k &&& 31)) ^^^ (Int32.ofInt (-1)))) + 1 ∧ 0 ≤ (Int32.ofNat n &&& (((1 : Int32) <<< (Int32.ofNat k &&& 31)) ^^^ (Int32.ofInt (-1)))).toInt ∧ (Int32.ofNat n &&& (((1 : Int32) <<< (Int32.ofNat k &&& 31)) ^^^ (Int32.ofInt (-1)))).toInt ≤ 255 := by
  decide +kernel
theorem fk_pb : ∀ n < 256, ∀ k < 8, 8 ≤ fk_p8 (Int32.ofNat n) → ((Int32.ofNat n >>> (Int32.ofNat k &&& 31)) &&& 1).toInt = 1 := by
  decide +kernel
noncomputable def ab_zb (env : ab_E) (u t : ab_I) (fx0 : List ab_Y) : List ab_Y → Bool
  | [] => false
  | f :: l => (match f with
    | (8, [_, _, r2, _, _]) => (bif ab_rnq env r2 0 0 then (match ab_fop 1 r2 fx0 with
      | some (r1, o) => (match ab_fop 4 r1 fx0 with
        | some (u', t') => ab_eqI o (none, 1) && ab_eqI u' u && ab_eqI t' t
        | none => false)
      | none => false) else false) || ab_zb env u t fx0 l
    | _ => ab_zb env u t fx0 l)
theorem ab_zb_ok {env : ab_E} {u t : ab_I} {z : ab_Z} {ws : va_W} (hR : ab_eR env z.1) {fx0 : List ab_Y} (hf : ∀ f ∈ fx0, ab_fs z ws f) : ∀ {fx : List ab_Y}, ab_zb env u t fx0 fx = true → ∃ a b : Int32, ab_evI z.1 u = some a ∧ ab_evI z.1 t = some b ∧ (a >>> (b &&& 31)) &&& 1 = 0
  | [], h => by cases h
  | f :: l, h => by
    simp only [ab_zb] at h
    split at h
    · rename_i q1 q2 r2 q3 q4
      rw [Bool.or_eq_true] at h
      rcases h with h | h
      · cases hb : ab_rnq env r2 0 0
        · rw [hb] at h; cases h
        · rw [hb, cond_true] at h
          split at h
          · rename_i r1 o hb1
            split at h
            · rename_i u' t' hb2
              rw [Bool.and_eq_true, Bool.and_eq_true] at h
              obtain ⟨⟨e1, e2⟩, e3⟩ := h
              cases ab_eqI_eq e1
              cases ab_eqI_eq e2
              cases ab_eqI_eq e3
              obtain ⟨a, b, c, g1, g2, g3, g4⟩ := ab_fop_ok hb1 hf
              obtain ⟨a', b', c', i1, i2, i3, i4⟩ := ab_fop_ok hb2 hf
              cases Option.some.inj (g2.symm.trans i1)
              simp only [ab_evI, Option.some.injEq] at g3
              subst g3
              refine ⟨b', c', i2, i3, ?_⟩
              have hz := ab_rng_ok hR hb g1
              apply Int32.toInt_inj.mp
              have e9 : a = (b' >>> (c' &&& 31)) &&& 1 := by
                rw [g4, i4]; rfl
              rw [← e9]
              have : (0 : Int32).toInt = 0 := rfl
              omega
            · cases h
          · cases h
      · exact ab_zb_ok hR hf h
    · exact ab_zb_ok hR hf h
/-- nothing is known of the bits -/
noncomputable def pr_p0 (li : Nat) : ab_PR := fun env aw lv _ => match ab_lk lv li with
  | some (.inl a) => some [(env, ab_f6m a 0 :: aw.2)]
  | _ => none
theorem pr_p0_ok {X : ab_X} {li : Nat} : ab_prs X (pr_p0 li) := by
  intro env aw lv st l z ws s cst h h1 h2 h3 h4
  unfold pr_p0 at h
  split at h
  · rename_i a ha
    cases h
    obtain ⟨x, g1⟩ := h3 _ (ab_lk_mem ha)
    obtain ⟨y, rfl, g3⟩ := ab_evi g1
    refine ⟨_, List.mem_cons_self, h1, fun q hq => ?_⟩
    rcases List.mem_cons.mp hq with rfl | hq
    · exact ab_f6_of g3 (by omega) (by omega) (by omega)
    · exact h2.2 q hq
  · cases h
/-- a bit more, that was not set -/
noncomputable def pr_pO : ab_PR := fun env aw _ st => match st with
  | .inl r :: _ => (match ab_fop 0 r aw.2 with
    | some (u, q) => (match ab_fop 3 q aw.2, ab_f6 u aw.2 with
      | some (o, t), some d => bif ab_eqI o (none, 1) && ab_rnq env t 0 7 && ab_rnq env u 0 255 && ab_le d 7 && ab_zb env u t aw.2 aw.2 then ab_fi (d + 1) (fun d' => match ab_rf env r 0 255 with
        | some e => some [(e, ab_f6m r d' :: aw.2)]
        | none => some []) else none
      | _, _ => none)
    | none => none)
  | _ => none
theorem pr_pO_ok {X : ab_X} : ab_prs X pr_pO := by
  intro env aw lv st l z ws s cst h h1 h2 h3 h4
  unfold pr_pO at h
  split at h
  · rename_i r st'
    split at h
    · rename_i u q hb1
      split at h
      · rename_i o t d hb2 hb3
        cases hb : (ab_eqI o (none, 1) && ab_rnq env t 0 7 && ab_rnq env u 0 255 && ab_le d 7 && ab_zb env u t aw.2 aw.2)
        · rw [hb] at h; cases h
        · rw [hb, cond_true, ab_fi_eq] at h
          rw [Bool.and_eq_true, Bool.and_eq_true, Bool.and_eq_true, Bool.and_eq_true, ab_le_iff] at hb
          obtain ⟨⟨⟨⟨b1, b2⟩, b3⟩, b4⟩, b5⟩ := hb
          cases ab_eqI_eq b1
          obtain ⟨a, b, c, g1, g2, g3, g4⟩ := ab_fop_ok hb1 h2.2
          obtain ⟨a', b', c', i1, i2, i3, i4⟩ := ab_fop_ok hb2 h2.2
          cases Option.some.inj (g3.symm.trans i1)
          simp only [ab_evI, Option.some.injEq] at i2
          subst i2
          obtain ⟨x, y, j1, j2, j3⟩ := ab_zb_ok h1 h2.2 b5
          cases Option.some.inj (j1.symm.trans g2)
          cases Option.some.inj (j2.symm.trans i3)
          obtain ⟨x6, k1, k2, k3, k4⟩ := ab_f6_ok hb3 h2.2
          cases Option.some.inj (k1.symm.trans g2)
          have ht := ab_rng_ok h1 b2 i3
          have hu := ab_rng_ok h1 b3 g2
          obtain ⟨n, n1, rfl⟩ := ab_isw (n := 256) hu.1 (by omega) (by omega)
          obtain ⟨k, kk, rfl⟩ := ab_isw (n := 8) ht.1 (by omega) (by omega)
          obtain ⟨p1, p2, p3⟩ := fk_po n n1 k kk
          have hA : a = (Int32.ofNat n ||| ((1 : Int32) <<< (Int32.ofNat k &&& 31))) := by rw [g4, i4]; rfl
          rw [← hA] at p1 p2 p3
          have p1 := p1 j3
          obtain ⟨e9, r1, r2⟩ := ab_rf_spec h1 g1 (lo := 0) (hi := 255) p2 p3
          rw [r1] at h
          cases h
          refine ⟨_, List.mem_cons_self, r2, fun q hq => ?_⟩
          rcases List.mem_cons.mp hq with rfl | hq
          · exact ab_f6_of g1 (by omega) (by omega) (by omega)
          · exact h2.2 q hq
      · cases h
    · cases h
  · cases h
/-- a bit less, at most -/
noncomputable def pr_pA : ab_PR := fun env aw _ st => match st with
  | .inl r :: _ => (match ab_fop 1 r aw.2 with
    | some (u, m) => (match ab_fop 2 m aw.2, ab_f6 u aw.2 with
      | some (q, c), some d => (match ab_fop 3 q aw.2 with
        | some (o, t) => bif ab_eqI o (none, 1) && ab_eqI c (none, -1) && ab_rnq env t 0 7 && ab_rnq env u 0 255 && ab_le 1 d then ab_fi (d - 1) (fun d' => match ab_rf env r 0 255 with
          | some e => some [(e, ab_f6m r d' :: aw.2)]
          | none => some []) else none
        | none => none)
      | _, _ => none)
    | none => none)
  | _ => none
theorem pr_pA_ok {X : ab_X} : ab_prs X pr_pA := by
  intro env aw lv st l z ws s cst h h1 h2 h3 h4
  unfold pr_pA at h
  split at h
  · rename_i r st'
    split at h
    · rename_i u m hb1
      split at h
      · rename_i q c d hb2 hb3
        split at h
        · rename_i o t hb4
          cases hb : (ab_eqI o (none, 1) && ab_eqI c (none, -1) && ab_rnq env t 0 7 && ab_rnq env u 0 255 && ab_le 1 d)
          · rw [hb] at h; cases h
          · rw [hb, cond_true, ab_fi_eq] at h
            rw [Bool.and_eq_true, Bool.and_eq_true, Bool.and_eq_true, Bool.and_eq_true, ab_le_iff] at hb
            obtain ⟨⟨⟨⟨b1, b5⟩, b2⟩, b3⟩, b4⟩ := hb
            cases ab_eqI_eq b1
            cases ab_eqI_eq b5
            obtain ⟨a, b, c, g1, g2, g3, g4⟩ := ab_fop_ok hb1 h2.2
            obtain ⟨a', b', c', i1, i2, i3, i4⟩ := ab_fop_ok hb2 h2.2
            obtain ⟨a2, b2', c2, l1, l2, l3, l4⟩ := ab_fop_ok hb4 h2.2
            cases Option.some.inj (g3.symm.trans i1)
            cases Option.some.inj (i2.symm.trans l1)
            simp only [ab_evI, Option.some.injEq] at i3 l2
            subst i3 l2
            obtain ⟨x6, k1, k2, k3, k4⟩ := ab_f6_ok hb3 h2.2
            cases Option.some.inj (k1.symm.trans g2)
            have ht := ab_rng_ok h1 b2 l3
            have hu := ab_rng_ok h1 b3 g2
            obtain ⟨n, n1, rfl⟩ := ab_isw (n := 256) hu.1 (by omega) (by omega)
            obtain ⟨k, kk, rfl⟩ := ab_isw (n := 8) ht.1 (by omega) (by omega)
            obtain ⟨p1, p2, p3⟩ := fk_pa n n1 k kk
            have hA : a = (Int32.ofNat n &&& (((1 : Int32) <<< (Int32.ofNat k &&& 31)) ^^^ (Int32.ofInt (-1)))) := by rw [g4, i4, l4]; rfl
            rw [← hA] at p1 p2 p3
            obtain ⟨e9, r1, r2⟩ := ab_rf_spec h1 g1 (lo := 0) (hi := 255) p2 p3
            rw [r1] at h
            cases h
            refine ⟨_, List.mem_cons_self, r2, fun q hq => ?_⟩
            rcases List.mem_cons.mp hq with rfl | hq
            · exact ab_f6_of g1 (by omega) (by omega) (by omega)
            · exact h2.2 q hq
        · cases h
      · cases h
    · cases h
  · cases h
/-- all eight are set: so is this one -/
noncomputable def ab_pB (env : ab_E) (r2 : ab_I) (fx : List ab_Y) : Bool := match ab_fop 1 r2 fx with
  | some (r1, o) => (match ab_fop 4 r1 fx with
    | some (u, t) => (match ab_f6 u fx with
      | some d => ab_eqI o (none, 1) && ab_le 8 d && ab_rnq env t 0 7 && ab_rnq env u 0 255
      | none => false)
    | none => false)
  | none => false
noncomputable def pr_pB : ab_PR := fun env aw _ st => match st with
  | .inl r2 :: _ => bif ab_pB env r2 aw.2 then (match ab_rf env r2 1 1 with
      | some e => some [(e, aw.2)]
      | none => some []) else some [(env, aw.2)]
  | _ => some [(env, aw.2)]
theorem pr_pB_ok {X : ab_X} : ab_prs X pr_pB := by
  intro env aw lv st l z ws s cst h h1 h2 h3 h4
  unfold pr_pB at h
  split at h
  · rename_i r2 st'
    cases hb : ab_pB env r2 aw.2
    · rw [hb, cond_false] at h
      cases h
      exact ⟨(env, aw.2), List.mem_cons_self, h1, h2.2⟩
    · rw [hb, cond_true] at h
      unfold ab_pB at hb
      split at hb
      · rename_i r1 o hb1
        split at hb
        · rename_i u t hb2
          split at hb
          · rename_i d hb3
            rw [Bool.and_eq_true, Bool.and_eq_true, Bool.and_eq_true, ab_le_iff] at hb
            obtain ⟨⟨⟨b1, b4⟩, b2⟩, b3⟩ := hb
            cases ab_eqI_eq b1
            obtain ⟨a, b, c, g1, g2, g3, g4⟩ := ab_fop_ok hb1 h2.2
            obtain ⟨a', b', c', i1, i2, i3, i4⟩ := ab_fop_ok hb2 h2.2
            cases Option.some.inj (g2.symm.trans i1)
            simp only [ab_evI, Option.some.injEq] at g3
            subst g3
            obtain ⟨x6, k1, k2, k3, k4⟩ := ab_f6_ok hb3 h2.2
            cases Option.some.inj (k1.symm.trans i2)
            have ht := ab_rng_ok h1 b2 i3
            have hu := ab_rng_ok h1 b3 i2
            obtain ⟨n, n1, rfl⟩ := ab_isw (n := 256) hu.1 (by omega) (by omega)
            obtain ⟨k, kk, rfl⟩ := ab_isw (n := 8) ht.1 (by omega) (by omega)
            have p1 := fk_pb n n1 k kk (by omega)
            have hA : a = ((Int32.ofNat n >>> (Int32.ofNat k &&& 31)) &&& 1) := by rw [g4, i4]; rfl
            rw [← hA] at p1
            obtain ⟨e9, r1, r2⟩ := ab_rf_spec h1 g1 (lo := 1) (hi := 1) (by omega) (by omega)
            rw [r1] at h
            cases h
            exact ⟨(e9, aw.2), List.mem_cons_self, r2, h2.2⟩
          · cases hb
        · cases hb
      · cases hb
  · cases h
    exact ⟨(env, aw.2), List.mem_cons_self, h1, h2.2⟩
/-- a is at most b, and another: it is less -/
noncomputable def op_icmpN (tgt np : Nat) : ab_P := fun _ env nl aw cl sl lv st => match st with
  | .inl b :: .inl a :: st => (match ab_cmp env [b, a] [1, -1] 0 [] with
    | some (k1, cs1) => bif ab_geq env k1 cs1 aw.2 then ab_brK 1 env a b (fun T F => some (ab_frk nl (aw.1, (0, [(none, 1), b, (none, -1), a, (none, -1)]) :: aw.2) cl sl lv st T tgt (ab_frk nl aw cl sl lv st F np []))) else none
    | none => none)
  | _ => none
section
variable {p : Program} {l : Launch} {e : Env} {R : Room} {s : State} {m : MethodId} {args : Array Value} {below : List Frame} {meth : Method} {c : Code} {Q : State → Prop} {cc : ByteArray} {own : String} {nL : Nat} {X : ab_X} {D : va_G} {z0 : ab_Z0} {cal : ab_K} {pc : Nat}
theorem so_icmpN (C : ab_cx p R s m args c cc own nL X D) {off : Int} {tgt : Nat} (d : decode cc pc = .ok (.if_icmp .ne off, 3)) (ht : (pc : Int) + off = (tgt : Int)) : ab_so p l e R s m args below meth c Q nL X D z0 cal pc (op_icmpN tgt (pc + 3)) := by
  intro env nl aw cl sl lv st r hr hk z ws H locs ls cst hR hl hs
  dsimp only at hR hl hs
  unfold op_icmpN at hr
  split at hr
  · rename_i b a st'
    split at hr
    · rename_i k1 cs1 hc
      cases hg : ab_geq env k1 cs1 aw.2
      · rw [hg] at hr; cases hr
      · rw [hg, cond_true] at hr
        obtain ⟨T, F, q1, q2, q3⟩ := ab_brK_eq (β := ab_A) 1 env a b
        rw [q1] at hr
        cases hr
        obtain ⟨x, r, rfl, h1, h2⟩ := ab_st1 hs
        obtain ⟨y, rfl, h3⟩ := ab_evi h1
        obtain ⟨x2, r2, rfl, h4, h5⟩ := ab_st1 h2
        obtain ⟨y2, rfl, h6⟩ := ab_evi h4
        have g1 := ab_cmp_ok hR.1 (vs := [y, y2]) hc (by simp only [List.map_cons, List.map_nil, h3, h6])
        have g2 := ab_geq_ok hR.1 hR.2.2.2.1.2 hg
        have g3 : y2.toInt ≤ y.toInt := by
          simp only [ab_dot] at g1
          omega
        refine lv_icmp_ne C.1 C.2.1 d ht (fun hP => ?_) (fun hP => ?_)
        · have hne : y2.toInt ≠ y.toInt := fun q => hP (Int32.toInt_inj.mp q)
          obtain ⟨e1, m1, m2⟩ := q2 z.1 y2 y hR.1 h6 h3 hne
          obtain ⟨w1, w2, w3, w4, w5, w6, w7, w8, w9⟩ := hR.ref m2
          refine hk _ (ab_frk_in m1) z ws H locs ls r2 ⟨w1, w2, w3, ⟨w4.1, fun f hf => ?_⟩, w5, w6, w7, w8, w9⟩ hl h5
          rcases List.mem_cons.mp hf with rfl | hf
          · refine ⟨[Int32.ofInt 1, y, Int32.ofInt (-1), y2, Int32.ofInt (-1)], by simp only [List.map_cons, List.map_nil, h3, h6]; rfl, ?_⟩
            show (0 : Int) ≤ ab_lin _
            have k1 : (Int32.ofInt 1).toInt = 1 := ab_of 1 (by omega) (by omega)
            have k2 : (Int32.ofInt (-1)).toInt = -1 := ab_of (-1) (by omega) (by omega)
            simp only [ab_lin, k1, k2]
            omega
          · exact w4.2 f hf
        · obtain ⟨e1, m1, m2⟩ := q3 z.1 y2 y hR.1 h6 h3 (fun q => q (congrArg Int32.toInt hP))
          exact hk _ (ab_frk_rest (ab_frk_in m1)) z ws H locs ls r2 (hR.ref m2) hl h5
    · cases hr
  · cases hr
end
