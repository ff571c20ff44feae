/-! The law's own instructions; counters that begin higher. -/
noncomputable def op_sldV (np : Nat) : ab_P := fun _ env nl aw cl sl lv st => match st with
  | .inl (some 0, c) :: .inr (.inr (1, _)) :: st => bif ab_le 0 c && ab_le c 5 then ab_fn (c.toNat + 1) (fun v => some [((env, nl, aw, cl, sl), np, lv, .inl (some v, 0) :: st)]) else none
  | _ => none
section
variable {p : Program} {l : Launch} {e : Env} {R : Room} {s : State} {m : MethodId} {args : Array Value} {below : List Frame} {meth : Method} {c : Code} {Q : State → Prop} {cc : ByteArray} {own : String} {nL : Nat} {X : ab_X} {D : va_G} {z0 : ab_Z0} {cal : ab_K} {pc : Nat}
theorem so_sldV (C : ab_cx p R s m args c cc own nL X D) {i0 : Nat} (h0 : z0.1.1[0]? = some (nI i0)) (hv : ∀ j : Nat, j < 6 → z0.1.1[j + 1]? = some (X.2.1 (i0 + j))) (hi0 : i0 + 6 ≤ X.1.2.1) (hL : X.1.2.1 ≤ 3072) (d : decode cc pc = .ok (.iaload, 1)) : ab_so p l e R s m args below meth c Q nL X D z0 cal pc (op_sldV (pc + 1)) := by
  intro env nl aw cl sl lv st r hr hk z ws H locs ls cst hR hl hs
  dsimp only at hR hl hs
  unfold op_sldV at hr
  split at hr
  · rename_i c0 j st'
    cases hb : (ab_le 0 c0 && ab_le c0 5)
    · rw [hb] at hr; cases hr
    · rw [hb, cond_true, ab_fn_eq] at hr
      cases hr
      rw [Bool.and_eq_true, ab_le_iff, ab_le_iff] at hb
      obtain ⟨x, r0, rfl, h1, h2⟩ := ab_st1 hs
      obtain ⟨y, rfl, h3⟩ := ab_evi h1
      obtain ⟨x2, r1, rfl, h4, h5⟩ := ab_st1 h2
      cases h4
      obtain ⟨⟨⟨t, ht⟩, -, -⟩, -⟩ := hR.2.2.2.2.2.2.2.2
      have e0 : z.1[0]? = some (nI i0) := by rw [ht]; exact ab_get_app h0
      have e9 : z.1[c0.toNat + 1]? = some (X.2.1 (i0 + c0.toNat)) := by rw [ht]; exact ab_get_app (hv c0.toNat (by omega))
      simp only [ab_evI, e0, Option.map_some, Option.some.injEq] at h3
      have e1 : (nI i0).toInt = (i0 : Int) := nI_toInt (by omega)
      have e2 : y.toInt = i0 + c0 := by
        rw [← h3, ab_addI _ _ (by omega) (by omega), e1]
      obtain ⟨hin, -, -⟩ := ab_ixin (y := y) (n := X.1.2.1) (by omega) (by omega) (by omega)
      obtain ⟨q1, q2⟩ := (ab_cxE C).2.2.2.1
      refine va_sld (A := ab_Ar X) C.1 C.2.1 q1 (Nat.lt_of_lt_of_le q2 (ab_cxE C).1) (Nat.not_le.mpr q2) hR.2.2.2.2.2.2.1 hin d ?_
      have e3 : y.toInt.toNat = i0 + c0.toNat := by omega
      have e4 : y.toNatClampNeg = i0 + c0.toNat := by rw [Int32.toNatClampNeg]; exact e3
      refine hk _ List.mem_cons_self z ws H locs ls (.int _ :: r1) hR hl ?_
      simp only [List.map_cons]
      rw [h5]
      refine congrArg (· :: _) (ab_evc ?_)
      simp only [ab_evI, e9, Option.map_some]
      first
        | (rw [e4]; simp)
        | (rw [e3]; simp)
        | simp [e4]
  · cases hr
end
/-- the uppermost int: below lo, lo to hi, above hi -/
noncomputable def pr_s3 (lo hi : Int) : ab_PR := fun env aw _ st => match st with
  | .inl a :: _ => bif ab_le lo (hi + 1) then some ((match ab_rf env a (-2147483648) (lo - 1) with
    | some e => [(e, aw.2)]
    | none => []) ++ ((match ab_rf env a lo hi with
    | some e => [(e, aw.2)]
    | none => []) ++ (match ab_rf env a (hi + 1) 2147483647 with
    | some e => [(e, aw.2)]
    | none => []))) else none
  | _ => none
theorem pr_s3_ok {X : ab_X} {lo hi : Int} : ab_prs X (pr_s3 lo hi) := by
  intro env aw lv st l z ws s cst h h1 h2 h3 h4
  unfold pr_s3 at h
  split at h
  · rename_i a st'
    cases hb : ab_le lo (hi + 1)
    · rw [hb] at h; cases h
    · rw [hb, cond_true] at h
      cases h
      obtain ⟨x, r, rfl, hx, -⟩ := ab_st1 h4
      obtain ⟨y, -, hy⟩ := ab_evi hx
      have hl := Int32.le_toInt y
      have hu := Int32.toInt_lt y
      by_cases c1 : y.toInt < lo
      · obtain ⟨e9, r1, r2⟩ := ab_rf_spec h1 hy (lo := -2147483648) (hi := lo - 1) (by omega) (by omega)
        rw [r1]
        exact ⟨(e9, aw.2), List.mem_append_left _ List.mem_cons_self, r2, h2.2⟩
      · by_cases c2 : y.toInt ≤ hi
        · obtain ⟨e9, r1, r2⟩ := ab_rf_spec h1 hy (lo := lo) (hi := hi) (by omega) (by omega)
          rw [r1]
          exact ⟨(e9, aw.2), List.mem_append_right _ (List.mem_append_left _ List.mem_cons_self), r2, h2.2⟩
        · obtain ⟨e9, r1, r2⟩ := ab_rf_spec h1 hy (lo := hi + 1) (hi := 2147483647) (by omega) (by omega)
          rw [r1]
          exact ⟨(e9, aw.2), List.mem_append_right _ (List.mem_append_right _ List.mem_cons_self), r2, h2.2⟩
  · cases h
noncomputable def ab_sh (a b : Nat) (S : ab_S) : ab_S := ((S.1.1, S.1.2.1, S.1.2.2.1, S.1.2.2.2.1 + a, S.1.2.2.2.2 + b), S.2)
/-- an instruction does the same with counters that are higher -/
noncomputable def ab_un (a b : Nat) (f f' : ab_P) : Prop := ∀ (cal : ab_K) (env : ab_E) (nl : Nat) (aw : ab_H) (cl sl : Nat) (lv : List (Nat × ab_V)) (st : List ab_V) (r : List ab_S), f cal env nl aw cl sl lv st = some r → f' cal env nl aw (cl + a) (sl + b) lv st = some (r.map (ab_sh a b))
section
variable {a b : Nat}
theorem un_push {v : ab_V} {np : Nat} : ab_un a b (op_push v np) (op_push v np) := by
  intro cal env nl aw cl sl lv st r h
  unfold op_push at h ⊢
  cases h; rfl
theorem un_goto {t : Nat} : ab_un a b (op_goto t) (op_goto t) := by
  intro cal env nl aw cl sl lv st r h
  unfold op_goto at h ⊢
  cases h; rfl
theorem un_il {i np : Nat} : ab_un a b (op_il i np) (op_il i np) := by
  intro cal env nl aw cl sl lv st r h
  unfold op_il at h ⊢
  split at h
  · cases h; rfl
  · cases h
theorem un_al {i np : Nat} : ab_un a b (op_al i np) (op_al i np) := by
  intro cal env nl aw cl sl lv st r h
  unfold op_al at h ⊢
  split at h
  · rename_i r0 hr
    cases hn : ab_nn r0
    · rw [hn] at h; cases h
    · rw [hn, cond_true] at h
      rw [cond_true]
      cases h; rfl
  · cases h
theorem un_is {i np : Nat} : ab_un a b (op_is i np) (op_is i np) := by
  intro cal env nl aw cl sl lv st r h
  unfold op_is at h ⊢
  split at h
  · rw [ab_flK_eq] at h ⊢
    cases h; rfl
  · cases h
theorem un_pop {np : Nat} : ab_un a b (op_pop np) (op_pop np) := by
  intro cal env nl aw cl sl lv st r h
  unfold op_pop at h ⊢
  split at h
  · rename_i v st'
    cases hn : ab_lg v
    · rw [hn, cond_false] at h
      rw [cond_false]
      cases h; rfl
    · rw [hn] at h; cases h
  · cases h
theorem un_sldV {np : Nat} : ab_un a b (op_sldV np) (op_sldV np) := by
  intro cal env nl aw cl sl lv st r h
  unfold op_sldV at h ⊢
  split at h
  · rename_i c0 j st'
    cases hn : (ab_le 0 c0 && ab_le c0 5)
    · rw [hn] at h; cases h
    · rw [hn, cond_true, ab_fn_eq] at h
      rw [cond_true, ab_fn_eq]
      cases h; rfl
  · cases h
theorem un_b2 {K : ab_E → ab_I → ab_I → (ab_E → ab_I → ab_A) → ab_A} {np : Nat} (hK : ∀ env x y, ∃ env' a', ∀ k, K env x y k = k env' a') : ab_un a b (op_b2 K np) (op_b2 K np) := by
  intro cal env nl aw cl sl lv st r h
  unfold op_b2 at h ⊢
  split at h
  · rename_i y x st'
    obtain ⟨env', a', q⟩ := hK env x y
    rw [q] at h ⊢
    cases h; rfl
  · cases h
theorem un_add2 {np : Nat} : ab_un a b (op_b2 (ab_add2K) np) (op_b2 (ab_add2K) np) := un_b2 (fun env x y => by
  obtain ⟨env', a', q, -⟩ := ab_add2K_eq (β := ab_A) env x y
  exact ⟨env', a', q⟩)
theorem un_an8 {np : Nat} : ab_un a b (op_b2 (ab_an8K) np) (op_b2 (ab_an8K) np) := un_b2 (fun env x y => by
  obtain ⟨env', a', q, -⟩ := ab_an8K_eq (β := ab_A) env x y
  exact ⟨env', a', q⟩)
theorem un_inc {i np : Nat} {n : Int} : ab_un a b (op_inc i n np) (op_inc i n np) := by
  intro cal env nl aw cl sl lv st r h
  unfold op_inc at h ⊢
  split at h
  · rename_i x hx
    obtain ⟨env', a', q, -⟩ := ab_addK_eq (β := ab_A) env x (none, n)
    rw [q, ab_flK_eq] at h
    rw [q, ab_flK_eq]
    cases h; rfl
  · cases h
theorem ab_frk_sh {nl : Nat} {aw : ab_H} {cl sl : Nat} {lv : List (Nat × ab_V)} {st : List ab_V} {tgt : Nat} {k : List ab_S} : ∀ {T : List ab_E}, (ab_frk nl aw cl sl lv st T tgt k).map (ab_sh a b) = ab_frk nl aw (cl + a) (sl + b) lv st T tgt (k.map (ab_sh a b))
  | [] => rfl
  | _ :: T => by
    simp only [ab_frk, List.map_cons]
    rw [ab_frk_sh (T := T)]
    rfl
theorem un_icmp {n tgt np : Nat} : ab_un a b (op_icmp n tgt np) (op_icmp n tgt np) := by
  intro cal env nl aw cl sl lv st r h
  unfold op_icmp at h ⊢
  split at h
  · rename_i y x st'
    obtain ⟨T, F, q, -⟩ := ab_brK_eq (β := ab_A) n env x y
    rw [q] at h ⊢
    cases h
    rw [ab_frk_sh, ab_frk_sh]; rfl
  · cases h
theorem ab_splK_c : ∀ (n : Nat) (st acc : List ab_V), (∃ as rest, ∀ k, ab_splK n st acc k = k as rest) ∨ ∀ k, ab_splK n st acc k = none
  | 0, st, acc => Or.inl ⟨acc, st, fun _ => rfl⟩
  | _ + 1, [], _ => Or.inr (fun _ => rfl)
  | n + 1, v :: st, acc => ab_splK_c n st (v :: acc)
theorem ab_reK_sh {np cl sl : Nat} {lv : List (Nat × ab_V)} {rest : List ab_V} : ∀ {outs : List ab_O} {k k' : List ab_S → ab_A} {r : List ab_S}, (∀ L r, k L = some r → k' (L.map (ab_sh a b)) = some (r.map (ab_sh a b))) → ab_reK np cl sl lv rest outs k = some r → ab_reK np (cl + a) (sl + b) lv rest outs k' = some (r.map (ab_sh a b))
  | [], k, k', r, hk, h => hk [] r h
  | (n, v, (env, nl, aw, c0, s0)) :: r0, k, k', r, hk, h => by
    simp only [ab_reK] at h ⊢
    split at h
    · split at h
      · rename_i v'
        exact ab_reK_sh (fun L r hL => hk (((env, nl, aw, cl, sl), np, lv, v' :: rest) :: L) r hL) h
      · cases h
    · exact ab_reK_sh (fun L r hL => hk (((env, nl, aw, cl, sl), np, lv, rest) :: L) r hL) h
    · cases h
theorem un_call {rc mid na mc ms A B np : Nat} : ab_un a b (op_call rc mid na mc ms A B np) (op_call rc mid na mc ms (A + a) (B + b) np) := by
  intro cal env nl aw cl sl lv st r h
  unfold op_call at h ⊢
  rcases ab_splK_c na st [] with ⟨as, rest, q⟩ | q
  · rw [q] at h ⊢
    cases hb : (ab_chk rc as aw && Nat.ble (ab_csum rest) 8 && Nat.ble (cl + mc) A && Nat.ble (sl + ms) B)
    · rw [hb] at h; cases h
    · rw [hb, cond_true] at h
      rw [Bool.and_eq_true, Bool.and_eq_true, Bool.and_eq_true] at hb
      obtain ⟨⟨⟨b1, b2⟩, b3⟩, b4⟩ := hb
      have c3 : Nat.ble (cl + a + mc) (A + a) = true := Nat.ble_eq_true_of_le (by have := Nat.le_of_ble_eq_true b3; omega)
      have c4 : Nat.ble (sl + b + ms) (B + b) = true := Nat.ble_eq_true_of_le (by have := Nat.le_of_ble_eq_true b4; omega)
      rw [b1, b2, c3, c4]
      simp only [Bool.and_self, cond_true]
      split at h
      · cases h
      · rename_i outs ho
        simp only [ab_fn_eq] at h ⊢
        have e1 : cl + a + mc = cl + mc + a := by omega
        have e2 : sl + b + ms = sl + ms + b := by omega
        rw [e1, e2]
        exact ab_reK_sh (fun L r hL => by cases hL; rfl) h
  · rw [q] at h; cases h
theorem ab_preK_sh {f f' : ab_P} (hu : ab_un a b f f') {cal : ab_K} {nl : Nat} {cs : List ab_C} {cl sl : Nat} {lv : List (Nat × ab_V)} {st : List ab_V} : ∀ {l : List (ab_E × List ab_Y)} {r : List ab_S}, ab_preK f cal nl cs cl sl lv st l = some r → ab_preK f' cal nl cs (cl + a) (sl + b) lv st l = some (r.map (ab_sh a b))
  | [], r, h => by cases h; rfl
  | (env, fx) :: t, r, h => by
    simp only [ab_preK] at h ⊢
    split at h
    · rename_i x hx
      split at h
      · rename_i y hy
        cases h
        rw [hu _ _ _ _ _ _ _ _ _ hx, ab_preK_sh hu hy]
        simp only [List.map_append]
      · cases h
    · cases h
theorem un_pre {g : ab_PR} {f f' : ab_P} (hu : ab_un a b f f') : ab_un a b (op_pre g f) (op_pre g f') := by
  intro cal env nl aw cl sl lv st r h
  unfold op_pre at h ⊢
  split at h
  · rename_i l hl
    exact ab_preK_sh hu h
  · cases h
end
section
variable {a b : Nat}
theorem ab_twK_sh {x : ab_I} {env : ab_E} {nl : Nat} {aw : ab_H} {cl sl : Nat} {lv : List (Nat × ab_V)} {st : List ab_V} : ∀ {tg : List Nat} {q : Int} {k k' : List ab_S → ab_A} {r : List ab_S}, (∀ L r, k L = some r → k' (L.map (ab_sh a b)) = some (r.map (ab_sh a b))) → ab_twK x env nl aw cl sl lv st tg q k = some r → ab_twK x env nl aw (cl + a) (sl + b) lv st tg q k' = some (r.map (ab_sh a b))
  | [], q, k, k', r, hk, h => hk [] r h
  | t :: tg, q, k, k', r, hk, h => by
    simp only [ab_twK, ab_rfK_eq, ab_fi_eq] at h ⊢
    cases ho : ab_rf env x q q with
    | none =>
      rw [ho] at h
      exact ab_twK_sh hk h
    | some env' =>
      rw [ho] at h
      exact ab_twK_sh (fun L r hL => hk (((env', nl, aw, cl, sl), t, lv, st) :: L) r hL) h
theorem un_tsw {lo hi : Int} {tg : List Nat} {dt : Nat} : ab_un a b (op_tsw lo hi tg dt) (op_tsw lo hi tg dt) := by
  intro cal env nl aw cl sl lv st r h
  unfold op_tsw at h ⊢
  split at h
  · rename_i x st'
    refine ab_twK_sh (fun L r hL => ?_) h
    simp only [ab_rfK_eq] at hL ⊢
    cases h1 : ab_rf env x (-2147483648) (lo - 1) <;> cases h2 : ab_rf env x (hi + 1) 2147483647 <;> rw [h1, h2] at hL <;> simp only [ab_o1] at hL ⊢ <;> (cases hL; simp only [ab_frk, List.map_cons, ab_sh])
  · cases h
end
/-- a run, and what each instruction hands on -/
theorem ab_run_gen {tab : ab_tab} {cal : ab_K} {P : ab_S → Prop} (hT : ∀ b ∈ tab, ∀ q ∈ b, q.2.1 = 0 → ∀ (env : ab_E) (nl : Nat) (aw : ab_H) (cl sl : Nat) (lv : List (Nat × ab_V)) (st : List ab_V) (r : List ab_S), q.2.2 cal env nl aw cl sl lv st = some r → (∀ S ∈ r, P S) → P ((env, nl, aw, cl, sl), q.1, lv, st)) : ∀ {n : Nat} {wk : List ab_S} {outs r : List (Nat × ab_S)}, ab_run tab cal n wk outs = some r → (∀ k S, (k, S) ∈ r → P S) → ∀ S ∈ wk, P S
  | 0, _, _, _, h, _ => by cases h
  | n + 1, [], outs, r, h, _ => fun S hS => by cases hS
  | n + 1, ((env, nl, aw, cl, sl), pc, lv, st) :: w, outs, r, h, hr => by
    simp only [ab_run_s] at h
    split at h
    · cases h
    · rename_i k f hf
      obtain ⟨b, hb1, hb2⟩ := ab_fd_mem hf
      split at h
      · split at h
        · cases h
        · rename_i r' hf2
          rw [ab_apK_eq] at h
          have ih := ab_run_gen hT h hr
          intro S hS
          rcases List.mem_cons.mp hS with rfl | hS
          · exact hT b hb1 _ hb2 rfl env nl aw cl sl lv st r' hf2 (fun S hS => ih S (List.mem_append_left _ hS))
          · exact ih S (List.mem_append_right _ hS)
      · have ih := ab_run_gen hT h hr
        intro S hS
        rcases List.mem_cons.mp hS with rfl | hS
        · exact hr _ _ (ab_run_sub h _ List.mem_cons_self)
        · exact ih S hS
/-- a new object's fields -/
noncomputable def ab_dv (v : Value) : ab_V := match v with
  | .int _ => .inl (none, 0)
  | .long _ => .inr (.inl (.inl (none, 0)))
  | _ => .inr (.inr (0, 0))
theorem ab_hev {vs : List Value} (h : ∀ v ∈ vs, v = .int 0 ∨ v = .long 0 ∨ v = .null) (X : ab_X) (z : ab_Z) : (vs.map (fun v => ((true, .inl (ab_dv v)) : ab_F))).length = vs.length ∧ ∀ (j : Nat) (f : ab_F) (v : Value), (vs.map (fun v => ((true, .inl (ab_dv v)) : ab_F)))[j]? = some f → vs[j]? = some v → ab_ho X z f.2 v := by
  refine ⟨List.length_map _, fun j f v hf hv => ?_⟩
  rw [List.getElem?_map, hv] at hf
  cases hf
  rcases h v (List.mem_of_getElem? hv) with rfl | rfl | rfl
  · show ab_ev X z (.inl (none, 0)) = some (.int 0)
    rfl
  · show ab_ev X z (.inr (.inl (.inl (none, 0)))) = some (.long 0)
    rfl
  · show ab_ev X z (.inr (.inr (0, 0))) = some .null
    rfl
