/-! lookupswitch -/
noncomputable def ab_lwK (a : ab_I) (env : ab_E) (nl : Nat) (aw : ab_H) (cl sl : Nat) (lv : List (Nat × ab_V)) (st : List ab_V) : List (Int × Nat) → List ab_S
  | [] => []
  | (k, t) :: r => (match ab_rf env a k k with
    | some e => ((e, nl, aw, cl, sl), t, lv, st) :: ab_lwK a env nl aw cl sl lv st r
    | none => ab_lwK a env nl aw cl sl lv st r)
theorem ab_lwK_in {a : ab_I} {env e : ab_E} {nl : Nat} {aw : ab_H} {cl sl : Nat} {lv : List (Nat × ab_V)} {st : List ab_V} {k : Int} {t : Nat} (hr : ab_rf env a k k = some e) : ∀ {l : List (Int × Nat)}, (k, t) ∈ l → ((e, nl, aw, cl, sl), t, lv, st) ∈ ab_lwK a env nl aw cl sl lv st l
  | [], h => by cases h
  | (k', t') :: r, h => by
    simp only [ab_lwK]
    rcases List.mem_cons.mp h with h | h
    · cases h
      rw [hr]
      exact List.mem_cons_self
    · have ih := ab_lwK_in (nl := nl) (aw := aw) (cl := cl) (sl := sl) (lv := lv) (st := st) hr h
      split
      · exact List.mem_cons_of_mem _ ih
      · exact ih
noncomputable def op_lsw (tg : List (Int × Nat)) (dt : Nat) : ab_P := fun _ env nl aw cl sl lv st => match st with
  | .inl a :: st => some (((env, nl, aw, cl, sl), dt, lv, st) :: ab_lwK a env nl aw cl sl lv st tg)
  | _ => none
section
variable {p : Program} {l : Launch} {e : Env} {R : Room} {s : State} {m : MethodId} {args : Array Value} {below : List Frame} {meth : Method} {c : Code} {Q : State → Prop} {cc : ByteArray} {own : String} {nL : Nat} {X : ab_X} {D : va_G} {z0 : ab_Z0} {cal : ab_K} {pc : Nat}
theorem so_lsw (C : ab_cx p R s m args c cc own nL X D) {df : Int} {ps : Array (Int × Int)} {len dt : Nat} {tg : List (Int × Nat)} (hp : (ps.toList.zip (ps.toList.drop 1)).all (fun (a, next) => a.1 < next.1) = true) (htg : ∀ k : Int, (∃ t : Nat, (k, t) ∈ tg ∧ (pc : Int) + Op.lookupswitch.offset ps.toList df k = t) ∨ (pc : Int) + Op.lookupswitch.offset ps.toList df k = dt) (d : decode cc pc = .ok (.lookupswitch df ps, len)) : ab_so p l e R s m args below meth c Q nL X D z0 cal pc (op_lsw tg dt) := by
  intro env nl aw cl sl lv st r hr hk z ws H locs ls cst hR hl hs
  dsimp only at hR hl hs
  unfold op_lsw at hr
  split at hr
  · rename_i a st'
    cases hr
    obtain ⟨x, r0, rfl, h1, h2⟩ := ab_st1 hs
    obtain ⟨y, rfl, h3⟩ := ab_evi h1
    rcases htg y.toInt with ⟨t, ht, e1⟩ | e1
    · obtain ⟨e9, g1, g2⟩ := ab_rf_spec hR.1 h3 (lo := y.toInt) (hi := y.toInt) (Int.le_refl _) (Int.le_refl _)
      refine lv_lookup C.1 C.2.1 d hp rfl e1 ?_
      exact hk _ (List.mem_cons_of_mem _ (ab_lwK_in g1 ht)) z ws H locs ls r0 (hR.ref g2) hl h2
    · refine lv_lookup C.1 C.2.1 d hp rfl e1 ?_
      exact hk _ List.mem_cons_self z ws H locs ls r0 hR hl h2
  · cases hr
end
