/-! A long constant of an int's size, kept. -/
section
variable {p : Program} {l : Launch} {e : Env} {R : Room} {s : State} {m : MethodId} {args : Array Value} {below : List Frame} {meth : Method} {c : Code} {Q : State → Prop} {cc : ByteArray} {own : String} {nL : Nat} {X : ab_X} {D : va_G} {z0 : ab_Z0} {cal : ab_K} {pc : Nat}
theorem so_ldc2c (C : ab_cx p R s m args c cc own nL X D) {i : Nat} {v : Int64} {n : Int} (hv : Int64.ofInt n = v) (hw : Cond.constantLong own i v ∈ ab_TG) (d : decode cc pc = .ok (.ldc2_w i, 3)) : ab_so p l e R s m args below meth c Q nL X D z0 cal pc (op_push (.inr (.inl (.inl (none, n)))) (pc + 3)) := by
  intro env nl aw cl sl lv st r hr hk z ws H locs ls cst hR hl hs
  dsimp only at hR hl hs
  simp only [op_push, Option.some.injEq] at hr
  subst hr
  refine lv_ldc2 C.1 C.2.1 C.2.2.2.1 (C.2.2.2.2.1 _ hw) d ?_
  exact hk _ List.mem_cons_self z ws H locs ls (.long v :: cst) hR hl (by simp only [List.map_cons, ab_ev, ab_evL, Option.map_some, hv]; rw [hs])
end
