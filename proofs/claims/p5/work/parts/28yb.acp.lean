/-! Exact instructions that image and restore want. -/
section
variable {p : Program} {l : Launch} {e : Env} {R : Room} {s : State} {m : MethodId} {args : Array Value} {below : List Frame} {meth : Method} {c : Code} {cl sl : Nat} {Q : State → Prop} {cc : ByteArray} {own : String} {nL : Nat} {X : ab_X} {D : va_G} {A : ex_A} {pc : Nat} {w : List ex_E} {lv : List (Nat × Value)} {st : List Value}
/-- a whole row copied onto another one of the same length -/
theorem ex_aci (C : ab_cx p R s m args c cc own nL X D) {i : Nat} (hw1 : Cond.methodLink own i arraycopyName ∈ ab_TG) (hw2 : Cond.native arraycopyName ∈ ab_TG) (hw3 : Cond.static arraycopyName ∈ ab_TG) (hw4 : Cond.initialized "java/lang/System" ∈ ab_TG) (d : decode cc pc = .ok (.invokestatic i, 3)) {js jd n : Nat} {f g : Nat → Int32} {nn : Int32} (hjs : w[js]? = some (.inr (0, n, .inl f))) (hjd : w[jd]? = some (.inr (0, n, .inl g))) (hn : nn.toInt = n) (hcs : ex_cs st ≤ 8) {np : Nat} (hp : pc + 3 = np) (k : ∀ h : Nat → Int32, (∀ j : Nat, j < n → h j = f j) → ex_ok p l e R s m args below meth c cl sl Q nL X D A (w.set jd (.inr (0, n, .inl h))) np lv st) : ex_ok p l e R s m args below meth c cl sl Q nL X D A w pc lv (.int nn :: .int 0 :: .ref jd :: .int 0 :: .ref js :: st) := fun ws H locs ls hR hl => by
  subst hp
  obtain ⟨e0, c1, g1, g2, g3, cA, rfl, g4⟩ := hR.cell hjs
  obtain ⟨e1, c2, b1, b2, b3, cB, rfl, b4⟩ := hR.cell hjd
  have z : nn.toNatClampNeg = n := by show nn.toInt.toNat = n; omega
  have z0 : (0 : Int32).toNatClampNeg = 0 := rfl
  have h3 : ¬ nn < 0 := fun h => by
    have h4 := Int32.lt_iff_toInt_lt.mp h
    have e9 : (0 : Int32).toInt = 0 := by decide
    omega
  have hnw : nativeFrameWords "java/lang/System" "arraycopy" 5 ≤ 100 := by decide +kernel
  have hK2 := ((ab_cxE C).Kt g4).app ((ab_cxE C).Kt b4)
  refine va_copyi (cl := vwCl) (D := D) (tys := [(cA, .int), (cB, .int)]) (ty := .int) C.1 C.2.1 (C.2.2.1.trans hl.1.symm) C.2.2.2.1 (C.2.2.2.2.1 _ hw1) (C.2.2.2.2.1 _ hw2) (C.2.2.2.2.1 _ hw3) (C.2.2.2.2.1 _ hw4) hK2 hR.2.1 hR.2.2.1 hR.2.2.2 js jd 0 1 c1 c2 rfl rfl rfl (by decide) (by decide) h3 (by rw [z, z0, Nat.zero_add]; exact Nat.le_refl _) (by rw [z, z0, Nat.zero_add]; exact Nat.le_refl _) (fun _ _ => rfl) (by have := C.2.2.2.2.2.2.1; omega) (by have := C.2.2.2.2.2.2.2; rw [ex_cs_ok]; omega) d (fun H1 locs1 d1 d2 d3 => ?_)
  exact k (va_cpy f g (0 : Int32).toNatClampNeg (0 : Int32).toNatClampNeg nn.toNatClampNeg) (fun j hj => by
    rw [z, z0]
    rw [pk_cpy_in (Nat.zero_le _) (by omega)]
    simp) _ H1 locs1 ls (hR.set c2 ⟨b1, b2, ⟨_, rfl⟩, cB, rfl, b4⟩ d1 d2 d3) hl
/-- a whole row copied onto another one of the same length -/
theorem ex_acl (C : ab_cx p R s m args c cc own nL X D) {i : Nat} (hw1 : Cond.methodLink own i arraycopyName ∈ ab_TG) (hw2 : Cond.native arraycopyName ∈ ab_TG) (hw3 : Cond.static arraycopyName ∈ ab_TG) (hw4 : Cond.initialized "java/lang/System" ∈ ab_TG) (d : decode cc pc = .ok (.invokestatic i, 3)) {js jd n : Nat} {f g : Nat → Int64} {nn : Int32} (hjs : w[js]? = some (.inr (1, n, .inr (.inl f)))) (hjd : w[jd]? = some (.inr (1, n, .inr (.inl g)))) (hn : nn.toInt = n) (hcs : ex_cs st ≤ 8) {np : Nat} (hp : pc + 3 = np) (k : ∀ h : Nat → Int64, (∀ j : Nat, j < n → h j = f j) → ex_ok p l e R s m args below meth c cl sl Q nL X D A (w.set jd (.inr (1, n, .inr (.inl h)))) np lv st) : ex_ok p l e R s m args below meth c cl sl Q nL X D A w pc lv (.int nn :: .int 0 :: .ref jd :: .int 0 :: .ref js :: st) := fun ws H locs ls hR hl => by
  subst hp
  obtain ⟨e0, c1, g1, g2, g3, cA, rfl, g4⟩ := hR.cell hjs
  obtain ⟨e1, c2, b1, b2, b3, cB, rfl, b4⟩ := hR.cell hjd
  have z : nn.toNatClampNeg = n := by show nn.toInt.toNat = n; omega
  have z0 : (0 : Int32).toNatClampNeg = 0 := rfl
  have h3 : ¬ nn < 0 := fun h => by
    have h4 := Int32.lt_iff_toInt_lt.mp h
    have e9 : (0 : Int32).toInt = 0 := by decide
    omega
  have hnw : nativeFrameWords "java/lang/System" "arraycopy" 5 ≤ 100 := by decide +kernel
  have hK2 := ((ab_cxE C).Kt g4).app ((ab_cxE C).Kt b4)
  refine va_copyl (cl := vwCl) (D := D) (tys := [(cA, .long), (cB, .long)]) (ty := .long) C.1 C.2.1 (C.2.2.1.trans hl.1.symm) C.2.2.2.1 (C.2.2.2.2.1 _ hw1) (C.2.2.2.2.1 _ hw2) (C.2.2.2.2.1 _ hw3) (C.2.2.2.2.1 _ hw4) hK2 hR.2.1 hR.2.2.1 hR.2.2.2 js jd 0 1 c1 c2 rfl rfl rfl (by decide) (by decide) h3 (by rw [z, z0, Nat.zero_add]; exact Nat.le_refl _) (by rw [z, z0, Nat.zero_add]; exact Nat.le_refl _) (fun _ _ => rfl) (by have := C.2.2.2.2.2.2.1; omega) (by have := C.2.2.2.2.2.2.2; rw [ex_cs_ok]; omega) d (fun H1 locs1 d1 d2 d3 => ?_)
  exact k (va_cpy f g (0 : Int32).toNatClampNeg (0 : Int32).toNatClampNeg nn.toNatClampNeg) (fun j hj => by
    rw [z, z0]
    rw [pk_cpy_in (Nat.zero_le _) (by omega)]
    simp) _ H1 locs1 ls (hR.set c2 ⟨b1, b2, ⟨_, rfl⟩, cB, rfl, b4⟩ d1 d2 d3) hl
end
