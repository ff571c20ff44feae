/-! Exact states: worlds told by values; a reference is the number of a cell (from 1000000 on of the tables' rows, from 2000000 on of others). -/
abbrev ex_E : Type := (Nat × List Value) ⊕ (Nat × Nat × ab_ct)
/-- the addresses of the cells; of others -/
abbrev ex_A : Type := List Nat × (Nat → Nat)
noncomputable def ex_ad (X : ab_X) (A : ex_A) (j : Nat) : Nat := if j < 1000000 then A.1.getD j 0 else if j < 2000000 then X.2.2.2.2.1 (j - 1000000) else A.2 (j - 2000000)
noncomputable def ex_cv (X : ab_X) (A : ex_A) (v : Value) : Value := match v with
  | .ref j => .ref (ex_ad X A j)
  | v => v
theorem ex_cat (X : ab_X) (A : ex_A) (v : Value) : (ex_cv X A v).category = v.category := by cases v <;> rfl
noncomputable def ex_cR (X : ab_X) (A : ex_A) (s : State) (c : ex_E) (e : va_E) : Prop := match c with
  | .inl o => e = .inr (o.1, o.2.map (ex_cv X A))
  | .inr a => a.1 < 100 ∧ a.2.1 ≤ 100000 ∧ ab_km a.1 a.2.2 ∧ ∃ cA, e = .inl (cA, a.2.1, a.2.2) ∧ (ArrOfT s cA (ab_ft a.1) ∧ va_RA s cA (ab_ft a.1))
noncomputable def ex_wR (X : ab_X) (A : ex_A) (s : State) (w : List ex_E) (ws : va_W) : Prop := ws.map Prod.fst = A.1 ∧ (w.length = ws.length ∧ w.length ≤ 100000) ∧ ∀ (k : Nat) (c : ex_E), w[k]? = some c → ∃ q, ws[k]? = some q ∧ ex_cR X A s c q.2
theorem ex_wR.moved {X : ab_X} {A : ex_A} {s U : State} {w : List ex_E} {ws : va_W} (h : s.vm.Alike U.vm) (hw : ex_wR X A s w ws) : ex_wR X A U w ws := ⟨hw.1, hw.2.1, fun k c hk => by
  obtain ⟨q, h1, h2⟩ := hw.2.2 k c hk
  refine ⟨q, h1, ?_⟩
  rcases c with o | a
  · exact h2
  · obtain ⟨g1, g2, g3, cA, g4, g5, g6⟩ := h2
    exact ⟨g1, g2, g3, cA, g4, arrOfT_moved h g5, g6.moved h⟩⟩
noncomputable def ex_R (X : ab_X) (D : va_G) (s : State) (A : ex_A) (w : List ex_E) (ws : va_W) (H : Heap) (locs : List Loc) : Prop := ex_wR X A s w ws ∧ va_P D vwCl ws H ∧ va_D (ab_Ar X) ws ∧ va_S (ab_Ar X) s.heap H locs
theorem ex_R.cell {X : ab_X} {D : va_G} {s : State} {A : ex_A} {w : List ex_E} {ws : va_W} {H : Heap} {locs : List Loc} (h : ex_R X D s A w ws H locs) {k : Nat} {c : ex_E} (hk : w[k]? = some c) : ∃ e, ws[k]? = some (ex_ad X A k, e) ∧ ex_cR X A s c e := by
  obtain ⟨⟨h1, ⟨h2, h4⟩, h3⟩, -⟩ := h
  obtain ⟨⟨a, e⟩, q1, q2⟩ := h3 k c hk
  have hk9 : k < 1000000 := by
    have := (List.getElem?_eq_some_iff.mp hk).1
    omega
  have ha : A.1[k]? = some a := by rw [← h1, List.getElem?_map, q1]; rfl
  have h9 : ex_ad X A k = a := by
    unfold ex_ad
    rw [if_pos hk9, List.getD_eq_getElem?_getD, ha]; rfl
  exact ⟨e, by rw [h9]; exact q1, q2⟩
theorem ex_R.set {X : ab_X} {D : va_G} {s : State} {A : ex_A} {w : List ex_E} {ws : va_W} {H H1 : Heap} {locs locs1 : List Loc} (h : ex_R X D s A w ws H locs) {k a : Nat} {e0 e1 : va_E} {c : ex_E} (hk : ws[k]? = some (a, e0)) (hc : ex_cR X A s c e1) (g1 : va_P D vwCl (ws.set k (a, e1)) H1) (g2 : va_D (ab_Ar X) (ws.set k (a, e1))) (g3 : va_S (ab_Ar X) s.heap H1 locs1) : ex_R X D s A (w.set k c) (ws.set k (a, e1)) H1 locs1 := by
  obtain ⟨⟨h1, h2, h3⟩, -⟩ := h
  refine ⟨⟨by rw [ab_fst_set hk]; exact h1, by rw [List.length_set, List.length_set]; exact h2, fun j d hj => ?_⟩, g1, g2, g3⟩
  have hkl : k < ws.length := (List.getElem?_eq_some_iff.mp hk).1
  by_cases hjk : k = j
  · subst hjk
    rw [List.getElem?_set_self (by omega)] at hj
    cases hj
    exact ⟨_, List.getElem?_set_self hkl, hc⟩
  · rw [List.getElem?_set_ne hjk] at hj
    obtain ⟨q, q1, q2⟩ := h3 j d hj
    exact ⟨q, by rw [List.getElem?_set_ne hjk]; exact q1, q2⟩
noncomputable def ex_mp (X : ab_X) (A : ex_A) (lv : List (Nat × Value)) : List (Nat × Value) := lv.map (fun q => (q.1, ex_cv X A q.2))
noncomputable def ex_lk : List (Nat × Value) → Nat → Option Value
  | [], _ => none
  | (j, v) :: r, i => bif Nat.beq j i then some v else ex_lk r i
theorem ex_lk_mem : ∀ {lv : List (Nat × Value)} {i : Nat} {v : Value}, ex_lk lv i = some v → (i, v) ∈ lv
  | [], _, _, h => by cases h
  | (j, u) :: r, i, v, h => by
    simp only [ex_lk] at h
    cases hb : Nat.beq j i
    · rw [hb] at h; exact List.mem_cons_of_mem _ (ex_lk_mem h)
    · rw [hb] at h
      cases h
      rw [Nat.eq_of_beq_eq_true hb]; exact List.mem_cons_self
theorem ex_at {X : ab_X} {A : ex_A} {nL i : Nat} {ls : Array Slot} {lv : List (Nat × Value)} {v : Value} (hl : lv_has ls nL (ex_mp X A lv)) (h : ex_lk lv i = some v) : ls[i]? = some (.val (ex_cv X A v)) := hl.2.2 (i, ex_cv X A v) (List.mem_map.mpr ⟨(i, v), ex_lk_mem h, rfl⟩)
/-- what is left of the locals behind a store of one word, of two -/
noncomputable def ex_f1 (i : Nat) (lv : List (Nat × Value)) : List (Nat × Value) := lv.filter (fun q => !(q.1 == i) && !(q.1 + 1 == i && q.2.category == 2))
noncomputable def ex_f2 (i : Nat) (lv : List (Nat × Value)) : List (Nat × Value) := lv.filter (fun q => !(q.1 == i) && (!(q.1 == i + 1) && !(q.1 + 1 == i && q.2.category == 2)))
theorem ex_f1_mp (X : ab_X) (A : ex_A) (i : Nat) (v : Value) : ∀ (lv : List (Nat × Value)), (i, ex_cv X A v) :: (ex_mp X A lv).filter (fun q => !(q.1 == i) && !(q.1 + 1 == i && q.2.category == 2)) = ex_mp X A ((i, v) :: ex_f1 i lv) := by
  intro lv
  show _ = (i, ex_cv X A v) :: ex_mp X A (ex_f1 i lv)
  congr 1
  induction lv with
  | nil => rfl
  | cons q r ih =>
    obtain ⟨j, u⟩ := q
    show List.filter _ ((j, ex_cv X A u) :: ex_mp X A r) = _
    unfold ex_f1 at ih ⊢
    rw [List.filter_cons, List.filter_cons, ih]
    dsimp only
    rw [ex_cat]
    cases (!(j == i) && !(j + 1 == i && u.category == 2)) <;> rfl
theorem ex_f2_mp (X : ab_X) (A : ex_A) (i : Nat) (v : Value) : ∀ (lv : List (Nat × Value)), (i, ex_cv X A v) :: (ex_mp X A lv).filter (fun q => !(q.1 == i) && (!(q.1 == i + 1) && !(q.1 + 1 == i && q.2.category == 2))) = ex_mp X A ((i, v) :: ex_f2 i lv) := by
  intro lv
  show _ = (i, ex_cv X A v) :: ex_mp X A (ex_f2 i lv)
  congr 1
  induction lv with
  | nil => rfl
  | cons q r ih =>
    obtain ⟨j, u⟩ := q
    show List.filter _ ((j, ex_cv X A u) :: ex_mp X A r) = _
    unfold ex_f2 at ih ⊢
    rw [List.filter_cons, List.filter_cons, ih]
    dsimp only
    rw [ex_cat]
    cases (!(j == i) && (!(j == i + 1) && !(j + 1 == i && u.category == 2))) <;> rfl
/-- an index within a row -/
theorem ex_in {i : Int32} {n : Nat} (hn : n ≤ 100000) (h : 0 ≤ i.toInt ∧ i.toInt < n) : vp_in i n := (ab_ixin h.1 h.2 (by omega)).1
noncomputable def ex_ok (p : Program) (l : Launch) (e : Env) (R : Room) (s : State) (m : MethodId) (args : Array Value) (below : List Frame) (meth : Method) (c : Code) (cl sl : Nat) (Q : State → Prop) (nL : Nat) (X : ab_X) (D : va_G) (A : ex_A) (w : List ex_E) (pc : Nat) (lv : List (Nat × Value)) (st : List Value) : Prop :=
  ∀ (ws : va_W) (H : Heap) (locs : List Loc) (ls : Array Slot), ex_R X D s A w ws H locs → lv_has ls nL (ex_mp X A lv) → W p l e R s m args below meth c H locs cl sl Q (F0 m pc ls (st.map (ex_cv X A)))
section
variable {p : Program} {l : Launch} {e : Env} {R : Room} {s : State} {m : MethodId} {args : Array Value} {below : List Frame} {meth : Method} {c : Code} {cl sl : Nat} {Q : State → Prop} {cc : ByteArray} {own : String} {nL : Nat} {X : ab_X} {D : va_G} {A : ex_A} {pc : Nat} {w : List ex_E} {lv : List (Nat × Value)} {st : List Value}
theorem ex_iconst (C : ab_cx p R s m args c cc own nL X D) {n : Int} {v : Int32} (d : decode cc pc = .ok (.iconst n, 1)) (hv : Int32.ofInt n = v) {np : Nat} (hp : pc + 1 = np) (k : ex_ok p l e R s m args below meth c cl sl Q nL X D A w np lv (.int v :: st)) : ex_ok p l e R s m args below meth c cl sl Q nL X D A w pc lv st := fun ws H locs ls hR hl => by subst hp; exact lv_iconst C.1 C.2.1 d hv (k ws H locs ls hR hl)
theorem ex_bipush (C : ab_cx p R s m args c cc own nL X D) {n : Int} {v : Int32} (d : decode cc pc = .ok (.bipush n, 2)) (hv : (Int8.ofInt n).toInt32 = v) {np : Nat} (hp : pc + 2 = np) (k : ex_ok p l e R s m args below meth c cl sl Q nL X D A w np lv (.int v :: st)) : ex_ok p l e R s m args below meth c cl sl Q nL X D A w pc lv st := fun ws H locs ls hR hl => by subst hp; exact lv_bipush C.1 C.2.1 d hv (k ws H locs ls hR hl)
theorem ex_sipush (C : ab_cx p R s m args c cc own nL X D) {n : Int} {v : Int32} (d : decode cc pc = .ok (.sipush n, 3)) (hv : (Int16.ofInt n).toInt32 = v) {np : Nat} (hp : pc + 3 = np) (k : ex_ok p l e R s m args below meth c cl sl Q nL X D A w np lv (.int v :: st)) : ex_ok p l e R s m args below meth c cl sl Q nL X D A w pc lv st := fun ws H locs ls hR hl => by subst hp; exact lv_sipush C.1 C.2.1 d hv (k ws H locs ls hR hl)
theorem ex_lconst0 (C : ab_cx p R s m args c cc own nL X D) (d : decode cc pc = .ok (.lconst 0, 1)) {np : Nat} (hp : pc + 1 = np) (k : ex_ok p l e R s m args below meth c cl sl Q nL X D A w np lv (.long 0 :: st)) : ex_ok p l e R s m args below meth c cl sl Q nL X D A w pc lv st := fun ws H locs ls hR hl => by subst hp; exact lv_lconst (v := 0) C.1 C.2.1 d (by decide +kernel) (k ws H locs ls hR hl)
theorem ex_ldc2 (C : ab_cx p R s m args c cc own nL X D) {i : Nat} {v : Int64} (hw : Cond.constantLong own i v ∈ ab_TG) (d : decode cc pc = .ok (.ldc2_w i, 3)) {np : Nat} (hp : pc + 3 = np) (k : ex_ok p l e R s m args below meth c cl sl Q nL X D A w np lv (.long v :: st)) : ex_ok p l e R s m args below meth c cl sl Q nL X D A w pc lv st := fun ws H locs ls hR hl => by subst hp; exact lv_ldc2 C.1 C.2.1 C.2.2.2.1 (C.2.2.2.2.1 _ hw) d (k ws H locs ls hR hl)
theorem ex_ldc (C : ab_cx p R s m args c cc own nL X D) {n : Int} {i : Nat} (hw : Cond.constant own i (Int32.ofInt n) ∈ ab_TG) (d : decode cc pc = .ok (.ldc i, 2)) {np : Nat} (hp : pc + 2 = np) {v : Int32} (hv : Int32.ofInt n = v) (k : ex_ok p l e R s m args below meth c cl sl Q nL X D A w np lv (.int v :: st)) : ex_ok p l e R s m args below meth c cl sl Q nL X D A w pc lv st := fun ws H locs ls hR hl => by subst hp; subst hv; exact lv_ldc C.1 C.2.1 C.2.2.2.1 (C.2.2.2.2.1 _ hw) d (k ws H locs ls hR hl)
theorem ex_iload (C : ab_cx p R s m args c cc own nL X D) {i : Nat} {x : Int32} (d : decode cc pc = .ok (.iload i, 2)) (hx : ex_lk lv i = some (.int x)) {np : Nat} (hp : pc + 2 = np) (k : ex_ok p l e R s m args below meth c cl sl Q nL X D A w np lv (.int x :: st)) : ex_ok p l e R s m args below meth c cl sl Q nL X D A w pc lv st := fun ws H locs ls hR hl => by subst hp; exact lv_iload C.1 C.2.1 d (ex_at hl hx) (k ws H locs ls hR hl)
theorem ex_iload_n (C : ab_cx p R s m args c cc own nL X D) {q : Fin 4} {x : Int32} (d : decode cc pc = .ok (.iload_n q, 1)) (hx : ex_lk lv (q : Nat) = some (.int x)) {np : Nat} (hp : pc + 1 = np) (k : ex_ok p l e R s m args below meth c cl sl Q nL X D A w np lv (.int x :: st)) : ex_ok p l e R s m args below meth c cl sl Q nL X D A w pc lv st := fun ws H locs ls hR hl => by subst hp; exact lv_iload_n C.1 C.2.1 d rfl (ex_at hl hx) (k ws H locs ls hR hl)
theorem ex_lload (C : ab_cx p R s m args c cc own nL X D) {i : Nat} {x : Int64} (d : decode cc pc = .ok (.lload i, 2)) (hx : ex_lk lv i = some (.long x)) {np : Nat} (hp : pc + 2 = np) (k : ex_ok p l e R s m args below meth c cl sl Q nL X D A w np lv (.long x :: st)) : ex_ok p l e R s m args below meth c cl sl Q nL X D A w pc lv st := fun ws H locs ls hR hl => by subst hp; exact lv_lload C.1 C.2.1 d (ex_at hl hx) (k ws H locs ls hR hl)
theorem ex_lload_n (C : ab_cx p R s m args c cc own nL X D) {q : Fin 4} {x : Int64} (d : decode cc pc = .ok (.lload_n q, 1)) (hx : ex_lk lv (q : Nat) = some (.long x)) {np : Nat} (hp : pc + 1 = np) (k : ex_ok p l e R s m args below meth c cl sl Q nL X D A w np lv (.long x :: st)) : ex_ok p l e R s m args below meth c cl sl Q nL X D A w pc lv st := fun ws H locs ls hR hl => by subst hp; exact lv_lload_n C.1 C.2.1 d rfl (ex_at hl hx) (k ws H locs ls hR hl)
theorem ex_aload (C : ab_cx p R s m args c cc own nL X D) {i : Nat} {x : Nat} (d : decode cc pc = .ok (.aload i, 2)) (hx : ex_lk lv i = some (.ref x)) {np : Nat} (hp : pc + 2 = np) (k : ex_ok p l e R s m args below meth c cl sl Q nL X D A w np lv (.ref x :: st)) : ex_ok p l e R s m args below meth c cl sl Q nL X D A w pc lv st := fun ws H locs ls hR hl => by subst hp; exact lv_aload C.1 C.2.1 d (ex_at hl hx) (k ws H locs ls hR hl)
theorem ex_aload_n (C : ab_cx p R s m args c cc own nL X D) {q : Fin 4} {x : Nat} (d : decode cc pc = .ok (.aload_n q, 1)) (hx : ex_lk lv (q : Nat) = some (.ref x)) {np : Nat} (hp : pc + 1 = np) (k : ex_ok p l e R s m args below meth c cl sl Q nL X D A w np lv (.ref x :: st)) : ex_ok p l e R s m args below meth c cl sl Q nL X D A w pc lv st := fun ws H locs ls hR hl => by subst hp; exact lv_aload_n C.1 C.2.1 d rfl (ex_at hl hx) (k ws H locs ls hR hl)
theorem ex_istore (C : ab_cx p R s m args c cc own nL X D) {i : Nat} {x : Int32} (hn : i < nL) (d : decode cc pc = .ok (.istore i, 2)) {np : Nat} (hp : pc + 2 = np) {lv1 : List (Nat × Value)} (hlv : (i, .int x) :: ex_f1 i lv = lv1) (k : ex_ok p l e R s m args below meth c cl sl Q nL X D A w np lv1 st) : ex_ok p l e R s m args below meth c cl sl Q nL X D A w pc lv (.int x :: st) := fun ws H locs ls hR hl => by subst hp; subst hlv; exact lv_istore C.1 C.2.1 d hl hn (ex_f1_mp X A i (.int x) lv) (fun ls9 hl9 => k ws H locs ls9 hR hl9)
theorem ex_istore_n (C : ab_cx p R s m args c cc own nL X D) {q : Fin 4} {x : Int32} (hn : (q : Nat) < nL) (d : decode cc pc = .ok (.istore_n q, 1)) {np : Nat} (hp : pc + 1 = np) {lv1 : List (Nat × Value)} (hlv : ((q : Nat), .int x) :: ex_f1 (q : Nat) lv = lv1) (k : ex_ok p l e R s m args below meth c cl sl Q nL X D A w np lv1 st) : ex_ok p l e R s m args below meth c cl sl Q nL X D A w pc lv (.int x :: st) := fun ws H locs ls hR hl => by subst hp; subst hlv; exact lv_istore_n C.1 C.2.1 d rfl hl hn (ex_f1_mp X A (q : Nat) (.int x) lv) (fun ls9 hl9 => k ws H locs ls9 hR hl9)
theorem ex_astore (C : ab_cx p R s m args c cc own nL X D) {i : Nat} {x : Nat} (hn : i < nL) (d : decode cc pc = .ok (.astore i, 2)) {np : Nat} (hp : pc + 2 = np) {lv1 : List (Nat × Value)} (hlv : (i, .ref x) :: ex_f1 i lv = lv1) (k : ex_ok p l e R s m args below meth c cl sl Q nL X D A w np lv1 st) : ex_ok p l e R s m args below meth c cl sl Q nL X D A w pc lv (.ref x :: st) := fun ws H locs ls hR hl => by subst hp; subst hlv; exact lv_astore C.1 C.2.1 d hl hn (ex_f1_mp X A i (.ref x) lv) (fun ls9 hl9 => k ws H locs ls9 hR hl9)
theorem ex_astore_n (C : ab_cx p R s m args c cc own nL X D) {q : Fin 4} {x : Nat} (hn : (q : Nat) < nL) (d : decode cc pc = .ok (.astore_n q, 1)) {np : Nat} (hp : pc + 1 = np) {lv1 : List (Nat × Value)} (hlv : ((q : Nat), .ref x) :: ex_f1 (q : Nat) lv = lv1) (k : ex_ok p l e R s m args below meth c cl sl Q nL X D A w np lv1 st) : ex_ok p l e R s m args below meth c cl sl Q nL X D A w pc lv (.ref x :: st) := fun ws H locs ls hR hl => by subst hp; subst hlv; exact lv_astore_n C.1 C.2.1 d rfl hl hn (ex_f1_mp X A (q : Nat) (.ref x) lv) (fun ls9 hl9 => k ws H locs ls9 hR hl9)
theorem ex_lstore (C : ab_cx p R s m args c cc own nL X D) {i : Nat} {x : Int64} (hn : i + 1 < nL) (d : decode cc pc = .ok (.lstore i, 2)) {np : Nat} (hp : pc + 2 = np) {lv1 : List (Nat × Value)} (hlv : (i, .long x) :: ex_f2 i lv = lv1) (k : ex_ok p l e R s m args below meth c cl sl Q nL X D A w np lv1 st) : ex_ok p l e R s m args below meth c cl sl Q nL X D A w pc lv (.long x :: st) := fun ws H locs ls hR hl => by subst hp; subst hlv; exact lv_lstore C.1 C.2.1 d hl hn (ex_f2_mp X A i (.long x) lv) (fun ls9 hl9 => k ws H locs ls9 hR hl9)
theorem ex_lstore_n (C : ab_cx p R s m args c cc own nL X D) {q : Fin 4} {x : Int64} (hn : (q : Nat) + 1 < nL) (d : decode cc pc = .ok (.lstore_n q, 1)) {np : Nat} (hp : pc + 1 = np) {lv1 : List (Nat × Value)} (hlv : ((q : Nat), .long x) :: ex_f2 (q : Nat) lv = lv1) (k : ex_ok p l e R s m args below meth c cl sl Q nL X D A w np lv1 st) : ex_ok p l e R s m args below meth c cl sl Q nL X D A w pc lv (.long x :: st) := fun ws H locs ls hR hl => by subst hp; subst hlv; exact lv_lstore_n C.1 C.2.1 d rfl hl hn (ex_f2_mp X A (q : Nat) (.long x) lv) (fun ls9 hl9 => k ws H locs ls9 hR hl9)
theorem ex_iinc (C : ab_cx p R s m args c cc own nL X D) {i : Nat} {n : Int} {x v : Int32} (hn : i < nL) (d : decode cc pc = .ok (.iinc i n, 3)) (hx : ex_lk lv i = some (.int x)) (hv : x + Int32.ofInt n = v) {np : Nat} (hp : pc + 3 = np) {lv1 : List (Nat × Value)} (hlv : (i, .int v) :: ex_f1 i lv = lv1) (k : ex_ok p l e R s m args below meth c cl sl Q nL X D A w np lv1 st) : ex_ok p l e R s m args below meth c cl sl Q nL X D A w pc lv st := fun ws H locs ls hR hl => by
  subst hp
  subst hlv
  obtain ⟨j, hj⟩ := List.getElem?_of_mem (List.mem_map.mpr ⟨(i, .int x), ex_lk_mem hx, rfl⟩ : (i, ex_cv X A (.int x)) ∈ ex_mp X A lv)
  exact lv_iinc C.1 C.2.1 d hl hj hv hn (ex_f1_mp X A i (.int v) lv) (fun ls9 hl9 => k ws H locs ls9 hR hl9)
theorem ex_iadd (C : ab_cx p R s m args c cc own nL X D) {x y v : Int32} (d : decode cc pc = .ok (.iadd, 1)) (hv : x + y = v) {np : Nat} (hp : pc + 1 = np) (k : ex_ok p l e R s m args below meth c cl sl Q nL X D A w np lv (.int v :: st)) : ex_ok p l e R s m args below meth c cl sl Q nL X D A w pc lv (.int y :: .int x :: st) := fun ws H locs ls hR hl => by subst hp; subst hv; exact lv_iadd C.1 C.2.1 d (k ws H locs ls hR hl)
theorem ex_isub (C : ab_cx p R s m args c cc own nL X D) {x y v : Int32} (d : decode cc pc = .ok (.isub, 1)) (hv : x - y = v) {np : Nat} (hp : pc + 1 = np) (k : ex_ok p l e R s m args below meth c cl sl Q nL X D A w np lv (.int v :: st)) : ex_ok p l e R s m args below meth c cl sl Q nL X D A w pc lv (.int y :: .int x :: st) := fun ws H locs ls hR hl => by subst hp; subst hv; exact lv_isub C.1 C.2.1 d (k ws H locs ls hR hl)
theorem ex_imul (C : ab_cx p R s m args c cc own nL X D) {x y v : Int32} (d : decode cc pc = .ok (.imul, 1)) (hv : x * y = v) {np : Nat} (hp : pc + 1 = np) (k : ex_ok p l e R s m args below meth c cl sl Q nL X D A w np lv (.int v :: st)) : ex_ok p l e R s m args below meth c cl sl Q nL X D A w pc lv (.int y :: .int x :: st) := fun ws H locs ls hR hl => by subst hp; subst hv; exact lv_imul C.1 C.2.1 d (k ws H locs ls hR hl)
theorem ex_iand (C : ab_cx p R s m args c cc own nL X D) {x y v : Int32} (d : decode cc pc = .ok (.iand, 1)) (hv : x &&& y = v) {np : Nat} (hp : pc + 1 = np) (k : ex_ok p l e R s m args below meth c cl sl Q nL X D A w np lv (.int v :: st)) : ex_ok p l e R s m args below meth c cl sl Q nL X D A w pc lv (.int y :: .int x :: st) := fun ws H locs ls hR hl => by subst hp; subst hv; exact lv_iand C.1 C.2.1 d (k ws H locs ls hR hl)
theorem ex_ior (C : ab_cx p R s m args c cc own nL X D) {x y v : Int32} (d : decode cc pc = .ok (.ior, 1)) (hv : x ||| y = v) {np : Nat} (hp : pc + 1 = np) (k : ex_ok p l e R s m args below meth c cl sl Q nL X D A w np lv (.int v :: st)) : ex_ok p l e R s m args below meth c cl sl Q nL X D A w pc lv (.int y :: .int x :: st) := fun ws H locs ls hR hl => by subst hp; subst hv; exact lv_ior C.1 C.2.1 d (k ws H locs ls hR hl)
theorem ex_ixor (C : ab_cx p R s m args c cc own nL X D) {x y v : Int32} (d : decode cc pc = .ok (.ixor, 1)) (hv : x ^^^ y = v) {np : Nat} (hp : pc + 1 = np) (k : ex_ok p l e R s m args below meth c cl sl Q nL X D A w np lv (.int v :: st)) : ex_ok p l e R s m args below meth c cl sl Q nL X D A w pc lv (.int y :: .int x :: st) := fun ws H locs ls hR hl => by subst hp; subst hv; exact lv_ixor C.1 C.2.1 d (k ws H locs ls hR hl)
theorem ex_ishr (C : ab_cx p R s m args c cc own nL X D) {x y v : Int32} (d : decode cc pc = .ok (.ishr, 1)) (hv : x >>> (y &&& 31) = v) {np : Nat} (hp : pc + 1 = np) (k : ex_ok p l e R s m args below meth c cl sl Q nL X D A w np lv (.int v :: st)) : ex_ok p l e R s m args below meth c cl sl Q nL X D A w pc lv (.int y :: .int x :: st) := fun ws H locs ls hR hl => by subst hp; subst hv; exact lv_ishr C.1 C.2.1 d (k ws H locs ls hR hl)
theorem ex_ishl (C : ab_cx p R s m args c cc own nL X D) {x y v : Int32} (d : decode cc pc = .ok (.ishl, 1)) (hv : x <<< (y &&& 31) = v) {np : Nat} (hp : pc + 1 = np) (k : ex_ok p l e R s m args below meth c cl sl Q nL X D A w np lv (.int v :: st)) : ex_ok p l e R s m args below meth c cl sl Q nL X D A w pc lv (.int y :: .int x :: st) := fun ws H locs ls hR hl => by subst hp; subst hv; exact lv_ishl C.1 C.2.1 d (k ws H locs ls hR hl)
theorem ex_iushr (C : ab_cx p R s m args c cc own nL X D) {x y v : Int32} (d : decode cc pc = .ok (.iushr, 1)) (hv : (x.toUInt32 >>> (y.toUInt32 &&& Int32.toUInt32 31)).toInt32 = v) {np : Nat} (hp : pc + 1 = np) (k : ex_ok p l e R s m args below meth c cl sl Q nL X D A w np lv (.int v :: st)) : ex_ok p l e R s m args below meth c cl sl Q nL X D A w pc lv (.int y :: .int x :: st) := fun ws H locs ls hR hl => by subst hp; exact lv_iushr C.1 C.2.1 d hv (k ws H locs ls hR hl)
theorem ex_ineg (C : ab_cx p R s m args c cc own nL X D) {x : Int32} (d : decode cc pc = .ok (.ineg, 1)) {np : Nat} (hp : pc + 1 = np) (k : ex_ok p l e R s m args below meth c cl sl Q nL X D A w np lv (.int (-x) :: st)) : ex_ok p l e R s m args below meth c cl sl Q nL X D A w pc lv (.int x :: st) := fun ws H locs ls hR hl => by subst hp; exact lv_ineg C.1 C.2.1 d (k ws H locs ls hR hl)
theorem ex_i2l (C : ab_cx p R s m args c cc own nL X D) {x : Int32} (d : decode cc pc = .ok (.i2l, 1)) {np : Nat} (hp : pc + 1 = np) (k : ex_ok p l e R s m args below meth c cl sl Q nL X D A w np lv (.long x.toInt64 :: st)) : ex_ok p l e R s m args below meth c cl sl Q nL X D A w pc lv (.int x :: st) := fun ws H locs ls hR hl => by subst hp; exact lv_i2l C.1 C.2.1 d rfl (k ws H locs ls hR hl)
theorem ex_i2b (C : ab_cx p R s m args c cc own nL X D) {x : Int32} (d : decode cc pc = .ok (.i2b, 1)) {np : Nat} (hp : pc + 1 = np) (k : ex_ok p l e R s m args below meth c cl sl Q nL X D A w np lv (.int x.toInt8.toInt32 :: st)) : ex_ok p l e R s m args below meth c cl sl Q nL X D A w pc lv (.int x :: st) := fun ws H locs ls hR hl => by subst hp; exact lv_i2b C.1 C.2.1 d rfl (k ws H locs ls hR hl)
theorem ex_lshl (C : ab_cx p R s m args c cc own nL X D) {x : Int64} {y : Int32} (d : decode cc pc = .ok (.lshl, 1)) {np : Nat} (hp : pc + 1 = np) (k : ex_ok p l e R s m args below meth c cl sl Q nL X D A w np lv (.long (x <<< (y.toInt64 &&& 63)) :: st)) : ex_ok p l e R s m args below meth c cl sl Q nL X D A w pc lv (.int y :: .long x :: st) := fun ws H locs ls hR hl => by subst hp; exact lv_lshl C.1 C.2.1 d rfl (k ws H locs ls hR hl)
theorem ex_lor (C : ab_cx p R s m args c cc own nL X D) {x y : Int64} (d : decode cc pc = .ok (.lor, 1)) {np : Nat} (hp : pc + 1 = np) (k : ex_ok p l e R s m args below meth c cl sl Q nL X D A w np lv (.long (x ||| y) :: st)) : ex_ok p l e R s m args below meth c cl sl Q nL X D A w pc lv (.long y :: .long x :: st) := fun ws H locs ls hR hl => by subst hp; exact lv_lor C.1 C.2.1 d (k ws H locs ls hR hl)
theorem ex_lcmp (C : ab_cx p R s m args c cc own nL X D) {x y : Int64} (d : decode cc pc = .ok (.lcmp, 1)) {np : Nat} (hp : pc + 1 = np) (k : ex_ok p l e R s m args below meth c cl sl Q nL X D A w np lv (.int (lg_cmp x y) :: st)) : ex_ok p l e R s m args below meth c cl sl Q nL X D A w pc lv (.long y :: .long x :: st) := fun ws H locs ls hR hl => by subst hp; exact W.lcmp C.1 C.2.1 d (k ws H locs ls hR hl)
theorem ex_dup (C : ab_cx p R s m args c cc own nL X D) {v : Value} (hc : v.category = 1) (d : decode cc pc = .ok (.dup, 1)) {np : Nat} (hp : pc + 1 = np) (k : ex_ok p l e R s m args below meth c cl sl Q nL X D A w np lv (v :: v :: st)) : ex_ok p l e R s m args below meth c cl sl Q nL X D A w pc lv (v :: st) := fun ws H locs ls hR hl => by subst hp; exact lv_dup C.1 C.2.1 d ((ex_cat X A v).trans hc) (k ws H locs ls hR hl)
theorem ex_pop (C : ab_cx p R s m args c cc own nL X D) {v : Value} (hc : v.category = 1) (d : decode cc pc = .ok (.pop, 1)) {np : Nat} (hp : pc + 1 = np) (k : ex_ok p l e R s m args below meth c cl sl Q nL X D A w np lv st) : ex_ok p l e R s m args below meth c cl sl Q nL X D A w pc lv (v :: st) := fun ws H locs ls hR hl => by subst hp; exact lv_pop C.1 C.2.1 d ((ex_cat X A v).trans hc) (k ws H locs ls hR hl)
theorem ex_dup2 (C : ab_cx p R s m args c cc own nL X D) {v u : Value} (hc : v.category = 1) (hc2 : u.category = 1) (d : decode cc pc = .ok (.dup2, 1)) {np : Nat} (hp : pc + 1 = np) (k : ex_ok p l e R s m args below meth c cl sl Q nL X D A w np lv (v :: u :: v :: u :: st)) : ex_ok p l e R s m args below meth c cl sl Q nL X D A w pc lv (v :: u :: st) := fun ws H locs ls hR hl => by subst hp; exact lv_dup2_11 C.1 C.2.1 d ((ex_cat X A v).trans hc) ((ex_cat X A u).trans hc2) (k ws H locs ls hR hl)
theorem ex_goto (C : ab_cx p R s m args c cc own nL X D) {off : Int} {tgt : Nat} (d : decode cc pc = .ok (.goto off, 3)) (ht : (pc : Int) + off = (tgt : Int)) (k : ex_ok p l e R s m args below meth c cl sl Q nL X D A w tgt lv st) : ex_ok p l e R s m args below meth c cl sl Q nL X D A w pc lv st := fun ws H locs ls hR hl => lv_goto C.1 C.2.1 d ht (k ws H locs ls hR hl)
theorem ex_if_eq (C : ab_cx p R s m args c cc own nL X D) {x : Int32} {off : Int} {tgt : Nat} (d : decode cc pc = .ok (.ifCond .eq off, 3)) (ht : (pc : Int) + off = (tgt : Int)) {np : Nat} (hp : pc + 3 = np) (kt : x = 0 → ex_ok p l e R s m args below meth c cl sl Q nL X D A w tgt lv st) (kf : ¬ x = 0 → ex_ok p l e R s m args below meth c cl sl Q nL X D A w np lv st) : ex_ok p l e R s m args below meth c cl sl Q nL X D A w pc lv (.int x :: st) := fun ws H locs ls hR hl => by
  subst hp
  exact lv_if_eq C.1 C.2.1 d ht (fun hP => kt (hP) ws H locs ls hR hl) (fun hP => kf (hP) ws H locs ls hR hl)
theorem ex_icmp_eq (C : ab_cx p R s m args c cc own nL X D) {x y : Int32} {off : Int} {tgt : Nat} (d : decode cc pc = .ok (.if_icmp .eq off, 3)) (ht : (pc : Int) + off = (tgt : Int)) {np : Nat} (hp : pc + 3 = np) (kt : x = y → ex_ok p l e R s m args below meth c cl sl Q nL X D A w tgt lv st) (kf : ¬ x = y → ex_ok p l e R s m args below meth c cl sl Q nL X D A w np lv st) : ex_ok p l e R s m args below meth c cl sl Q nL X D A w pc lv (.int y :: .int x :: st) := fun ws H locs ls hR hl => by
  subst hp
  exact lv_icmp_eq C.1 C.2.1 d ht (fun hP => kt (hP) ws H locs ls hR hl) (fun hP => kf (hP) ws H locs ls hR hl)
theorem ex_if_ne (C : ab_cx p R s m args c cc own nL X D) {x : Int32} {off : Int} {tgt : Nat} (d : decode cc pc = .ok (.ifCond .ne off, 3)) (ht : (pc : Int) + off = (tgt : Int)) {np : Nat} (hp : pc + 3 = np) (kt : ¬ x = 0 → ex_ok p l e R s m args below meth c cl sl Q nL X D A w tgt lv st) (kf : x = 0 → ex_ok p l e R s m args below meth c cl sl Q nL X D A w np lv st) : ex_ok p l e R s m args below meth c cl sl Q nL X D A w pc lv (.int x :: st) := fun ws H locs ls hR hl => by
  subst hp
  exact lv_if_ne C.1 C.2.1 d ht (fun hP => kt (hP) ws H locs ls hR hl) (fun hP => kf (hP) ws H locs ls hR hl)
theorem ex_icmp_ne (C : ab_cx p R s m args c cc own nL X D) {x y : Int32} {off : Int} {tgt : Nat} (d : decode cc pc = .ok (.if_icmp .ne off, 3)) (ht : (pc : Int) + off = (tgt : Int)) {np : Nat} (hp : pc + 3 = np) (kt : ¬ x = y → ex_ok p l e R s m args below meth c cl sl Q nL X D A w tgt lv st) (kf : x = y → ex_ok p l e R s m args below meth c cl sl Q nL X D A w np lv st) : ex_ok p l e R s m args below meth c cl sl Q nL X D A w pc lv (.int y :: .int x :: st) := fun ws H locs ls hR hl => by
  subst hp
  exact lv_icmp_ne C.1 C.2.1 d ht (fun hP => kt (hP) ws H locs ls hR hl) (fun hP => kf (hP) ws H locs ls hR hl)
theorem ex_if_lt (C : ab_cx p R s m args c cc own nL X D) {x : Int32} {off : Int} {tgt : Nat} (d : decode cc pc = .ok (.ifCond .lt off, 3)) (ht : (pc : Int) + off = (tgt : Int)) {np : Nat} (hp : pc + 3 = np) (kt : x.toInt < 0 → ex_ok p l e R s m args below meth c cl sl Q nL X D A w tgt lv st) (kf : ¬ x.toInt < 0 → ex_ok p l e R s m args below meth c cl sl Q nL X D A w np lv st) : ex_ok p l e R s m args below meth c cl sl Q nL X D A w pc lv (.int x :: st) := fun ws H locs ls hR hl => by
  subst hp
  exact lv_if_lt C.1 C.2.1 d ht (fun hP => kt (Int32.lt_iff_toInt_lt.mp hP) ws H locs ls hR hl) (fun hP => kf (fun q => hP (Int32.lt_iff_toInt_lt.mpr q)) ws H locs ls hR hl)
theorem ex_icmp_lt (C : ab_cx p R s m args c cc own nL X D) {x y : Int32} {off : Int} {tgt : Nat} (d : decode cc pc = .ok (.if_icmp .lt off, 3)) (ht : (pc : Int) + off = (tgt : Int)) {np : Nat} (hp : pc + 3 = np) (kt : x.toInt < y.toInt → ex_ok p l e R s m args below meth c cl sl Q nL X D A w tgt lv st) (kf : ¬ x.toInt < y.toInt → ex_ok p l e R s m args below meth c cl sl Q nL X D A w np lv st) : ex_ok p l e R s m args below meth c cl sl Q nL X D A w pc lv (.int y :: .int x :: st) := fun ws H locs ls hR hl => by
  subst hp
  exact lv_icmp_lt C.1 C.2.1 d ht (fun hP => kt (Int32.lt_iff_toInt_lt.mp hP) ws H locs ls hR hl) (fun hP => kf (fun q => hP (Int32.lt_iff_toInt_lt.mpr q)) ws H locs ls hR hl)
theorem ex_if_ge (C : ab_cx p R s m args c cc own nL X D) {x : Int32} {off : Int} {tgt : Nat} (d : decode cc pc = .ok (.ifCond .ge off, 3)) (ht : (pc : Int) + off = (tgt : Int)) {np : Nat} (hp : pc + 3 = np) (kt : ¬ x.toInt < 0 → ex_ok p l e R s m args below meth c cl sl Q nL X D A w tgt lv st) (kf : x.toInt < 0 → ex_ok p l e R s m args below meth c cl sl Q nL X D A w np lv st) : ex_ok p l e R s m args below meth c cl sl Q nL X D A w pc lv (.int x :: st) := fun ws H locs ls hR hl => by
  subst hp
  exact lv_if_ge C.1 C.2.1 d ht (fun hP => kt (fun q => Int.not_le.mpr q (Int32.le_iff_toInt_le.mp hP)) ws H locs ls hR hl) (fun hP => kf (Int.not_le.mp (fun q => hP (Int32.le_iff_toInt_le.mpr q))) ws H locs ls hR hl)
theorem ex_icmp_ge (C : ab_cx p R s m args c cc own nL X D) {x y : Int32} {off : Int} {tgt : Nat} (d : decode cc pc = .ok (.if_icmp .ge off, 3)) (ht : (pc : Int) + off = (tgt : Int)) {np : Nat} (hp : pc + 3 = np) (kt : ¬ x.toInt < y.toInt → ex_ok p l e R s m args below meth c cl sl Q nL X D A w tgt lv st) (kf : x.toInt < y.toInt → ex_ok p l e R s m args below meth c cl sl Q nL X D A w np lv st) : ex_ok p l e R s m args below meth c cl sl Q nL X D A w pc lv (.int y :: .int x :: st) := fun ws H locs ls hR hl => by
  subst hp
  exact lv_icmp_ge C.1 C.2.1 d ht (fun hP => kt (fun q => Int.not_le.mpr q (Int32.le_iff_toInt_le.mp hP)) ws H locs ls hR hl) (fun hP => kf (Int.not_le.mp (fun q => hP (Int32.le_iff_toInt_le.mpr q))) ws H locs ls hR hl)
theorem ex_if_gt (C : ab_cx p R s m args c cc own nL X D) {x : Int32} {off : Int} {tgt : Nat} (d : decode cc pc = .ok (.ifCond .gt off, 3)) (ht : (pc : Int) + off = (tgt : Int)) {np : Nat} (hp : pc + 3 = np) (kt : 0 < x.toInt → ex_ok p l e R s m args below meth c cl sl Q nL X D A w tgt lv st) (kf : ¬ 0 < x.toInt → ex_ok p l e R s m args below meth c cl sl Q nL X D A w np lv st) : ex_ok p l e R s m args below meth c cl sl Q nL X D A w pc lv (.int x :: st) := fun ws H locs ls hR hl => by
  subst hp
  exact lv_if_gt C.1 C.2.1 d ht (fun hP => kt (Int32.lt_iff_toInt_lt.mp hP) ws H locs ls hR hl) (fun hP => kf (fun q => hP (Int32.lt_iff_toInt_lt.mpr q)) ws H locs ls hR hl)
theorem ex_icmp_gt (C : ab_cx p R s m args c cc own nL X D) {x y : Int32} {off : Int} {tgt : Nat} (d : decode cc pc = .ok (.if_icmp .gt off, 3)) (ht : (pc : Int) + off = (tgt : Int)) {np : Nat} (hp : pc + 3 = np) (kt : y.toInt < x.toInt → ex_ok p l e R s m args below meth c cl sl Q nL X D A w tgt lv st) (kf : ¬ y.toInt < x.toInt → ex_ok p l e R s m args below meth c cl sl Q nL X D A w np lv st) : ex_ok p l e R s m args below meth c cl sl Q nL X D A w pc lv (.int y :: .int x :: st) := fun ws H locs ls hR hl => by
  subst hp
  exact lv_icmp_gt C.1 C.2.1 d ht (fun hP => kt (Int32.lt_iff_toInt_lt.mp hP) ws H locs ls hR hl) (fun hP => kf (fun q => hP (Int32.lt_iff_toInt_lt.mpr q)) ws H locs ls hR hl)
theorem ex_if_le (C : ab_cx p R s m args c cc own nL X D) {x : Int32} {off : Int} {tgt : Nat} (d : decode cc pc = .ok (.ifCond .le off, 3)) (ht : (pc : Int) + off = (tgt : Int)) {np : Nat} (hp : pc + 3 = np) (kt : ¬ 0 < x.toInt → ex_ok p l e R s m args below meth c cl sl Q nL X D A w tgt lv st) (kf : 0 < x.toInt → ex_ok p l e R s m args below meth c cl sl Q nL X D A w np lv st) : ex_ok p l e R s m args below meth c cl sl Q nL X D A w pc lv (.int x :: st) := fun ws H locs ls hR hl => by
  subst hp
  exact lv_if_le C.1 C.2.1 d ht (fun hP => kt (fun q => Int.not_le.mpr q (Int32.le_iff_toInt_le.mp hP)) ws H locs ls hR hl) (fun hP => kf (Int.not_le.mp (fun q => hP (Int32.le_iff_toInt_le.mpr q))) ws H locs ls hR hl)
theorem ex_icmp_le (C : ab_cx p R s m args c cc own nL X D) {x y : Int32} {off : Int} {tgt : Nat} (d : decode cc pc = .ok (.if_icmp .le off, 3)) (ht : (pc : Int) + off = (tgt : Int)) {np : Nat} (hp : pc + 3 = np) (kt : ¬ y.toInt < x.toInt → ex_ok p l e R s m args below meth c cl sl Q nL X D A w tgt lv st) (kf : y.toInt < x.toInt → ex_ok p l e R s m args below meth c cl sl Q nL X D A w np lv st) : ex_ok p l e R s m args below meth c cl sl Q nL X D A w pc lv (.int y :: .int x :: st) := fun ws H locs ls hR hl => by
  subst hp
  exact lv_icmp_le C.1 C.2.1 d ht (fun hP => kt (fun q => Int.not_le.mpr q (Int32.le_iff_toInt_le.mp hP)) ws H locs ls hR hl) (fun hP => kf (Int.not_le.mp (fun q => hP (Int32.le_iff_toInt_le.mpr q))) ws H locs ls hR hl)
theorem ex_getf (C : ab_cx p R s m args c cc own nL X D) {ci q i N : Nat} {cn : String} {T : u_T} (hc : vwCl[ci]? = some (cn, T, N)) (hin : ∀ w ∈ u_ws cn T N, w ∈ ab_TG) (hkN : q < N) (hw : Cond.fieldLink own i (T q).1 (T q).2.1 (T q).2.2.1 ∈ ab_TG) (d : decode cc pc = .ok (.getfield i, 3)) {j : Nat} {fs : List Value} {v : Value} (hj : w[j]? = some (.inl (ci, fs))) (hv : fs[q]? = some v) {np : Nat} (hp : pc + 3 = np) (k : ex_ok p l e R s m args below meth c cl sl Q nL X D A w np lv (v :: st)) : ex_ok p l e R s m args below meth c cl sl Q nL X D A w pc lv (.ref j :: st) := fun ws H locs ls hR hl => by
  subst hp
  obtain ⟨e0, c1, rfl⟩ := hR.cell hj
  exact va_get (cl := vwCl) (D := D) C.1 C.2.1 C.2.2.2.2.1 hin C.2.2.2.1 (ab_cxE C).2.1 hR.2.1 j c1 hc q hkN (C.2.2.2.2.1 _ hw) (fun _ h => h) (by rw [List.getElem?_map, hv]; rfl) d (k ws H locs ls hR hl)
theorem ex_putf (C : ab_cx p R s m args c cc own nL X D) {ci q i N : Nat} {cn : String} {T : u_T} (hc : vwCl[ci]? = some (cn, T, N)) (hin : ∀ w ∈ u_ws cn T N, w ∈ ab_TG) (hkN : q < N) {ty0 : Nat → FieldType} (hty : ∀ k, k < N → parseFieldDescriptor (T k).2.2.1 = some (ty0 k)) (hnm : ∀ a, a < N → ∀ b, b < N → a ≠ b → (T a).2.1 ≠ (T b).2.1) (hw : Cond.fieldLink own i (T q).1 (T q).2.1 (T q).2.2.1 ∈ ab_TG) (hfin : (T q).2.2.2 = false) (d : decode cc pc = .ok (.putfield i, 3)) {j : Nat} {fs : List Value} {v : Value} (hj : w[j]? = some (.inl (ci, fs))) (hq : q < fs.length) (h5 : narrow (ty0 q) (ex_cv X A v) = ex_cv X A v) (h6 : fits (ty0 q) (ex_cv X A v) = true) {w1 : List ex_E} (hw1 : w.set j (.inl (ci, fs.set q v)) = w1) {np : Nat} (hp : pc + 3 = np) (k : ex_ok p l e R s m args below meth c cl sl Q nL X D A w1 np lv st) : ex_ok p l e R s m args below meth c cl sl Q nL X D A w pc lv (v :: .ref j :: st) := fun ws H locs ls hR hl => by
  subst hp
  subst hw1
  obtain ⟨e0, c1, rfl⟩ := hR.cell hj
  refine va_put (cl := vwCl) (D := D) C.1 C.2.1 C.2.2.2.2.1 hin ty0 hty hnm C.2.2.2.1 (ab_cxE C).2.1 hR.2.1 hR.2.2.1 hR.2.2.2 j c1 hc q hkN (C.2.2.2.2.1 _ hw) (fun _ h => h) hfin (hty q hkN) h5 h6 (by rw [List.length_map]; exact hq) d (fun H1 locs1 g1 g2 g3 => ?_)
  refine k _ H1 locs1 ls (hR.set c1 ?_ g1 g2 g3) hl
  show _ = _
  rw [List.map_set]
theorem ex_getfN (C : ab_cx p R s m args c cc own nL X D) {ci q i N : Nat} {cn : String} {T : u_T} (hc : vwCl[ci]? = some (cn, T, N)) (hin : ∀ w ∈ u_ws cn T N, w ∈ ab_TG) (hkN : q < N) {host : String} (hw : Cond.fieldLinkNest own i (T q).1 (T q).2.1 (T q).2.2.1 host ∈ lw_tbl) (d : decode cc pc = .ok (.getfield i, 3)) {j : Nat} {fs : List Value} {v : Value} (hj : w[j]? = some (.inl (ci, fs))) (hv : fs[q]? = some v) {np : Nat} (hp : pc + 3 = np) (k : ex_ok p l e R s m args below meth c cl sl Q nL X D A w np lv (v :: st)) : ex_ok p l e R s m args below meth c cl sl Q nL X D A w pc lv (.ref j :: st) := fun ws H locs ls hR hl => by
  subst hp
  obtain ⟨e0, c1, rfl⟩ := hR.cell hj
  exact va_getN (cl := vwCl) (D := D) C.1 C.2.1 C.2.2.2.2.1 hin C.2.2.2.1 (ab_cxE C).2.1 hR.2.1 j c1 hc q hkN (va_Nw.use rfl ((ab_cxE C).2.2.1 _ hw rfl)) (fun _ h => h) (by rw [List.getElem?_map, hv]; rfl) d (k ws H locs ls hR hl)
theorem ex_putfN (C : ab_cx p R s m args c cc own nL X D) {ci q i N : Nat} {cn : String} {T : u_T} (hc : vwCl[ci]? = some (cn, T, N)) (hin : ∀ w ∈ u_ws cn T N, w ∈ ab_TG) (hkN : q < N) {ty0 : Nat → FieldType} (hty : ∀ k, k < N → parseFieldDescriptor (T k).2.2.1 = some (ty0 k)) (hnm : ∀ a, a < N → ∀ b, b < N → a ≠ b → (T a).2.1 ≠ (T b).2.1) {host : String} (hw : Cond.fieldLinkNest own i (T q).1 (T q).2.1 (T q).2.2.1 host ∈ lw_tbl) (hfin : (T q).2.2.2 = false) (d : decode cc pc = .ok (.putfield i, 3)) {j : Nat} {fs : List Value} {v : Value} (hj : w[j]? = some (.inl (ci, fs))) (hq : q < fs.length) (h5 : narrow (ty0 q) (ex_cv X A v) = ex_cv X A v) (h6 : fits (ty0 q) (ex_cv X A v) = true) {w1 : List ex_E} (hw1 : w.set j (.inl (ci, fs.set q v)) = w1) {np : Nat} (hp : pc + 3 = np) (k : ex_ok p l e R s m args below meth c cl sl Q nL X D A w1 np lv st) : ex_ok p l e R s m args below meth c cl sl Q nL X D A w pc lv (v :: .ref j :: st) := fun ws H locs ls hR hl => by
  subst hp
  subst hw1
  obtain ⟨e0, c1, rfl⟩ := hR.cell hj
  refine va_putN (cl := vwCl) (D := D) C.1 C.2.1 C.2.2.2.2.1 hin ty0 hty hnm C.2.2.2.1 (ab_cxE C).2.1 hR.2.1 hR.2.2.1 hR.2.2.2 j c1 hc q hkN (va_Nw.use rfl ((ab_cxE C).2.2.1 _ hw rfl)) (fun _ h => h) hfin (hty q hkN) h5 h6 (by rw [List.length_map]; exact hq) d (fun H1 locs1 g1 g2 g3 => ?_)
  refine k _ H1 locs1 ls (hR.set c1 ?_ g1 g2 g3) hl
  show _ = _
  rw [List.map_set]
theorem ex_iald (C : ab_cx p R s m args c cc own nL X D) (d : decode cc pc = .ok (.iaload, 1)) {j n : Nat} {i : Int32} {f : Nat → Int32} (hj : w[j]? = some (.inr (0, n, .inl f))) (hi : 0 ≤ i.toInt ∧ i.toInt < n) {kk : Nat} (hkk : i.toNatClampNeg = kk) {np : Nat} (hp : pc + 1 = np) (k : ex_ok p l e R s m args below meth c cl sl Q nL X D A w np lv (.int (f kk) :: st)) : ex_ok p l e R s m args below meth c cl sl Q nL X D A w pc lv (.int i :: .ref j :: st) := fun ws H locs ls hR hl => by
  subst hp
  subst hkk
  obtain ⟨e0, c1, g1, g2, g3, cA, rfl, g4⟩ := hR.cell hj
  exact va_iald (cl := vwCl) (D := D) (tys := [(cA, .int)]) C.1 C.2.1 ((ab_cxE C).Kt g4) hR.2.1 j 0 c1 rfl (ex_in g2 hi) d (k ws H locs ls hR hl)
theorem ex_bald (C : ab_cx p R s m args c cc own nL X D) (d : decode cc pc = .ok (.baload, 1)) {j n : Nat} {i : Int32} {f : Nat → Int32} (hj : w[j]? = some (.inr (2, n, .inl f))) (hi : 0 ≤ i.toInt ∧ i.toInt < n) {kk : Nat} (hkk : i.toNatClampNeg = kk) {np : Nat} (hp : pc + 1 = np) (k : ex_ok p l e R s m args below meth c cl sl Q nL X D A w np lv (.int (f kk) :: st)) : ex_ok p l e R s m args below meth c cl sl Q nL X D A w pc lv (.int i :: .ref j :: st) := fun ws H locs ls hR hl => by
  subst hp
  subst hkk
  obtain ⟨e0, c1, g1, g2, g3, cA, rfl, g4⟩ := hR.cell hj
  exact va_bald (cl := vwCl) (D := D) (tys := [(cA, .byte)]) C.1 C.2.1 ((ab_cxE C).Kt g4) hR.2.1 j 0 c1 rfl (ex_in g2 hi) d (k ws H locs ls hR hl)
theorem ex_zald (C : ab_cx p R s m args c cc own nL X D) (d : decode cc pc = .ok (.baload, 1)) {j n : Nat} {i : Int32} {f : Nat → Int32} (hj : w[j]? = some (.inr (3, n, .inl f))) (hi : 0 ≤ i.toInt ∧ i.toInt < n) {kk : Nat} (hkk : i.toNatClampNeg = kk) {np : Nat} (hp : pc + 1 = np) (k : ex_ok p l e R s m args below meth c cl sl Q nL X D A w np lv (.int (f kk) :: st)) : ex_ok p l e R s m args below meth c cl sl Q nL X D A w pc lv (.int i :: .ref j :: st) := fun ws H locs ls hR hl => by
  subst hp
  subst hkk
  obtain ⟨e0, c1, g1, g2, g3, cA, rfl, g4⟩ := hR.cell hj
  exact va_zald (cl := vwCl) (D := D) (tys := [(cA, .boolean)]) C.1 C.2.1 ((ab_cxE C).Kt g4) hR.2.1 j 0 c1 rfl (ex_in g2 hi) d (k ws H locs ls hR hl)
theorem ex_lald (C : ab_cx p R s m args c cc own nL X D) (d : decode cc pc = .ok (.laload, 1)) {j n : Nat} {i : Int32} {f : Nat → Int64} (hj : w[j]? = some (.inr (1, n, .inr (.inl f)))) (hi : 0 ≤ i.toInt ∧ i.toInt < n) {kk : Nat} (hkk : i.toNatClampNeg = kk) {np : Nat} (hp : pc + 1 = np) (k : ex_ok p l e R s m args below meth c cl sl Q nL X D A w np lv (.long (f kk) :: st)) : ex_ok p l e R s m args below meth c cl sl Q nL X D A w pc lv (.int i :: .ref j :: st) := fun ws H locs ls hR hl => by
  subst hp
  subst hkk
  obtain ⟨e0, c1, g1, g2, g3, cA, rfl, g4⟩ := hR.cell hj
  exact va_lald (cl := vwCl) (D := D) (tys := [(cA, .long)]) C.1 C.2.1 ((ab_cxE C).Kt g4) hR.2.1 j 0 c1 rfl (ex_in g2 hi) d (k ws H locs ls hR hl)
theorem ex_iast (C : ab_cx p R s m args c cc own nL X D) (d : decode cc pc = .ok (.iastore, 1)) {j n : Nat} {i : Int32} {x : Int32} {f : Nat → Int32} (hj : w[j]? = some (.inr (0, n, .inl f))) (hi : 0 ≤ i.toInt ∧ i.toInt < n) {kk : Nat} (hkk : i.toNatClampNeg = kk) {w1 : List ex_E} (hw1 : w.set j (.inr (0, n, .inl (upd f kk x))) = w1) {np : Nat} (hp : pc + 1 = np) (k : ex_ok p l e R s m args below meth c cl sl Q nL X D A w1 np lv st) : ex_ok p l e R s m args below meth c cl sl Q nL X D A w pc lv (.int x :: .int i :: .ref j :: st) := fun ws H locs ls hR hl => by
  subst hp
  subst hkk
  subst hw1
  obtain ⟨e0, c1, g1, g2, g3, cA, rfl, g4⟩ := hR.cell hj
  exact va_iast (cl := vwCl) (D := D) (tys := [(cA, .int)]) C.1 C.2.1 ((ab_cxE C).Kt g4) hR.2.1 hR.2.2.1 hR.2.2.2 j 0 c1 rfl (ex_in g2 hi) d (fun H1 locs1 b1 b2 b3 => k _ H1 locs1 ls (hR.set c1 ⟨g1, g2, ⟨_, rfl⟩, cA, rfl, g4⟩ b1 b2 b3) hl)
theorem ex_bast (C : ab_cx p R s m args c cc own nL X D) (d : decode cc pc = .ok (.bastore, 1)) {j n : Nat} {i : Int32} {x : Int32} {f : Nat → Int32} (hj : w[j]? = some (.inr (2, n, .inl f))) (hi : 0 ≤ i.toInt ∧ i.toInt < n) {kk : Nat} (hkk : i.toNatClampNeg = kk) {w1 : List ex_E} (hw1 : w.set j (.inr (2, n, .inl (upd f kk (vp_nar .byte x)))) = w1) {np : Nat} (hp : pc + 1 = np) (k : ex_ok p l e R s m args below meth c cl sl Q nL X D A w1 np lv st) : ex_ok p l e R s m args below meth c cl sl Q nL X D A w pc lv (.int x :: .int i :: .ref j :: st) := fun ws H locs ls hR hl => by
  subst hp
  subst hkk
  subst hw1
  obtain ⟨e0, c1, g1, g2, g3, cA, rfl, g4⟩ := hR.cell hj
  exact va_bast (cl := vwCl) (D := D) (tys := [(cA, .byte)]) C.1 C.2.1 ((ab_cxE C).Kt g4) hR.2.1 hR.2.2.1 hR.2.2.2 j 0 c1 rfl (ex_in g2 hi) d (fun H1 locs1 b1 b2 b3 => k _ H1 locs1 ls (hR.set c1 ⟨g1, g2, ⟨_, rfl⟩, cA, rfl, g4⟩ b1 b2 b3) hl)
theorem ex_zast (C : ab_cx p R s m args c cc own nL X D) (d : decode cc pc = .ok (.bastore, 1)) {j n : Nat} {i : Int32} {x : Int32} {f : Nat → Int32} (hj : w[j]? = some (.inr (3, n, .inl f))) (hi : 0 ≤ i.toInt ∧ i.toInt < n) {kk : Nat} (hkk : i.toNatClampNeg = kk) {w1 : List ex_E} (hw1 : w.set j (.inr (3, n, .inl (upd f kk (vp_nar .boolean x)))) = w1) {np : Nat} (hp : pc + 1 = np) (k : ex_ok p l e R s m args below meth c cl sl Q nL X D A w1 np lv st) : ex_ok p l e R s m args below meth c cl sl Q nL X D A w pc lv (.int x :: .int i :: .ref j :: st) := fun ws H locs ls hR hl => by
  subst hp
  subst hkk
  subst hw1
  obtain ⟨e0, c1, g1, g2, g3, cA, rfl, g4⟩ := hR.cell hj
  exact va_zast (cl := vwCl) (D := D) (tys := [(cA, .boolean)]) C.1 C.2.1 ((ab_cxE C).Kt g4) hR.2.1 hR.2.2.1 hR.2.2.2 j 0 c1 rfl (ex_in g2 hi) d (fun H1 locs1 b1 b2 b3 => k _ H1 locs1 ls (hR.set c1 ⟨g1, g2, ⟨_, rfl⟩, cA, rfl, g4⟩ b1 b2 b3) hl)
theorem ex_last (C : ab_cx p R s m args c cc own nL X D) (d : decode cc pc = .ok (.lastore, 1)) {j n : Nat} {i : Int32} {x : Int64} {f : Nat → Int64} (hj : w[j]? = some (.inr (1, n, .inr (.inl f)))) (hi : 0 ≤ i.toInt ∧ i.toInt < n) {kk : Nat} (hkk : i.toNatClampNeg = kk) {w1 : List ex_E} (hw1 : w.set j (.inr (1, n, .inr (.inl (vp_updL f kk x)))) = w1) {np : Nat} (hp : pc + 1 = np) (k : ex_ok p l e R s m args below meth c cl sl Q nL X D A w1 np lv st) : ex_ok p l e R s m args below meth c cl sl Q nL X D A w pc lv (.long x :: .int i :: .ref j :: st) := fun ws H locs ls hR hl => by
  subst hp
  subst hkk
  subst hw1
  obtain ⟨e0, c1, g1, g2, g3, cA, rfl, g4⟩ := hR.cell hj
  exact va_last (cl := vwCl) (D := D) (tys := [(cA, .long)]) C.1 C.2.1 ((ab_cxE C).Kt g4) hR.2.1 hR.2.2.1 hR.2.2.2 j 0 c1 rfl (ex_in g2 hi) d (fun H1 locs1 b1 b2 b3 => k _ H1 locs1 ls (hR.set c1 ⟨g1, g2, ⟨_, rfl⟩, cA, rfl, g4⟩ b1 b2 b3) hl)
/-- a reference out of a row of references that stays -/
theorem ex_aald (C : ab_cx p R s m args c cc own nL X D) {ci N : Nat} {cn : String} {T : u_T} (hc : vwCl[ci]? = some (cn, T, N)) (d : decode cc pc = .ok (.aaload, 1)) {j n q : Nat} {i : Int32} {f : Nat → Option Nat} (hj : w[j]? = some (.inr (ci + 4, n, .inr (.inr (.inr (.inr f)))))) (hi : 0 ≤ i.toInt ∧ i.toInt < n) {kk : Nat} (hkk : i.toNatClampNeg = kk) (hq : f kk = some (ex_ad X A q)) {np : Nat} (hp : pc + 1 = np) (k : ex_ok p l e R s m args below meth c cl sl Q nL X D A w np lv (.ref q :: st)) : ex_ok p l e R s m args below meth c cl sl Q nL X D A w pc lv (.int i :: .ref j :: st) := fun ws H locs ls hR hl => by
  subst hp
  subst hkk
  obtain ⟨e0, c1, g1, g2, g3, cA, rfl, g4⟩ := hR.cell hj
  have g5 : ArrOfT s cA (.object cn) ∧ va_RA s cA (.object cn) := by
    have e0 : ab_ft (ci + 4) = .object cn := by simp only [ab_ft, hc]
    rw [← e0]
    exact g4
  refine va_aldq (cl := vwCl) (D := D) (C := cn) (tys := [(cA, .object cn)]) C.1 C.2.1 ((ab_cxE C).Kt g5) hR.2.1 j 0 c1 rfl (ex_in g2 hi) d ?_
  have e9 : va_rf (f i.toNatClampNeg) = .ref (ex_ad X A q) := by rw [hq]; rfl
  rw [e9]
  exact k ws H locs ls hR hl
theorem ex_len (C : ab_cx p R s m args c cc own nL X D) (d : decode cc pc = .ok (.arraylength, 1)) {j t n : Nat} {x : ab_ct} (hj : w[j]? = some (.inr (t, n, x))) {v : Int32} (hv : Int32.ofNat n = v) {np : Nat} (hp : pc + 1 = np) (k : ex_ok p l e R s m args below meth c cl sl Q nL X D A w np lv (.int v :: st)) : ex_ok p l e R s m args below meth c cl sl Q nL X D A w pc lv (.ref j :: st) := fun ws H locs ls hR hl => by
  subst hp
  obtain ⟨e0, c1, g1, g2, g3, cA, rfl, g4⟩ := hR.cell hj
  exact va_alen (cl := vwCl) (D := D) (tys := [(cA, ab_ft t)]) C.1 C.2.1 ((ab_cxE C).Kt g4) hR.2.1 j 0 c1 rfl hv d (k ws H locs ls hR hl)
theorem ex_gHI (C : ab_cx p R s m args c cc own nL X D) {i : Nat} (hw : Cond.fieldLink own i "SundialTreaty$ValleyText" "HIGHEST" "[I" ∈ ab_TG) (d : decode cc pc = .ok (.getstatic i, 3)) {np : Nat} (hp : pc + 3 = np) (k : ex_ok p l e R s m args below meth c cl sl Q nL X D A w np lv (.ref 1000000 :: st)) : ex_ok p l e R s m args below meth c cl sl Q nL X D A w pc lv st := fun ws H locs ls hR hl => by subst hp; exact va_gets (A := ab_Ar X) C.1 C.2.1 (ab_cxE C).2.2.2.2.2.2.2.2.2.1 hR.2.2.2 C.2.2.2.1 (C.2.2.2.2.1 _ hw) (fun _ h => h) d (k ws H locs ls hR hl)
theorem ex_ldHI (C : ab_cx p R s m args c cc own nL X D) (d : decode cc pc = .ok (.iaload, 1)) {i : Int32} (hi : 0 ≤ i.toInt ∧ i.toInt < 3) {kk : Nat} (hkk : i.toNatClampNeg = kk) {np : Nat} (hp : pc + 1 = np) (k : ex_ok p l e R s m args below meth c cl sl Q nL X D A w np lv (.int (ab_hi.getD kk 0) :: st)) : ex_ok p l e R s m args below meth c cl sl Q nL X D A w pc lv (.int i :: .ref 1000000 :: st) := fun ws H locs ls hR hl => by
  subst hp
  subst hkk
  exact va_ti (A := ab_Ar X) (v := .int (ab_hi.getD i.toNatClampNeg 0)) C.1 C.2.1 (ab_cxE C).2.2.2.2.2.2.2.2.2.2.1 hR.2.2.2 (ex_in (by decide) hi) rfl d (k ws H locs ls hR hl)
theorem ex_gLO (C : ab_cx p R s m args c cc own nL X D) {i : Nat} (hw : Cond.fieldLink own i "SundialTreaty$ValleyText" "LEAST" "[I" ∈ ab_TG) (d : decode cc pc = .ok (.getstatic i, 3)) {np : Nat} (hp : pc + 3 = np) (k : ex_ok p l e R s m args below meth c cl sl Q nL X D A w np lv (.ref 1000001 :: st)) : ex_ok p l e R s m args below meth c cl sl Q nL X D A w pc lv st := fun ws H locs ls hR hl => by subst hp; exact va_gets (A := ab_Ar X) C.1 C.2.1 (ab_cxE C).2.2.2.2.2.2.2.2.2.2.2.2.2.2.2.1 hR.2.2.2 C.2.2.2.1 (C.2.2.2.2.1 _ hw) (fun _ h => h) d (k ws H locs ls hR hl)
theorem ex_ldLO (C : ab_cx p R s m args c cc own nL X D) (d : decode cc pc = .ok (.iaload, 1)) {i : Int32} (hi : 0 ≤ i.toInt ∧ i.toInt < 3) {kk : Nat} (hkk : i.toNatClampNeg = kk) {np : Nat} (hp : pc + 1 = np) (k : ex_ok p l e R s m args below meth c cl sl Q nL X D A w np lv (.int (ab_lo.getD kk 0) :: st)) : ex_ok p l e R s m args below meth c cl sl Q nL X D A w pc lv (.int i :: .ref 1000001 :: st) := fun ws H locs ls hR hl => by
  subst hp
  subst hkk
  exact va_ti (A := ab_Ar X) (v := .int (ab_lo.getD i.toNatClampNeg 0)) C.1 C.2.1 (ab_cxE C).2.2.2.2.2.2.2.2.2.2.2.2.2.2.2.2 hR.2.2.2 (ex_in (by decide) hi) rfl d (k ws H locs ls hR hl)
theorem ex_tswI (C : ab_cx p R s m args c cc own nL X D) {df lo hi : Int} {offs : Array Int} {len tgt : Nat} {x : Int32} {off : Int} (d : decode cc pc = .ok (.tableswitch df lo hi offs, len)) (h1 : ¬ x.toInt < lo) (h2 : ¬ hi < x.toInt) (ho : offs[(x.toInt - lo).toNat]? = some off) (ht : (pc : Int) + off = (tgt : Int)) (k : ex_ok p l e R s m args below meth c cl sl Q nL X D A w tgt lv st) : ex_ok p l e R s m args below meth c cl sl Q nL X D A w pc lv (.int x :: st) := fun ws H locs ls hR hl => lv_tableIn C.1 C.2.1 d h1 h2 ho ht (k ws H locs ls hR hl)
theorem ex_tswO (C : ab_cx p R s m args c cc own nL X D) {df lo hi : Int} {offs : Array Int} {len tgt : Nat} {x : Int32} (d : decode cc pc = .ok (.tableswitch df lo hi offs, len)) (h1 : x.toInt < lo ∨ hi < x.toInt) (ht : (pc : Int) + df = (tgt : Int)) (k : ex_ok p l e R s m args below meth c cl sl Q nL X D A w tgt lv st) : ex_ok p l e R s m args below meth c cl sl Q nL X D A w pc lv (.int x :: st) := fun ws H locs ls hR hl => lv_tableOut C.1 C.2.1 d h1 ht (k ws H locs ls hR hl)
theorem ex_drop {lv1 : List (Nat × Value)} (ks : List Nat) (h : ks.map (fun i => lv[i]?) = lv1.map some) (k : ex_ok p l e R s m args below meth c cl sl Q nL X D A w pc lv1 st) : ex_ok p l e R s m args below meth c cl sl Q nL X D A w pc lv st := fun ws H locs ls hR hl => k ws H locs ls hR ⟨hl.1, hl.2.1, fun q hq => by
  obtain ⟨q0, h1, rfl⟩ := List.mem_map.mp hq
  refine hl.2.2 _ (List.mem_map.mpr ⟨q0, ?_, rfl⟩)
  have h2 : some q0 ∈ lv1.map some := List.mem_map.mpr ⟨q0, h1, rfl⟩
  rw [← h] at h2
  obtain ⟨i, -, hi⟩ := List.mem_map.mp h2
  exact List.mem_of_getElem? hi⟩
end
/-! Contracts of methods; their ends; calls. -/
abbrev ex_U : Type := List ex_E × va_W
noncomputable def ex_Pr (X : ab_X) (D : va_G) (A : ex_A) (w : List ex_E) (ws : va_W) (vs : List Value) : Array Value → State → Prop := va_Pc (vs.map (ex_cv X A)) (fun U => ab_EX X D U U.heap ∧ ex_wR X A U w ws ∧ va_P D vwCl ws U.heap ∧ va_D (ab_Ar X) ws)
noncomputable def ex_bu (X : ab_X) (D : va_G) (A : ex_A) (u : ex_U) (t : State) : Prop := ex_wR X A t u.1 u.2 ∧ va_P D vwCl u.2 t.heap ∧ va_D (ab_Ar X) u.2
noncomputable def ex_Po (X : ab_X) (D : va_G) (A : ex_A) (Po : Int32 → List ex_E → Prop) (ret : Option FieldType) : Array Value → State → Outcome → State → Prop := match ret with
  | none => va_Qv (fun u : ex_U => Po 0 u.1) (ex_bu X D A) (ab_Ar X)
  | some _ => va_Qi (fun r (u : ex_U) => Po r u.1) (ex_bu X D A) (ab_Ar X)
/-- a method called at a world with arguments: it returns, its answer and the world behind it are as told -/
noncomputable def ex_ctr (l : Launch) (X : ab_X) (D : va_G) (A : ex_A) (d : Nat) (y : MethodName) (cc : ByteArray) (maxL : Nat) (ret : Option FieldType) (w : List ex_E) (vs : List Value) (Po : Int32 → List ex_E → Prop) : Prop :=
  ∀ ws : va_W, Met l y (Cond.code y cc maxL ret :: ab_TG) (ab_rm d 0 0) (ex_Pr X D A w ws vs) (ex_Po X D A Po ret) 0 0 (ab_Ar X)
theorem ex_Pr_blind {X : ab_X} {D : va_G} {A : ex_A} {w : List ex_E} {ws : va_W} {vs : List Value} : FrameBlind (ex_Pr X D A w ws vs) := by
  intro a U g mk h
  obtain ⟨h0, h1, h2, h3, h4⟩ := h
  exact ⟨h0, ab_EX.enter (U := U.calling g mk a) (locs := []) h1 (State.WarmedH.refl U) va_S.rf, h2.moved (Vm.Alike.refl U.vm), h3, h4⟩
theorem ex_Pr_in {X : ab_X} {D : va_G} {A : ex_A} {s : State} {w : List ex_E} {ws : va_W} {H : Heap} {locs : List Loc} {vs : List Value} (hE : ab_EX X D s s.heap) (hR : ex_R X D s A w ws H locs) : ∀ U : State, U.heap = H → s.WarmedH U.vm → ex_Pr X D A w ws vs (vs.map (ex_cv X A)).toArray U := by
  intro U hU hW
  refine ⟨rfl, ?_, hR.1.moved hW.alike, by rw [hU]; exact hR.2.1, hR.2.2.1⟩
  rw [hU]
  exact hE.enter hW hR.2.2.2
theorem ex_R.back {X : ab_X} {D : va_G} {A : ex_A} {s t : State} {H1 : Heap} {locs1 : List Loc} {u : ex_U} (hb : ex_bu X D A u t) (ht : t.heap = H1) (hvm : s.vm.Alike t.vm) (hS : va_S (ab_Ar X) s.heap H1 locs1) : ex_R X D s A u.1 u.2 H1 locs1 := ⟨hb.1.moved hvm.symm, by rw [← ht]; exact hb.2.1, hb.2.2, hS⟩
noncomputable def ex_cs : List Value → Nat
  | [] => 0
  | v :: r => v.category + ex_cs r
theorem ex_cs_ok (X : ab_X) (A : ex_A) : ∀ st : List Value, ((st.map (ex_cv X A)).map fun v => v.category).sum = ex_cs st
  | [] => rfl
  | v :: r => by simp only [List.map_cons, List.sum_cons, ex_cs, ex_cs_ok X A r, ex_cat]
noncomputable def ex_ent : Nat → List Value → List (Nat × Value)
  | _, [] => []
  | i, v :: r => (i, v) :: ex_ent (i + v.category) r
theorem ex_ent_in (X : ab_X) (A : ex_A) : ∀ (vs : List Value) (i : Nat), ∀ q ∈ ex_mp X A (ex_ent i vs), q ∈ lv_args i (vs.map (ex_cv X A))
  | [], i, q, h => by cases h
  | v :: r, i, q, h => by
    rcases List.mem_cons.mp h with rfl | h
    · exact List.mem_cons_self
    · have h2 := ex_ent_in X A r (i + v.category) q h
      refine List.mem_cons_of_mem _ ?_
      have hc := ex_cat X A v
      rcases lv_cat v with h9 | h9
      · rw [h9] at hc h2
        rw [if_neg (by rw [hc]; decide)]; exact h2
      · rw [h9] at hc h2
        rw [if_pos (by rw [hc])]; exact h2
section
variable {p : Program} {l : Launch} {e : Env} {R : Room} {s : State} {m : MethodId} {args : Array Value} {below : List Frame} {meth : Method} {c : Code} {cl sl : Nat} {Q : State → Prop} {cc : ByteArray} {own : String} {nL : Nat} {X : ab_X} {D : va_G} {A : ex_A} {pc : Nat} {w : List ex_E} {lv : List (Nat × Value)} {st : List Value}
/-- a method's first state -/
theorem ex_first {vs : List Value} {maxL : Nat} {ws : va_W} (hw : ex_wR X A s w ws) (hP : va_P D vwCl ws s.heap) (hD : va_D (ab_Ar X) ws) (hcs : ex_cs vs ≤ maxL) (h : ex_ok p l e R s m args below meth c 0 0 Q maxL X D A w 0 (ex_ent 0 vs) []) : W p l e R s m args below meth c s.heap [] 0 0 Q (entryFrame m (vs.map (ex_cv X A)).toArray maxL) := by
  have hlen : (lg_sl (vs.map (ex_cv X A))).length ≤ maxL := by rw [ab_sl_len, ex_cs_ok]; exact hcs
  have hlv := lv_entry (vs.map (ex_cv X A)) (n := maxL) hlen
  rw [lg_entry_eq]
  generalize (lg_sl (vs.map (ex_cv X A)) ++ List.replicate (maxL - (lg_sl (vs.map (ex_cv X A))).length) Slot.unset).toArray = ls at hlv ⊢
  exact h ws s.heap [] ls ⟨hw, hP, hD, va_S.rf⟩ ⟨hlv.1, hlv.2.1, fun q hq => hlv.2.2 q (ex_ent_in X A vs 0 q hq)⟩
theorem ex_iret (C : ab_cx p R s m args c cc own nL X D) {ty : FieldType} {Po : Int32 → List ex_E → Prop} {mc ms : Nat} (hr : meth.sig.returnType = some ty) (hlocks : meth.locks = false) {r : Int32} (d : decode cc pc = .ok (.ireturn, 1)) (hn : narrow ty (.int r) = .int r) (h1 : cl ≤ mc) (h2 : sl ≤ ms) (h : Po r w) : ex_ok p l e R s m args below meth c cl sl (MQ below (ex_Po X D A Po (some ty)) args s mc ms (ab_Ar X)) nL X D A w pc lv [.int r] := fun ws H locs ls hR hl => by
  refine W.widen h1 h2 ?_
  exact W.zret C.1 C.2.1 hr hn (fun t ht hW => ⟨⟨r, (w, ws), rfl, h, hR.1.moved hW.alike, by rw [ht]; exact hR.2.1, hR.2.2.1⟩, hR.2.2.2.F ht⟩) hR.2.2.2.2.2 d hlocks
theorem ex_vret (C : ab_cx p R s m args c cc own nL X D) {Po : Int32 → List ex_E → Prop} {mc ms : Nat} (hr : meth.sig.returnType = none) (hlocks : meth.locks = false) (d : decode cc pc = .ok (.return_, 1)) (h1 : cl ≤ mc) (h2 : sl ≤ ms) (h : Po 0 w) : ex_ok p l e R s m args below meth c cl sl (MQ below (ex_Po X D A Po none) args s mc ms (ab_Ar X)) nL X D A w pc lv [] := fun ws H locs ls hR hl => by
  refine W.widen h1 h2 ?_
  exact W.vret C.1 C.2.1 hr (fun t ht hW => ⟨⟨(w, ws), rfl, h, hR.1.moved hW.alike, by rw [ht]; exact hR.2.1, hR.2.2.1⟩, hR.2.2.2.F ht⟩) hR.2.2.2.2.2 d hlocks
end
/-- a contract out of a walk -/
theorem ex_meth {l : Launch} {X : ab_X} {D : va_G} {A : ex_A} {d : Nat} {y : MethodName} {cc : ByteArray} {own : String} {maxL : Nat} {ret : Option FieldType} {w : List ex_E} {vs : List Value} {Po : Int32 → List ex_E → Prop} (hyo : y.cls = own) (hy : plainName y.cls = true) (hcs : ex_cs vs ≤ maxL)
    (h : ∀ (p : Program) (e : Env) (R : Room) (s : State) (m : MethodId) (below : List Frame) (meth : Method) (c : Code), ab_cx p R s m (vs.map (ex_cv X A)).toArray c cc own maxL X D → meth.sig.returnType = ret → meth.locks = false → 16 * (d + 1) ≤ R.frames → 200 * (d + 1) ≤ R.locals → ex_ok p l e R s m (vs.map (ex_cv X A)).toArray below meth c 0 0 (MQ below (ex_Po X D A Po ret) (vs.map (ex_cv X A)).toArray s 0 0 (ab_Ar X)) maxL X D A w 0 (ex_ent 0 vs) []) : ex_ctr l X D A (d + 1) y cc maxL ret w vs Po := by
  intro ws
  refine Met.ofW (cc := cc) (maxL := maxL) (ret := ret) hy rfl ?_
  intro p e s m args below meth c s₁ B hml hv
  obtain ⟨rfl, hE, hw, hP, hD⟩ := hv
  have C : ab_cx p (headSpec (Cond.code y cc maxL ret :: ab_TG) (ab_rm (d + 1) 0 0)).room s m (vs.map (ex_cv X A)).toArray c cc own maxL X D := ⟨B.exec, B.bytes, hml, hyo ▸ findClass_of_methodNamed B.named, fun w hw => atoms_spec (ws := Cond.code y cc maxL ret :: ab_TG) B.pre w (List.mem_cons_of_mem _ hw), hE, by show 16 ≤ 16 * (d + 1); omega, by show 200 ≤ 200 * (d + 1); omega⟩
  exact ex_first hw hP hD hcs (h p e _ s m below meth c C B.returns B.notSynchronized (Nat.le_refl _) (Nat.le_refl _))
section
variable {p : Program} {l : Launch} {e : Env} {R : Room} {s : State} {m : MethodId} {args : Array Value} {below : List Frame} {meth : Method} {c : Code} {cl sl : Nat} {Q : State → Prop} {cc : ByteArray} {own : String} {nL : Nat} {X : ab_X} {D : va_G} {A : ex_A} {pc : Nat} {w : List ex_E} {lv : List (Nat × Value)} {st : List Value}
variable {y : MethodName} {cc1 : ByteArray} {maxL d i np : Nat} {ret : Option FieldType} {vs rest : List Value} {Po : Int32 → List ex_E → Prop}
/-- behind a call by any row -/
theorem ex_call_i {ty : FieldType} (hrow : ∀ (ws : va_W) (H : Heap) (locs : List Loc) (ls : Array Slot), ex_R X D s A w ws H locs → ls.size = nL → va_Run p l e R s m args below meth c H locs cl sl 0 0 (F0 m pc ls (st.map (ex_cv X A))) (rest.map (ex_cv X A)) (ex_Po X D A Po (some ty) (vs.map (ex_cv X A)).toArray) (ab_Ar X)) {np : Nat} (hp : pc + 3 = np) (k : ∀ (r : Int32) (w1 : List ex_E), Po r w1 → ex_ok p l e R s m args below meth c cl sl Q nL X D A w1 np lv (.int r :: rest)) : ex_ok p l e R s m args below meth c cl sl Q nL X D A w pc lv st := fun ws H locs ls hR hl => by
  subst hp
  refine va_calli (A0 := ab_Ar X) (a := (vs.map (ex_cv X A)).toArray) (post := fun r (u : ex_U) => Po r u.1) (B := ex_bu X D A) (A1 := ab_Ar X) (hrow ws H locs ls hR hl.1) hR.2.2.2 (fun _ _ h => h) (fun _ h => h) (fun r0 u t H1 locs1 ht hvm hpo hB _ _ hS => ?_)
  exact k r0 u.1 hpo u.2 H1 locs1 ls (ex_R.back hB ht hvm hS) hl
theorem ex_call_v (hrow : ∀ (ws : va_W) (H : Heap) (locs : List Loc) (ls : Array Slot), ex_R X D s A w ws H locs → ls.size = nL → va_Run p l e R s m args below meth c H locs cl sl 0 0 (F0 m pc ls (st.map (ex_cv X A))) (rest.map (ex_cv X A)) (ex_Po X D A Po none (vs.map (ex_cv X A)).toArray) (ab_Ar X)) {np : Nat} (hp : pc + 3 = np) (k : ∀ (w1 : List ex_E), Po 0 w1 → ex_ok p l e R s m args below meth c cl sl Q nL X D A w1 np lv rest) : ex_ok p l e R s m args below meth c cl sl Q nL X D A w pc lv st := fun ws H locs ls hR hl => by
  subst hp
  refine va_callv (A0 := ab_Ar X) (a := (vs.map (ex_cv X A)).toArray) (post := fun (u : ex_U) => Po 0 u.1) (B := ex_bu X D A) (A1 := ab_Ar X) (hrow ws H locs ls hR hl.1) hR.2.2.2 (fun _ _ h => h) (fun _ h => h) (fun u t H1 locs1 ht hvm hpo hB _ _ hS => ?_)
  exact k u.1 hpo u.2 H1 locs1 ls (ex_R.back hB ht hvm hS) hl
theorem ex_runV (C : ab_cx p R s m args c cc own nL X D) (K : ex_ctr l X D A d y cc1 maxL ret w vs Po) (hd1 : 16 * (d + 1) ≤ R.frames) (hd2 : 200 * (d + 1) ≤ R.locals) (hmx : maxL ≤ 150) {np : Nat} (hyd : y.cls ≠ "java/lang/invoke/MethodHandle" ∧ y.cls ≠ "java/lang/invoke/VarHandle" ∧ (parseMethodDescriptor y.desc).map (fun d => d.parameters.length) = some np) (hcode : Cond.code y cc1 maxL ret ∈ ab_TG) {ci N : Nat} {cn : String} {T : u_T} (hc : vwCl[ci]? = some (cn, T, N)) {j : Nat} {fs cr : List Value} (hvs : vs = .ref j :: cr) (hj : w[j]? = some (.inl (ci, fs))) (hnp : cr.length = np) (hst : st = cr.reverse ++ .ref j :: rest) (hrs : ex_cs rest ≤ 8) {C1 : String} (hcn : y.cls = cn) (hl1 : Cond.methodLink own i y ∈ ab_TG) (hl2 : Cond.instanceMethod y ∈ ab_TG) (hl3 : Cond.selects cn y y ∈ ab_TG) (hl4 : Cond.initialized cn ∈ ab_TG) (dd : decode cc pc = .ok (.invokevirtual i, 3)) (ws : va_W) (H : Heap) (locs : List Loc) (ls : Array Slot) (hR : ex_R X D s A w ws H locs) (hsz : ls.size = nL) (hcl : cl ≤ R.cells) (hsl : sl ≤ R.slots) : va_Run p l e R s m args below meth c H locs cl sl 0 0 (F0 m pc ls (st.map (ex_cv X A))) (rest.map (ex_cv X A)) (ex_Po X D A Po ret (vs.map (ex_cv X A)).toArray) (ab_Ar X) := by
  subst hvs hst
  obtain ⟨e0, c1, rfl⟩ := hR.cell hj
  have hM : Met l y (Cond.code y cc1 maxL ret :: ab_TG) (ab_rm d 0 0) (ex_Pr X D A w ws (.ref j :: cr)) (ex_Po X D A Po ret) 0 0 (ab_Ar X) := K ws
  have hcell : ∃ cell : Cell, H[ex_ad X A j]? = some cell ∧ cell.vm.isStatics = false ∧ s.vm.findClass cn = some cell.cls := va_recv (ab_cxE C).2.1 hR.2.1 hc c1
  refine va_runV (As := cr.map (ex_cv X A)) (rest := rest.map (ex_cv X A)) ⟨C.1, C.2.1, C.2.2.1, C.2.2.2.1, C.2.2.2.2.1⟩ hM (cwV (C := cn) np C.2.2.2.2.1 (ab_good (fun w hw => by
    simp only [wsV, List.mem_append, List.mem_cons, List.not_mem_nil, or_false] at hw
    rcases hw with (rfl | rfl | rfl | rfl) | (rfl | hw)
    · exact hl1
    · exact hl2
    · exact hl3
    · exact hl4
    · exact hcode
    · exact hw)) rfl rfl rfl ⟨hcn, hyd⟩ ⟨by show 16 * d + 1 ≤ _; omega, by show 8 + (maxL + 11) + 200 * d ≤ _; omega⟩) ⟨ex_Pr_blind, hcell, ex_Pr_in (ab_cxE C) hR⟩ rfl (by rw [List.length_map]; exact hnp) hsz (by simp [ex_cv, List.map_reverse]) (lv_room (by rw [ex_cs_ok]; exact hrs)) dd ⟨hcl, hsl⟩
theorem ex_runVN (C : ab_cx p R s m args c cc own nL X D) (K : ex_ctr l X D A d y cc1 maxL ret w vs Po) (hd1 : 16 * (d + 1) ≤ R.frames) (hd2 : 200 * (d + 1) ≤ R.locals) (hmx : maxL ≤ 150) {np : Nat} (hyd : y.cls ≠ "java/lang/invoke/MethodHandle" ∧ y.cls ≠ "java/lang/invoke/VarHandle" ∧ (parseMethodDescriptor y.desc).map (fun d => d.parameters.length) = some np) (hcode : Cond.code y cc1 maxL ret ∈ ab_TG) {ci N : Nat} {cn : String} {T : u_T} (hc : vwCl[ci]? = some (cn, T, N)) {j : Nat} {fs cr : List Value} (hvs : vs = .ref j :: cr) (hj : w[j]? = some (.inl (ci, fs))) (hnp : cr.length = np) (hst : st = cr.reverse ++ .ref j :: rest) (hrs : ex_cs rest ≤ 8) {host : String} (hl1 : Cond.methodLinkNest own i y host ∈ lw_tbl) (hl2 : Cond.instanceMethod y ∈ ab_TG) (hl3 : Cond.selects cn y y ∈ ab_TG) (hl4 : Cond.initialized y.cls ∈ ab_TG) (dd : decode cc pc = .ok (.invokevirtual i, 3)) (ws : va_W) (H : Heap) (locs : List Loc) (ls : Array Slot) (hR : ex_R X D s A w ws H locs) (hsz : ls.size = nL) (hcl : cl ≤ R.cells) (hsl : sl ≤ R.slots) : va_Run p l e R s m args below meth c H locs cl sl 0 0 (F0 m pc ls (st.map (ex_cv X A))) (rest.map (ex_cv X A)) (ex_Po X D A Po ret (vs.map (ex_cv X A)).toArray) (ab_Ar X) := by
  subst hvs hst
  obtain ⟨e0, c1, rfl⟩ := hR.cell hj
  have hM : Met l y (Cond.code y cc1 maxL ret :: ab_TG) (ab_rm d 0 0) (ex_Pr X D A w ws (.ref j :: cr)) (ex_Po X D A Po ret) 0 0 (ab_Ar X) := K ws
  have hcell : ∃ cell : Cell, H[ex_ad X A j]? = some cell ∧ cell.vm.isStatics = false ∧ s.vm.findClass cn = some cell.cls := va_recv (ab_cxE C).2.1 hR.2.1 hc c1
  refine va_runVN (As := cr.map (ex_cv X A)) (rest := rest.map (ex_cv X A)) ⟨C.1, C.2.1, C.2.2.1, C.2.2.2.1, C.2.2.2.2.1⟩ hM ⟨va_cnB np C.2.2.2.2.1 (ab_good (fun w hw => (List.mem_cons.mp hw).elim (fun e => e ▸ hcode) (fun h => h))) rfl rfl rfl ((ab_cxE C).2.2.1 _ hl1 rfl) (C.2.2.2.2.1 _ hl4) hyd ⟨by show 16 * d + 1 ≤ _; omega, by show 8 + (maxL + 11) + 200 * d ≤ _; omega⟩, C.2.2.2.2.1 _ hl2, C.2.2.2.2.1 _ hl3⟩ ⟨ex_Pr_blind, hcell, ex_Pr_in (ab_cxE C) hR⟩ rfl (by rw [List.length_map]; exact hnp) hsz (by simp [ex_cv, List.map_reverse]) (lv_room (by rw [ex_cs_ok]; exact hrs)) dd ⟨hcl, hsl⟩
theorem ex_runS (C : ab_cx p R s m args c cc own nL X D) (K : ex_ctr l X D A d y cc1 maxL ret w vs Po) (hd1 : 16 * (d + 1) ≤ R.frames) (hd2 : 200 * (d + 1) ≤ R.locals) (hmx : maxL ≤ 150) {np : Nat} (hyd : y.cls ≠ "java/lang/invoke/MethodHandle" ∧ y.cls ≠ "java/lang/invoke/VarHandle" ∧ (parseMethodDescriptor y.desc).map (fun d => d.parameters.length) = some np) (hcode : Cond.code y cc1 maxL ret ∈ ab_TG) (hnp : vs.length = np) (hst : st = vs.reverse ++ rest) (hrs : ex_cs rest ≤ 8) (hl1 : Cond.methodLink own i y ∈ ab_TG) (hl2 : Cond.static y ∈ ab_TG) (hl4 : Cond.initialized y.cls ∈ ab_TG) (dd : decode cc pc = .ok (.invokestatic i, 3)) (ws : va_W) (H : Heap) (locs : List Loc) (ls : Array Slot) (hR : ex_R X D s A w ws H locs) (hsz : ls.size = nL) (hcl : cl ≤ R.cells) (hsl : sl ≤ R.slots) : va_Run p l e R s m args below meth c H locs cl sl 0 0 (F0 m pc ls (st.map (ex_cv X A))) (rest.map (ex_cv X A)) (ex_Po X D A Po ret (vs.map (ex_cv X A)).toArray) (ab_Ar X) := by
  subst hst
  have hM : Met l y (Cond.code y cc1 maxL ret :: ab_TG) (ab_rm d 0 0) (ex_Pr X D A w ws vs) (ex_Po X D A Po ret) 0 0 (ab_Ar X) := K ws
  refine va_runS (As := vs.map (ex_cv X A)) (rest := rest.map (ex_cv X A)) ⟨C.1, C.2.1, C.2.2.1, C.2.2.2.1, C.2.2.2.2.1⟩ hM (va_cwS np C.2.2.2.2.1 (ab_good (fun w hw => by
    simp only [va_wsS, List.mem_append, List.mem_cons, List.not_mem_nil, or_false] at hw
    rcases hw with (rfl | rfl | rfl) | (rfl | hw)
    · exact hl1
    · exact hl2
    · exact hl4
    · exact hcode
    · exact hw)) rfl rfl rfl hyd ⟨by show 16 * d + 1 ≤ _; omega, by show 8 + (maxL + 11) + 200 * d ≤ _; omega⟩) ⟨ex_Pr_blind, ex_Pr_in (ab_cxE C) hR⟩ rfl (by rw [List.length_map]; exact hnp) hsz (by simp [List.map_reverse]) (lv_room (by rw [ex_cs_ok]; exact hrs)) dd ⟨hcl, hsl⟩
end
