/-! Fields, arrays, new cells, switches, texts and statics. -/
theorem ab_b8in (x : Int32) : -128 ≤ (x.toInt8.toInt32).toInt ∧ (x.toInt8.toInt32).toInt ≤ 127 := by
  rw [Int8.toInt_toInt32]
  have h1 := Int8.minValue_le_toInt x.toInt8
  have h2 := Int8.toInt_le x.toInt8
  have e1 : Int8.minValue.toInt = -128 := by decide +kernel
  have e2 : Int8.maxValue.toInt = 127 := by decide +kernel
  omega
theorem ab_b8 (x : Int32) (h1 : -128 ≤ x.toInt) (h2 : x.toInt ≤ 127) : x.toInt8.toInt32 = x := by
  apply Int32.toInt_inj.mp
  rw [Int8.toInt_toInt32, Int32.toInt_toInt8]
  exact Int.bmod_eq_of_le (by omega) (by omega)
theorem ab_nn32 (x : Int32) (h1 : 0 ≤ x.toInt) : x = nI x.toInt.toNat := by
  have h := ab_i32 x
  apply Int32.toInt_inj.mp
  rw [nI_toInt (by omega)]; omega
theorem ab_c16 (x : Int32) (h1 : 0 ≤ x.toInt) (h2 : x.toInt ≤ 65535) : (x.toUInt32 % 65536).toInt32 = x := by
  rw [pk_char]
  have e := ab_nn32 x h1
  have e2 : x.toBitVec.toNat = x.toInt.toNat := by
    conv => lhs; rw [e]
    exact pk_tn (by omega)
  rw [e2, Nat.mod_eq_of_lt (by omega)]; exact e.symm
theorem ab_c16in (x : Int32) : 0 ≤ ((x.toUInt32 % 65536).toInt32).toInt ∧ ((x.toUInt32 % 65536).toInt32).toInt ≤ 65535 := by
  rw [pk_char, nI_toInt (by omega)]; omega
/-- may a field or a row of this type hold it -/
def ab_fit (ty : FieldType) (env : ab_E) (v : ab_V) : Bool := match ty, v with
  | .int, .inl _ => true
  | .boolean, .inl a => ab_ivK env a (fun lo hi => ab_le 0 lo && ab_le hi 1)
  | .byte, .inl a => ab_ivK env a (fun lo hi => ab_le (-128) lo && ab_le hi 127)
  | .char, .inl a => ab_ivK env a (fun lo hi => ab_le 0 lo && ab_le hi 65535)
  | .long, .inr (.inl _) => true
  | .object _, .inr (.inr r) => ab_nn r
  | .array _, .inr (.inr r) => ab_nn r
  | _, _ => false
theorem ab_fit_ok {ty : FieldType} {env : ab_E} {v : ab_V} {X : ab_X} {z : ab_Z} {x : Value} (hR : ab_eR env z.1) (h : ab_fit ty env v = true) (hv : ab_ev X z v = some x) : narrow ty x = x ∧ fits ty x = true := by
  unfold ab_fit at h
  split at h
  · obtain ⟨y, rfl, -⟩ := ab_evi hv
    exact ⟨rfl, rfl⟩
  · obtain ⟨y, rfl, h3⟩ := ab_evi hv
    have hi := ab_iv_spec hR h3
    rw [ab_ivK_eq, Bool.and_eq_true, ab_le_iff, ab_le_iff] at h
    have e := ab_nn32 y (by omega)
    have e2 : y.toInt.toNat = 0 ∨ y.toInt.toNat = 1 := by omega
    rcases e2 with e2 | e2
    · rw [e, e2]; exact ⟨rfl, by decide +kernel⟩
    · rw [e, e2]; exact ⟨rfl, by decide +kernel⟩
  · obtain ⟨y, rfl, h3⟩ := ab_evi hv
    have hi := ab_iv_spec hR h3
    rw [ab_ivK_eq, Bool.and_eq_true, ab_le_iff, ab_le_iff] at h
    refine ⟨?_, ?_⟩
    · show Value.int y.toInt8.toInt32 = _
      rw [ab_b8 y (by omega) (by omega)]
    · have h1 : (-128 : Int32) ≤ y := Int32.le_iff_toInt_le.mpr (by rw [show (-128 : Int32).toInt = -128 from by decide +kernel]; omega)
      have h2 : y ≤ (127 : Int32) := Int32.le_iff_toInt_le.mpr (by rw [show (127 : Int32).toInt = 127 from by decide +kernel]; omega)
      show (decide ((-128 : Int32) ≤ y) && decide (y ≤ 127)) = true
      rw [decide_eq_true h1, decide_eq_true h2]; rfl
  · obtain ⟨y, rfl, h3⟩ := ab_evi hv
    have hi := ab_iv_spec hR h3
    rw [ab_ivK_eq, Bool.and_eq_true, ab_le_iff, ab_le_iff] at h
    rw [ab_nn32 y (by omega)]
    exact pk_charN (by omega)
  · obtain ⟨y, rfl, -⟩ := ab_evl hv
    exact ⟨rfl, rfl⟩
  · obtain ⟨a, rfl⟩ := ab_nn_ref h hv
    exact ⟨rfl, rfl⟩
  · obtain ⟨a, rfl⟩ := ab_nn_ref h hv
    exact ⟨rfl, rfl⟩
  · cases h
theorem ab_map_get {X : ab_X} {z : ab_Z} : ∀ {l : List ab_V} {c : List Value} {k : Nat} {a : ab_V}, l.map (ab_ev X z) = c.map some → l[k]? = some a → ∃ x, c[k]? = some x ∧ ab_ev X z a = some x
  | [], c, k, a, _, h => by simp at h
  | b :: l, [], k, a, e, h => by simp at e
  | b :: l, x :: c, 0, a, e, h => by
    simp only [List.map_cons, List.cons.injEq] at e
    rw [List.getElem?_cons_zero] at h
    cases h
    exact ⟨x, rfl, e.1⟩
  | b :: l, x :: c, k + 1, a, e, h => by
    simp only [List.map_cons, List.cons.injEq] at e
    rw [List.getElem?_cons_succ] at h ⊢
    exact ab_map_get e.2 h
theorem ab_map_set {X : ab_X} {z : ab_Z} : ∀ {l : List ab_V} {c : List Value} {k : Nat} {a : ab_V} {x : Value}, l.map (ab_ev X z) = c.map some → ab_ev X z a = some x → (l.set k a).map (ab_ev X z) = (c.set k x).map some
  | [], [], k, a, x, _, _ => rfl
  | [], _ :: _, k, a, x, e, h => by simp at e
  | b :: l, [], k, a, x, e, h => by simp at e
  | b :: l, y :: c, 0, a, x, e, h => by
    simp only [List.map_cons, List.cons.injEq] at e
    simp only [List.set, List.map_cons, h, e.2]
  | b :: l, y :: c, k + 1, a, x, e, h => by
    simp only [List.map_cons, List.cons.injEq] at e
    simp only [List.set, List.map_cons, e.1, ab_map_set e.2 h]
theorem ab_map_len {X : ab_X} {z : ab_Z} {l : List ab_V} {c : List Value} (e : l.map (ab_ev X z) = c.map some) : l.length = c.length := by
  have h := congrArg List.length e
  simpa using h
/-- a reference to a cell of the world -/
theorem ab_ref2 {X : ab_X} {z : ab_Z} {j : Nat} {x : Value} (h : ab_ev X z (.inr (.inr (2, j))) = some x) : ∃ a, x = .ref a ∧ z.2.2[j]? = some a := by
  simp only [ab_ev, ab_evR, Option.map_eq_some_iff] at h
  obtain ⟨y, h1, h2⟩ := h
  exact ⟨y, h2.symm, h1⟩
def ab_atK {β : Type} (d : ab_V) : List (Nat × ab_V) → Nat → (ab_V → β) → β
  | [], _, k => k d
  | (i, v) :: r, j, k => bif Nat.beq i j then k v else ab_atK d r j k
theorem ab_atK_eq {β : Type} (d : ab_V) : ∀ (l : List (Nat × ab_V)) (j : Nat) (k : ab_V → β), ab_atK d l j k = k (ab_at d l j)
  | [], j, k => rfl
  | (i, v) :: r, j, k => by
    simp only [ab_atK, ab_at]
    cases Nat.beq i j
    · exact ab_atK_eq d r j k
    · rfl
/-- an index that is one number, below n -/
def ab_ixK (env : ab_E) (i : ab_I) (n : Nat) (k : Nat → ab_A) : ab_A := ab_ivK env i (fun lo hi => bif ab_ie lo hi then (match lo with
  | .ofNat q => bif Nat.blt q n then k q else none
  | .negSucc _ => none) else none)
theorem ab_ixK_ok {env : ab_E} {i : ab_I} {n : Nat} {k : Nat → ab_A} {r : List ab_S} (h : ab_ixK env i n k = some r) {rho : List Int32} {x : Int32} (hR : ab_eR env rho) (hx : ab_evI rho i = some x) (hn : n < 2 ^ 31) : k x.toNatClampNeg = some r ∧ x.toNatClampNeg < n ∧ vp_in x n := by
  unfold ab_ixK at h
  rw [ab_ivK_eq] at h
  have hi := ab_iv_spec hR hx
  cases hc : ab_ie (ab_iv env i).1 (ab_iv env i).2
  · rw [hc] at h; cases h
  · rw [hc, cond_true] at h
    rw [ab_ie_iff] at hc
    split at h
    · rename_i q hq
      cases hb : Nat.blt q n
      · rw [hb] at h; cases h
      · rw [hb, cond_true] at h
        have hb2 : q < n := Nat.le_of_ble_eq_true hb
        have e1 : x.toInt = (q : Int) := by have : (ab_iv env i).1 = (q : Int) := hq; omega
        have e : x = nI q := by
          have := ab_nn32 x (by omega)
          rw [this, e1]; rfl
        have e3 : x.toNatClampNeg = q := by rw [e]; exact nI_clamp (by omega)
        rw [e3]
        exact ⟨h, hb2, by rw [e]; exact vp_in_nI hb2 hn⟩
    · cases h
def op_gf (ci k np : Nat) : ab_P := fun _ env nl aw cl sl lv st => match st with
  | .inr (.inr (2, j)) :: st => (match ab_get aw j with
    | some (.inl (cj, fs)) => bif Nat.beq ci cj then (match ab_get fs k with
      | some v => some [((env, nl, aw, cl, sl), np, lv, v :: st)]
      | none => none) else none
    | _ => none)
  | _ => none
def op_pf (ty : FieldType) (ci k np : Nat) : ab_P := fun _ env nl aw cl sl lv st => match st with
  | v :: .inr (.inr (2, j)) :: st => bif ab_fit ty env v then (match ab_get aw j with
    | some (.inl (cj, fs)) => bif Nat.beq ci cj then (match ab_get fs k with
      | some _ => ab_setK fs k v (fun fs => ab_setK aw j (.inl (cj, fs)) (fun aw => some [((env, nl, aw, cl, sl), np, lv, st)]))
      | none => none) else none
    | _ => none) else none
  | _ => none
def op_ald (t np : Nat) : ab_P := fun _ env nl aw cl sl lv st => match st with
  | .inl i :: .inr (.inr (2, j)) :: st => (match ab_get aw j with
    | some (.inr (t', n, d, ov)) => bif Nat.beq t t' && Nat.ble n 100000 then ab_ixK env i n (fun q => ab_atK d ov q (fun v => some [((env, nl, aw, cl, sl), np, lv, v :: st)])) else none
    | _ => none)
  | _ => none
def op_ast (t np : Nat) : ab_P := fun _ env nl aw cl sl lv st => match st with
  | v :: .inl i :: .inr (.inr (2, j)) :: st => (match ab_get aw j with
    | some (.inr (t', n, d, ov)) => bif Nat.beq t t' && Nat.ble n 100000 && ab_fit (ab_ft t) env v then ab_ixK env i n (fun q => ab_putK d ov q v (fun ov => ab_setK aw j (.inr (t', n, d, ov)) (fun aw => some [((env, nl, aw, cl, sl), np, lv, st)]))) else none
    | _ => none)
  | _ => none
/-- aastore -/
def op_aast (ci np : Nat) : ab_P := fun _ env nl aw cl sl lv st => match st with
  | .inr (.inr (2, q)) :: .inl i :: .inr (.inr (2, j)) :: st => (match ab_get aw q with
    | some (.inl (cj, _)) => bif Nat.beq ci cj then (match ab_get aw j with
      | some (.inr (t', n, d, ov)) => bif Nat.beq (ci + 4) t' && Nat.ble n 100000 then ab_ixK env i n (fun x => ab_putK d ov x (.inr (.inr (2, q))) (fun ov => ab_setK aw j (.inr (t', n, d, ov)) (fun aw => some [((env, nl, aw, cl, sl), np, lv, st)]))) else none
      | _ => none) else none
    | _ => none)
  | _ => none
/-- aaload: each place that the index can be -/
def ab_fkK (i : ab_I) (d : ab_V) (ov : List (Nat × ab_V)) (env : ab_E) (nl : Nat) (aw : List ab_C) (cl sl np : Nat) (lv : List (Nat × ab_V)) (st : List ab_V) : Nat → (List ab_S → ab_A) → ab_A
  | 0, k => k []
  | q + 1, k => ab_rfK env i q q (fun o => match o with
    | none => ab_fkK i d ov env nl aw cl sl np lv st q k
    | some env' => ab_atK d ov q (fun v => ab_fkK i d ov env nl aw cl sl np lv st q (fun L => k (((env', nl, aw, cl, sl), np, lv, v :: st) :: L))))
def op_aald (ci np : Nat) : ab_P := fun _ env nl aw cl sl lv st => match st with
  | .inl i :: .inr (.inr (2, j)) :: st => (match ab_get aw j with
    | some (.inr (t', n, d, ov)) => bif Nat.beq (ci + 4) t' && Nat.ble n 100000 then ab_ivK env i (fun lo hi => bif ab_le 0 lo && ab_le (hi + 1) n then ab_fkK i d ov env nl aw cl sl np lv st n (fun L => some L) else none) else none
    | _ => none)
  | _ => none
def op_len (np : Nat) : ab_P := fun _ env nl aw cl sl lv st => match st with
  | .inr (.inr (2, j)) :: st => (match ab_get aw j with
    | some (.inr (_, n, _, _)) => some [((env, nl, aw, cl, sl), np, lv, .inl (none, (n : Int)) :: st)]
    | _ => none)
  | _ => none
def op_na (t : Nat) (d : ab_V) (mc ms np : Nat) : ab_P := fun _ env nl aw cl sl lv st => match st with
  | .inl i :: st => ab_ixK env i 100001 (fun q => bif Nat.ble (cl + 1) mc && Nat.ble (sl + q) ms then ab_lenK aw 0 (fun j => ab_appK aw (.inr (t, q, d, [])) (fun aw => ab_fn (cl + 1) (fun cl => ab_fn (sl + q) (fun sl => some [((env, nl, aw, cl, sl), np, lv, .inr (.inr (2, j)) :: st)])))) else none)
  | _ => none
def op_new (ci n : Nat) (fs : List ab_V) (mc ms np : Nat) : ab_P := fun _ env nl aw cl sl lv st =>
  bif Nat.ble (cl + 1) mc && Nat.ble (sl + n) ms then ab_lenK aw 0 (fun j => ab_appK aw (.inl (ci, fs)) (fun aw => ab_fn (cl + 1) (fun cl => ab_fn (sl + n) (fun sl => some [((env, nl, aw, cl, sl), np, lv, .inr (.inr (2, j)) :: st)])))) else none
/-- the script's length; its ints -/
def op_slen (np : Nat) : ab_P := fun _ env nl aw cl sl lv st => match st with
  | .inr (.inr (1, _)) :: st => some [((env, nl, aw, cl, sl), np, lv, .inl (some 6, 0) :: st)]
  | _ => none
def op_sld (np : Nat) : ab_P := fun _ env nl aw cl sl lv st => match st with
  | .inl i :: .inr (.inr (1, _)) :: st => ab_ixK env i 6 (fun q => ab_ivK env (some 6, 0) (fun lo _ => bif ab_le (q + 1) lo then some [((env, nl, aw, cl, sl), np, lv, .inl (some q, 0) :: st)] else none))
  | _ => none
/-- a text's fields, bytes; a table's length -/
def op_gval (np : Nat) : ab_P := fun _ env nl aw cl sl lv st => match st with
  | .inr (.inr (3, 0)) :: st => some [((env, nl, aw, cl, sl), np, lv, .inr (.inr (4, 0)) :: st)]
  | _ => none
def op_gcod (np : Nat) : ab_P := fun _ env nl aw cl sl lv st => match st with
  | .inr (.inr (3, 0)) :: st => some [((env, nl, aw, cl, sl), np, lv, .inl (none, 0) :: st)]
  | _ => none
def op_tlen (np : Nat) : ab_P := fun _ env nl aw cl sl lv st => match st with
  | .inr (.inr (4, 0)) :: st => some [((env, nl, aw, cl, sl), np, lv, .inl (none, 124) :: st)]
  | _ => none
def op_tb (np : Nat) : ab_P := fun _ env nl aw cl sl lv st => match st with
  | .inl i :: .inr (.inr (4, 0)) :: st => ab_ixK env i 124 (fun q => match ab_get ab_byt q with
    | some x => ab_fi x.toInt (fun x => some [((env, nl, aw, cl, sl), np, lv, .inl (none, x) :: st)])
    | none => none)
  | _ => none
def op_hlen (np : Nat) : ab_P := fun _ env nl aw cl sl lv st => match st with
  | .inr (.inr (5, 0)) :: st => some [((env, nl, aw, cl, sl), np, lv, .inl (none, 3) :: st)]
  | _ => none
/-- tableswitch: the targets in their order, the other one -/
def ab_twK (a : ab_I) (env : ab_E) (nl : Nat) (aw : List ab_C) (cl sl : Nat) (lv : List (Nat × ab_V)) (st : List ab_V) : List Nat → Int → (List ab_S → ab_A) → ab_A
  | [], _, k => k []
  | t :: r, q, k => ab_rfK env a q q (fun o => match o with
    | none => ab_fi (q + 1) (fun q => ab_twK a env nl aw cl sl lv st r q k)
    | some env' => ab_fi (q + 1) (fun q => ab_twK a env nl aw cl sl lv st r q (fun L => k (((env', nl, aw, cl, sl), t, lv, st) :: L))))
def op_tsw (lo hi : Int) (tg : List Nat) (dt : Nat) : ab_P := fun _ env nl aw cl sl lv st => match st with
  | .inl a :: st => ab_twK a env nl aw cl sl lv st tg lo (fun L => ab_rfK env a (-2147483648) (lo - 1) (fun o1 => ab_rfK env a (hi + 1) 2147483647 (fun o2 => ab_o1 o1 (fun r1 => ab_o1 o2 (fun r2 => some (ab_frk nl aw cl sl lv st r1 dt (ab_frk nl aw cl sl lv st r2 dt L)))))))
  | _ => none
section
variable {p : Program} {l : Launch} {e : Env} {R : Room} {s : State} {m : MethodId} {args : Array Value} {below : List Frame} {meth : Method} {c : Code} {Q : State → Prop} {cc : ByteArray} {own : String} {nL : Nat} {X : ab_X} {D : va_G} {z0 : ab_Z} {cal : ab_K} {pc : Nat}
theorem ab_cxE (C : ab_cx p R s m args c cc own nL X D) : ab_EX X D s s.heap := C.2.2.2.2.2.1
theorem so_gf_k (C : ab_cx p R s m args c cc own nL X D) {ci k np : Nat} (hrow : ∀ (ws : va_W) (H : Heap) (locs : List Loc) (cl sl : Nat) (ls : Array Slot) (rest : List Value) (a j : Nat) (fs : List Value) (v : Value), ws[j]? = some (a, .inr (ci, fs)) → va_P D vwCl ws H → fs[k]? = some v → W p l e R s m args below meth c H locs cl sl Q (F0 m np ls (v :: rest)) → W p l e R s m args below meth c H locs cl sl Q (F0 m pc ls (.ref a :: rest))) : ab_so p l e R s m args below meth c Q nL X D z0 cal pc (op_gf ci k np) := by
  intro env nl aw cl sl lv st r hr hk z ws H locs ls cst hR hl hs
  dsimp only at hR hl hs
  unfold op_gf at hr
  split at hr
  · rename_i j st'
    rw [ab_get_eq] at hr
    split at hr
    · rename_i cj fs hj
      cases hb : Nat.beq ci cj
      · rw [hb] at hr; cases hr
      · rw [hb, cond_true, ab_get_eq] at hr
        cases Nat.eq_of_beq_eq_true hb
        split at hr
        · rename_i v hv
          cases hr
          obtain ⟨x, r, rfl, h1, h2⟩ := ab_st1 hs
          obtain ⟨a, rfl, h3⟩ := ab_ref2 h1
          obtain ⟨a', e', c1, c2, vs, rfl, c4⟩ := hR.cell hj
          cases Option.some.inj (c2.symm.trans h3)
          obtain ⟨y, y1, y2⟩ := ab_map_get c4 hv
          refine hrow ws H locs cl sl ls r a j vs y c1 hR.2.2.2.2.1 y1 ?_
          exact hk _ List.mem_cons_self z ws H locs ls (y :: r) hR hl (by simp only [List.map_cons, y2]; rw [h2])
        · cases hr
    · cases hr
  · cases hr
theorem so_getf (C : ab_cx p R s m args c cc own nL X D) {ci k i N : Nat} {cn : String} {T : u_T} (hc : vwCl[ci]? = some (cn, T, N)) (hin : ∀ w ∈ u_ws cn T N, w ∈ ab_TG) (hkN : k < N) (hw : Cond.fieldLink own i (T k).1 (T k).2.1 (T k).2.2.1 ∈ ab_TG) (d : decode cc pc = .ok (.getfield i, 3)) : ab_so p l e R s m args below meth c Q nL X D z0 cal pc (op_gf ci k (pc + 3)) :=
  so_gf_k C (fun ws H locs cl sl ls rest a j fs v h1 h2 h3 kk => va_get (cl := vwCl) (D := D) C.1 C.2.1 C.2.2.2.2.1 hin C.2.2.2.1 (ab_cxE C).2.1 h2 j h1 hc k hkN (C.2.2.2.2.1 _ hw) (fun _ h => h) h3 d kk)
theorem so_getfN (C : ab_cx p R s m args c cc own nL X D) {ci k i N : Nat} {cn : String} {T : u_T} (hc : vwCl[ci]? = some (cn, T, N)) (hin : ∀ w ∈ u_ws cn T N, w ∈ ab_TG) (hkN : k < N) {host : String} (hw : Cond.fieldLinkNest own i (T k).1 (T k).2.1 (T k).2.2.1 host ∈ lw_tbl) (d : decode cc pc = .ok (.getfield i, 3)) : ab_so p l e R s m args below meth c Q nL X D z0 cal pc (op_gf ci k (pc + 3)) :=
  so_gf_k C (fun ws H locs cl sl ls rest a j fs v h1 h2 h3 kk => va_getN (cl := vwCl) (D := D) C.1 C.2.1 C.2.2.2.2.1 hin C.2.2.2.1 (ab_cxE C).2.1 h2 j h1 hc k hkN (va_Nw.use rfl ((ab_cxE C).2.2.1 _ hw rfl)) (fun _ h => h) h3 d kk)
theorem so_pf_k (C : ab_cx p R s m args c cc own nL X D) {ty : FieldType} {ci k np : Nat} (hrow : ∀ (ws : va_W) (H : Heap) (locs : List Loc) (cl sl : Nat) (ls : Array Slot) (rest : List Value) (a j : Nat) (fs : List Value) (v : Value), ws[j]? = some (a, .inr (ci, fs)) → va_P D vwCl ws H → va_D (ab_Ar X) ws → va_S (ab_Ar X) s.heap H locs → narrow ty v = v → fits ty v = true → k < fs.length → (∀ (H1 : Heap) (locs1 : List Loc), va_P D vwCl (ws.set j (a, .inr (ci, fs.set k v))) H1 → va_D (ab_Ar X) (ws.set j (a, .inr (ci, fs.set k v))) → va_S (ab_Ar X) s.heap H1 locs1 → W p l e R s m args below meth c H1 locs1 cl sl Q (F0 m np ls rest)) → W p l e R s m args below meth c H locs cl sl Q (F0 m pc ls (v :: .ref a :: rest))) : ab_so p l e R s m args below meth c Q nL X D z0 cal pc (op_pf ty ci k np) := by
  intro env nl aw cl sl lv st r hr hk z ws H locs ls cst hR hl hs
  dsimp only at hR hl hs
  unfold op_pf at hr
  split at hr
  · rename_i v j st'
    cases hf : ab_fit ty env v
    · rw [hf] at hr; cases hr
    · rw [hf, cond_true, ab_get_eq] at hr
      split at hr
      · rename_i cj fs hj
        cases hb : Nat.beq ci cj
        · rw [hb] at hr; cases hr
        · rw [hb, cond_true, ab_get_eq] at hr
          cases Nat.eq_of_beq_eq_true hb
          split at hr
          · rename_i v0 hv
            simp only [ab_setK_eq, Option.some.injEq] at hr
            subst hr
            obtain ⟨x, r0, rfl, h1, h2⟩ := ab_st1 hs
            obtain ⟨x2, r, rfl, h4, h5⟩ := ab_st1 h2
            obtain ⟨a, rfl, h3⟩ := ab_ref2 h4
            obtain ⟨a', e', c1, c2, vs, rfl, c4⟩ := hR.cell hj
            cases Option.some.inj (c2.symm.trans h3)
            obtain ⟨n1, n2⟩ := ab_fit_ok hR.1 hf h1
            refine hrow ws H locs cl sl ls r a j vs x c1 hR.2.2.2.2.1 hR.2.2.2.2.2.1 hR.2.2.2.2.2.2.1 n1 n2 (by rw [← ab_map_len c4]; exact (List.getElem?_eq_some_iff.mp hv).1) (fun H1 locs1 g1 g2 g3 => ?_)
            exact hk _ List.mem_cons_self z _ H1 locs1 ls r (hR.set c1 (c := .inl (ci, fs.set k v)) ⟨vs.set k x, rfl, ab_map_set c4 h1⟩ g1 g2 g3) hl h5
          · cases hr
      · cases hr
  · cases hr
theorem so_putf (C : ab_cx p R s m args c cc own nL X D) {ci k i N : Nat} {cn : String} {T : u_T} (hc : vwCl[ci]? = some (cn, T, N)) (hin : ∀ w ∈ u_ws cn T N, w ∈ ab_TG) (hkN : k < N) {ty0 : Nat → FieldType} (hty : ∀ k, k < N → parseFieldDescriptor (T k).2.2.1 = some (ty0 k)) (hnm : ∀ a, a < N → ∀ b, b < N → a ≠ b → (T a).2.1 ≠ (T b).2.1) (hw : Cond.fieldLink own i (T k).1 (T k).2.1 (T k).2.2.1 ∈ ab_TG) (hfin : (T k).2.2.2 = false) (d : decode cc pc = .ok (.putfield i, 3)) : ab_so p l e R s m args below meth c Q nL X D z0 cal pc (op_pf (ty0 k) ci k (pc + 3)) :=
  so_pf_k C (fun ws H locs cl sl ls rest a j fs v h1 h2 h3 h4 h5 h6 h7 kk => va_put (cl := vwCl) (D := D) C.1 C.2.1 C.2.2.2.2.1 hin ty0 hty hnm C.2.2.2.1 (ab_cxE C).2.1 h2 h3 h4 j h1 hc k hkN (C.2.2.2.2.1 _ hw) (fun _ h => h) hfin (hty k hkN) h5 h6 h7 d kk)
theorem so_putfF (C : ab_cx p R s m args c cc own nL X D) {ci k i N : Nat} {cn : String} {T : u_T} (hc : vwCl[ci]? = some (cn, T, N)) (hin : ∀ w ∈ u_ws cn T N, w ∈ ab_TG) (hkN : k < N) {ty0 : Nat → FieldType} (hty : ∀ k, k < N → parseFieldDescriptor (T k).2.2.1 = some (ty0 k)) (hnm : ∀ a, a < N → ∀ b, b < N → a ≠ b → (T a).2.1 ≠ (T b).2.1) (hw : Cond.fieldLink own i (T k).1 (T k).2.1 (T k).2.2.1 ∈ ab_TG) (hfin : (T k).2.2.2 = true) (hini : meth.name = "<init>") (hdecl : (T k).1 = own) (d : decode cc pc = .ok (.putfield i, 3)) : ab_so p l e R s m args below meth c Q nL X D z0 cal pc (op_pf (ty0 k) ci k (pc + 3)) :=
  so_pf_k C (fun ws H locs cl sl ls rest a j fs v h1 h2 h3 h4 h5 h6 h7 kk => va_putF (cl := vwCl) (D := D) C.1 C.2.1 C.2.2.2.2.1 hin ty0 hty hnm C.2.2.2.1 (ab_cxE C).2.1 h2 h3 h4 j h1 hc k hkN (C.2.2.2.2.1 _ hw) (fun _ h => h) hfin hini hdecl (hty k hkN) h5 h6 h7 d kk)
theorem so_putfN (C : ab_cx p R s m args c cc own nL X D) {ci k i N : Nat} {cn : String} {T : u_T} (hc : vwCl[ci]? = some (cn, T, N)) (hin : ∀ w ∈ u_ws cn T N, w ∈ ab_TG) (hkN : k < N) {ty0 : Nat → FieldType} (hty : ∀ k, k < N → parseFieldDescriptor (T k).2.2.1 = some (ty0 k)) (hnm : ∀ a, a < N → ∀ b, b < N → a ≠ b → (T a).2.1 ≠ (T b).2.1) {host : String} (hw : Cond.fieldLinkNest own i (T k).1 (T k).2.1 (T k).2.2.1 host ∈ lw_tbl) (hfin : (T k).2.2.2 = false) (d : decode cc pc = .ok (.putfield i, 3)) : ab_so p l e R s m args below meth c Q nL X D z0 cal pc (op_pf (ty0 k) ci k (pc + 3)) :=
  so_pf_k C (fun ws H locs cl sl ls rest a j fs v h1 h2 h3 h4 h5 h6 h7 kk => va_putN (cl := vwCl) (D := D) C.1 C.2.1 C.2.2.2.2.1 hin ty0 hty hnm C.2.2.2.1 (ab_cxE C).2.1 h2 h3 h4 j h1 hc k hkN (va_Nw.use rfl ((ab_cxE C).2.2.1 _ hw rfl)) (fun _ h => h) hfin (hty k hkN) h5 h6 h7 d kk)
theorem so_iald (C : ab_cx p R s m args c cc own nL X D) (d : decode cc pc = .ok (.iaload, 1)) : ab_so p l e R s m args below meth c Q nL X D z0 cal pc (op_ald 0 (pc + 1)) := by
  intro env nl aw cl sl lv st r hr hk z ws H locs ls cst hR hl hs
  dsimp only at hR hl hs
  unfold op_ald at hr
  split at hr
  · rename_i i j st'
    rw [ab_get_eq] at hr
    split at hr
    · rename_i t' n dv ov hj
      cases hb : (Nat.beq 0 t' && Nat.ble n 100000)
      · rw [hb] at hr; cases hr
      · rw [hb, cond_true] at hr
        rw [Bool.and_eq_true] at hb
        have hn : n < 2 ^ 31 := Nat.lt_of_le_of_lt (Nat.le_of_ble_eq_true hb.2) (by decide)
        have ht := Nat.eq_of_beq_eq_true hb.1
        subst ht
        obtain ⟨x, r0, rfl, h1, h2⟩ := ab_st1 hs
        obtain ⟨y, rfl, h3⟩ := ab_evi h1
        obtain ⟨x2, r1, rfl, h4, h5⟩ := ab_st1 h2
        obtain ⟨a, rfl, h6⟩ := ab_ref2 h4
        obtain ⟨a', e', c1, c2, cA, xx, rfl, ⟨f, rfl⟩, c5, c6⟩ := hR.cell hj
        cases Option.some.inj (c2.symm.trans h6)
        obtain ⟨k1, k2, k3⟩ := ab_ixK_ok hr hR.1 h3 hn
        rw [ab_atK_eq] at k1
        cases k1
        refine va_iald (cl := vwCl) (D := D) (tys := [(cA, .int)]) C.1 C.2.1 ((ab_cxE C).Kt c5) hR.2.2.2.2.1 j 0 c1 rfl k3 d ?_
        have c7 := c6 _ k2
        exact hk _ List.mem_cons_self z ws H locs ls (.int (f y.toNatClampNeg) :: r1) hR hl (by simp only [List.map_cons]; rw [h5]; exact congrArg (· :: _) c7)
    · cases hr
  · cases hr
theorem so_bald (C : ab_cx p R s m args c cc own nL X D) (d : decode cc pc = .ok (.baload, 1)) : ab_so p l e R s m args below meth c Q nL X D z0 cal pc (op_ald 2 (pc + 1)) := by
  intro env nl aw cl sl lv st r hr hk z ws H locs ls cst hR hl hs
  dsimp only at hR hl hs
  unfold op_ald at hr
  split at hr
  · rename_i i j st'
    rw [ab_get_eq] at hr
    split at hr
    · rename_i t' n dv ov hj
      cases hb : (Nat.beq 2 t' && Nat.ble n 100000)
      · rw [hb] at hr; cases hr
      · rw [hb, cond_true] at hr
        rw [Bool.and_eq_true] at hb
        have hn : n < 2 ^ 31 := Nat.lt_of_le_of_lt (Nat.le_of_ble_eq_true hb.2) (by decide)
        have ht := Nat.eq_of_beq_eq_true hb.1
        subst ht
        obtain ⟨x, r0, rfl, h1, h2⟩ := ab_st1 hs
        obtain ⟨y, rfl, h3⟩ := ab_evi h1
        obtain ⟨x2, r1, rfl, h4, h5⟩ := ab_st1 h2
        obtain ⟨a, rfl, h6⟩ := ab_ref2 h4
        obtain ⟨a', e', c1, c2, cA, xx, rfl, ⟨f, rfl⟩, c5, c6⟩ := hR.cell hj
        cases Option.some.inj (c2.symm.trans h6)
        obtain ⟨k1, k2, k3⟩ := ab_ixK_ok hr hR.1 h3 hn
        rw [ab_atK_eq] at k1
        cases k1
        refine va_bald (cl := vwCl) (D := D) (tys := [(cA, .byte)]) C.1 C.2.1 ((ab_cxE C).Kt c5) hR.2.2.2.2.1 j 0 c1 rfl k3 d ?_
        have c7 := c6 _ k2
        exact hk _ List.mem_cons_self z ws H locs ls (.int (f y.toNatClampNeg) :: r1) hR hl (by simp only [List.map_cons]; rw [h5]; exact congrArg (· :: _) c7)
    · cases hr
  · cases hr
theorem so_zald (C : ab_cx p R s m args c cc own nL X D) (d : decode cc pc = .ok (.baload, 1)) : ab_so p l e R s m args below meth c Q nL X D z0 cal pc (op_ald 3 (pc + 1)) := by
  intro env nl aw cl sl lv st r hr hk z ws H locs ls cst hR hl hs
  dsimp only at hR hl hs
  unfold op_ald at hr
  split at hr
  · rename_i i j st'
    rw [ab_get_eq] at hr
    split at hr
    · rename_i t' n dv ov hj
      cases hb : (Nat.beq 3 t' && Nat.ble n 100000)
      · rw [hb] at hr; cases hr
      · rw [hb, cond_true] at hr
        rw [Bool.and_eq_true] at hb
        have hn : n < 2 ^ 31 := Nat.lt_of_le_of_lt (Nat.le_of_ble_eq_true hb.2) (by decide)
        have ht := Nat.eq_of_beq_eq_true hb.1
        subst ht
        obtain ⟨x, r0, rfl, h1, h2⟩ := ab_st1 hs
        obtain ⟨y, rfl, h3⟩ := ab_evi h1
        obtain ⟨x2, r1, rfl, h4, h5⟩ := ab_st1 h2
        obtain ⟨a, rfl, h6⟩ := ab_ref2 h4
        obtain ⟨a', e', c1, c2, cA, xx, rfl, ⟨f, rfl⟩, c5, c6⟩ := hR.cell hj
        cases Option.some.inj (c2.symm.trans h6)
        obtain ⟨k1, k2, k3⟩ := ab_ixK_ok hr hR.1 h3 hn
        rw [ab_atK_eq] at k1
        cases k1
        refine va_zald (cl := vwCl) (D := D) (tys := [(cA, .boolean)]) C.1 C.2.1 ((ab_cxE C).Kt c5) hR.2.2.2.2.1 j 0 c1 rfl k3 d ?_
        have c7 := c6 _ k2
        exact hk _ List.mem_cons_self z ws H locs ls (.int (f y.toNatClampNeg) :: r1) hR hl (by simp only [List.map_cons]; rw [h5]; exact congrArg (· :: _) c7)
    · cases hr
  · cases hr
theorem so_lald (C : ab_cx p R s m args c cc own nL X D) (d : decode cc pc = .ok (.laload, 1)) : ab_so p l e R s m args below meth c Q nL X D z0 cal pc (op_ald 1 (pc + 1)) := by
  intro env nl aw cl sl lv st r hr hk z ws H locs ls cst hR hl hs
  dsimp only at hR hl hs
  unfold op_ald at hr
  split at hr
  · rename_i i j st'
    rw [ab_get_eq] at hr
    split at hr
    · rename_i t' n dv ov hj
      cases hb : (Nat.beq 1 t' && Nat.ble n 100000)
      · rw [hb] at hr; cases hr
      · rw [hb, cond_true] at hr
        rw [Bool.and_eq_true] at hb
        have hn : n < 2 ^ 31 := Nat.lt_of_le_of_lt (Nat.le_of_ble_eq_true hb.2) (by decide)
        have ht := Nat.eq_of_beq_eq_true hb.1
        subst ht
        obtain ⟨x, r0, rfl, h1, h2⟩ := ab_st1 hs
        obtain ⟨y, rfl, h3⟩ := ab_evi h1
        obtain ⟨x2, r1, rfl, h4, h5⟩ := ab_st1 h2
        obtain ⟨a, rfl, h6⟩ := ab_ref2 h4
        obtain ⟨a', e', c1, c2, cA, xx, rfl, ⟨f, rfl⟩, c5, c6⟩ := hR.cell hj
        cases Option.some.inj (c2.symm.trans h6)
        obtain ⟨k1, k2, k3⟩ := ab_ixK_ok hr hR.1 h3 hn
        rw [ab_atK_eq] at k1
        cases k1
        refine va_lald (cl := vwCl) (D := D) (tys := [(cA, .long)]) C.1 C.2.1 ((ab_cxE C).Kt c5) hR.2.2.2.2.1 j 0 c1 rfl k3 d ?_
        have c7 := c6 _ k2
        exact hk _ List.mem_cons_self z ws H locs ls (.long (f y.toNatClampNeg) :: r1) hR hl (by simp only [List.map_cons]; rw [h5]; exact congrArg (· :: _) c7)
    · cases hr
  · cases hr
theorem so_iast (C : ab_cx p R s m args c cc own nL X D) (d : decode cc pc = .ok (.iastore, 1)) : ab_so p l e R s m args below meth c Q nL X D z0 cal pc (op_ast 0 (pc + 1)) := by
  intro env nl aw cl sl lv st r hr hk z ws H locs ls cst hR hl hs
  dsimp only at hR hl hs
  unfold op_ast at hr
  split at hr
  · rename_i v i j st'
    rw [ab_get_eq] at hr
    split at hr
    · rename_i t' n dv ov hj
      cases hb : (Nat.beq 0 t' && Nat.ble n 100000 && ab_fit (ab_ft 0) env v)
      · rw [hb] at hr; cases hr
      · rw [hb, cond_true] at hr
        rw [Bool.and_eq_true, Bool.and_eq_true] at hb
        obtain ⟨⟨hb1, hb2⟩, hb3⟩ := hb
        have hn : n < 2 ^ 31 := Nat.lt_of_le_of_lt (Nat.le_of_ble_eq_true hb2) (by decide)
        have ht := Nat.eq_of_beq_eq_true hb1
        subst ht
        obtain ⟨x, r0, rfl, h1, h2⟩ := ab_st1 hs
        obtain ⟨x3, r1, rfl, h4, h5⟩ := ab_st1 h2
        obtain ⟨y, rfl, h3⟩ := ab_evi h4
        obtain ⟨x4, r2, rfl, h7, h8⟩ := ab_st1 h5
        obtain ⟨a, rfl, h6⟩ := ab_ref2 h7
        obtain ⟨n1, n2⟩ := ab_fit_ok hR.1 hb3 h1
        obtain ⟨a', e', c1, c2, cA, xx, rfl, ⟨f, rfl⟩, c5, c6⟩ := hR.cell hj
        cases Option.some.inj (c2.symm.trans h6)
        obtain ⟨k1, k2, k3⟩ := ab_ixK_ok hr hR.1 h3 hn
        simp only [ab_putK_eq, ab_setK_eq, Option.some.injEq] at k1
        subst k1
        obtain ⟨y2, rfl⟩ : ∃ y2, x = .int y2 := by
          cases x <;> first | exact ⟨_, rfl⟩ | (cases n2)
        refine va_iast (cl := vwCl) (D := D) (tys := [(cA, .int)]) C.1 C.2.1 ((ab_cxE C).Kt c5) hR.2.2.2.2.1 hR.2.2.2.2.2.1 hR.2.2.2.2.2.2.1 j 0 c1 rfl k3 d (fun H1 locs1 g1 g2 g3 => ?_)
        refine hk _ List.mem_cons_self z _ H1 locs1 ls r2 (hR.set c1 (c := .inr (0, n, dv, ab_put dv ov y.toNatClampNeg v)) ⟨cA, _, rfl, ⟨_, rfl⟩, c5, fun q hq => ?_⟩ g1 g2 g3) hl h8
        rw [ab_at_put]
        by_cases hqe : q = y.toNatClampNeg
        · rw [if_pos hqe, h1]
          simp only [ab_cv, upd, hqe, if_true]
        · rw [if_neg hqe, c6 q hq]
          simp only [ab_cv, upd, hqe, if_false]
    · cases hr
  · cases hr
theorem so_bast (C : ab_cx p R s m args c cc own nL X D) (d : decode cc pc = .ok (.bastore, 1)) : ab_so p l e R s m args below meth c Q nL X D z0 cal pc (op_ast 2 (pc + 1)) := by
  intro env nl aw cl sl lv st r hr hk z ws H locs ls cst hR hl hs
  dsimp only at hR hl hs
  unfold op_ast at hr
  split at hr
  · rename_i v i j st'
    rw [ab_get_eq] at hr
    split at hr
    · rename_i t' n dv ov hj
      cases hb : (Nat.beq 2 t' && Nat.ble n 100000 && ab_fit (ab_ft 2) env v)
      · rw [hb] at hr; cases hr
      · rw [hb, cond_true] at hr
        rw [Bool.and_eq_true, Bool.and_eq_true] at hb
        obtain ⟨⟨hb1, hb2⟩, hb3⟩ := hb
        have hn : n < 2 ^ 31 := Nat.lt_of_le_of_lt (Nat.le_of_ble_eq_true hb2) (by decide)
        have ht := Nat.eq_of_beq_eq_true hb1
        subst ht
        obtain ⟨x, r0, rfl, h1, h2⟩ := ab_st1 hs
        obtain ⟨x3, r1, rfl, h4, h5⟩ := ab_st1 h2
        obtain ⟨y, rfl, h3⟩ := ab_evi h4
        obtain ⟨x4, r2, rfl, h7, h8⟩ := ab_st1 h5
        obtain ⟨a, rfl, h6⟩ := ab_ref2 h7
        obtain ⟨n1, n2⟩ := ab_fit_ok hR.1 hb3 h1
        obtain ⟨a', e', c1, c2, cA, xx, rfl, ⟨f, rfl⟩, c5, c6⟩ := hR.cell hj
        cases Option.some.inj (c2.symm.trans h6)
        obtain ⟨k1, k2, k3⟩ := ab_ixK_ok hr hR.1 h3 hn
        simp only [ab_putK_eq, ab_setK_eq, Option.some.injEq] at k1
        subst k1
        obtain ⟨y2, rfl⟩ : ∃ y2, x = .int y2 := by
          cases x <;> first | exact ⟨_, rfl⟩ | (cases n2)
        refine va_bast (cl := vwCl) (D := D) (tys := [(cA, .byte)]) C.1 C.2.1 ((ab_cxE C).Kt c5) hR.2.2.2.2.1 hR.2.2.2.2.2.1 hR.2.2.2.2.2.2.1 j 0 c1 rfl k3 d (fun H1 locs1 g1 g2 g3 => ?_)
        refine hk _ List.mem_cons_self z _ H1 locs1 ls r2 (hR.set c1 (c := .inr (2, n, dv, ab_put dv ov y.toNatClampNeg v)) ⟨cA, _, rfl, ⟨_, rfl⟩, c5, fun q hq => ?_⟩ g1 g2 g3) hl h8
        rw [ab_at_put]
        by_cases hqe : q = y.toNatClampNeg
        · rw [if_pos hqe, h1]
          simp only [ab_cv, upd, hqe, if_true]
          exact congrArg some (by have h9 : narrow (.byte) (.int y2) = .int y2 := n1; simp only [vp_nar, h9])
        · rw [if_neg hqe, c6 q hq]
          simp only [ab_cv, upd, hqe, if_false]
    · cases hr
  · cases hr
theorem so_zast (C : ab_cx p R s m args c cc own nL X D) (d : decode cc pc = .ok (.bastore, 1)) : ab_so p l e R s m args below meth c Q nL X D z0 cal pc (op_ast 3 (pc + 1)) := by
  intro env nl aw cl sl lv st r hr hk z ws H locs ls cst hR hl hs
  dsimp only at hR hl hs
  unfold op_ast at hr
  split at hr
  · rename_i v i j st'
    rw [ab_get_eq] at hr
    split at hr
    · rename_i t' n dv ov hj
      cases hb : (Nat.beq 3 t' && Nat.ble n 100000 && ab_fit (ab_ft 3) env v)
      · rw [hb] at hr; cases hr
      · rw [hb, cond_true] at hr
        rw [Bool.and_eq_true, Bool.and_eq_true] at hb
        obtain ⟨⟨hb1, hb2⟩, hb3⟩ := hb
        have hn : n < 2 ^ 31 := Nat.lt_of_le_of_lt (Nat.le_of_ble_eq_true hb2) (by decide)
        have ht := Nat.eq_of_beq_eq_true hb1
        subst ht
        obtain ⟨x, r0, rfl, h1, h2⟩ := ab_st1 hs
        obtain ⟨x3, r1, rfl, h4, h5⟩ := ab_st1 h2
        obtain ⟨y, rfl, h3⟩ := ab_evi h4
        obtain ⟨x4, r2, rfl, h7, h8⟩ := ab_st1 h5
        obtain ⟨a, rfl, h6⟩ := ab_ref2 h7
        obtain ⟨n1, n2⟩ := ab_fit_ok hR.1 hb3 h1
        obtain ⟨a', e', c1, c2, cA, xx, rfl, ⟨f, rfl⟩, c5, c6⟩ := hR.cell hj
        cases Option.some.inj (c2.symm.trans h6)
        obtain ⟨k1, k2, k3⟩ := ab_ixK_ok hr hR.1 h3 hn
        simp only [ab_putK_eq, ab_setK_eq, Option.some.injEq] at k1
        subst k1
        obtain ⟨y2, rfl⟩ : ∃ y2, x = .int y2 := by
          cases x <;> first | exact ⟨_, rfl⟩ | (cases n2)
        refine va_zast (cl := vwCl) (D := D) (tys := [(cA, .boolean)]) C.1 C.2.1 ((ab_cxE C).Kt c5) hR.2.2.2.2.1 hR.2.2.2.2.2.1 hR.2.2.2.2.2.2.1 j 0 c1 rfl k3 d (fun H1 locs1 g1 g2 g3 => ?_)
        refine hk _ List.mem_cons_self z _ H1 locs1 ls r2 (hR.set c1 (c := .inr (3, n, dv, ab_put dv ov y.toNatClampNeg v)) ⟨cA, _, rfl, ⟨_, rfl⟩, c5, fun q hq => ?_⟩ g1 g2 g3) hl h8
        rw [ab_at_put]
        by_cases hqe : q = y.toNatClampNeg
        · rw [if_pos hqe, h1]
          simp only [ab_cv, upd, hqe, if_true]
          exact congrArg some (by have h9 : narrow (.boolean) (.int y2) = .int y2 := n1; simp only [vp_nar, h9])
        · rw [if_neg hqe, c6 q hq]
          simp only [ab_cv, upd, hqe, if_false]
    · cases hr
  · cases hr
theorem so_last (C : ab_cx p R s m args c cc own nL X D) (d : decode cc pc = .ok (.lastore, 1)) : ab_so p l e R s m args below meth c Q nL X D z0 cal pc (op_ast 1 (pc + 1)) := by
  intro env nl aw cl sl lv st r hr hk z ws H locs ls cst hR hl hs
  dsimp only at hR hl hs
  unfold op_ast at hr
  split at hr
  · rename_i v i j st'
    rw [ab_get_eq] at hr
    split at hr
    · rename_i t' n dv ov hj
      cases hb : (Nat.beq 1 t' && Nat.ble n 100000 && ab_fit (ab_ft 1) env v)
      · rw [hb] at hr; cases hr
      · rw [hb, cond_true] at hr
        rw [Bool.and_eq_true, Bool.and_eq_true] at hb
        obtain ⟨⟨hb1, hb2⟩, hb3⟩ := hb
        have hn : n < 2 ^ 31 := Nat.lt_of_le_of_lt (Nat.le_of_ble_eq_true hb2) (by decide)
        have ht := Nat.eq_of_beq_eq_true hb1
        subst ht
        obtain ⟨x, r0, rfl, h1, h2⟩ := ab_st1 hs
        obtain ⟨x3, r1, rfl, h4, h5⟩ := ab_st1 h2
        obtain ⟨y, rfl, h3⟩ := ab_evi h4
        obtain ⟨x4, r2, rfl, h7, h8⟩ := ab_st1 h5
        obtain ⟨a, rfl, h6⟩ := ab_ref2 h7
        obtain ⟨n1, n2⟩ := ab_fit_ok hR.1 hb3 h1
        obtain ⟨a', e', c1, c2, cA, xx, rfl, ⟨f, rfl⟩, c5, c6⟩ := hR.cell hj
        cases Option.some.inj (c2.symm.trans h6)
        obtain ⟨k1, k2, k3⟩ := ab_ixK_ok hr hR.1 h3 hn
        simp only [ab_putK_eq, ab_setK_eq, Option.some.injEq] at k1
        subst k1
        obtain ⟨y2, rfl⟩ : ∃ y2, x = .long y2 := by
          cases x <;> first | exact ⟨_, rfl⟩ | (cases n2)
        refine va_last (cl := vwCl) (D := D) (tys := [(cA, .long)]) C.1 C.2.1 ((ab_cxE C).Kt c5) hR.2.2.2.2.1 hR.2.2.2.2.2.1 hR.2.2.2.2.2.2.1 j 0 c1 rfl k3 d (fun H1 locs1 g1 g2 g3 => ?_)
        refine hk _ List.mem_cons_self z _ H1 locs1 ls r2 (hR.set c1 (c := .inr (1, n, dv, ab_put dv ov y.toNatClampNeg v)) ⟨cA, _, rfl, ⟨_, rfl⟩, c5, fun q hq => ?_⟩ g1 g2 g3) hl h8
        rw [ab_at_put]
        by_cases hqe : q = y.toNatClampNeg
        · rw [if_pos hqe, h1]
          simp only [ab_cv, vp_updL, hqe, if_true]
        · rw [if_neg hqe, c6 q hq]
          simp only [ab_cv, vp_updL, hqe, if_false]
    · cases hr
  · cases hr
theorem so_aast (C : ab_cx p R s m args c cc own nL X D) {ci N : Nat} {cn : String} {T : u_T} (hc : vwCl[ci]? = some (cn, T, N)) (d : decode cc pc = .ok (.aastore, 1)) : ab_so p l e R s m args below meth c Q nL X D z0 cal pc (op_aast ci (pc + 1)) := by
  intro env nl aw cl sl lv st r hr hk z ws H locs ls cst hR hl hs
  dsimp only at hR hl hs
  unfold op_aast at hr
  split at hr
  · rename_i q0 i j st'
    rw [ab_get_eq] at hr
    split at hr
    · rename_i cj fs hq
      cases hb0 : Nat.beq ci cj
      · rw [hb0] at hr; cases hr
      · rw [hb0, cond_true, ab_get_eq] at hr
        cases Nat.eq_of_beq_eq_true hb0
        split at hr
        · rename_i t' n dv ov hj
          cases hb : (Nat.beq (ci + 4) t' && Nat.ble n 100000)
          · rw [hb] at hr; cases hr
          · rw [hb, cond_true] at hr
            rw [Bool.and_eq_true] at hb
            have hn : n < 2 ^ 31 := Nat.lt_of_le_of_lt (Nat.le_of_ble_eq_true hb.2) (by decide)
            have ht := Nat.eq_of_beq_eq_true hb.1
            subst ht
            obtain ⟨x, r0, rfl, h1, h2⟩ := ab_st1 hs
            obtain ⟨b, rfl, hb6⟩ := ab_ref2 h1
            obtain ⟨x3, r1, rfl, h4, h5⟩ := ab_st1 h2
            obtain ⟨y, rfl, h3⟩ := ab_evi h4
            obtain ⟨x4, r2, rfl, h7, h8⟩ := ab_st1 h5
            obtain ⟨a, rfl, h6⟩ := ab_ref2 h7
            obtain ⟨a', e', c1, c2, cA, xx, rfl, ⟨f, rfl⟩, c5, c6⟩ := hR.cell hj
            cases Option.some.inj (c2.symm.trans h6)
            obtain ⟨b', e'', p1, p2, vs, rfl, p4⟩ := hR.cell hq
            cases Option.some.inj (p2.symm.trans hb6)
            obtain ⟨k1, k2, k3⟩ := ab_ixK_ok hr hR.1 h3 hn
            simp only [ab_putK_eq, ab_setK_eq, Option.some.injEq] at k1
            subst k1
            have c5' : ArrOfT s cA (.object cn) ∧ va_RA s cA (.object cn) := by
              have e0 : ab_ft (ci + 4) = .object cn := by simp only [ab_ft, hc]
              rw [e0] at c5; exact c5
            refine va_astq (cl := vwCl) (D := D) (r := (cn, T, N)) (tys := [(cA, .object cn)]) C.1 C.2.1 ((ab_cxE C).Kt c5') hR.2.2.2.2.1 hR.2.2.2.2.2.1 hR.2.2.2.2.2.2.1 j 0 q0 ci c1 rfl p1 hc k3 d (fun H1 locs1 g1 g2 g3 => ?_)
            refine hk _ List.mem_cons_self z _ H1 locs1 ls r2 (hR.set c1 (c := .inr (ci + 4, n, dv, ab_put dv ov y.toNatClampNeg (.inr (.inr (2, q0))))) ⟨cA, _, rfl, ⟨_, rfl⟩, c5, fun q hqn => ?_⟩ g1 g2 g3) hl h8
            rw [ab_at_put]
            by_cases hqe : q = y.toNatClampNeg
            · rw [if_pos hqe, h1]
              simp only [ab_cv, va_up, hqe, if_true]; rfl
            · rw [if_neg hqe, c6 q hqn]
              simp only [ab_cv, va_up, hqe, if_false]
        · cases hr
    · cases hr
  · cases hr
theorem ab_fkK_ok {i : ab_I} {d : ab_V} {ov : List (Nat × ab_V)} {env : ab_E} {nl : Nat} {aw : List ab_C} {cl sl np : Nat} {lv : List (Nat × ab_V)} {st : List ab_V} : ∀ (n : Nat), ∃ L, (∀ k : List ab_S → ab_A, ab_fkK i d ov env nl aw cl sl np lv st n k = k L) ∧ ∀ (rho : List Int32) (x : Int32) (q : Nat), ab_eR env rho → ab_evI rho i = some x → x.toInt = (q : Int) → q < n → ∃ env', ab_eR env' rho ∧ ((env', nl, aw, cl, sl), np, lv, ab_at d ov q :: st) ∈ L
  | 0 => ⟨[], fun k => rfl, fun _ _ q _ _ _ h => absurd h (Nat.not_lt_zero q)⟩
  | n + 1 => by
    obtain ⟨L, h1, h2⟩ := ab_fkK_ok (i := i) (d := d) (ov := ov) (env := env) (nl := nl) (aw := aw) (cl := cl) (sl := sl) (np := np) (lv := lv) (st := st) n
    cases hc : ab_rf env i n n with
    | none =>
      refine ⟨L, fun k => by simp only [ab_fkK, ab_rfK_eq, hc, h1], fun rho x q hR hx e hq => ?_⟩
      by_cases hqn : q = n
      · subst hqn
        obtain ⟨e', g1, -⟩ := ab_rf_spec (lo := (q : Int)) (hi := (q : Int)) hR hx (by omega) (by omega)
        rw [hc] at g1; cases g1
      · exact h2 rho x q hR hx e (by omega)
    | some env' =>
      refine ⟨((env', nl, aw, cl, sl), np, lv, ab_at d ov n :: st) :: L, fun k => by simp only [ab_fkK, ab_rfK_eq, hc, ab_atK_eq, h1], fun rho x q hR hx e hq => ?_⟩
      by_cases hqn : q = n
      · subst hqn
        obtain ⟨e', g1, g2⟩ := ab_rf_spec (lo := (q : Int)) (hi := (q : Int)) hR hx (by omega) (by omega)
        rw [hc] at g1; cases g1
        exact ⟨_, g2, List.mem_cons_self⟩
      · obtain ⟨e', g1, g2⟩ := h2 rho x q hR hx e (by omega)
        exact ⟨e', g1, List.mem_cons_of_mem _ g2⟩
theorem so_aald (C : ab_cx p R s m args c cc own nL X D) {ci N : Nat} {cn : String} {T : u_T} (hc : vwCl[ci]? = some (cn, T, N)) (d : decode cc pc = .ok (.aaload, 1)) : ab_so p l e R s m args below meth c Q nL X D z0 cal pc (op_aald ci (pc + 1)) := by
  intro env nl aw cl sl lv st r hr hk z ws H locs ls cst hR hl hs
  dsimp only at hR hl hs
  unfold op_aald at hr
  split at hr
  · rename_i i j st'
    rw [ab_get_eq] at hr
    split at hr
    · rename_i t' n dv ov hj
      cases hb : (Nat.beq (ci + 4) t' && Nat.ble n 100000)
      · rw [hb] at hr; cases hr
      · rw [hb, cond_true, ab_ivK_eq] at hr
        rw [Bool.and_eq_true] at hb
        have hn : n < 2 ^ 31 := Nat.lt_of_le_of_lt (Nat.le_of_ble_eq_true hb.2) (by decide)
        have ht := Nat.eq_of_beq_eq_true hb.1
        subst ht
        cases hb2 : (ab_le 0 (ab_iv env i).1 && ab_le ((ab_iv env i).2 + 1) n)
        · rw [hb2] at hr; cases hr
        · rw [hb2, cond_true] at hr
          rw [Bool.and_eq_true, ab_le_iff, ab_le_iff] at hb2
          obtain ⟨L, f1, f2⟩ := ab_fkK_ok (i := i) (d := dv) (ov := ov) (env := env) (nl := nl) (aw := aw) (cl := cl) (sl := sl) (np := pc + 1) (lv := lv) (st := st') n
          rw [f1] at hr
          cases hr
          obtain ⟨x, r0, rfl, h1, h2⟩ := ab_st1 hs
          obtain ⟨y, rfl, h3⟩ := ab_evi h1
          obtain ⟨x2, r1, rfl, h4, h5⟩ := ab_st1 h2
          obtain ⟨a, rfl, h6⟩ := ab_ref2 h4
          obtain ⟨a', e', c1, c2, cA, xx, rfl, ⟨f, rfl⟩, c5, c6⟩ := hR.cell hj
          cases Option.some.inj (c2.symm.trans h6)
          have hi := ab_iv_spec hR.1 h3
          have e0 := ab_nn32 y (by omega)
          have e1 : y.toNatClampNeg = y.toInt.toNat := by conv => lhs; rw [e0]
                                                          exact nI_clamp (by omega)
          have k3 : vp_in y n := by rw [e0]; exact vp_in_nI (by omega) hn
          obtain ⟨env', m1, m2⟩ := f2 z.1 y y.toInt.toNat hR.1 h3 (by omega) (by omega)
          have c5' : ArrOfT s cA (.object cn) ∧ va_RA s cA (.object cn) := by
            have e0 : ab_ft (ci + 4) = .object cn := by simp only [ab_ft, hc]
            rw [e0] at c5; exact c5
          refine va_aldq (cl := vwCl) (D := D) (C := cn) (tys := [(cA, .object cn)]) C.1 C.2.1 ((ab_cxE C).Kt c5') hR.2.2.2.2.1 j 0 c1 rfl k3 d ?_
          rw [e1]
          have hlt : y.toInt.toNat < n := by omega
          have c7 := c6 y.toInt.toNat hlt
          exact hk _ m2 z ws H locs ls (va_rf (f y.toInt.toNat) :: r1) (hR.ref m1) hl (by simp only [List.map_cons]; rw [h5]; exact congrArg (· :: _) c7)
    · cases hr
  · cases hr
theorem so_len (C : ab_cx p R s m args c cc own nL X D) (d : decode cc pc = .ok (.arraylength, 1)) : ab_so p l e R s m args below meth c Q nL X D z0 cal pc (op_len (pc + 1)) := by
  intro env nl aw cl sl lv st r hr hk z ws H locs ls cst hR hl hs
  dsimp only at hR hl hs
  unfold op_len at hr
  split at hr
  · rename_i j st'
    rw [ab_get_eq] at hr
    split at hr
    · rename_i t' n dv ov hj
      cases hr
      obtain ⟨x, r0, rfl, h1, h2⟩ := ab_st1 hs
      obtain ⟨a, rfl, h6⟩ := ab_ref2 h1
      obtain ⟨a', e', c1, c2, cA, xx, rfl, c4, c5, c6⟩ := hR.cell hj
      cases Option.some.inj (c2.symm.trans h6)
      refine va_alen (cl := vwCl) (D := D) (tys := [(cA, ab_ft t')]) C.1 C.2.1 ((ab_cxE C).Kt c5) hR.2.2.2.2.1 j 0 c1 rfl rfl d ?_
      exact hk _ List.mem_cons_self z ws H locs ls (.int (Int32.ofNat n) :: r0) hR hl (by simp only [List.map_cons, ab_ev, ab_evI, Option.map_some]; rw [h2]; rfl)
    · cases hr
  · cases hr
theorem so_na_int (C : ab_cx p R s m args c cc own nL X D) {mc ms : Nat} (hmc : mc ≤ R.cells) (hms : ms ≤ R.slots) (hw : Cond.arrayClass .int ∈ ab_TG) (d : decode cc pc = .ok (.newarray .int, 2)) : ab_so p l e R s m args below meth c Q nL X D z0 cal pc (op_na 0 (.inl (none, 0)) mc ms (pc + 2)) := by
  intro env nl aw cl sl lv st r hr hk z ws H locs ls cst hR hl hs
  dsimp only at hR hl hs
  unfold op_na at hr
  split at hr
  · rename_i i st'
    obtain ⟨x, r0, rfl, h1, h2⟩ := ab_st1 hs
    obtain ⟨y, rfl, h3⟩ := ab_evi h1
    obtain ⟨k1, k2, k3⟩ := ab_ixK_ok hr hR.1 h3 (by decide)
    generalize hq : y.toNatClampNeg = q at k1 k2
    cases hb : (Nat.ble (cl + 1) mc && Nat.ble (sl + q) ms)
    · rw [hb] at k1; cases k1
    · rw [hb, cond_true] at k1
      rw [Bool.and_eq_true] at hb
      simp only [ab_lenK_eq, ab_appK_eq, ab_fn_eq, Nat.zero_add, Option.some.injEq] at k1
      subst k1
      have b1 := Nat.le_of_ble_eq_true hb.1
      have b2 := Nat.le_of_ble_eq_true hb.2
      refine va_newa (cl := vwCl) (D := D) (tys := []) (atype := .int) (a0 := (q, .inl (fun _ => 0))) C.1 C.2.1 (C.2.2.2.2.1 _ hw) rfl (ab_cxE C).2.1 hR.2.2.2.2.1 hR.2.2.2.2.2.1 hR.2.2.2.2.2.2.1 (ab_cxE C).up (fun cA => rfl) (fun h => k3 (Or.inl h)) hq ?_ (Nat.le_trans b1 hmc) (Nat.le_trans b2 hms) d (fun a cA H1 g0 g1 g2 g3 => ?_)
      · have hcb : componentBytes .int ≤ 8 := by decide +kernel
        exact Nat.le_trans (Nat.mul_le_mul (Nat.le_of_lt k2) hcb) (by decide)
      · refine hk _ List.mem_cons_self (z.1, z.2.1, z.2.2 ++ [a]) _ H1 _ ls (.ref a :: r0) (hR.push (c := .inr (0, q, .inl (none, 0), [])) ⟨cA, _, rfl, ⟨_, rfl⟩, g0.2 0 _ rfl, fun j hj => rfl⟩ g1 g2 g3) (hl.ext ab_ext_a) ?_
        simp only [List.map_cons, ab_ev, ab_evR]
        rw [ab_evs.ext ab_ext_a h2, List.getElem?_append_right (by rw [hR.num]; exact Nat.le_refl _), hR.num, Nat.sub_self]; rfl
  · cases hr
theorem so_na_long (C : ab_cx p R s m args c cc own nL X D) {mc ms : Nat} (hmc : mc ≤ R.cells) (hms : ms ≤ R.slots) (hw : Cond.arrayClass .long ∈ ab_TG) (d : decode cc pc = .ok (.newarray .long, 2)) : ab_so p l e R s m args below meth c Q nL X D z0 cal pc (op_na 1 (.inr (.inl (.inl (none, 0)))) mc ms (pc + 2)) := by
  intro env nl aw cl sl lv st r hr hk z ws H locs ls cst hR hl hs
  dsimp only at hR hl hs
  unfold op_na at hr
  split at hr
  · rename_i i st'
    obtain ⟨x, r0, rfl, h1, h2⟩ := ab_st1 hs
    obtain ⟨y, rfl, h3⟩ := ab_evi h1
    obtain ⟨k1, k2, k3⟩ := ab_ixK_ok hr hR.1 h3 (by decide)
    generalize hq : y.toNatClampNeg = q at k1 k2
    cases hb : (Nat.ble (cl + 1) mc && Nat.ble (sl + q) ms)
    · rw [hb] at k1; cases k1
    · rw [hb, cond_true] at k1
      rw [Bool.and_eq_true] at hb
      simp only [ab_lenK_eq, ab_appK_eq, ab_fn_eq, Nat.zero_add, Option.some.injEq] at k1
      subst k1
      have b1 := Nat.le_of_ble_eq_true hb.1
      have b2 := Nat.le_of_ble_eq_true hb.2
      refine va_newa (cl := vwCl) (D := D) (tys := []) (atype := .long) (a0 := (q, .inr (.inl (fun _ => 0)))) C.1 C.2.1 (C.2.2.2.2.1 _ hw) rfl (ab_cxE C).2.1 hR.2.2.2.2.1 hR.2.2.2.2.2.1 hR.2.2.2.2.2.2.1 (ab_cxE C).up (fun cA => rfl) (fun h => k3 (Or.inl h)) hq ?_ (Nat.le_trans b1 hmc) (Nat.le_trans b2 hms) d (fun a cA H1 g0 g1 g2 g3 => ?_)
      · have hcb : componentBytes .long ≤ 8 := by decide +kernel
        exact Nat.le_trans (Nat.mul_le_mul (Nat.le_of_lt k2) hcb) (by decide)
      · refine hk _ List.mem_cons_self (z.1, z.2.1, z.2.2 ++ [a]) _ H1 _ ls (.ref a :: r0) (hR.push (c := .inr (1, q, .inr (.inl (.inl (none, 0))), [])) ⟨cA, _, rfl, ⟨_, rfl⟩, g0.2 0 _ rfl, fun j hj => rfl⟩ g1 g2 g3) (hl.ext ab_ext_a) ?_
        simp only [List.map_cons, ab_ev, ab_evR]
        rw [ab_evs.ext ab_ext_a h2, List.getElem?_append_right (by rw [hR.num]; exact Nat.le_refl _), hR.num, Nat.sub_self]; rfl
  · cases hr
theorem so_na_byte (C : ab_cx p R s m args c cc own nL X D) {mc ms : Nat} (hmc : mc ≤ R.cells) (hms : ms ≤ R.slots) (hw : Cond.arrayClass .byte ∈ ab_TG) (d : decode cc pc = .ok (.newarray .byte, 2)) : ab_so p l e R s m args below meth c Q nL X D z0 cal pc (op_na 2 (.inl (none, 0)) mc ms (pc + 2)) := by
  intro env nl aw cl sl lv st r hr hk z ws H locs ls cst hR hl hs
  dsimp only at hR hl hs
  unfold op_na at hr
  split at hr
  · rename_i i st'
    obtain ⟨x, r0, rfl, h1, h2⟩ := ab_st1 hs
    obtain ⟨y, rfl, h3⟩ := ab_evi h1
    obtain ⟨k1, k2, k3⟩ := ab_ixK_ok hr hR.1 h3 (by decide)
    generalize hq : y.toNatClampNeg = q at k1 k2
    cases hb : (Nat.ble (cl + 1) mc && Nat.ble (sl + q) ms)
    · rw [hb] at k1; cases k1
    · rw [hb, cond_true] at k1
      rw [Bool.and_eq_true] at hb
      simp only [ab_lenK_eq, ab_appK_eq, ab_fn_eq, Nat.zero_add, Option.some.injEq] at k1
      subst k1
      have b1 := Nat.le_of_ble_eq_true hb.1
      have b2 := Nat.le_of_ble_eq_true hb.2
      refine va_newa (cl := vwCl) (D := D) (tys := []) (atype := .byte) (a0 := (q, .inl (fun _ => 0))) C.1 C.2.1 (C.2.2.2.2.1 _ hw) rfl (ab_cxE C).2.1 hR.2.2.2.2.1 hR.2.2.2.2.2.1 hR.2.2.2.2.2.2.1 (ab_cxE C).up (fun cA => rfl) (fun h => k3 (Or.inl h)) hq ?_ (Nat.le_trans b1 hmc) (Nat.le_trans b2 hms) d (fun a cA H1 g0 g1 g2 g3 => ?_)
      · have hcb : componentBytes .byte ≤ 8 := by decide +kernel
        exact Nat.le_trans (Nat.mul_le_mul (Nat.le_of_lt k2) hcb) (by decide)
      · refine hk _ List.mem_cons_self (z.1, z.2.1, z.2.2 ++ [a]) _ H1 _ ls (.ref a :: r0) (hR.push (c := .inr (2, q, .inl (none, 0), [])) ⟨cA, _, rfl, ⟨_, rfl⟩, g0.2 0 _ rfl, fun j hj => rfl⟩ g1 g2 g3) (hl.ext ab_ext_a) ?_
        simp only [List.map_cons, ab_ev, ab_evR]
        rw [ab_evs.ext ab_ext_a h2, List.getElem?_append_right (by rw [hR.num]; exact Nat.le_refl _), hR.num, Nat.sub_self]; rfl
  · cases hr
theorem so_na_bool (C : ab_cx p R s m args c cc own nL X D) {mc ms : Nat} (hmc : mc ≤ R.cells) (hms : ms ≤ R.slots) (hw : Cond.arrayClass .boolean ∈ ab_TG) (d : decode cc pc = .ok (.newarray .boolean, 2)) : ab_so p l e R s m args below meth c Q nL X D z0 cal pc (op_na 3 (.inl (none, 0)) mc ms (pc + 2)) := by
  intro env nl aw cl sl lv st r hr hk z ws H locs ls cst hR hl hs
  dsimp only at hR hl hs
  unfold op_na at hr
  split at hr
  · rename_i i st'
    obtain ⟨x, r0, rfl, h1, h2⟩ := ab_st1 hs
    obtain ⟨y, rfl, h3⟩ := ab_evi h1
    obtain ⟨k1, k2, k3⟩ := ab_ixK_ok hr hR.1 h3 (by decide)
    generalize hq : y.toNatClampNeg = q at k1 k2
    cases hb : (Nat.ble (cl + 1) mc && Nat.ble (sl + q) ms)
    · rw [hb] at k1; cases k1
    · rw [hb, cond_true] at k1
      rw [Bool.and_eq_true] at hb
      simp only [ab_lenK_eq, ab_appK_eq, ab_fn_eq, Nat.zero_add, Option.some.injEq] at k1
      subst k1
      have b1 := Nat.le_of_ble_eq_true hb.1
      have b2 := Nat.le_of_ble_eq_true hb.2
      refine va_newa (cl := vwCl) (D := D) (tys := []) (atype := .boolean) (a0 := (q, .inl (fun _ => 0))) C.1 C.2.1 (C.2.2.2.2.1 _ hw) rfl (ab_cxE C).2.1 hR.2.2.2.2.1 hR.2.2.2.2.2.1 hR.2.2.2.2.2.2.1 (ab_cxE C).up (fun cA => rfl) (fun h => k3 (Or.inl h)) hq ?_ (Nat.le_trans b1 hmc) (Nat.le_trans b2 hms) d (fun a cA H1 g0 g1 g2 g3 => ?_)
      · have hcb : componentBytes .boolean ≤ 8 := by decide +kernel
        exact Nat.le_trans (Nat.mul_le_mul (Nat.le_of_lt k2) hcb) (by decide)
      · refine hk _ List.mem_cons_self (z.1, z.2.1, z.2.2 ++ [a]) _ H1 _ ls (.ref a :: r0) (hR.push (c := .inr (3, q, .inl (none, 0), [])) ⟨cA, _, rfl, ⟨_, rfl⟩, g0.2 0 _ rfl, fun j hj => rfl⟩ g1 g2 g3) (hl.ext ab_ext_a) ?_
        simp only [List.map_cons, ab_ev, ab_evR]
        rw [ab_evs.ext ab_ext_a h2, List.getElem?_append_right (by rw [hR.num]; exact Nat.le_refl _), hR.num, Nat.sub_self]; rfl
  · cases hr
theorem so_anew (C : ab_cx p R s m args c cc own nL X D) {ci N i : Nat} {cn : String} {T : u_T} (hc : vwCl[ci]? = some (cn, T, N)) {mc ms : Nat} (hmc : mc ≤ R.cells) (hms : ms ≤ R.slots) (hw : Cond.classLink own i cn ∈ ab_TG) (ho : va_AO cn s) (d : decode cc pc = .ok (.anewarray i, 3)) : ab_so p l e R s m args below meth c Q nL X D z0 cal pc (op_na (ci + 4) (.inr (.inr (0, 0))) mc ms (pc + 3)) := by
  intro env nl aw cl sl lv st r hr hk z ws H locs ls cst hR hl hs
  dsimp only at hR hl hs
  unfold op_na at hr
  split at hr
  · rename_i i st'
    obtain ⟨x, r0, rfl, h1, h2⟩ := ab_st1 hs
    obtain ⟨y, rfl, h3⟩ := ab_evi h1
    obtain ⟨k1, k2, k3⟩ := ab_ixK_ok hr hR.1 h3 (by decide)
    generalize hq : y.toNatClampNeg = q at k1 k2
    cases hb : (Nat.ble (cl + 1) mc && Nat.ble (sl + q) ms)
    · rw [hb] at k1; cases k1
    · rw [hb, cond_true] at k1
      rw [Bool.and_eq_true] at hb
      simp only [ab_lenK_eq, ab_appK_eq, ab_fn_eq, Nat.zero_add, Option.some.injEq] at k1
      subst k1
      have b1 := Nat.le_of_ble_eq_true hb.1
      have b2 := Nat.le_of_ble_eq_true hb.2
      refine va_newq (cl := vwCl) (D := D) (tys := []) (C := cn) C.1 C.2.1 C.2.2.2.1 (C.2.2.2.2.1 _ hw) ho (ab_cxE C).2.1 hR.2.2.2.2.1 hR.2.2.2.2.2.1 hR.2.2.2.2.2.2.1 (ab_cxE C).up (fun h => k3 (Or.inl h)) hq ?_ (Nat.le_trans b1 hmc) (Nat.le_trans b2 hms) d (fun a cA H1 g0 g1 g2 g3 => ?_)
      · exact Nat.le_trans (Nat.mul_le_mul (Nat.le_of_lt k2) (Nat.le_refl 4)) (by decide)
      · have e0 : ab_ft (ci + 4) = .object cn := by simp only [ab_ft, hc]
        refine hk _ List.mem_cons_self (z.1, z.2.1, z.2.2 ++ [a]) _ H1 _ ls (.ref a :: r0) (hR.push (c := .inr (ci + 4, q, .inr (.inr (0, 0)), [])) ⟨cA, _, rfl, ⟨_, rfl⟩, by rw [e0]; exact g0.2 0 _ rfl, fun j hj => rfl⟩ g1 g2 g3) (hl.ext ab_ext_a) ?_
        simp only [List.map_cons, ab_ev, ab_evR]
        rw [ab_evs.ext ab_ext_a h2, List.getElem?_append_right (by rw [hR.num]; exact Nat.le_refl _), hR.num, Nat.sub_self]; rfl
  · cases hr
theorem so_new (C : ab_cx p R s m args c cc own nL X D) {ci N i : Nat} {cn : String} {T : u_T} (hc : vwCl[ci]? = some (cn, T, N)) (hin : ∀ w ∈ u_ws cn T N, w ∈ ab_TG) {ty0 : Nat → FieldType} (hty : ∀ k, k < N → parseFieldDescriptor (T k).2.2.1 = some (ty0 k)) {fs : List ab_V} {vs : List Value} (hfs : ∀ j, j < N → defaultValue (ty0 j) = vp_V vs j) (hev : ∀ (X : ab_X) (z : ab_Z), fs.map (ab_ev X z) = vs.map some) {mc ms : Nat} (hmc : mc ≤ R.cells) (hms : ms ≤ R.slots) (hw : Cond.classLink own i cn ∈ ab_TG) (hw2 : Cond.instantiable cn N ∈ ab_TG) (hw3 : Cond.initialized cn ∈ ab_TG) (d : decode cc pc = .ok (.new i, 3)) : ab_so p l e R s m args below meth c Q nL X D z0 cal pc (op_new ci N fs mc ms (pc + 3)) := by
  intro env nl aw cl sl lv st r hr hk z ws H locs ls cst hR hl hs
  dsimp only at hR hl hs
  unfold op_new at hr
  cases hb : (Nat.ble (cl + 1) mc && Nat.ble (sl + N) ms)
  · rw [hb] at hr; cases hr
  · rw [hb, cond_true] at hr
    rw [Bool.and_eq_true] at hb
    simp only [ab_lenK_eq, ab_appK_eq, ab_fn_eq, Nat.zero_add, Option.some.injEq] at hr
    subst hr
    have b1 := Nat.le_of_ble_eq_true hb.1
    have b2 := Nat.le_of_ble_eq_true hb.2
    refine va_new (cl := vwCl) (D := D) (ci := ci) (fs := vs) C.1 C.2.1 C.2.2.2.2.1 hin ty0 hty C.2.2.2.1 (C.2.2.2.2.1 _ hw) (C.2.2.2.2.1 _ hw2) (C.2.2.2.2.1 _ hw3) (ab_cxE C).2.1 hR.2.2.2.2.1 hR.2.2.2.2.2.1 hR.2.2.2.2.2.2.1 (ab_cxE C).up hc hfs (Nat.le_trans b1 hmc) (Nat.le_trans b2 hms) d (fun a H1 g1 g2 g3 => ?_)
    refine hk _ List.mem_cons_self (z.1, z.2.1, z.2.2 ++ [a]) _ H1 _ ls (.ref a :: cst) (hR.push (c := .inl (ci, fs)) ⟨vs, rfl, hev _ _⟩ g1 g2 g3) (hl.ext ab_ext_a) ?_
    simp only [List.map_cons, ab_ev, ab_evR]
    rw [ab_evs.ext ab_ext_a hs, List.getElem?_append_right (by rw [hR.num]; exact Nat.le_refl _), hR.num, Nat.sub_self]; rfl
theorem so_slen (C : ab_cx p R s m args c cc own nL X D) (d : decode cc pc = .ok (.arraylength, 1)) : ab_so p l e R s m args below meth c Q nL X D z0 cal pc (op_slen (pc + 1)) := by
  intro env nl aw cl sl lv st r hr hk z ws H locs ls cst hR hl hs
  dsimp only at hR hl hs
  unfold op_slen at hr
  split at hr
  · cases hr
    obtain ⟨x, r0, rfl, h1, h2⟩ := ab_st1 hs
    cases h1
    obtain ⟨q1, q2⟩ := (ab_cxE C).2.2.2.1
    refine va_slen (A := ab_Ar X) C.1 C.2.1 q1 (Nat.lt_of_lt_of_le q2 (ab_cxE C).1) (Nat.not_le.mpr q2) hR.2.2.2.2.2.2.1 d ?_
    exact hk _ List.mem_cons_self z ws H locs ls (.int (Int32.ofNat X.1.2.1) :: r0) hR hl (by simp only [List.map_cons, ab_ev, ab_evI, hR.2.2.2.2.2.2.2.1.2, Option.map_some]; rw [h2]; simp)
  · cases hr
theorem so_sld (C : ab_cx p R s m args c cc own nL X D) (hL : X.1.2.1 ≤ 6) (d : decode cc pc = .ok (.iaload, 1)) : ab_so p l e R s m args below meth c Q nL X D z0 cal pc (op_sld (pc + 1)) := by
  intro env nl aw cl sl lv st r hr hk z ws H locs ls cst hR hl hs
  dsimp only at hR hl hs
  unfold op_sld at hr
  split at hr
  · rename_i i j st'
    obtain ⟨x, r0, rfl, h1, h2⟩ := ab_st1 hs
    obtain ⟨y, rfl, h3⟩ := ab_evi h1
    obtain ⟨x2, r1, rfl, h4, h5⟩ := ab_st1 h2
    cases h4
    obtain ⟨k1, k2, k3⟩ := ab_ixK_ok hr hR.1 h3 (by decide)
    rw [ab_ivK_eq] at k1
    cases hb : ab_le ((y.toNatClampNeg : Int) + 1) (ab_iv env (some 6, 0)).1
    · rw [hb] at k1; cases k1
    · rw [hb, cond_true] at k1
      cases k1
      rw [ab_le_iff] at hb
      have h6 : ab_evI z.1 (some 6, 0) = some (Int32.ofNat X.1.2.1) := by simp only [ab_evI, hR.2.2.2.2.2.2.2.1.2, Option.map_some]; simp
      have hi := (ab_iv_spec hR.1 h6).1
      have e6 : (Int32.ofNat X.1.2.1).toInt = (X.1.2.1 : Int) := nI_toInt (by omega)
      have hin : vp_in y X.1.2.1 := vp_in_iff.mpr (by
        have h := vp_in_iff.mp k3
        have hcl : (y.toNatClampNeg : Int) = y.toInt := by
          have e0 := ab_nn32 y h.1
          have e1 : y.toNatClampNeg = y.toInt.toNat := by conv => lhs; rw [e0]
                                                          exact nI_clamp (by have := ab_i32 y; omega)
          rw [e1]; omega
        omega)
      obtain ⟨q1, q2⟩ := (ab_cxE C).2.2.2.1
      refine va_sld (A := ab_Ar X) C.1 C.2.1 q1 (Nat.lt_of_lt_of_le q2 (ab_cxE C).1) (Nat.not_le.mpr q2) hR.2.2.2.2.2.2.1 hin d ?_
      exact hk _ List.mem_cons_self z ws H locs ls (.int (X.2.1 y.toNatClampNeg) :: r1) hR hl (by simp only [List.map_cons, ab_ev, ab_evI, hR.2.2.2.2.2.2.2.1.1 _ k2, Option.map_some]; rw [h5]; simp)
  · cases hr
theorem so_gval (C : ab_cx p R s m args c cc own nL X D) {i : Nat} (hw : Cond.fieldLink own i "java/lang/String" "value" "[B" ∈ ab_TG) (d : decode cc pc = .ok (.getfield i, 3)) : ab_so p l e R s m args below meth c Q nL X D z0 cal pc (op_gval (pc + 3)) := by
  intro env nl aw cl sl lv st r hr hk z ws H locs ls cst hR hl hs
  dsimp only at hR hl hs
  unfold op_gval at hr
  split at hr
  · cases hr
    obtain ⟨x, r0, rfl, h1, h2⟩ := ab_st1 hs
    cases h1
    refine vk_getf (A := ab_Ar X) C.1 C.2.1 ((ab_cxE C).2.2.2.2.2.2.1.1 0 (by decide)).2.2.1 hR.2.2.2.2.2.2.1 C.2.2.2.1 (C.2.2.2.2.1 _ hw) (fun _ h => h) d ?_
    exact hk _ List.mem_cons_self z ws H locs ls (.ref _ :: r0) hR hl (by simp only [List.map_cons, ab_ev, ab_evR]; rw [h2])
  · cases hr
theorem so_gcod (C : ab_cx p R s m args c cc own nL X D) {i : Nat} (hw : Cond.fieldLink own i "java/lang/String" "coder" "B" ∈ ab_TG) (d : decode cc pc = .ok (.getfield i, 3)) : ab_so p l e R s m args below meth c Q nL X D z0 cal pc (op_gcod (pc + 3)) := by
  intro env nl aw cl sl lv st r hr hk z ws H locs ls cst hR hl hs
  dsimp only at hR hl hs
  unfold op_gcod at hr
  split at hr
  · cases hr
    obtain ⟨x, r0, rfl, h1, h2⟩ := ab_st1 hs
    cases h1
    refine vk_getf (A := ab_Ar X) C.1 C.2.1 ((ab_cxE C).2.2.2.2.2.2.1.1 0 (by decide)).2.1 hR.2.2.2.2.2.2.1 C.2.2.2.1 (C.2.2.2.2.1 _ hw) (fun _ h => h) d ?_
    exact hk _ List.mem_cons_self z ws H locs ls (.int 0 :: r0) hR hl (by simp only [List.map_cons, ab_ev, ab_evI, Option.map_some]; rw [h2]; rfl)
  · cases hr
theorem so_tlen (C : ab_cx p R s m args c cc own nL X D) (d : decode cc pc = .ok (.arraylength, 1)) : ab_so p l e R s m args below meth c Q nL X D z0 cal pc (op_tlen (pc + 1)) := by
  intro env nl aw cl sl lv st r hr hk z ws H locs ls cst hR hl hs
  dsimp only at hR hl hs
  unfold op_tlen at hr
  split at hr
  · cases hr
    obtain ⟨x, r0, rfl, h1, h2⟩ := ab_st1 hs
    cases h1
    refine va_tlen (A := ab_Ar X) C.1 C.2.1 ((ab_cxE C).2.2.2.2.2.2.1.1 0 (by decide)).2.2.2 hR.2.2.2.2.2.2.1 rfl d ?_
    exact hk _ List.mem_cons_self z ws H locs ls (.int (Int32.ofNat 124) :: r0) hR hl (by simp only [List.map_cons, ab_ev, ab_evI, Option.map_some]; rw [h2]; rfl)
  · cases hr
theorem so_hlen (C : ab_cx p R s m args c cc own nL X D) (d : decode cc pc = .ok (.arraylength, 1)) : ab_so p l e R s m args below meth c Q nL X D z0 cal pc (op_hlen (pc + 1)) := by
  intro env nl aw cl sl lv st r hr hk z ws H locs ls cst hR hl hs
  dsimp only at hR hl hs
  unfold op_hlen at hr
  split at hr
  · cases hr
    obtain ⟨x, r0, rfl, h1, h2⟩ := ab_st1 hs
    cases h1
    refine va_tlen (A := ab_Ar X) C.1 C.2.1 (ab_cxE C).2.2.2.2.2.2.2.2.2.2.1 hR.2.2.2.2.2.2.1 rfl d ?_
    exact hk _ List.mem_cons_self z ws H locs ls (.int (Int32.ofNat 3) :: r0) hR hl (by simp only [List.map_cons, ab_ev, ab_evI, Option.map_some]; rw [h2]; rfl)
  · cases hr
theorem so_tb (C : ab_cx p R s m args c cc own nL X D) (d : decode cc pc = .ok (.baload, 1)) : ab_so p l e R s m args below meth c Q nL X D z0 cal pc (op_tb (pc + 1)) := by
  intro env nl aw cl sl lv st r hr hk z ws H locs ls cst hR hl hs
  dsimp only at hR hl hs
  unfold op_tb at hr
  split at hr
  · rename_i i st'
    obtain ⟨x, r0, rfl, h1, h2⟩ := ab_st1 hs
    obtain ⟨y, rfl, h3⟩ := ab_evi h1
    obtain ⟨x2, r1, rfl, h4, h5⟩ := ab_st1 h2
    cases h4
    obtain ⟨k1, k2, k3⟩ := ab_ixK_ok hr hR.1 h3 (by decide)
    rw [ab_get_eq] at k1
    split at k1
    · rename_i x hx
      simp only [ab_fi_eq, Option.some.injEq] at k1
      subst k1
      refine va_tb (A := ab_Ar X) (v := .int x) C.1 C.2.1 ((ab_cxE C).2.2.2.2.2.2.1.1 0 (by decide)).2.2.2 hR.2.2.2.2.2.2.1 k3 ?_ d ?_
      · show Value.int (ab_byt.getD y.toNatClampNeg 0) = _
        rw [List.getD_eq_getElem?_getD, hx]; rfl
      · exact hk _ List.mem_cons_self z ws H locs ls (.int x :: r1) hR hl (by simp only [List.map_cons, ab_ev, ab_evI, Option.map_some, Int32.ofInt_toInt]; rw [h5])
    · cases k1
  · cases hr
theorem so_gCS (C : ab_cx p R s m args c cc own nL X D) {i : Nat} (hw : Cond.fieldLink own i "java/lang/String" "COMPACT_STRINGS" "Z" ∈ ab_TG) (d : decode cc pc = .ok (.getstatic i, 3)) : ab_so p l e R s m args below meth c Q nL X D z0 cal pc (op_push (.inl (none, 1)) (pc + 3)) := by
  intro env nl aw cl sl lv st r hr hk z ws H locs ls cst hR hl hs
  dsimp only at hR hl hs
  simp only [op_push, Option.some.injEq] at hr
  subst hr
  refine va_gets (A := ab_Ar X) C.1 C.2.1 (ab_cxE C).2.2.2.2.2.2.2.1 hR.2.2.2.2.2.2.1 C.2.2.2.1 (C.2.2.2.2.1 _ hw) (fun _ h => h) d ?_
  exact hk _ List.mem_cons_self z ws H locs ls (.int 1 :: cst) hR hl (by simp only [List.map_cons]; rw [hs]; rfl)
theorem so_gSF (C : ab_cx p R s m args c cc own nL X D) {i : Nat} (hw : Cond.fieldLink own i "jdk/internal/util/Preconditions" "SIOOBE_FORMATTER" "Ljava/util/function/BiFunction;" ∈ ab_TG) (d : decode cc pc = .ok (.getstatic i, 3)) : ab_so p l e R s m args below meth c Q nL X D z0 cal pc (op_push (.inr (.inr (6, 0))) (pc + 3)) := by
  intro env nl aw cl sl lv st r hr hk z ws H locs ls cst hR hl hs
  dsimp only at hR hl hs
  simp only [op_push, Option.some.injEq] at hr
  subst hr
  refine va_gets (A := ab_Ar X) C.1 C.2.1 (ab_cxE C).2.2.2.2.2.2.2.2.1 hR.2.2.2.2.2.2.1 C.2.2.2.1 (C.2.2.2.2.1 _ hw) (fun _ h => h) d ?_
  exact hk _ List.mem_cons_self z ws H locs ls (X.2.2.2.2.2 :: cst) hR hl (by simp only [List.map_cons]; rw [hs]; rfl)
theorem so_gHI (C : ab_cx p R s m args c cc own nL X D) {i : Nat} (hw : Cond.fieldLink own i "SundialTreaty$ValleyText" "HIGHEST" "[I" ∈ ab_TG) (d : decode cc pc = .ok (.getstatic i, 3)) : ab_so p l e R s m args below meth c Q nL X D z0 cal pc (op_push (.inr (.inr (5, 0))) (pc + 3)) := by
  intro env nl aw cl sl lv st r hr hk z ws H locs ls cst hR hl hs
  dsimp only at hR hl hs
  simp only [op_push, Option.some.injEq] at hr
  subst hr
  refine va_gets (A := ab_Ar X) C.1 C.2.1 (ab_cxE C).2.2.2.2.2.2.2.2.2.1 hR.2.2.2.2.2.2.1 C.2.2.2.1 (C.2.2.2.2.1 _ hw) (fun _ h => h) d ?_
  exact hk _ List.mem_cons_self z ws H locs ls (.ref (X.2.2.2.2.1 0) :: cst) hR hl (by simp only [List.map_cons]; rw [hs]; rfl)
theorem so_ldcS (C : ab_cx p R s m args c cc own nL X D) {i j : Nat} {tx : String} (hj : ab_str[j]? = some (own, i, tx)) (d : decode cc pc = .ok (.ldc i, 2)) : ab_so p l e R s m args below meth c Q nL X D z0 cal pc (op_push (.inr (.inr (3, j))) (pc + 2)) := by
  intro env nl aw cl sl lv st r hr hk z ws H locs ls cst hR hl hs
  dsimp only at hR hl hs
  simp only [op_push, Option.some.injEq] at hr
  subst hr
  refine va_ldcS C.1 C.2.1 C.2.2.2.1 ((ab_cxE C).2.2.2.2.2.1 j _ hj) d ?_
  exact hk _ List.mem_cons_self z ws H locs ls (.ref (X.2.2.1 j) :: cst) hR hl (by simp only [List.map_cons]; rw [hs]; rfl)
theorem ab_twK_ok {a : ab_I} {env : ab_E} {nl : Nat} {aw : List ab_C} {cl sl : Nat} {lv : List (Nat × ab_V)} {st : List ab_V} : ∀ (tg : List Nat) (lo : Int), ∃ L, (∀ k : List ab_S → ab_A, ab_twK a env nl aw cl sl lv st tg lo k = k L) ∧ ∀ (rho : List Int32) (x : Int32) (q t : Nat), ab_eR env rho → ab_evI rho a = some x → x.toInt = lo + q → tg[q]? = some t → ∃ env', ab_eR env' rho ∧ ((env', nl, aw, cl, sl), t, lv, st) ∈ L
  | [], lo => ⟨[], fun k => rfl, fun _ _ q t _ _ _ h => by simp at h⟩
  | t0 :: r, lo => by
    obtain ⟨L, h1, h2⟩ := ab_twK_ok (a := a) (env := env) (nl := nl) (aw := aw) (cl := cl) (sl := sl) (lv := lv) (st := st) r (lo + 1)
    cases hc : ab_rf env a lo lo with
    | none =>
      refine ⟨L, fun k => by simp only [ab_twK, ab_rfK_eq, hc, ab_fi_eq, h1], fun rho x q t hR hx e hq => ?_⟩
      cases q with
      | zero =>
        obtain ⟨e', g1, -⟩ := ab_rf_spec (lo := lo) (hi := lo) hR hx (by simp at e; omega) (by simp at e; omega)
        rw [hc] at g1; cases g1
      | succ q =>
        rw [List.getElem?_cons_succ] at hq
        exact h2 rho x q t hR hx (by rw [e]; push_cast; omega) hq
    | some env' =>
      refine ⟨((env', nl, aw, cl, sl), t0, lv, st) :: L, fun k => by simp only [ab_twK, ab_rfK_eq, hc, ab_fi_eq, h1], fun rho x q t hR hx e hq => ?_⟩
      cases q with
      | zero =>
        rw [List.getElem?_cons_zero] at hq
        cases hq
        obtain ⟨e', g1, g2⟩ := ab_rf_spec (lo := lo) (hi := lo) hR hx (by simp at e; omega) (by simp at e; omega)
        rw [hc] at g1; cases g1
        exact ⟨_, g2, List.mem_cons_self⟩
      | succ q =>
        rw [List.getElem?_cons_succ] at hq
        obtain ⟨e', g1, g2⟩ := h2 rho x q t hR hx (by rw [e]; push_cast; omega) hq
        exact ⟨e', g1, List.mem_cons_of_mem _ g2⟩
theorem so_tsw (C : ab_cx p R s m args c cc own nL X D) {df lo hi : Int} {offs : Array Int} {len dt : Nat} {tg : List Nat} (hn : (tg.length : Int) = hi - lo + 1) (htg : ∀ (q t : Nat), tg[q]? = some t → ∃ off, offs[q]? = some off ∧ (pc : Int) + off = t) (hdt : (pc : Int) + df = dt) (d : decode cc pc = .ok (.tableswitch df lo hi offs, len)) : ab_so p l e R s m args below meth c Q nL X D z0 cal pc (op_tsw lo hi tg dt) := by
  intro env nl aw cl sl lv st r hr hk z ws H locs ls cst hR hl hs
  dsimp only at hR hl hs
  unfold op_tsw at hr
  split at hr
  · rename_i a st'
    obtain ⟨L, f1, f2⟩ := ab_twK_ok (a := a) (env := env) (nl := nl) (aw := aw) (cl := cl) (sl := sl) (lv := lv) (st := st') tg lo
    rw [f1] at hr
    simp only [ab_rfK_eq] at hr
    obtain ⟨x, r0, rfl, h1, h2⟩ := ab_st1 hs
    obtain ⟨y, rfl, h3⟩ := ab_evi h1
    have hi32 := ab_i32 y
    by_cases hlo : y.toInt < lo
    · obtain ⟨e1, g1, g2⟩ := ab_rf_spec (lo := -2147483648) (hi := lo - 1) hR.1 h3 (by omega) (by omega)
      rw [g1] at hr
      refine lv_tableOut C.1 C.2.1 d (Or.inl hlo) hdt ?_
      cases ho : ab_rf env a (hi + 1) 2147483647 with
      | none =>
        rw [ho] at hr
        simp only [ab_o1, Option.some.injEq] at hr
        subst hr
        exact hk _ (ab_frk_in List.mem_cons_self) z ws H locs ls r0 (hR.ref g2) hl h2
      | some e2 =>
        rw [ho] at hr
        simp only [ab_o1, Option.some.injEq] at hr
        subst hr
        exact hk _ (ab_frk_in List.mem_cons_self) z ws H locs ls r0 (hR.ref g2) hl h2
    · by_cases hhi : hi < y.toInt
      · obtain ⟨e1, g1, g2⟩ := ab_rf_spec (lo := hi + 1) (hi := 2147483647) hR.1 h3 (by omega) (by omega)
        rw [g1] at hr
        refine lv_tableOut C.1 C.2.1 d (Or.inr hhi) hdt ?_
        cases ho : ab_rf env a (-2147483648) (lo - 1) with
        | none =>
          rw [ho] at hr
          simp only [ab_o1, Option.some.injEq] at hr
          subst hr
          exact hk _ (ab_frk_rest (ab_frk_in List.mem_cons_self)) z ws H locs ls r0 (hR.ref g2) hl h2
        | some e2 =>
          rw [ho] at hr
          simp only [ab_o1, Option.some.injEq] at hr
          subst hr
          exact hk _ (ab_frk_rest (ab_frk_in List.mem_cons_self)) z ws H locs ls r0 (hR.ref g2) hl h2
      · have hq : (y.toInt - lo).toNat < tg.length := by omega
        obtain ⟨off, o1, o2⟩ := htg (y.toInt - lo).toNat _ (List.getElem?_eq_getElem hq)
        obtain ⟨e1, g1, g2⟩ := f2 z.1 y (y.toInt - lo).toNat _ hR.1 h3 (by omega) (List.getElem?_eq_getElem hq)
        refine lv_tableIn C.1 C.2.1 d hlo hhi o1 o2 ?_
        have fin : ∀ r1 r2 : List ab_E, ab_frk nl aw cl sl lv st' r1 dt (ab_frk nl aw cl sl lv st' r2 dt L) = r → W p l e R s m args below meth c H locs cl sl Q (F0 m (tg[(y.toInt - lo).toNat]'hq) ls r0) := by
          intro r1 r2 e0
          subst e0
          exact hk _ (ab_frk_rest (ab_frk_rest g2)) z ws H locs ls r0 (hR.ref g1) hl h2
        generalize ab_rf env a (-2147483648) (lo - 1) = o1 at hr
        generalize ab_rf env a (hi + 1) 2147483647 = o2 at hr
        cases o1 <;> cases o2 <;> simp only [ab_o1, Option.some.injEq] at hr <;> exact fin _ _ hr
  · cases hr
end
