/-! Branches that tell what they found out, and leave out what can't be. -/
noncomputable def ab_pv (env : ab_E) (fx : List ab_Y) (a b : ab_I) (k : Int) : Bool := match ab_cmp env [a, b] [1, -1] k [] with
  | some (k1, cs1) => ab_gq2 env k1 cs1 fx fx
  | none => false
theorem ab_pv_ok {env : ab_E} {z : ab_Z} {ws : va_W} (hR : ab_eR env z.1) {fx : List ab_Y} (hf : ∀ f ∈ fx, ab_fs z ws f) {a b : ab_I} {k : Int} (h : ab_pv env fx a b k = true) {x y : Int32} (hx : ab_evI z.1 a = some x) (hy : ab_evI z.1 b = some y) : 0 ≤ x.toInt - y.toInt + k := by
  unfold ab_pv at h
  split at h
  · rename_i k1 cs1 hc
    have g1 := ab_cmp_ok hR (vs := [x, y]) hc (by simp only [List.map_cons, List.map_nil, hx, hy])
    have g2 := ab_gq2_ok hR hf hf h
    simp only [ab_dot] at g1
    omega
  · cases h
noncomputable def ab_fmk (a b : ab_I) (k : Int) : ab_Y := (0, [(none, 1), a, (none, -1), b, (none, k)])
theorem ab_fmk_ok {z : ab_Z} {ws : va_W} {a b : ab_I} {k : Int} (hk : k = 0 ∨ k = -1) {x y : Int32} (hx : ab_evI z.1 a = some x) (hy : ab_evI z.1 b = some y) (h : 0 ≤ x.toInt - y.toInt + k) : ab_fs z ws (ab_fmk a b k) := by
  refine ⟨[Int32.ofInt 1, x, Int32.ofInt (-1), y, Int32.ofInt k], by simp only [ab_fmk, List.map_cons, List.map_nil, hx, hy]; rfl, ?_⟩
  show (0 : Int) ≤ ab_lin _
  have k1 : (Int32.ofInt 1).toInt = 1 := ab_of 1 (by omega) (by omega)
  have k2 : (Int32.ofInt (-1)).toInt = -1 := ab_of (-1) (by omega) (by omega)
  have k3 : (Int32.ofInt k).toInt = k := ab_of k (by omega) (by omega)
  simp only [ab_lin, k1, k2, k3]
  omega
/-- 0: equal; 1: not; 2: less; 3: not; 4: more; 5: not -/
noncomputable def ab_rl (r : Nat) (x y : Int) : Prop := match r with
  | 0 => x = y
  | 1 => x ≠ y
  | 2 => x < y
  | 3 => y ≤ x
  | 4 => y < x
  | 5 => x ≤ y
  | _ => True
noncomputable def ab_rfx (r : Nat) (a b : ab_I) (fx : List ab_Y) : List ab_Y := match r with
  | 0 => ab_fmk a b 0 :: ab_fmk b a 0 :: fx
  | 2 => ab_fmk b a (-1) :: fx
  | 3 => ab_fmk a b 0 :: fx
  | 4 => ab_fmk a b (-1) :: fx
  | 5 => ab_fmk b a 0 :: fx
  | _ => fx
noncomputable def ab_ri (r : Nat) (env : ab_E) (fx : List ab_Y) (a b : ab_I) : Bool := match r with
  | 0 => ab_pv env fx a b (-1) || ab_pv env fx b a (-1)
  | 1 => ab_pv env fx a b 0 && ab_pv env fx b a 0
  | 2 => ab_pv env fx a b 0
  | 3 => ab_pv env fx b a (-1)
  | 4 => ab_pv env fx b a 0
  | 5 => ab_pv env fx a b (-1)
  | _ => false

theorem ab_rfx_ok {z : ab_Z} {ws : va_W} {a b : ab_I} {x y : Int32} (hx : ab_evI z.1 a = some x) (hy : ab_evI z.1 b = some y) {fx : List ab_Y} (hf : ∀ f ∈ fx, ab_fs z ws f) : ∀ {r : Nat}, ab_rl r x.toInt y.toInt → ∀ f ∈ ab_rfx r a b fx, ab_fs z ws f
  | 0, h, f, hm => by
    have h : x.toInt = y.toInt := h
    rcases List.mem_cons.mp hm with rfl | hm
    · exact ab_fmk_ok (Or.inl rfl) hx hy (by omega)
    · rcases List.mem_cons.mp hm with rfl | hm
      · exact ab_fmk_ok (Or.inl rfl) hy hx (by omega)
      · exact hf f hm
  | 1, _, f, hm => hf f hm
  | 2, h, f, hm => by
    have h : x.toInt < y.toInt := h
    rcases List.mem_cons.mp hm with rfl | hm
    · exact ab_fmk_ok (Or.inr rfl) hy hx (by omega)
    · exact hf f hm
  | 3, h, f, hm => by
    have h : y.toInt ≤ x.toInt := h
    rcases List.mem_cons.mp hm with rfl | hm
    · exact ab_fmk_ok (Or.inl rfl) hx hy (by omega)
    · exact hf f hm
  | 4, h, f, hm => by
    have h : y.toInt < x.toInt := h
    rcases List.mem_cons.mp hm with rfl | hm
    · exact ab_fmk_ok (Or.inr rfl) hx hy (by omega)
    · exact hf f hm
  | 5, h, f, hm => by
    have h : x.toInt ≤ y.toInt := h
    rcases List.mem_cons.mp hm with rfl | hm
    · exact ab_fmk_ok (Or.inl rfl) hy hx (by omega)
    · exact hf f hm
  | _ + 6, _, f, hm => hf f hm
theorem ab_ri_ok {env : ab_E} {z : ab_Z} {ws : va_W} (hR : ab_eR env z.1) {fx : List ab_Y} (hf : ∀ f ∈ fx, ab_fs z ws f) {a b : ab_I} {x y : Int32} (hx : ab_evI z.1 a = some x) (hy : ab_evI z.1 b = some y) : ∀ {r : Nat}, ab_rl r x.toInt y.toInt → ab_ri r env fx a b = false := by
  intro r h
  cases hb : ab_ri r env fx a b
  · rfl
  · exfalso
    match r, h, hb with
    | 0, h, hb =>
      have h : x.toInt = y.toInt := h
      simp only [ab_ri, Bool.or_eq_true] at hb
      rcases hb with hb | hb
      · have := ab_pv_ok hR hf hb hx hy; omega
      · have := ab_pv_ok hR hf hb hy hx; omega
    | 1, h, hb =>
      have h : x.toInt ≠ y.toInt := h
      simp only [ab_ri, Bool.and_eq_true] at hb
      have h1 := ab_pv_ok hR hf hb.1 hx hy
      have h2 := ab_pv_ok hR hf hb.2 hy hx
      omega
    | 2, h, hb =>
      have h : x.toInt < y.toInt := h
      have := ab_pv_ok hR hf (show ab_pv env fx a b 0 = true from hb) hx hy; omega
    | 3, h, hb =>
      have h : y.toInt ≤ x.toInt := h
      have := ab_pv_ok hR hf (show ab_pv env fx b a (-1) = true from hb) hy hx; omega
    | 4, h, hb =>
      have h : y.toInt < x.toInt := h
      have := ab_pv_ok hR hf (show ab_pv env fx b a 0 = true from hb) hy hx; omega
    | 5, h, hb =>
      have h : x.toInt ≤ y.toInt := h
      have := ab_pv_ok hR hf (show ab_pv env fx a b (-1) = true from hb) hx hy; omega
    | n + 6, h, hb => cases hb
/-- n: what is asked, n': the other way -/
noncomputable def op_icmpF (n n' tgt np : Nat) : ab_P := fun _ env nl aw cl sl lv st => match st with
  | .inl b :: .inl a :: st => ab_brK n env a b (fun T F => some (ab_frk nl (aw.1, ab_rfx n a b aw.2) cl sl lv st (bif ab_ri n env aw.2 a b then [] else T) tgt (ab_frk nl (aw.1, ab_rfx n' a b aw.2) cl sl lv st (bif ab_ri n' env aw.2 a b then [] else F) np [])))
  | _ => none
section
variable {p : Program} {l : Launch} {e : Env} {R : Room} {s : State} {m : MethodId} {args : Array Value} {below : List Frame} {meth : Method} {c : Code} {Q : State → Prop} {cc : ByteArray} {own : String} {nL : Nat} {X : ab_X} {D : va_G} {z0 : ab_Z0} {cal : ab_K} {pc : Nat}
theorem ab_R.fx {env : ab_E} {nl : Nat} {cs : List ab_C} {fx fx' : List ab_Y} {z : ab_Z} {ws : va_W} {H : Heap} {locs : List Loc} (h : ab_R X D s z0 env nl (cs, fx) z ws H locs) (hf : ∀ f ∈ fx', ab_fs z ws f) : ab_R X D s z0 env nl (cs, fx') z ws H locs := by
  obtain ⟨w1, w2, w3, w4, w5, w6, w7, w8, w9⟩ := h
  exact ⟨w1, w2, w3, ⟨w4.1, hf⟩, w5, w6, w7, w8, w9⟩
theorem so_icmpF_eq (C : ab_cx p R s m args c cc own nL X D) {off : Int} {tgt : Nat} (d : decode cc pc = .ok (.if_icmp .eq off, 3)) (ht : (pc : Int) + off = (tgt : Int)) : ab_so p l e R s m args below meth c Q nL X D z0 cal pc (op_icmpF 0 1 tgt (pc + 3)) := by
  intro env nl aw cl sl lv st r hr hk z ws H locs ls cst hR hl hs
  dsimp only at hR hl hs
  unfold op_icmpF at hr
  split at hr
  · rename_i b a st'
    obtain ⟨T, F, q1, q2, q3⟩ := ab_brK_eq (β := ab_A) 0 env a b
    rw [q1] at hr
    cases hr
    obtain ⟨x, r, rfl, h1, h2⟩ := ab_st1 hs
    obtain ⟨y, rfl, h3⟩ := ab_evi h1
    obtain ⟨x2, r2, rfl, h4, h5⟩ := ab_st1 h2
    obtain ⟨y2, rfl, h6⟩ := ab_evi h4
    refine lv_icmp_eq C.1 C.2.1 d ht (fun hP => ?_) (fun hP => ?_)
    · have hq := (show ab_hd 0 y2.toInt y.toInt from (congrArg Int32.toInt hP))
      obtain ⟨e1, m1, m2⟩ := q2 z.1 y2 y hR.1 h6 h3 hq
      have hrl : ab_rl 0 y2.toInt y.toInt := by
        show y2.toInt = y.toInt
        simp only [ab_hd] at hq
        omega
      refine hk _ (ab_frk_in (show e1 ∈ (bif ab_ri 0 env aw.2 a b then [] else T) by rw [ab_ri_ok hR.1 hR.2.2.2.1.2 h6 h3 hrl]; exact m1)) z ws H locs ls r2 ((hR.ref m2).fx (ab_rfx_ok h6 h3 hR.2.2.2.1.2 hrl)) hl h5
    · have hq := (show ¬ ab_hd 0 y2.toInt y.toInt from (fun q => hP (Int32.toInt_inj.mp q)))
      obtain ⟨e1, m1, m2⟩ := q3 z.1 y2 y hR.1 h6 h3 hq
      have hrl : ab_rl 1 y2.toInt y.toInt := by
        show y2.toInt ≠ y.toInt
        simp only [ab_hd] at hq
        omega
      refine hk _ (ab_frk_rest (ab_frk_in (show e1 ∈ (bif ab_ri 1 env aw.2 a b then [] else F) by rw [ab_ri_ok hR.1 hR.2.2.2.1.2 h6 h3 hrl]; exact m1))) z ws H locs ls r2 ((hR.ref m2).fx (ab_rfx_ok h6 h3 hR.2.2.2.1.2 hrl)) hl h5
  · cases hr
theorem so_icmpF_ne (C : ab_cx p R s m args c cc own nL X D) {off : Int} {tgt : Nat} (d : decode cc pc = .ok (.if_icmp .ne off, 3)) (ht : (pc : Int) + off = (tgt : Int)) : ab_so p l e R s m args below meth c Q nL X D z0 cal pc (op_icmpF 1 0 tgt (pc + 3)) := by
  intro env nl aw cl sl lv st r hr hk z ws H locs ls cst hR hl hs
  dsimp only at hR hl hs
  unfold op_icmpF at hr
  split at hr
  · rename_i b a st'
    obtain ⟨T, F, q1, q2, q3⟩ := ab_brK_eq (β := ab_A) 1 env a b
    rw [q1] at hr
    cases hr
    obtain ⟨x, r, rfl, h1, h2⟩ := ab_st1 hs
    obtain ⟨y, rfl, h3⟩ := ab_evi h1
    obtain ⟨x2, r2, rfl, h4, h5⟩ := ab_st1 h2
    obtain ⟨y2, rfl, h6⟩ := ab_evi h4
    refine lv_icmp_ne C.1 C.2.1 d ht (fun hP => ?_) (fun hP => ?_)
    · have hq := (show ab_hd 1 y2.toInt y.toInt from (fun q => hP (Int32.toInt_inj.mp q)))
      obtain ⟨e1, m1, m2⟩ := q2 z.1 y2 y hR.1 h6 h3 hq
      have hrl : ab_rl 1 y2.toInt y.toInt := by
        show y2.toInt ≠ y.toInt
        simp only [ab_hd] at hq
        omega
      refine hk _ (ab_frk_in (show e1 ∈ (bif ab_ri 1 env aw.2 a b then [] else T) by rw [ab_ri_ok hR.1 hR.2.2.2.1.2 h6 h3 hrl]; exact m1)) z ws H locs ls r2 ((hR.ref m2).fx (ab_rfx_ok h6 h3 hR.2.2.2.1.2 hrl)) hl h5
    · have hq := (show ¬ ab_hd 1 y2.toInt y.toInt from (fun q => q (congrArg Int32.toInt hP)))
      obtain ⟨e1, m1, m2⟩ := q3 z.1 y2 y hR.1 h6 h3 hq
      have hrl : ab_rl 0 y2.toInt y.toInt := by
        show y2.toInt = y.toInt
        simp only [ab_hd] at hq
        omega
      refine hk _ (ab_frk_rest (ab_frk_in (show e1 ∈ (bif ab_ri 0 env aw.2 a b then [] else F) by rw [ab_ri_ok hR.1 hR.2.2.2.1.2 h6 h3 hrl]; exact m1))) z ws H locs ls r2 ((hR.ref m2).fx (ab_rfx_ok h6 h3 hR.2.2.2.1.2 hrl)) hl h5
  · cases hr
theorem so_icmpF_lt (C : ab_cx p R s m args c cc own nL X D) {off : Int} {tgt : Nat} (d : decode cc pc = .ok (.if_icmp .lt off, 3)) (ht : (pc : Int) + off = (tgt : Int)) : ab_so p l e R s m args below meth c Q nL X D z0 cal pc (op_icmpF 2 3 tgt (pc + 3)) := by
  intro env nl aw cl sl lv st r hr hk z ws H locs ls cst hR hl hs
  dsimp only at hR hl hs
  unfold op_icmpF at hr
  split at hr
  · rename_i b a st'
    obtain ⟨T, F, q1, q2, q3⟩ := ab_brK_eq (β := ab_A) 2 env a b
    rw [q1] at hr
    cases hr
    obtain ⟨x, r, rfl, h1, h2⟩ := ab_st1 hs
    obtain ⟨y, rfl, h3⟩ := ab_evi h1
    obtain ⟨x2, r2, rfl, h4, h5⟩ := ab_st1 h2
    obtain ⟨y2, rfl, h6⟩ := ab_evi h4
    refine lv_icmp_lt C.1 C.2.1 d ht (fun hP => ?_) (fun hP => ?_)
    · have hq := (show ab_hd 2 y2.toInt y.toInt from (Int32.lt_iff_toInt_lt.mp hP))
      obtain ⟨e1, m1, m2⟩ := q2 z.1 y2 y hR.1 h6 h3 hq
      have hrl : ab_rl 2 y2.toInt y.toInt := by
        show y2.toInt < y.toInt
        simp only [ab_hd] at hq
        omega
      refine hk _ (ab_frk_in (show e1 ∈ (bif ab_ri 2 env aw.2 a b then [] else T) by rw [ab_ri_ok hR.1 hR.2.2.2.1.2 h6 h3 hrl]; exact m1)) z ws H locs ls r2 ((hR.ref m2).fx (ab_rfx_ok h6 h3 hR.2.2.2.1.2 hrl)) hl h5
    · have hq := (show ¬ ab_hd 2 y2.toInt y.toInt from (fun q => hP (Int32.lt_iff_toInt_lt.mpr q)))
      obtain ⟨e1, m1, m2⟩ := q3 z.1 y2 y hR.1 h6 h3 hq
      have hrl : ab_rl 3 y2.toInt y.toInt := by
        show y.toInt ≤ y2.toInt
        simp only [ab_hd] at hq
        omega
      refine hk _ (ab_frk_rest (ab_frk_in (show e1 ∈ (bif ab_ri 3 env aw.2 a b then [] else F) by rw [ab_ri_ok hR.1 hR.2.2.2.1.2 h6 h3 hrl]; exact m1))) z ws H locs ls r2 ((hR.ref m2).fx (ab_rfx_ok h6 h3 hR.2.2.2.1.2 hrl)) hl h5
  · cases hr
theorem so_icmpF_ge (C : ab_cx p R s m args c cc own nL X D) {off : Int} {tgt : Nat} (d : decode cc pc = .ok (.if_icmp .ge off, 3)) (ht : (pc : Int) + off = (tgt : Int)) : ab_so p l e R s m args below meth c Q nL X D z0 cal pc (op_icmpF 3 2 tgt (pc + 3)) := by
  intro env nl aw cl sl lv st r hr hk z ws H locs ls cst hR hl hs
  dsimp only at hR hl hs
  unfold op_icmpF at hr
  split at hr
  · rename_i b a st'
    obtain ⟨T, F, q1, q2, q3⟩ := ab_brK_eq (β := ab_A) 3 env a b
    rw [q1] at hr
    cases hr
    obtain ⟨x, r, rfl, h1, h2⟩ := ab_st1 hs
    obtain ⟨y, rfl, h3⟩ := ab_evi h1
    obtain ⟨x2, r2, rfl, h4, h5⟩ := ab_st1 h2
    obtain ⟨y2, rfl, h6⟩ := ab_evi h4
    refine lv_icmp_ge C.1 C.2.1 d ht (fun hP => ?_) (fun hP => ?_)
    · have hq := (show ab_hd 3 y2.toInt y.toInt from (fun q => Int.not_le.mpr q (Int32.le_iff_toInt_le.mp hP)))
      obtain ⟨e1, m1, m2⟩ := q2 z.1 y2 y hR.1 h6 h3 hq
      have hrl : ab_rl 3 y2.toInt y.toInt := by
        show y.toInt ≤ y2.toInt
        simp only [ab_hd] at hq
        omega
      refine hk _ (ab_frk_in (show e1 ∈ (bif ab_ri 3 env aw.2 a b then [] else T) by rw [ab_ri_ok hR.1 hR.2.2.2.1.2 h6 h3 hrl]; exact m1)) z ws H locs ls r2 ((hR.ref m2).fx (ab_rfx_ok h6 h3 hR.2.2.2.1.2 hrl)) hl h5
    · have hq := (show ¬ ab_hd 3 y2.toInt y.toInt from (fun q => hP (Int32.le_iff_toInt_le.mpr (Int.not_lt.mp q))))
      obtain ⟨e1, m1, m2⟩ := q3 z.1 y2 y hR.1 h6 h3 hq
      have hrl : ab_rl 2 y2.toInt y.toInt := by
        show y2.toInt < y.toInt
        simp only [ab_hd] at hq
        omega
      refine hk _ (ab_frk_rest (ab_frk_in (show e1 ∈ (bif ab_ri 2 env aw.2 a b then [] else F) by rw [ab_ri_ok hR.1 hR.2.2.2.1.2 h6 h3 hrl]; exact m1))) z ws H locs ls r2 ((hR.ref m2).fx (ab_rfx_ok h6 h3 hR.2.2.2.1.2 hrl)) hl h5
  · cases hr
theorem so_icmpF_gt (C : ab_cx p R s m args c cc own nL X D) {off : Int} {tgt : Nat} (d : decode cc pc = .ok (.if_icmp .gt off, 3)) (ht : (pc : Int) + off = (tgt : Int)) : ab_so p l e R s m args below meth c Q nL X D z0 cal pc (op_icmpF 4 5 tgt (pc + 3)) := by
  intro env nl aw cl sl lv st r hr hk z ws H locs ls cst hR hl hs
  dsimp only at hR hl hs
  unfold op_icmpF at hr
  split at hr
  · rename_i b a st'
    obtain ⟨T, F, q1, q2, q3⟩ := ab_brK_eq (β := ab_A) 4 env a b
    rw [q1] at hr
    cases hr
    obtain ⟨x, r, rfl, h1, h2⟩ := ab_st1 hs
    obtain ⟨y, rfl, h3⟩ := ab_evi h1
    obtain ⟨x2, r2, rfl, h4, h5⟩ := ab_st1 h2
    obtain ⟨y2, rfl, h6⟩ := ab_evi h4
    refine lv_icmp_gt C.1 C.2.1 d ht (fun hP => ?_) (fun hP => ?_)
    · have hq := (show ab_hd 4 y2.toInt y.toInt from (Int32.lt_iff_toInt_lt.mp hP))
      obtain ⟨e1, m1, m2⟩ := q2 z.1 y2 y hR.1 h6 h3 hq
      have hrl : ab_rl 4 y2.toInt y.toInt := by
        show y.toInt < y2.toInt
        simp only [ab_hd] at hq
        omega
      refine hk _ (ab_frk_in (show e1 ∈ (bif ab_ri 4 env aw.2 a b then [] else T) by rw [ab_ri_ok hR.1 hR.2.2.2.1.2 h6 h3 hrl]; exact m1)) z ws H locs ls r2 ((hR.ref m2).fx (ab_rfx_ok h6 h3 hR.2.2.2.1.2 hrl)) hl h5
    · have hq := (show ¬ ab_hd 4 y2.toInt y.toInt from (fun q => hP (Int32.lt_iff_toInt_lt.mpr q)))
      obtain ⟨e1, m1, m2⟩ := q3 z.1 y2 y hR.1 h6 h3 hq
      have hrl : ab_rl 5 y2.toInt y.toInt := by
        show y2.toInt ≤ y.toInt
        simp only [ab_hd] at hq
        omega
      refine hk _ (ab_frk_rest (ab_frk_in (show e1 ∈ (bif ab_ri 5 env aw.2 a b then [] else F) by rw [ab_ri_ok hR.1 hR.2.2.2.1.2 h6 h3 hrl]; exact m1))) z ws H locs ls r2 ((hR.ref m2).fx (ab_rfx_ok h6 h3 hR.2.2.2.1.2 hrl)) hl h5
  · cases hr
theorem so_icmpF_le (C : ab_cx p R s m args c cc own nL X D) {off : Int} {tgt : Nat} (d : decode cc pc = .ok (.if_icmp .le off, 3)) (ht : (pc : Int) + off = (tgt : Int)) : ab_so p l e R s m args below meth c Q nL X D z0 cal pc (op_icmpF 5 4 tgt (pc + 3)) := by
  intro env nl aw cl sl lv st r hr hk z ws H locs ls cst hR hl hs
  dsimp only at hR hl hs
  unfold op_icmpF at hr
  split at hr
  · rename_i b a st'
    obtain ⟨T, F, q1, q2, q3⟩ := ab_brK_eq (β := ab_A) 5 env a b
    rw [q1] at hr
    cases hr
    obtain ⟨x, r, rfl, h1, h2⟩ := ab_st1 hs
    obtain ⟨y, rfl, h3⟩ := ab_evi h1
    obtain ⟨x2, r2, rfl, h4, h5⟩ := ab_st1 h2
    obtain ⟨y2, rfl, h6⟩ := ab_evi h4
    refine lv_icmp_le C.1 C.2.1 d ht (fun hP => ?_) (fun hP => ?_)
    · have hq := (show ab_hd 5 y2.toInt y.toInt from (fun q => Int.not_le.mpr q (Int32.le_iff_toInt_le.mp hP)))
      obtain ⟨e1, m1, m2⟩ := q2 z.1 y2 y hR.1 h6 h3 hq
      have hrl : ab_rl 5 y2.toInt y.toInt := by
        show y2.toInt ≤ y.toInt
        simp only [ab_hd] at hq
        omega
      refine hk _ (ab_frk_in (show e1 ∈ (bif ab_ri 5 env aw.2 a b then [] else T) by rw [ab_ri_ok hR.1 hR.2.2.2.1.2 h6 h3 hrl]; exact m1)) z ws H locs ls r2 ((hR.ref m2).fx (ab_rfx_ok h6 h3 hR.2.2.2.1.2 hrl)) hl h5
    · have hq := (show ¬ ab_hd 5 y2.toInt y.toInt from (fun q => hP (Int32.le_iff_toInt_le.mpr (Int.not_lt.mp q))))
      obtain ⟨e1, m1, m2⟩ := q3 z.1 y2 y hR.1 h6 h3 hq
      have hrl : ab_rl 4 y2.toInt y.toInt := by
        show y.toInt < y2.toInt
        simp only [ab_hd] at hq
        omega
      refine hk _ (ab_frk_rest (ab_frk_in (show e1 ∈ (bif ab_ri 4 env aw.2 a b then [] else F) by rw [ab_ri_ok hR.1 hR.2.2.2.1.2 h6 h3 hrl]; exact m1))) z ws H locs ls r2 ((hR.ref m2).fx (ab_rfx_ok h6 h3 hR.2.2.2.1.2 hrl)) hl h5
  · cases hr
end
theorem un_icmpF {a b n n' tgt np : Nat} : ab_un a b (op_icmpF n n' tgt np) (op_icmpF n n' tgt np) := by
  intro cal env nl aw cl sl lv st r h
  unfold op_icmpF at h ⊢
  split at h
  · rename_i y x st'
    obtain ⟨T, F, q, -⟩ := ab_brK_eq (β := ab_A) n env x y
    rw [q] at h ⊢
    cases h
    rw [ab_frk_sh, ab_frk_sh]; rfl
  · cases h
