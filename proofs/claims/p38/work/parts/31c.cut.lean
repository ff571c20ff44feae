/-! What a world's cells hold, read off; the exact worlds cut out of the law's world. -/
noncomputable def cu_f (ws : va_W) (k : Nat) : Nat → Int32 := match ws[k]? with
  | some (_, .inl (_, _, .inl f)) => f
  | _ => fun _ => 0
noncomputable def cu_q (ws : va_W) (k : Nat) : Nat → Int64 := match ws[k]? with
  | some (_, .inl (_, _, .inr (.inl f))) => f
  | _ => fun _ => 0
theorem cu_f_of {ws : va_W} {k a n : Nat} {cA : ClassId} {f : Nat → Int32} (h : ws[k]? = some (a, .inl (cA, n, .inl f))) : cu_f ws k = f := by
  unfold cu_f
  rw [h]
theorem cu_q_of {ws : va_W} {k a n : Nat} {cA : ClassId} {f : Nat → Int64} (h : ws[k]? = some (a, .inl (cA, n, .inr (.inl f)))) : cu_q ws k = f := by
  unfold cu_q
  rw [h]
noncomputable def cu_isI (w : ab_w) : Bool := match w with
  | .inl (.inl _) => true
  | .inr (.inl _) => true
  | _ => false
noncomputable def cu_isL (w : ab_w) : Bool := match w with
  | .inl (.inr (.inl _)) => true
  | .inr (.inr none) => true
  | _ => false
theorem cu_I {X : ab_X} {z : ab_Z} {w : ab_w} {v : Value} (h : ab_ho X z w v) (hw : cu_isI w = true) : ∃ x, v = .int x := by
  unfold cu_isI at hw
  split at hw
  · obtain ⟨y, rfl, -⟩ := ab_evi (X := X) h
    exact ⟨y, rfl⟩
  · obtain ⟨n, h1, -⟩ := h
    exact ⟨n, h1⟩
  · cases hw
theorem cu_L {X : ab_X} {z : ab_Z} {w : ab_w} {v : Value} (h : ab_ho X z w v) (hw : cu_isL w = true) : ∃ x, v = .long x := by
  unfold cu_isL at hw
  split at hw
  · obtain ⟨y, rfl, -⟩ := ab_evl (X := X) h
    exact ⟨y, rfl⟩
  · exact h
  · cases hw
theorem cu_R {X : ab_X} {z : ab_Z} {k a : Nat} {v : Value} (hz : z.2.2[k]? = some a) (h : ab_ho X z (.inr (.inr (some [k]))) v) : v = .ref a := by
  obtain ⟨q, hq, b, h1, h2⟩ := h
  cases List.mem_singleton.mp hq
  rw [hz] at h1
  cases h1
  exact h2
theorem cu_Rx {X : ab_X} {z : ab_Z} {ks : List Nat} {v : Value} (h : ab_ho X z (.inr (.inr (some ks))) v) : ∃ a, v = .ref a := by
  obtain ⟨q, hq, b, h1, h2⟩ := h
  exact ⟨b, h2⟩
theorem cu_R2 {X : ab_X} {z : ab_Z} {k1 k2 : Nat} {v : Value} (h : ab_ho X z (.inr (.inr (some [k1, k2]))) v) : (∃ a, z.2.2[k1]? = some a ∧ v = .ref a) ∨ ∃ a, z.2.2[k2]? = some a ∧ v = .ref a := by
  obtain ⟨q, hq, b, h1, h2⟩ := h
  rcases List.mem_cons.mp hq with rfl | hq
  · exact Or.inl ⟨b, h1, h2⟩
  · cases List.mem_singleton.mp hq
    exact Or.inr ⟨b, h1, h2⟩
theorem cu_c {α : Type} {l : List α} {n : Nat} (h : n + 1 = l.length) : ∃ v r, l = v :: r ∧ n = r.length := by
  cases l with
  | nil => simp at h
  | cons v r => exact ⟨v, r, rfl, by simpa using h⟩
theorem cu_n {α : Type} {l : List α} (h : 0 = l.length) : l = [] := List.eq_nil_of_length_eq_zero h.symm
theorem cu_ad {ws : va_W} {z : ab_Z} (hz : ws.map Prod.fst = z.2.2) {k : Nat} {q : Nat × va_E} (h : ws[k]? = some q) : z.2.2[k]? = some q.1 := by
  rw [← hz, List.getElem?_map, h]; rfl
theorem cu_ev1 {X : ab_X} {z : ab_Z} {u : Nat} {x : Int32} (h : ab_ho X z (.inl (.inl (some u, 0))) (.int x)) : z.1[u]? = some x := by
  obtain ⟨y, hy, h2⟩ := ab_evi (X := X) (show ab_ev X z (.inl (some u, 0)) = some (.int x) from h)
  cases hy
  exact ab_evI_v0 h2
/-- a part of a world: its cells stand in the world, no two alike -/
theorem cu_P {D : va_G} {ws we : va_W} {H : Heap} (h : va_P D vwCl ws H) (hs : ∀ q ∈ we, q ∈ ws) : va_P D vwCl we H := fun k q hk => by
  obtain ⟨j, hj⟩ := List.getElem?_of_mem (hs q (List.mem_of_getElem? hk))
  exact h j q hj
theorem cu_D {A : Nat → Prop} {ws we : va_W} (h : va_D A ws) (pos : List Nat) (hp : pos.Nodup) (he : pos.map (fun k => ws[k]?) = we.map some) : va_D A we := by
  have hat : ∀ (k : Nat) (q : Nat × va_E), we[k]? = some q → ∃ j, pos[k]? = some j ∧ ws[j]? = some q := by
    intro k q hk
    have h1 : (we.map some)[k]? = some (some q) := by rw [List.getElem?_map, hk]; rfl
    rw [← he, List.getElem?_map] at h1
    cases hj : pos[k]? with
    | none => rw [hj] at h1; cases h1
    | some j =>
      rw [hj] at h1
      exact ⟨j, rfl, Option.some.inj h1⟩
  refine ⟨fun i j p q hi hj hpq => ?_, fun k q hk => ?_⟩
  · obtain ⟨i', a1, a2⟩ := hat i p hi
    obtain ⟨j', b1, b2⟩ := hat j q hj
    have e := h.1 i' j' p q a2 b2 hpq
    subst e
    obtain ⟨hl, hx⟩ := List.getElem?_eq_some_iff.mp a1
    obtain ⟨hl2, hx2⟩ := List.getElem?_eq_some_iff.mp b1
    rcases Nat.lt_trichotomy i j with hq | hq | hq
    · exact absurd (hx.trans hx2.symm) (List.pairwise_iff_getElem.mp hp _ _ hl hl2 hq)
    · exact hq
    · exact absurd (hx2.trans hx.symm) (List.pairwise_iff_getElem.mp hp _ _ hl2 hl hq)
  · obtain ⟨j, -, b⟩ := hat k q hk
    exact h.2 j q b
/-- the other valley: numbers and rows -/
noncomputable def lw_L (u_towns u_terms u_trains : Int32) (p_townName p_trainName : Nat → Int64) (p_noon p_bendTold p_termTown p_termFrom p_termTo p_termBend p_trainFrom p_trainTo p_trainLeaves p_trainTakes p_settings : Nat → Int32) : List ex_E := [.inl (8, [.int u_towns, .ref 27, .ref 28, .ref 29, .int u_terms, .ref 30, .ref 31, .ref 32, .ref 33, .int u_trains, .ref 34, .ref 35, .ref 36, .ref 37, .ref 38, .ref 39]), .inr (1, 7, .inr (.inl p_townName)), .inr (0, 7, .inl p_noon), .inr (0, 7, .inl p_bendTold), .inr (0, 12, .inl p_termTown), .inr (0, 12, .inl p_termFrom), .inr (0, 12, .inl p_termTo), .inr (0, 12, .inl p_termBend), .inr (1, 8, .inr (.inl p_trainName)), .inr (0, 8, .inl p_trainFrom), .inr (0, 8, .inl p_trainTo), .inr (0, 8, .inl p_trainLeaves), .inr (0, 8, .inl p_trainTakes), .inr (0, 3, .inl p_settings)]
noncomputable def cu_v (ws : va_W) (k j : Nat) : Value := match ws[k]? with
  | some (_, .inr (_, vs)) => vs.getD j .null
  | _ => .null
noncomputable def cu_i (ws : va_W) (k j : Nat) : Int32 := match cu_v ws k j with
  | .int x => x
  | _ => 0
theorem cu_v_of {ws : va_W} {k a ci j : Nat} {vs : List Value} (h : ws[k]? = some (a, .inr (ci, vs))) : cu_v ws k j = vs.getD j .null := by
  unfold cu_v
  rw [h]
noncomputable def cu_a (ws : va_W) (k : Nat) : Option Nat := (ws[k]?).map Prod.fst
theorem cu_D2 {X : ab_X} {z : ab_Z} {ks : List Nat} {v : Value} (h : ab_ho X z (.inr (.inr (some ks))) v) : ∃ k ∈ ks, ∃ a, z.2.2[k]? = some a ∧ v = .ref a := h
theorem cu_Q {X : ab_X} {z : ab_Z} {k a : Nat} {f : Nat → Option Nat} {j : Nat} (hz : z.2.2[k]? = some a) (h : ab_ho X z (.inl (.inr (.inr (2, k)))) (va_rf (f j))) : f j = some a := by
  have h1 : (z.2.2[k]?).map Value.ref = some (va_rf (f j)) := h
  rw [hz] at h1
  have h2 := Option.some.inj h1
  cases hf : f j with
  | none => rw [hf] at h2; cases h2
  | some b => rw [hf] at h2; injection h2 with h3; rw [h3]
theorem cu_pos {ws we : va_W} {pos : List Nat} (hp : pos.map (fun k => ws[k]?) = we.map some) : ∀ q ∈ we, q ∈ ws := by
  intro q hq
  have h1 : some q ∈ we.map some := List.mem_map.mpr ⟨q, hq, rfl⟩
  rw [← hp] at h1
  obtain ⟨k, -, hk⟩ := List.mem_map.mp h1
  exact List.mem_of_getElem? hk
theorem cu_Hn {X : ab_X} {z : ab_Z} {lo hi : Int} {f : Nat → Int32} {j : Nat} (h : ab_ho X z (.inr (.inl (lo, hi))) (ab_cv (.inl f) j)) : lo ≤ (f j).toInt ∧ (f j).toInt ≤ hi := by
  obtain ⟨n, e, a, b⟩ := h
  have e : Value.int (f j) = .int n := e
  cases e
  exact ⟨a, b⟩
/-- a cell of the part, and of the whole -/
theorem cu_at {ws we : va_W} {pos : List Nat} (hp : pos.map (fun k => ws[k]?) = we.map some) {i k : Nat} (hi : pos[i]? = some k) : ∃ q, ws[k]? = some q ∧ we[i]? = some q := by
  have h1 : (we.map some)[i]? = some (ws[k]?) := by rw [← hp, List.getElem?_map, hi]; rfl
  rw [List.getElem?_map] at h1
  cases hw : we[i]? with
  | none => rw [hw] at h1; cases h1
  | some q =>
    rw [hw] at h1
    exact ⟨q, (Option.some.inj h1).symm, rfl⟩
noncomputable def cu_KA : List Nat := [3, 8, 9, 10, 11, 12, 13, 15, 17, 18, 30, 31, 32, 33, 34, 35, 36, 37, 38, 39, 40, 41, 42, 43, 44, 45, 46, 47, 48, 49, 50, 51, 52, 53, 54, 55, 56, 57, 58, 59, 60]
noncomputable def cu_KV : List Nat := [3, 8, 9, 10, 11, 12, 13, 15, 17, 18, 30, 31, 32, 33, 34, 35, 36, 37, 38, 39, 40, 41, 42, 43, 44, 45, 46, 47, 48, 49, 50, 51, 52, 53, 54, 55, 56, 57, 58, 59, 60]
noncomputable def cu_KI : List Nat := [3, 8, 9, 10, 11, 12, 13, 15, 18, 22, 23, 24, 25, 26, 27, 28, 29, 30, 31, 32, 33, 34, 35, 36, 37, 41, 42, 43, 44, 45, 46, 47, 48, 49, 50, 51, 52, 53, 54, 55, 56, 57, 58, 59, 60, 102, 103, 104, 105, 106, 107, 108, 109, 110, 111, 112, 113, 114, 115, 116, 117, 118, 119, 120, 121, 122, 123, 124, 125, 126, 127, 128, 129, 130, 131, 132, 133, 134, 135, 136, 137, 138, 139, 140, 141, 142, 143, 144, 145, 146]
noncomputable def cu_KB : List Nat := [0, 1, 2, 4, 6, 149, 150]
noncomputable def cu_KJ : List Nat := [0, 1, 7, 149, 164, 165]
set_option maxRecDepth 100000 in
set_option maxHeartbeats 4000000 in
theorem cu_A_12_9 {X : ab_X} {z : ab_Z} {s : State} {ws : va_W} (hc : ∀ (k : Nat) (c : ab_C), k ∈ cu_KA → gl_L[k]? = some c → ∃ q, ws[k]? = some q ∧ ab_cR X z s c q.2) (hz : ws.map Prod.fst = z.2.2) (hd : ∃ ad, z.2.2[12]? = some ad ∧ cu_v ws 10 3 = .ref ad) (hs : ∃ ad, z.2.2[9]? = some ad ∧ cu_v ws 10 7 = .ref ad) : ∃ (σ : ex_S) (A : ex_A) (we : va_W), ex_wR X A s (WA (2000000, []) 6 σ) we ∧ ([10, 3, 17, 38, 39, 40, 12, 41, 30, 42, 43, 44, 45, 46, 47, 32, 48, 36, 49, 34, 13, 18, 59, 60, 9, 15] : List Nat).map (fun k => ws[k]?) = we.map some ∧ z.1[1]? = some (σ.1 0) := by
  obtain ⟨⟨a10, e10⟩, h10, r10⟩ := hc 10 _ (by decide) rfl
  obtain ⟨⟨a3, e3⟩, h3, r3⟩ := hc 3 _ (by decide) rfl
  obtain ⟨⟨a17, e17⟩, h17, r17⟩ := hc 17 _ (by decide) rfl
  obtain ⟨⟨a38, e38⟩, h38, r38⟩ := hc 38 _ (by decide) rfl
  obtain ⟨⟨a39, e39⟩, h39, r39⟩ := hc 39 _ (by decide) rfl
  obtain ⟨⟨a40, e40⟩, h40, r40⟩ := hc 40 _ (by decide) rfl
  obtain ⟨⟨a12, e12⟩, h12, r12⟩ := hc 12 _ (by decide) rfl
  obtain ⟨⟨a41, e41⟩, h41, r41⟩ := hc 41 _ (by decide) rfl
  obtain ⟨⟨a30, e30⟩, h30, r30⟩ := hc 30 _ (by decide) rfl
  obtain ⟨⟨a42, e42⟩, h42, r42⟩ := hc 42 _ (by decide) rfl
  obtain ⟨⟨a43, e43⟩, h43, r43⟩ := hc 43 _ (by decide) rfl
  obtain ⟨⟨a44, e44⟩, h44, r44⟩ := hc 44 _ (by decide) rfl
  obtain ⟨⟨a45, e45⟩, h45, r45⟩ := hc 45 _ (by decide) rfl
  obtain ⟨⟨a46, e46⟩, h46, r46⟩ := hc 46 _ (by decide) rfl
  obtain ⟨⟨a47, e47⟩, h47, r47⟩ := hc 47 _ (by decide) rfl
  obtain ⟨⟨a32, e32⟩, h32, r32⟩ := hc 32 _ (by decide) rfl
  obtain ⟨⟨a48, e48⟩, h48, r48⟩ := hc 48 _ (by decide) rfl
  obtain ⟨⟨a36, e36⟩, h36, r36⟩ := hc 36 _ (by decide) rfl
  obtain ⟨⟨a49, e49⟩, h49, r49⟩ := hc 49 _ (by decide) rfl
  obtain ⟨⟨a34, e34⟩, h34, r34⟩ := hc 34 _ (by decide) rfl
  obtain ⟨⟨a13, e13⟩, h13, r13⟩ := hc 13 _ (by decide) rfl
  obtain ⟨⟨a18, e18⟩, h18, r18⟩ := hc 18 _ (by decide) rfl
  obtain ⟨⟨a59, e59⟩, h59, r59⟩ := hc 59 _ (by decide) rfl
  obtain ⟨⟨a60, e60⟩, h60, r60⟩ := hc 60 _ (by decide) rfl
  obtain ⟨⟨a9, e9⟩, h9, r9⟩ := hc 9 _ (by decide) rfl
  obtain ⟨⟨a15, e15⟩, h15, r15⟩ := hc 15 _ (by decide) rfl
  obtain ⟨cA17, x17, f17, ⟨y17, g17⟩, t17, -⟩ := r17
  dsimp only at f17
  subst f17 g17
  obtain ⟨cA38, x38, f38, ⟨y38, g38⟩, t38, -⟩ := r38
  dsimp only at f38
  subst f38 g38
  obtain ⟨cA40, x40, f40, ⟨y40, g40⟩, t40, -⟩ := r40
  dsimp only at f40
  subst f40 g40
  obtain ⟨cA41, x41, f41, ⟨y41, g41⟩, t41, -⟩ := r41
  dsimp only at f41
  subst f41 g41
  obtain ⟨cA30, x30, f30, ⟨y30, g30⟩, t30, -⟩ := r30
  dsimp only at f30
  subst f30 g30
  obtain ⟨cA42, x42, f42, ⟨y42, g42⟩, t42, -⟩ := r42
  dsimp only at f42
  subst f42 g42
  obtain ⟨cA43, x43, f43, ⟨y43, g43⟩, t43, -⟩ := r43
  dsimp only at f43
  subst f43 g43
  obtain ⟨cA44, x44, f44, ⟨y44, g44⟩, t44, -⟩ := r44
  dsimp only at f44
  subst f44 g44
  obtain ⟨cA45, x45, f45, ⟨y45, g45⟩, t45, -⟩ := r45
  dsimp only at f45
  subst f45 g45
  obtain ⟨cA46, x46, f46, ⟨y46, g46⟩, t46, -⟩ := r46
  dsimp only at f46
  subst f46 g46
  obtain ⟨cA47, x47, f47, ⟨y47, g47⟩, t47, -⟩ := r47
  dsimp only at f47
  subst f47 g47
  obtain ⟨cA32, x32, f32, ⟨y32, g32⟩, t32, -⟩ := r32
  dsimp only at f32
  subst f32 g32
  obtain ⟨cA48, x48, f48, ⟨y48, g48⟩, t48, -⟩ := r48
  dsimp only at f48
  subst f48 g48
  obtain ⟨cA36, x36, f36, ⟨y36, g36⟩, t36, -⟩ := r36
  dsimp only at f36
  subst f36 g36
  obtain ⟨cA49, x49, f49, ⟨y49, g49⟩, t49, -⟩ := r49
  dsimp only at f49
  subst f49 g49
  obtain ⟨cA34, x34, f34, ⟨y34, g34⟩, t34, -⟩ := r34
  dsimp only at f34
  subst f34 g34
  obtain ⟨cA18, x18, f18, ⟨y18, g18⟩, t18, -⟩ := r18
  dsimp only at f18
  subst f18 g18
  obtain ⟨cA59, x59, f59, ⟨y59, g59⟩, t59, -⟩ := r59
  dsimp only at f59
  subst f59 g59
  obtain ⟨cA60, x60, f60, ⟨y60, g60⟩, t60, -⟩ := r60
  dsimp only at f60
  subst f60 g60
  obtain ⟨vs10, f10, l10, w10⟩ := r10
  dsimp only at f10
  subst f10
  obtain ⟨u10_0, s10_0, rfl, m10_0⟩ := cu_c l10
  obtain ⟨u10_1, s10_1, rfl, m10_1⟩ := cu_c m10_0
  obtain ⟨u10_2, s10_2, rfl, m10_2⟩ := cu_c m10_1
  obtain ⟨u10_3, s10_3, rfl, m10_3⟩ := cu_c m10_2
  obtain ⟨u10_4, s10_4, rfl, m10_4⟩ := cu_c m10_3
  obtain ⟨u10_5, s10_5, rfl, m10_5⟩ := cu_c m10_4
  obtain ⟨u10_6, s10_6, rfl, m10_6⟩ := cu_c m10_5
  obtain ⟨u10_7, s10_7, rfl, m10_7⟩ := cu_c m10_6
  obtain ⟨u10_8, s10_8, rfl, m10_8⟩ := cu_c m10_7
  obtain ⟨u10_9, s10_9, rfl, m10_9⟩ := cu_c m10_8
  obtain ⟨u10_10, s10_10, rfl, m10_10⟩ := cu_c m10_9
  obtain ⟨u10_11, s10_11, rfl, m10_11⟩ := cu_c m10_10
  obtain ⟨u10_12, s10_12, rfl, m10_12⟩ := cu_c m10_11
  obtain ⟨u10_13, s10_13, rfl, m10_13⟩ := cu_c m10_12
  obtain ⟨u10_14, s10_14, rfl, m10_14⟩ := cu_c m10_13
  obtain ⟨u10_15, s10_15, rfl, m10_15⟩ := cu_c m10_14
  obtain ⟨u10_16, s10_16, rfl, m10_16⟩ := cu_c m10_15
  cases cu_n m10_16
  have q10_0 := cu_R (cu_ad hz h3) (w10 0 _ _ rfl rfl)
  subst q10_0
  have q10_1 := cu_R (cu_ad hz h39) (w10 1 _ _ rfl rfl)
  subst q10_1
  obtain ⟨i10_2, q10_2⟩ := cu_Rx (w10 2 _ _ rfl rfl)
  subst q10_2
  have q10_3 : u10_3 = .ref a12 := by
    obtain ⟨ad, e1, e2⟩ := hd
    have e3 := e1.symm.trans (cu_ad hz h12)
    cases e3
    rw [cu_v_of h10] at e2
    exact e2
  subst q10_3
  have q10_4 := cu_R (cu_ad hz h13) (w10 4 _ _ rfl rfl)
  subst q10_4
  obtain ⟨i10_5, q10_5⟩ := cu_Rx (w10 5 _ _ rfl rfl)
  subst q10_5
  have q10_6 := cu_R (cu_ad hz h15) (w10 6 _ _ rfl rfl)
  subst q10_6
  have q10_7 : u10_7 = .ref a9 := by
    obtain ⟨ad, e1, e2⟩ := hs
    have e3 := e1.symm.trans (cu_ad hz h9)
    cases e3
    rw [cu_v_of h10] at e2
    exact e2
  subst q10_7
  obtain ⟨i10_8, q10_8⟩ := cu_Rx (w10 8 _ _ rfl rfl)
  subst q10_8
  obtain ⟨i10_9, q10_9⟩ := cu_Rx (w10 9 _ _ rfl rfl)
  subst q10_9
  obtain ⟨i10_10, q10_10⟩ := cu_Rx (w10 10 _ _ rfl rfl)
  subst q10_10
  obtain ⟨i10_11, q10_11⟩ := cu_Rx (w10 11 _ _ rfl rfl)
  subst q10_11
  obtain ⟨i10_12, q10_12⟩ := cu_Rx (w10 12 _ _ rfl rfl)
  subst q10_12
  obtain ⟨i10_13, q10_13⟩ := cu_Rx (w10 13 _ _ rfl rfl)
  subst q10_13
  obtain ⟨i10_14, q10_14⟩ := cu_I (w10 14 _ _ rfl rfl) rfl
  subst q10_14
  obtain ⟨i10_15, q10_15⟩ := cu_Rx (w10 15 _ _ rfl rfl)
  subst q10_15
  obtain ⟨i10_16, q10_16⟩ := cu_I (w10 16 _ _ rfl rfl) rfl
  subst q10_16
  obtain ⟨vs3, f3, l3, w3⟩ := r3
  dsimp only at f3
  subst f3
  obtain ⟨u3_0, s3_0, rfl, m3_0⟩ := cu_c l3
  obtain ⟨u3_1, s3_1, rfl, m3_1⟩ := cu_c m3_0
  obtain ⟨u3_2, s3_2, rfl, m3_2⟩ := cu_c m3_1
  obtain ⟨u3_3, s3_3, rfl, m3_3⟩ := cu_c m3_2
  obtain ⟨u3_4, s3_4, rfl, m3_4⟩ := cu_c m3_3
  obtain ⟨u3_5, s3_5, rfl, m3_5⟩ := cu_c m3_4
  obtain ⟨u3_6, s3_6, rfl, m3_6⟩ := cu_c m3_5
  obtain ⟨u3_7, s3_7, rfl, m3_7⟩ := cu_c m3_6
  obtain ⟨u3_8, s3_8, rfl, m3_8⟩ := cu_c m3_7
  obtain ⟨u3_9, s3_9, rfl, m3_9⟩ := cu_c m3_8
  obtain ⟨u3_10, s3_10, rfl, m3_10⟩ := cu_c m3_9
  obtain ⟨u3_11, s3_11, rfl, m3_11⟩ := cu_c m3_10
  obtain ⟨u3_12, s3_12, rfl, m3_12⟩ := cu_c m3_11
  obtain ⟨u3_13, s3_13, rfl, m3_13⟩ := cu_c m3_12
  obtain ⟨u3_14, s3_14, rfl, m3_14⟩ := cu_c m3_13
  cases cu_n m3_14
  have q3_0 := cu_R (cu_ad hz h17) (w3 0 _ _ rfl rfl)
  subst q3_0
  obtain ⟨i3_1, q3_1⟩ := cu_I (w3 1 _ _ rfl rfl) rfl
  obtain ⟨i3_2, q3_2⟩ := cu_I (w3 2 _ _ rfl rfl) rfl
  subst q3_2
  obtain ⟨i3_3, q3_3⟩ := cu_I (w3 3 _ _ rfl rfl) rfl
  subst q3_3
  obtain ⟨i3_4, q3_4⟩ := cu_I (w3 4 _ _ rfl rfl) rfl
  subst q3_4
  obtain ⟨i3_5, q3_5⟩ := cu_I (w3 5 _ _ rfl rfl) rfl
  subst q3_5
  obtain ⟨i3_6, q3_6⟩ := cu_L (w3 6 _ _ rfl rfl) rfl
  subst q3_6
  obtain ⟨i3_7, q3_7⟩ := cu_I (w3 7 _ _ rfl rfl) rfl
  subst q3_7
  obtain ⟨i3_8, q3_8⟩ := cu_I (w3 8 _ _ rfl rfl) rfl
  subst q3_8
  obtain ⟨i3_9, q3_9⟩ := cu_I (w3 9 _ _ rfl rfl) rfl
  subst q3_9
  obtain ⟨i3_10, q3_10⟩ := cu_L (w3 10 _ _ rfl rfl) rfl
  subst q3_10
  obtain ⟨i3_11, q3_11⟩ := cu_I (w3 11 _ _ rfl rfl) rfl
  subst q3_11
  obtain ⟨i3_12, q3_12⟩ := cu_I (w3 12 _ _ rfl rfl) rfl
  subst q3_12
  obtain ⟨i3_13, q3_13⟩ := cu_I (w3 13 _ _ rfl rfl) rfl
  subst q3_13
  have q3_14 := cu_R (cu_ad hz h38) (w3 14 _ _ rfl rfl)
  subst q3_14
  obtain ⟨vs39, f39, l39, w39⟩ := r39
  dsimp only at f39
  subst f39
  obtain ⟨u39_0, s39_0, rfl, m39_0⟩ := cu_c l39
  cases cu_n m39_0
  have q39_0 := cu_R (cu_ad hz h40) (w39 0 _ _ rfl rfl)
  subst q39_0
  obtain ⟨vs12, f12, l12, w12⟩ := r12
  dsimp only at f12
  subst f12
  obtain ⟨u12_0, s12_0, rfl, m12_0⟩ := cu_c l12
  obtain ⟨u12_1, s12_1, rfl, m12_1⟩ := cu_c m12_0
  obtain ⟨u12_2, s12_2, rfl, m12_2⟩ := cu_c m12_1
  obtain ⟨u12_3, s12_3, rfl, m12_3⟩ := cu_c m12_2
  obtain ⟨u12_4, s12_4, rfl, m12_4⟩ := cu_c m12_3
  obtain ⟨u12_5, s12_5, rfl, m12_5⟩ := cu_c m12_4
  obtain ⟨u12_6, s12_6, rfl, m12_6⟩ := cu_c m12_5
  obtain ⟨u12_7, s12_7, rfl, m12_7⟩ := cu_c m12_6
  obtain ⟨u12_8, s12_8, rfl, m12_8⟩ := cu_c m12_7
  obtain ⟨u12_9, s12_9, rfl, m12_9⟩ := cu_c m12_8
  obtain ⟨u12_10, s12_10, rfl, m12_10⟩ := cu_c m12_9
  obtain ⟨u12_11, s12_11, rfl, m12_11⟩ := cu_c m12_10
  obtain ⟨u12_12, s12_12, rfl, m12_12⟩ := cu_c m12_11
  obtain ⟨u12_13, s12_13, rfl, m12_13⟩ := cu_c m12_12
  obtain ⟨u12_14, s12_14, rfl, m12_14⟩ := cu_c m12_13
  obtain ⟨u12_15, s12_15, rfl, m12_15⟩ := cu_c m12_14
  cases cu_n m12_15
  obtain ⟨i12_0, q12_0⟩ := cu_I (w12 0 _ _ rfl rfl) rfl
  subst q12_0
  have q12_1 := cu_R (cu_ad hz h41) (w12 1 _ _ rfl rfl)
  subst q12_1
  have q12_2 := cu_R (cu_ad hz h30) (w12 2 _ _ rfl rfl)
  subst q12_2
  have q12_3 := cu_R (cu_ad hz h42) (w12 3 _ _ rfl rfl)
  subst q12_3
  obtain ⟨i12_4, q12_4⟩ := cu_I (w12 4 _ _ rfl rfl) rfl
  subst q12_4
  have q12_5 := cu_R (cu_ad hz h43) (w12 5 _ _ rfl rfl)
  subst q12_5
  have q12_6 := cu_R (cu_ad hz h44) (w12 6 _ _ rfl rfl)
  subst q12_6
  have q12_7 := cu_R (cu_ad hz h45) (w12 7 _ _ rfl rfl)
  subst q12_7
  have q12_8 := cu_R (cu_ad hz h46) (w12 8 _ _ rfl rfl)
  subst q12_8
  obtain ⟨i12_9, q12_9⟩ := cu_I (w12 9 _ _ rfl rfl) rfl
  subst q12_9
  have q12_10 := cu_R (cu_ad hz h47) (w12 10 _ _ rfl rfl)
  subst q12_10
  have q12_11 := cu_R (cu_ad hz h32) (w12 11 _ _ rfl rfl)
  subst q12_11
  have q12_12 := cu_R (cu_ad hz h48) (w12 12 _ _ rfl rfl)
  subst q12_12
  have q12_13 := cu_R (cu_ad hz h36) (w12 13 _ _ rfl rfl)
  subst q12_13
  have q12_14 := cu_R (cu_ad hz h49) (w12 14 _ _ rfl rfl)
  subst q12_14
  have q12_15 := cu_R (cu_ad hz h34) (w12 15 _ _ rfl rfl)
  subst q12_15
  obtain ⟨vs13, f13, l13, w13⟩ := r13
  dsimp only at f13
  subst f13
  obtain ⟨u13_0, s13_0, rfl, m13_0⟩ := cu_c l13
  obtain ⟨u13_1, s13_1, rfl, m13_1⟩ := cu_c m13_0
  obtain ⟨u13_2, s13_2, rfl, m13_2⟩ := cu_c m13_1
  obtain ⟨u13_3, s13_3, rfl, m13_3⟩ := cu_c m13_2
  obtain ⟨u13_4, s13_4, rfl, m13_4⟩ := cu_c m13_3
  obtain ⟨u13_5, s13_5, rfl, m13_5⟩ := cu_c m13_4
  obtain ⟨u13_6, s13_6, rfl, m13_6⟩ := cu_c m13_5
  cases cu_n m13_6
  obtain ⟨i13_0, q13_0⟩ := cu_I (w13 0 _ _ rfl rfl) rfl
  subst q13_0
  obtain ⟨i13_1, q13_1⟩ := cu_I (w13 1 _ _ rfl rfl) rfl
  subst q13_1
  obtain ⟨i13_2, q13_2⟩ := cu_I (w13 2 _ _ rfl rfl) rfl
  subst q13_2
  have q13_3 := cu_R (cu_ad hz h18) (w13 3 _ _ rfl rfl)
  subst q13_3
  have q13_4 := cu_R (cu_ad hz h59) (w13 4 _ _ rfl rfl)
  subst q13_4
  have q13_5 := cu_R (cu_ad hz h60) (w13 5 _ _ rfl rfl)
  subst q13_5
  obtain ⟨i13_6, q13_6⟩ := cu_I (w13 6 _ _ rfl rfl) rfl
  subst q13_6
  obtain ⟨vs9, f9, l9, w9⟩ := r9
  dsimp only at f9
  subst f9
  obtain ⟨u9_0, s9_0, rfl, m9_0⟩ := cu_c l9
  obtain ⟨u9_1, s9_1, rfl, m9_1⟩ := cu_c m9_0
  obtain ⟨u9_2, s9_2, rfl, m9_2⟩ := cu_c m9_1
  obtain ⟨u9_3, s9_3, rfl, m9_3⟩ := cu_c m9_2
  obtain ⟨u9_4, s9_4, rfl, m9_4⟩ := cu_c m9_3
  cases cu_n m9_4
  obtain ⟨i9_0, q9_0⟩ := cu_Rx (w9 0 _ _ rfl rfl)
  subst q9_0
  obtain ⟨i9_1, q9_1⟩ := cu_Rx (w9 1 _ _ rfl rfl)
  subst q9_1
  obtain ⟨i9_2, q9_2⟩ := cu_Rx (w9 2 _ _ rfl rfl)
  subst q9_2
  obtain ⟨i9_3, q9_3⟩ := cu_I (w9 3 _ _ rfl rfl) rfl
  subst q9_3
  obtain ⟨i9_4, q9_4⟩ := cu_I (w9 4 _ _ rfl rfl) rfl
  subst q9_4
  obtain ⟨vs15, f15, l15, w15⟩ := r15
  dsimp only at f15
  subst f15
  obtain ⟨u15_0, s15_0, rfl, m15_0⟩ := cu_c l15
  obtain ⟨u15_1, s15_1, rfl, m15_1⟩ := cu_c m15_0
  cases cu_n m15_1
  obtain ⟨i15_0, q15_0⟩ := cu_Rx (w15 0 _ _ rfl rfl)
  subst q15_0
  obtain ⟨i15_1, q15_1⟩ := cu_I (w15 1 _ _ rfl rfl) rfl
  subst q15_1
  have z3 := w3 1 _ _ rfl rfl
  subst q3_1
  refine ⟨((fun j => bif Nat.beq j 0 then i3_1 else bif Nat.beq j 1 then i3_2 else bif Nat.beq j 2 then i3_3 else bif Nat.beq j 3 then i3_4 else bif Nat.beq j 4 then i3_5 else bif Nat.beq j 5 then i3_7 else bif Nat.beq j 6 then i3_8 else bif Nat.beq j 7 then i3_9 else bif Nat.beq j 8 then i3_11 else bif Nat.beq j 9 then i3_12 else bif Nat.beq j 10 then i3_13 else bif Nat.beq j 11 then i12_0 else bif Nat.beq j 12 then i12_4 else bif Nat.beq j 13 then i12_9 else bif Nat.beq j 14 then i10_14 else bif Nat.beq j 15 then i10_16 else bif Nat.beq j 16 then i13_0 else bif Nat.beq j 17 then i13_1 else bif Nat.beq j 18 then i13_2 else bif Nat.beq j 19 then i13_6 else bif Nat.beq j 20 then i9_3 else bif Nat.beq j 21 then i9_4 else bif Nat.beq j 22 then i15_1 else (0 : Int32)), (fun j => bif Nat.beq j 0 then i3_6 else bif Nat.beq j 1 then i3_10 else (0 : Int64)), (fun j => bif Nat.beq j 0 then y17 else bif Nat.beq j 1 then y30 else bif Nat.beq j 2 then y42 else bif Nat.beq j 3 then y43 else bif Nat.beq j 4 then y44 else bif Nat.beq j 5 then y45 else bif Nat.beq j 6 then y46 else bif Nat.beq j 7 then y32 else bif Nat.beq j 8 then y48 else bif Nat.beq j 9 then y36 else bif Nat.beq j 10 then y49 else bif Nat.beq j 11 then y34 else bif Nat.beq j 12 then y40 else bif Nat.beq j 13 then y18 else bif Nat.beq j 14 then y59 else bif Nat.beq j 15 then y60 else (fun _ => (0 : Int32))), (fun j => bif Nat.beq j 0 then y38 else bif Nat.beq j 1 then y41 else bif Nat.beq j 2 then y47 else (fun _ => (0 : Int64)))), ([a10, a3, a17, a38, a39, a40, a12, a41, a30, a42, a43, a44, a45, a46, a47, a32, a48, a36, a49, a34, a13, a18, a59, a60, a9, a15], (fun j => bif Nat.beq j 0 then i10_2 else bif Nat.beq j 1 then i10_5 else bif Nat.beq j 2 then i10_8 else bif Nat.beq j 3 then i10_9 else bif Nat.beq j 4 then i10_10 else bif Nat.beq j 5 then i10_11 else bif Nat.beq j 6 then i10_12 else bif Nat.beq j 7 then i10_13 else bif Nat.beq j 8 then i10_15 else bif Nat.beq j 9 then i9_0 else bif Nat.beq j 10 then i9_1 else bif Nat.beq j 11 then i9_2 else bif Nat.beq j 12 then i15_0 else 0)), [(a10, .inr (10, [.ref a3, .ref a39, .ref i10_2, .ref a12, .ref a13, .ref i10_5, .ref a15, .ref a9, .ref i10_8, .ref i10_9, .ref i10_10, .ref i10_11, .ref i10_12, .ref i10_13, .int i10_14, .ref i10_15, .int i10_16])),
      (a3, .inr (4, [.ref a17, .int i3_1, .int i3_2, .int i3_3, .int i3_4, .int i3_5, .long i3_6, .int i3_7, .int i3_8, .int i3_9, .long i3_10, .int i3_11, .int i3_12, .int i3_13, .ref a38])),
      (a17, .inl (cA17, 940, .inl y17)),
      (a38, .inl (cA38, 22, .inr (.inl y38))),
      (a39, .inr (9, [.ref a40])),
      (a40, .inl (cA40, 3, .inl y40)),
      (a12, .inr (8, [.int i12_0, .ref a41, .ref a30, .ref a42, .int i12_4, .ref a43, .ref a44, .ref a45, .ref a46, .int i12_9, .ref a47, .ref a32, .ref a48, .ref a36, .ref a49, .ref a34])),
      (a41, .inl (cA41, 7, .inr (.inl y41))),
      (a30, .inl (cA30, 7, .inl y30)),
      (a42, .inl (cA42, 7, .inl y42)),
      (a43, .inl (cA43, 12, .inl y43)),
      (a44, .inl (cA44, 12, .inl y44)),
      (a45, .inl (cA45, 12, .inl y45)),
      (a46, .inl (cA46, 12, .inl y46)),
      (a47, .inl (cA47, 8, .inr (.inl y47))),
      (a32, .inl (cA32, 8, .inl y32)),
      (a48, .inl (cA48, 8, .inl y48)),
      (a36, .inl (cA36, 8, .inl y36)),
      (a49, .inl (cA49, 8, .inl y49)),
      (a34, .inl (cA34, 3, .inl y34)),
      (a13, .inr (7, [.int i13_0, .int i13_1, .int i13_2, .ref a18, .ref a59, .ref a60, .int i13_6])),
      (a18, .inl (cA18, 7, .inl y18)),
      (a59, .inl (cA59, 7, .inl y59)),
      (a60, .inl (cA60, 7, .inl y60)),
      (a9, .inr (6, [.ref i9_0, .ref i9_1, .ref i9_2, .int i9_3, .int i9_4])),
      (a15, .inr (1, [.ref i15_0, .int i15_1]))], ?_, ?_, cu_ev1 z3⟩
  · refine ⟨rfl, ⟨rfl, Nat.le_of_ble_eq_true rfl⟩, fun k c hk => ?_⟩
    match k, hk with
    | 0, hk => cases hk; exact ⟨_, rfl, rfl⟩
    | 1, hk => cases hk; exact ⟨_, rfl, rfl⟩
    | 2, hk => cases hk; exact ⟨_, rfl, Nat.le_of_ble_eq_true rfl, Nat.le_of_ble_eq_true rfl, ⟨_, rfl⟩, _, rfl, t17⟩
    | 3, hk => cases hk; exact ⟨_, rfl, Nat.le_of_ble_eq_true rfl, Nat.le_of_ble_eq_true rfl, ⟨_, rfl⟩, _, rfl, t38⟩
    | 4, hk => cases hk; exact ⟨_, rfl, rfl⟩
    | 5, hk => cases hk; exact ⟨_, rfl, Nat.le_of_ble_eq_true rfl, Nat.le_of_ble_eq_true rfl, ⟨_, rfl⟩, _, rfl, t40⟩
    | 6, hk => cases hk; exact ⟨_, rfl, rfl⟩
    | 7, hk => cases hk; exact ⟨_, rfl, Nat.le_of_ble_eq_true rfl, Nat.le_of_ble_eq_true rfl, ⟨_, rfl⟩, _, rfl, t41⟩
    | 8, hk => cases hk; exact ⟨_, rfl, Nat.le_of_ble_eq_true rfl, Nat.le_of_ble_eq_true rfl, ⟨_, rfl⟩, _, rfl, t30⟩
    | 9, hk => cases hk; exact ⟨_, rfl, Nat.le_of_ble_eq_true rfl, Nat.le_of_ble_eq_true rfl, ⟨_, rfl⟩, _, rfl, t42⟩
    | 10, hk => cases hk; exact ⟨_, rfl, Nat.le_of_ble_eq_true rfl, Nat.le_of_ble_eq_true rfl, ⟨_, rfl⟩, _, rfl, t43⟩
    | 11, hk => cases hk; exact ⟨_, rfl, Nat.le_of_ble_eq_true rfl, Nat.le_of_ble_eq_true rfl, ⟨_, rfl⟩, _, rfl, t44⟩
    | 12, hk => cases hk; exact ⟨_, rfl, Nat.le_of_ble_eq_true rfl, Nat.le_of_ble_eq_true rfl, ⟨_, rfl⟩, _, rfl, t45⟩
    | 13, hk => cases hk; exact ⟨_, rfl, Nat.le_of_ble_eq_true rfl, Nat.le_of_ble_eq_true rfl, ⟨_, rfl⟩, _, rfl, t46⟩
    | 14, hk => cases hk; exact ⟨_, rfl, Nat.le_of_ble_eq_true rfl, Nat.le_of_ble_eq_true rfl, ⟨_, rfl⟩, _, rfl, t47⟩
    | 15, hk => cases hk; exact ⟨_, rfl, Nat.le_of_ble_eq_true rfl, Nat.le_of_ble_eq_true rfl, ⟨_, rfl⟩, _, rfl, t32⟩
    | 16, hk => cases hk; exact ⟨_, rfl, Nat.le_of_ble_eq_true rfl, Nat.le_of_ble_eq_true rfl, ⟨_, rfl⟩, _, rfl, t48⟩
    | 17, hk => cases hk; exact ⟨_, rfl, Nat.le_of_ble_eq_true rfl, Nat.le_of_ble_eq_true rfl, ⟨_, rfl⟩, _, rfl, t36⟩
    | 18, hk => cases hk; exact ⟨_, rfl, Nat.le_of_ble_eq_true rfl, Nat.le_of_ble_eq_true rfl, ⟨_, rfl⟩, _, rfl, t49⟩
    | 19, hk => cases hk; exact ⟨_, rfl, Nat.le_of_ble_eq_true rfl, Nat.le_of_ble_eq_true rfl, ⟨_, rfl⟩, _, rfl, t34⟩
    | 20, hk => cases hk; exact ⟨_, rfl, rfl⟩
    | 21, hk => cases hk; exact ⟨_, rfl, Nat.le_of_ble_eq_true rfl, Nat.le_of_ble_eq_true rfl, ⟨_, rfl⟩, _, rfl, t18⟩
    | 22, hk => cases hk; exact ⟨_, rfl, Nat.le_of_ble_eq_true rfl, Nat.le_of_ble_eq_true rfl, ⟨_, rfl⟩, _, rfl, t59⟩
    | 23, hk => cases hk; exact ⟨_, rfl, Nat.le_of_ble_eq_true rfl, Nat.le_of_ble_eq_true rfl, ⟨_, rfl⟩, _, rfl, t60⟩
    | 24, hk => cases hk; exact ⟨_, rfl, rfl⟩
    | 25, hk => cases hk; exact ⟨_, rfl, rfl⟩
    | k + 26, hk => cases hk
  · simp only [List.map_cons, List.map_nil, h10, h3, h17, h38, h39, h40, h12, h41, h30, h42, h43, h44, h45, h46, h47, h32, h48, h36, h49, h34, h13, h18, h59, h60, h9, h15]
set_option maxRecDepth 100000 in
set_option maxHeartbeats 4000000 in
theorem cu_V_12_9 {X : ab_X} {z : ab_Z} {s : State} {ws : va_W} (hc : ∀ (k : Nat) (c : ab_C), k ∈ cu_KV → gl_L[k]? = some c → ∃ q, ws[k]? = some q ∧ ab_cR X z s c q.2) (hz : ws.map Prod.fst = z.2.2) (hl : ∃ ad, z.2.2[11]? = some ad ∧ cu_v ws 10 2 = .ref ad) (hd : ∃ ad, z.2.2[12]? = some ad ∧ cu_v ws 10 3 = .ref ad) (hs : ∃ ad, z.2.2[9]? = some ad ∧ cu_v ws 10 7 = .ref ad) : ∃ (σ : ex_S) (A : ex_A) (we : va_W) (u_towns u_terms u_trains : Int32) (p_townName p_trainName : Nat → Int64) (p_noon p_bendTold p_termTown p_termFrom p_termTo p_termBend p_trainFrom p_trainTo p_trainLeaves p_trainTakes p_settings : Nat → Int32), ex_wR X A s (WA (26, lw_L u_towns u_terms u_trains p_townName p_trainName p_noon p_bendTold p_termTown p_termFrom p_termTo p_termBend p_trainFrom p_trainTo p_trainLeaves p_trainTakes p_settings) 6 σ) we ∧ ([10, 3, 17, 38, 39, 40, 12, 41, 30, 42, 43, 44, 45, 46, 47, 32, 48, 36, 49, 34, 13, 18, 59, 60, 9, 15, 11, 50, 31, 51, 52, 53, 54, 55, 56, 33, 57, 37, 58, 35] : List Nat).map (fun k => ws[k]?) = we.map some ∧ z.1[1]? = some (σ.1 0) := by
  obtain ⟨⟨a10, e10⟩, h10, r10⟩ := hc 10 _ (by decide) rfl
  obtain ⟨⟨a3, e3⟩, h3, r3⟩ := hc 3 _ (by decide) rfl
  obtain ⟨⟨a17, e17⟩, h17, r17⟩ := hc 17 _ (by decide) rfl
  obtain ⟨⟨a38, e38⟩, h38, r38⟩ := hc 38 _ (by decide) rfl
  obtain ⟨⟨a39, e39⟩, h39, r39⟩ := hc 39 _ (by decide) rfl
  obtain ⟨⟨a40, e40⟩, h40, r40⟩ := hc 40 _ (by decide) rfl
  obtain ⟨⟨a12, e12⟩, h12, r12⟩ := hc 12 _ (by decide) rfl
  obtain ⟨⟨a41, e41⟩, h41, r41⟩ := hc 41 _ (by decide) rfl
  obtain ⟨⟨a30, e30⟩, h30, r30⟩ := hc 30 _ (by decide) rfl
  obtain ⟨⟨a42, e42⟩, h42, r42⟩ := hc 42 _ (by decide) rfl
  obtain ⟨⟨a43, e43⟩, h43, r43⟩ := hc 43 _ (by decide) rfl
  obtain ⟨⟨a44, e44⟩, h44, r44⟩ := hc 44 _ (by decide) rfl
  obtain ⟨⟨a45, e45⟩, h45, r45⟩ := hc 45 _ (by decide) rfl
  obtain ⟨⟨a46, e46⟩, h46, r46⟩ := hc 46 _ (by decide) rfl
  obtain ⟨⟨a47, e47⟩, h47, r47⟩ := hc 47 _ (by decide) rfl
  obtain ⟨⟨a32, e32⟩, h32, r32⟩ := hc 32 _ (by decide) rfl
  obtain ⟨⟨a48, e48⟩, h48, r48⟩ := hc 48 _ (by decide) rfl
  obtain ⟨⟨a36, e36⟩, h36, r36⟩ := hc 36 _ (by decide) rfl
  obtain ⟨⟨a49, e49⟩, h49, r49⟩ := hc 49 _ (by decide) rfl
  obtain ⟨⟨a34, e34⟩, h34, r34⟩ := hc 34 _ (by decide) rfl
  obtain ⟨⟨a13, e13⟩, h13, r13⟩ := hc 13 _ (by decide) rfl
  obtain ⟨⟨a18, e18⟩, h18, r18⟩ := hc 18 _ (by decide) rfl
  obtain ⟨⟨a59, e59⟩, h59, r59⟩ := hc 59 _ (by decide) rfl
  obtain ⟨⟨a60, e60⟩, h60, r60⟩ := hc 60 _ (by decide) rfl
  obtain ⟨⟨a9, e9⟩, h9, r9⟩ := hc 9 _ (by decide) rfl
  obtain ⟨⟨a15, e15⟩, h15, r15⟩ := hc 15 _ (by decide) rfl
  obtain ⟨⟨a11, e11⟩, h11, r11⟩ := hc 11 _ (by decide) rfl
  obtain ⟨⟨a50, e50⟩, h50, r50⟩ := hc 50 _ (by decide) rfl
  obtain ⟨⟨a31, e31⟩, h31, r31⟩ := hc 31 _ (by decide) rfl
  obtain ⟨⟨a51, e51⟩, h51, r51⟩ := hc 51 _ (by decide) rfl
  obtain ⟨⟨a52, e52⟩, h52, r52⟩ := hc 52 _ (by decide) rfl
  obtain ⟨⟨a53, e53⟩, h53, r53⟩ := hc 53 _ (by decide) rfl
  obtain ⟨⟨a54, e54⟩, h54, r54⟩ := hc 54 _ (by decide) rfl
  obtain ⟨⟨a55, e55⟩, h55, r55⟩ := hc 55 _ (by decide) rfl
  obtain ⟨⟨a56, e56⟩, h56, r56⟩ := hc 56 _ (by decide) rfl
  obtain ⟨⟨a33, e33⟩, h33, r33⟩ := hc 33 _ (by decide) rfl
  obtain ⟨⟨a57, e57⟩, h57, r57⟩ := hc 57 _ (by decide) rfl
  obtain ⟨⟨a37, e37⟩, h37, r37⟩ := hc 37 _ (by decide) rfl
  obtain ⟨⟨a58, e58⟩, h58, r58⟩ := hc 58 _ (by decide) rfl
  obtain ⟨⟨a35, e35⟩, h35, r35⟩ := hc 35 _ (by decide) rfl
  obtain ⟨cA17, x17, f17, ⟨y17, g17⟩, t17, -⟩ := r17
  dsimp only at f17
  subst f17 g17
  obtain ⟨cA38, x38, f38, ⟨y38, g38⟩, t38, -⟩ := r38
  dsimp only at f38
  subst f38 g38
  obtain ⟨cA40, x40, f40, ⟨y40, g40⟩, t40, -⟩ := r40
  dsimp only at f40
  subst f40 g40
  obtain ⟨cA41, x41, f41, ⟨y41, g41⟩, t41, -⟩ := r41
  dsimp only at f41
  subst f41 g41
  obtain ⟨cA30, x30, f30, ⟨y30, g30⟩, t30, -⟩ := r30
  dsimp only at f30
  subst f30 g30
  obtain ⟨cA42, x42, f42, ⟨y42, g42⟩, t42, -⟩ := r42
  dsimp only at f42
  subst f42 g42
  obtain ⟨cA43, x43, f43, ⟨y43, g43⟩, t43, -⟩ := r43
  dsimp only at f43
  subst f43 g43
  obtain ⟨cA44, x44, f44, ⟨y44, g44⟩, t44, -⟩ := r44
  dsimp only at f44
  subst f44 g44
  obtain ⟨cA45, x45, f45, ⟨y45, g45⟩, t45, -⟩ := r45
  dsimp only at f45
  subst f45 g45
  obtain ⟨cA46, x46, f46, ⟨y46, g46⟩, t46, -⟩ := r46
  dsimp only at f46
  subst f46 g46
  obtain ⟨cA47, x47, f47, ⟨y47, g47⟩, t47, -⟩ := r47
  dsimp only at f47
  subst f47 g47
  obtain ⟨cA32, x32, f32, ⟨y32, g32⟩, t32, -⟩ := r32
  dsimp only at f32
  subst f32 g32
  obtain ⟨cA48, x48, f48, ⟨y48, g48⟩, t48, -⟩ := r48
  dsimp only at f48
  subst f48 g48
  obtain ⟨cA36, x36, f36, ⟨y36, g36⟩, t36, -⟩ := r36
  dsimp only at f36
  subst f36 g36
  obtain ⟨cA49, x49, f49, ⟨y49, g49⟩, t49, -⟩ := r49
  dsimp only at f49
  subst f49 g49
  obtain ⟨cA34, x34, f34, ⟨y34, g34⟩, t34, -⟩ := r34
  dsimp only at f34
  subst f34 g34
  obtain ⟨cA18, x18, f18, ⟨y18, g18⟩, t18, -⟩ := r18
  dsimp only at f18
  subst f18 g18
  obtain ⟨cA59, x59, f59, ⟨y59, g59⟩, t59, -⟩ := r59
  dsimp only at f59
  subst f59 g59
  obtain ⟨cA60, x60, f60, ⟨y60, g60⟩, t60, -⟩ := r60
  dsimp only at f60
  subst f60 g60
  obtain ⟨cA50, x50, f50, ⟨y50, g50⟩, t50, -⟩ := r50
  dsimp only at f50
  subst f50 g50
  obtain ⟨cA31, x31, f31, ⟨y31, g31⟩, t31, -⟩ := r31
  dsimp only at f31
  subst f31 g31
  obtain ⟨cA51, x51, f51, ⟨y51, g51⟩, t51, -⟩ := r51
  dsimp only at f51
  subst f51 g51
  obtain ⟨cA52, x52, f52, ⟨y52, g52⟩, t52, -⟩ := r52
  dsimp only at f52
  subst f52 g52
  obtain ⟨cA53, x53, f53, ⟨y53, g53⟩, t53, -⟩ := r53
  dsimp only at f53
  subst f53 g53
  obtain ⟨cA54, x54, f54, ⟨y54, g54⟩, t54, -⟩ := r54
  dsimp only at f54
  subst f54 g54
  obtain ⟨cA55, x55, f55, ⟨y55, g55⟩, t55, -⟩ := r55
  dsimp only at f55
  subst f55 g55
  obtain ⟨cA56, x56, f56, ⟨y56, g56⟩, t56, -⟩ := r56
  dsimp only at f56
  subst f56 g56
  obtain ⟨cA33, x33, f33, ⟨y33, g33⟩, t33, -⟩ := r33
  dsimp only at f33
  subst f33 g33
  obtain ⟨cA57, x57, f57, ⟨y57, g57⟩, t57, -⟩ := r57
  dsimp only at f57
  subst f57 g57
  obtain ⟨cA37, x37, f37, ⟨y37, g37⟩, t37, -⟩ := r37
  dsimp only at f37
  subst f37 g37
  obtain ⟨cA58, x58, f58, ⟨y58, g58⟩, t58, -⟩ := r58
  dsimp only at f58
  subst f58 g58
  obtain ⟨cA35, x35, f35, ⟨y35, g35⟩, t35, -⟩ := r35
  dsimp only at f35
  subst f35 g35
  obtain ⟨vs10, f10, l10, w10⟩ := r10
  dsimp only at f10
  subst f10
  obtain ⟨u10_0, s10_0, rfl, m10_0⟩ := cu_c l10
  obtain ⟨u10_1, s10_1, rfl, m10_1⟩ := cu_c m10_0
  obtain ⟨u10_2, s10_2, rfl, m10_2⟩ := cu_c m10_1
  obtain ⟨u10_3, s10_3, rfl, m10_3⟩ := cu_c m10_2
  obtain ⟨u10_4, s10_4, rfl, m10_4⟩ := cu_c m10_3
  obtain ⟨u10_5, s10_5, rfl, m10_5⟩ := cu_c m10_4
  obtain ⟨u10_6, s10_6, rfl, m10_6⟩ := cu_c m10_5
  obtain ⟨u10_7, s10_7, rfl, m10_7⟩ := cu_c m10_6
  obtain ⟨u10_8, s10_8, rfl, m10_8⟩ := cu_c m10_7
  obtain ⟨u10_9, s10_9, rfl, m10_9⟩ := cu_c m10_8
  obtain ⟨u10_10, s10_10, rfl, m10_10⟩ := cu_c m10_9
  obtain ⟨u10_11, s10_11, rfl, m10_11⟩ := cu_c m10_10
  obtain ⟨u10_12, s10_12, rfl, m10_12⟩ := cu_c m10_11
  obtain ⟨u10_13, s10_13, rfl, m10_13⟩ := cu_c m10_12
  obtain ⟨u10_14, s10_14, rfl, m10_14⟩ := cu_c m10_13
  obtain ⟨u10_15, s10_15, rfl, m10_15⟩ := cu_c m10_14
  obtain ⟨u10_16, s10_16, rfl, m10_16⟩ := cu_c m10_15
  cases cu_n m10_16
  have q10_0 := cu_R (cu_ad hz h3) (w10 0 _ _ rfl rfl)
  subst q10_0
  have q10_1 := cu_R (cu_ad hz h39) (w10 1 _ _ rfl rfl)
  subst q10_1
  have q10_2 : u10_2 = .ref a11 := by
    obtain ⟨ad, e1, e2⟩ := hl
    have e3 := e1.symm.trans (cu_ad hz h11)
    cases e3
    rw [cu_v_of h10] at e2
    exact e2
  subst q10_2
  have q10_3 : u10_3 = .ref a12 := by
    obtain ⟨ad, e1, e2⟩ := hd
    have e3 := e1.symm.trans (cu_ad hz h12)
    cases e3
    rw [cu_v_of h10] at e2
    exact e2
  subst q10_3
  have q10_4 := cu_R (cu_ad hz h13) (w10 4 _ _ rfl rfl)
  subst q10_4
  obtain ⟨i10_5, q10_5⟩ := cu_Rx (w10 5 _ _ rfl rfl)
  subst q10_5
  have q10_6 := cu_R (cu_ad hz h15) (w10 6 _ _ rfl rfl)
  subst q10_6
  have q10_7 : u10_7 = .ref a9 := by
    obtain ⟨ad, e1, e2⟩ := hs
    have e3 := e1.symm.trans (cu_ad hz h9)
    cases e3
    rw [cu_v_of h10] at e2
    exact e2
  subst q10_7
  obtain ⟨i10_8, q10_8⟩ := cu_Rx (w10 8 _ _ rfl rfl)
  subst q10_8
  obtain ⟨i10_9, q10_9⟩ := cu_Rx (w10 9 _ _ rfl rfl)
  subst q10_9
  obtain ⟨i10_10, q10_10⟩ := cu_Rx (w10 10 _ _ rfl rfl)
  subst q10_10
  obtain ⟨i10_11, q10_11⟩ := cu_Rx (w10 11 _ _ rfl rfl)
  subst q10_11
  obtain ⟨i10_12, q10_12⟩ := cu_Rx (w10 12 _ _ rfl rfl)
  subst q10_12
  obtain ⟨i10_13, q10_13⟩ := cu_Rx (w10 13 _ _ rfl rfl)
  subst q10_13
  obtain ⟨i10_14, q10_14⟩ := cu_I (w10 14 _ _ rfl rfl) rfl
  subst q10_14
  obtain ⟨i10_15, q10_15⟩ := cu_Rx (w10 15 _ _ rfl rfl)
  subst q10_15
  obtain ⟨i10_16, q10_16⟩ := cu_I (w10 16 _ _ rfl rfl) rfl
  subst q10_16
  obtain ⟨vs3, f3, l3, w3⟩ := r3
  dsimp only at f3
  subst f3
  obtain ⟨u3_0, s3_0, rfl, m3_0⟩ := cu_c l3
  obtain ⟨u3_1, s3_1, rfl, m3_1⟩ := cu_c m3_0
  obtain ⟨u3_2, s3_2, rfl, m3_2⟩ := cu_c m3_1
  obtain ⟨u3_3, s3_3, rfl, m3_3⟩ := cu_c m3_2
  obtain ⟨u3_4, s3_4, rfl, m3_4⟩ := cu_c m3_3
  obtain ⟨u3_5, s3_5, rfl, m3_5⟩ := cu_c m3_4
  obtain ⟨u3_6, s3_6, rfl, m3_6⟩ := cu_c m3_5
  obtain ⟨u3_7, s3_7, rfl, m3_7⟩ := cu_c m3_6
  obtain ⟨u3_8, s3_8, rfl, m3_8⟩ := cu_c m3_7
  obtain ⟨u3_9, s3_9, rfl, m3_9⟩ := cu_c m3_8
  obtain ⟨u3_10, s3_10, rfl, m3_10⟩ := cu_c m3_9
  obtain ⟨u3_11, s3_11, rfl, m3_11⟩ := cu_c m3_10
  obtain ⟨u3_12, s3_12, rfl, m3_12⟩ := cu_c m3_11
  obtain ⟨u3_13, s3_13, rfl, m3_13⟩ := cu_c m3_12
  obtain ⟨u3_14, s3_14, rfl, m3_14⟩ := cu_c m3_13
  cases cu_n m3_14
  have q3_0 := cu_R (cu_ad hz h17) (w3 0 _ _ rfl rfl)
  subst q3_0
  obtain ⟨i3_1, q3_1⟩ := cu_I (w3 1 _ _ rfl rfl) rfl
  obtain ⟨i3_2, q3_2⟩ := cu_I (w3 2 _ _ rfl rfl) rfl
  subst q3_2
  obtain ⟨i3_3, q3_3⟩ := cu_I (w3 3 _ _ rfl rfl) rfl
  subst q3_3
  obtain ⟨i3_4, q3_4⟩ := cu_I (w3 4 _ _ rfl rfl) rfl
  subst q3_4
  obtain ⟨i3_5, q3_5⟩ := cu_I (w3 5 _ _ rfl rfl) rfl
  subst q3_5
  obtain ⟨i3_6, q3_6⟩ := cu_L (w3 6 _ _ rfl rfl) rfl
  subst q3_6
  obtain ⟨i3_7, q3_7⟩ := cu_I (w3 7 _ _ rfl rfl) rfl
  subst q3_7
  obtain ⟨i3_8, q3_8⟩ := cu_I (w3 8 _ _ rfl rfl) rfl
  subst q3_8
  obtain ⟨i3_9, q3_9⟩ := cu_I (w3 9 _ _ rfl rfl) rfl
  subst q3_9
  obtain ⟨i3_10, q3_10⟩ := cu_L (w3 10 _ _ rfl rfl) rfl
  subst q3_10
  obtain ⟨i3_11, q3_11⟩ := cu_I (w3 11 _ _ rfl rfl) rfl
  subst q3_11
  obtain ⟨i3_12, q3_12⟩ := cu_I (w3 12 _ _ rfl rfl) rfl
  subst q3_12
  obtain ⟨i3_13, q3_13⟩ := cu_I (w3 13 _ _ rfl rfl) rfl
  subst q3_13
  have q3_14 := cu_R (cu_ad hz h38) (w3 14 _ _ rfl rfl)
  subst q3_14
  obtain ⟨vs39, f39, l39, w39⟩ := r39
  dsimp only at f39
  subst f39
  obtain ⟨u39_0, s39_0, rfl, m39_0⟩ := cu_c l39
  cases cu_n m39_0
  have q39_0 := cu_R (cu_ad hz h40) (w39 0 _ _ rfl rfl)
  subst q39_0
  obtain ⟨vs12, f12, l12, w12⟩ := r12
  dsimp only at f12
  subst f12
  obtain ⟨u12_0, s12_0, rfl, m12_0⟩ := cu_c l12
  obtain ⟨u12_1, s12_1, rfl, m12_1⟩ := cu_c m12_0
  obtain ⟨u12_2, s12_2, rfl, m12_2⟩ := cu_c m12_1
  obtain ⟨u12_3, s12_3, rfl, m12_3⟩ := cu_c m12_2
  obtain ⟨u12_4, s12_4, rfl, m12_4⟩ := cu_c m12_3
  obtain ⟨u12_5, s12_5, rfl, m12_5⟩ := cu_c m12_4
  obtain ⟨u12_6, s12_6, rfl, m12_6⟩ := cu_c m12_5
  obtain ⟨u12_7, s12_7, rfl, m12_7⟩ := cu_c m12_6
  obtain ⟨u12_8, s12_8, rfl, m12_8⟩ := cu_c m12_7
  obtain ⟨u12_9, s12_9, rfl, m12_9⟩ := cu_c m12_8
  obtain ⟨u12_10, s12_10, rfl, m12_10⟩ := cu_c m12_9
  obtain ⟨u12_11, s12_11, rfl, m12_11⟩ := cu_c m12_10
  obtain ⟨u12_12, s12_12, rfl, m12_12⟩ := cu_c m12_11
  obtain ⟨u12_13, s12_13, rfl, m12_13⟩ := cu_c m12_12
  obtain ⟨u12_14, s12_14, rfl, m12_14⟩ := cu_c m12_13
  obtain ⟨u12_15, s12_15, rfl, m12_15⟩ := cu_c m12_14
  cases cu_n m12_15
  obtain ⟨i12_0, q12_0⟩ := cu_I (w12 0 _ _ rfl rfl) rfl
  subst q12_0
  have q12_1 := cu_R (cu_ad hz h41) (w12 1 _ _ rfl rfl)
  subst q12_1
  have q12_2 := cu_R (cu_ad hz h30) (w12 2 _ _ rfl rfl)
  subst q12_2
  have q12_3 := cu_R (cu_ad hz h42) (w12 3 _ _ rfl rfl)
  subst q12_3
  obtain ⟨i12_4, q12_4⟩ := cu_I (w12 4 _ _ rfl rfl) rfl
  subst q12_4
  have q12_5 := cu_R (cu_ad hz h43) (w12 5 _ _ rfl rfl)
  subst q12_5
  have q12_6 := cu_R (cu_ad hz h44) (w12 6 _ _ rfl rfl)
  subst q12_6
  have q12_7 := cu_R (cu_ad hz h45) (w12 7 _ _ rfl rfl)
  subst q12_7
  have q12_8 := cu_R (cu_ad hz h46) (w12 8 _ _ rfl rfl)
  subst q12_8
  obtain ⟨i12_9, q12_9⟩ := cu_I (w12 9 _ _ rfl rfl) rfl
  subst q12_9
  have q12_10 := cu_R (cu_ad hz h47) (w12 10 _ _ rfl rfl)
  subst q12_10
  have q12_11 := cu_R (cu_ad hz h32) (w12 11 _ _ rfl rfl)
  subst q12_11
  have q12_12 := cu_R (cu_ad hz h48) (w12 12 _ _ rfl rfl)
  subst q12_12
  have q12_13 := cu_R (cu_ad hz h36) (w12 13 _ _ rfl rfl)
  subst q12_13
  have q12_14 := cu_R (cu_ad hz h49) (w12 14 _ _ rfl rfl)
  subst q12_14
  have q12_15 := cu_R (cu_ad hz h34) (w12 15 _ _ rfl rfl)
  subst q12_15
  obtain ⟨vs13, f13, l13, w13⟩ := r13
  dsimp only at f13
  subst f13
  obtain ⟨u13_0, s13_0, rfl, m13_0⟩ := cu_c l13
  obtain ⟨u13_1, s13_1, rfl, m13_1⟩ := cu_c m13_0
  obtain ⟨u13_2, s13_2, rfl, m13_2⟩ := cu_c m13_1
  obtain ⟨u13_3, s13_3, rfl, m13_3⟩ := cu_c m13_2
  obtain ⟨u13_4, s13_4, rfl, m13_4⟩ := cu_c m13_3
  obtain ⟨u13_5, s13_5, rfl, m13_5⟩ := cu_c m13_4
  obtain ⟨u13_6, s13_6, rfl, m13_6⟩ := cu_c m13_5
  cases cu_n m13_6
  obtain ⟨i13_0, q13_0⟩ := cu_I (w13 0 _ _ rfl rfl) rfl
  subst q13_0
  obtain ⟨i13_1, q13_1⟩ := cu_I (w13 1 _ _ rfl rfl) rfl
  subst q13_1
  obtain ⟨i13_2, q13_2⟩ := cu_I (w13 2 _ _ rfl rfl) rfl
  subst q13_2
  have q13_3 := cu_R (cu_ad hz h18) (w13 3 _ _ rfl rfl)
  subst q13_3
  have q13_4 := cu_R (cu_ad hz h59) (w13 4 _ _ rfl rfl)
  subst q13_4
  have q13_5 := cu_R (cu_ad hz h60) (w13 5 _ _ rfl rfl)
  subst q13_5
  obtain ⟨i13_6, q13_6⟩ := cu_I (w13 6 _ _ rfl rfl) rfl
  subst q13_6
  obtain ⟨vs9, f9, l9, w9⟩ := r9
  dsimp only at f9
  subst f9
  obtain ⟨u9_0, s9_0, rfl, m9_0⟩ := cu_c l9
  obtain ⟨u9_1, s9_1, rfl, m9_1⟩ := cu_c m9_0
  obtain ⟨u9_2, s9_2, rfl, m9_2⟩ := cu_c m9_1
  obtain ⟨u9_3, s9_3, rfl, m9_3⟩ := cu_c m9_2
  obtain ⟨u9_4, s9_4, rfl, m9_4⟩ := cu_c m9_3
  cases cu_n m9_4
  obtain ⟨i9_0, q9_0⟩ := cu_Rx (w9 0 _ _ rfl rfl)
  subst q9_0
  obtain ⟨i9_1, q9_1⟩ := cu_Rx (w9 1 _ _ rfl rfl)
  subst q9_1
  obtain ⟨i9_2, q9_2⟩ := cu_Rx (w9 2 _ _ rfl rfl)
  subst q9_2
  obtain ⟨i9_3, q9_3⟩ := cu_I (w9 3 _ _ rfl rfl) rfl
  subst q9_3
  obtain ⟨i9_4, q9_4⟩ := cu_I (w9 4 _ _ rfl rfl) rfl
  subst q9_4
  obtain ⟨vs15, f15, l15, w15⟩ := r15
  dsimp only at f15
  subst f15
  obtain ⟨u15_0, s15_0, rfl, m15_0⟩ := cu_c l15
  obtain ⟨u15_1, s15_1, rfl, m15_1⟩ := cu_c m15_0
  cases cu_n m15_1
  obtain ⟨i15_0, q15_0⟩ := cu_Rx (w15 0 _ _ rfl rfl)
  subst q15_0
  obtain ⟨i15_1, q15_1⟩ := cu_I (w15 1 _ _ rfl rfl) rfl
  subst q15_1
  obtain ⟨vs11, f11, l11, w11⟩ := r11
  dsimp only at f11
  subst f11
  obtain ⟨u11_0, s11_0, rfl, m11_0⟩ := cu_c l11
  obtain ⟨u11_1, s11_1, rfl, m11_1⟩ := cu_c m11_0
  obtain ⟨u11_2, s11_2, rfl, m11_2⟩ := cu_c m11_1
  obtain ⟨u11_3, s11_3, rfl, m11_3⟩ := cu_c m11_2
  obtain ⟨u11_4, s11_4, rfl, m11_4⟩ := cu_c m11_3
  obtain ⟨u11_5, s11_5, rfl, m11_5⟩ := cu_c m11_4
  obtain ⟨u11_6, s11_6, rfl, m11_6⟩ := cu_c m11_5
  obtain ⟨u11_7, s11_7, rfl, m11_7⟩ := cu_c m11_6
  obtain ⟨u11_8, s11_8, rfl, m11_8⟩ := cu_c m11_7
  obtain ⟨u11_9, s11_9, rfl, m11_9⟩ := cu_c m11_8
  obtain ⟨u11_10, s11_10, rfl, m11_10⟩ := cu_c m11_9
  obtain ⟨u11_11, s11_11, rfl, m11_11⟩ := cu_c m11_10
  obtain ⟨u11_12, s11_12, rfl, m11_12⟩ := cu_c m11_11
  obtain ⟨u11_13, s11_13, rfl, m11_13⟩ := cu_c m11_12
  obtain ⟨u11_14, s11_14, rfl, m11_14⟩ := cu_c m11_13
  obtain ⟨u11_15, s11_15, rfl, m11_15⟩ := cu_c m11_14
  cases cu_n m11_15
  obtain ⟨i11_0, q11_0⟩ := cu_I (w11 0 _ _ rfl rfl) rfl
  subst q11_0
  have q11_1 := cu_R (cu_ad hz h50) (w11 1 _ _ rfl rfl)
  subst q11_1
  have q11_2 := cu_R (cu_ad hz h31) (w11 2 _ _ rfl rfl)
  subst q11_2
  have q11_3 := cu_R (cu_ad hz h51) (w11 3 _ _ rfl rfl)
  subst q11_3
  obtain ⟨i11_4, q11_4⟩ := cu_I (w11 4 _ _ rfl rfl) rfl
  subst q11_4
  have q11_5 := cu_R (cu_ad hz h52) (w11 5 _ _ rfl rfl)
  subst q11_5
  have q11_6 := cu_R (cu_ad hz h53) (w11 6 _ _ rfl rfl)
  subst q11_6
  have q11_7 := cu_R (cu_ad hz h54) (w11 7 _ _ rfl rfl)
  subst q11_7
  have q11_8 := cu_R (cu_ad hz h55) (w11 8 _ _ rfl rfl)
  subst q11_8
  obtain ⟨i11_9, q11_9⟩ := cu_I (w11 9 _ _ rfl rfl) rfl
  subst q11_9
  have q11_10 := cu_R (cu_ad hz h56) (w11 10 _ _ rfl rfl)
  subst q11_10
  have q11_11 := cu_R (cu_ad hz h33) (w11 11 _ _ rfl rfl)
  subst q11_11
  have q11_12 := cu_R (cu_ad hz h57) (w11 12 _ _ rfl rfl)
  subst q11_12
  have q11_13 := cu_R (cu_ad hz h37) (w11 13 _ _ rfl rfl)
  subst q11_13
  have q11_14 := cu_R (cu_ad hz h58) (w11 14 _ _ rfl rfl)
  subst q11_14
  have q11_15 := cu_R (cu_ad hz h35) (w11 15 _ _ rfl rfl)
  subst q11_15
  have z3 := w3 1 _ _ rfl rfl
  subst q3_1
  refine ⟨((fun j => bif Nat.beq j 0 then i3_1 else bif Nat.beq j 1 then i3_2 else bif Nat.beq j 2 then i3_3 else bif Nat.beq j 3 then i3_4 else bif Nat.beq j 4 then i3_5 else bif Nat.beq j 5 then i3_7 else bif Nat.beq j 6 then i3_8 else bif Nat.beq j 7 then i3_9 else bif Nat.beq j 8 then i3_11 else bif Nat.beq j 9 then i3_12 else bif Nat.beq j 10 then i3_13 else bif Nat.beq j 11 then i12_0 else bif Nat.beq j 12 then i12_4 else bif Nat.beq j 13 then i12_9 else bif Nat.beq j 14 then i10_14 else bif Nat.beq j 15 then i10_16 else bif Nat.beq j 16 then i13_0 else bif Nat.beq j 17 then i13_1 else bif Nat.beq j 18 then i13_2 else bif Nat.beq j 19 then i13_6 else bif Nat.beq j 20 then i9_3 else bif Nat.beq j 21 then i9_4 else bif Nat.beq j 22 then i15_1 else (0 : Int32)), (fun j => bif Nat.beq j 0 then i3_6 else bif Nat.beq j 1 then i3_10 else (0 : Int64)), (fun j => bif Nat.beq j 0 then y17 else bif Nat.beq j 1 then y30 else bif Nat.beq j 2 then y42 else bif Nat.beq j 3 then y43 else bif Nat.beq j 4 then y44 else bif Nat.beq j 5 then y45 else bif Nat.beq j 6 then y46 else bif Nat.beq j 7 then y32 else bif Nat.beq j 8 then y48 else bif Nat.beq j 9 then y36 else bif Nat.beq j 10 then y49 else bif Nat.beq j 11 then y34 else bif Nat.beq j 12 then y40 else bif Nat.beq j 13 then y18 else bif Nat.beq j 14 then y59 else bif Nat.beq j 15 then y60 else (fun _ => (0 : Int32))), (fun j => bif Nat.beq j 0 then y38 else bif Nat.beq j 1 then y41 else bif Nat.beq j 2 then y47 else (fun _ => (0 : Int64)))), ([a10, a3, a17, a38, a39, a40, a12, a41, a30, a42, a43, a44, a45, a46, a47, a32, a48, a36, a49, a34, a13, a18, a59, a60, a9, a15, a11, a50, a31, a51, a52, a53, a54, a55, a56, a33, a57, a37, a58, a35], (fun j => bif Nat.beq j 1 then i10_5 else bif Nat.beq j 2 then i10_8 else bif Nat.beq j 3 then i10_9 else bif Nat.beq j 4 then i10_10 else bif Nat.beq j 5 then i10_11 else bif Nat.beq j 6 then i10_12 else bif Nat.beq j 7 then i10_13 else bif Nat.beq j 8 then i10_15 else bif Nat.beq j 9 then i9_0 else bif Nat.beq j 10 then i9_1 else bif Nat.beq j 11 then i9_2 else bif Nat.beq j 12 then i15_0 else 0)), [(a10, .inr (10, [.ref a3, .ref a39, .ref a11, .ref a12, .ref a13, .ref i10_5, .ref a15, .ref a9, .ref i10_8, .ref i10_9, .ref i10_10, .ref i10_11, .ref i10_12, .ref i10_13, .int i10_14, .ref i10_15, .int i10_16])),
      (a3, .inr (4, [.ref a17, .int i3_1, .int i3_2, .int i3_3, .int i3_4, .int i3_5, .long i3_6, .int i3_7, .int i3_8, .int i3_9, .long i3_10, .int i3_11, .int i3_12, .int i3_13, .ref a38])),
      (a17, .inl (cA17, 940, .inl y17)),
      (a38, .inl (cA38, 22, .inr (.inl y38))),
      (a39, .inr (9, [.ref a40])),
      (a40, .inl (cA40, 3, .inl y40)),
      (a12, .inr (8, [.int i12_0, .ref a41, .ref a30, .ref a42, .int i12_4, .ref a43, .ref a44, .ref a45, .ref a46, .int i12_9, .ref a47, .ref a32, .ref a48, .ref a36, .ref a49, .ref a34])),
      (a41, .inl (cA41, 7, .inr (.inl y41))),
      (a30, .inl (cA30, 7, .inl y30)),
      (a42, .inl (cA42, 7, .inl y42)),
      (a43, .inl (cA43, 12, .inl y43)),
      (a44, .inl (cA44, 12, .inl y44)),
      (a45, .inl (cA45, 12, .inl y45)),
      (a46, .inl (cA46, 12, .inl y46)),
      (a47, .inl (cA47, 8, .inr (.inl y47))),
      (a32, .inl (cA32, 8, .inl y32)),
      (a48, .inl (cA48, 8, .inl y48)),
      (a36, .inl (cA36, 8, .inl y36)),
      (a49, .inl (cA49, 8, .inl y49)),
      (a34, .inl (cA34, 3, .inl y34)),
      (a13, .inr (7, [.int i13_0, .int i13_1, .int i13_2, .ref a18, .ref a59, .ref a60, .int i13_6])),
      (a18, .inl (cA18, 7, .inl y18)),
      (a59, .inl (cA59, 7, .inl y59)),
      (a60, .inl (cA60, 7, .inl y60)),
      (a9, .inr (6, [.ref i9_0, .ref i9_1, .ref i9_2, .int i9_3, .int i9_4])),
      (a15, .inr (1, [.ref i15_0, .int i15_1])),
      (a11, .inr (8, [.int i11_0, .ref a50, .ref a31, .ref a51, .int i11_4, .ref a52, .ref a53, .ref a54, .ref a55, .int i11_9, .ref a56, .ref a33, .ref a57, .ref a37, .ref a58, .ref a35])),
      (a50, .inl (cA50, 7, .inr (.inl y50))),
      (a31, .inl (cA31, 7, .inl y31)),
      (a51, .inl (cA51, 7, .inl y51)),
      (a52, .inl (cA52, 12, .inl y52)),
      (a53, .inl (cA53, 12, .inl y53)),
      (a54, .inl (cA54, 12, .inl y54)),
      (a55, .inl (cA55, 12, .inl y55)),
      (a56, .inl (cA56, 8, .inr (.inl y56))),
      (a33, .inl (cA33, 8, .inl y33)),
      (a57, .inl (cA57, 8, .inl y57)),
      (a37, .inl (cA37, 8, .inl y37)),
      (a58, .inl (cA58, 8, .inl y58)),
      (a35, .inl (cA35, 3, .inl y35))], i11_0, i11_4, i11_9, y50, y56, y31, y51, y52, y53, y54, y55, y33, y57, y37, y58, y35, ?_, ?_, cu_ev1 z3⟩
  · refine ⟨rfl, ⟨rfl, Nat.le_of_ble_eq_true rfl⟩, fun k c hk => ?_⟩
    match k, hk with
    | 0, hk => cases hk; exact ⟨_, rfl, rfl⟩
    | 1, hk => cases hk; exact ⟨_, rfl, rfl⟩
    | 2, hk => cases hk; exact ⟨_, rfl, Nat.le_of_ble_eq_true rfl, Nat.le_of_ble_eq_true rfl, ⟨_, rfl⟩, _, rfl, t17⟩
    | 3, hk => cases hk; exact ⟨_, rfl, Nat.le_of_ble_eq_true rfl, Nat.le_of_ble_eq_true rfl, ⟨_, rfl⟩, _, rfl, t38⟩
    | 4, hk => cases hk; exact ⟨_, rfl, rfl⟩
    | 5, hk => cases hk; exact ⟨_, rfl, Nat.le_of_ble_eq_true rfl, Nat.le_of_ble_eq_true rfl, ⟨_, rfl⟩, _, rfl, t40⟩
    | 6, hk => cases hk; exact ⟨_, rfl, rfl⟩
    | 7, hk => cases hk; exact ⟨_, rfl, Nat.le_of_ble_eq_true rfl, Nat.le_of_ble_eq_true rfl, ⟨_, rfl⟩, _, rfl, t41⟩
    | 8, hk => cases hk; exact ⟨_, rfl, Nat.le_of_ble_eq_true rfl, Nat.le_of_ble_eq_true rfl, ⟨_, rfl⟩, _, rfl, t30⟩
    | 9, hk => cases hk; exact ⟨_, rfl, Nat.le_of_ble_eq_true rfl, Nat.le_of_ble_eq_true rfl, ⟨_, rfl⟩, _, rfl, t42⟩
    | 10, hk => cases hk; exact ⟨_, rfl, Nat.le_of_ble_eq_true rfl, Nat.le_of_ble_eq_true rfl, ⟨_, rfl⟩, _, rfl, t43⟩
    | 11, hk => cases hk; exact ⟨_, rfl, Nat.le_of_ble_eq_true rfl, Nat.le_of_ble_eq_true rfl, ⟨_, rfl⟩, _, rfl, t44⟩
    | 12, hk => cases hk; exact ⟨_, rfl, Nat.le_of_ble_eq_true rfl, Nat.le_of_ble_eq_true rfl, ⟨_, rfl⟩, _, rfl, t45⟩
    | 13, hk => cases hk; exact ⟨_, rfl, Nat.le_of_ble_eq_true rfl, Nat.le_of_ble_eq_true rfl, ⟨_, rfl⟩, _, rfl, t46⟩
    | 14, hk => cases hk; exact ⟨_, rfl, Nat.le_of_ble_eq_true rfl, Nat.le_of_ble_eq_true rfl, ⟨_, rfl⟩, _, rfl, t47⟩
    | 15, hk => cases hk; exact ⟨_, rfl, Nat.le_of_ble_eq_true rfl, Nat.le_of_ble_eq_true rfl, ⟨_, rfl⟩, _, rfl, t32⟩
    | 16, hk => cases hk; exact ⟨_, rfl, Nat.le_of_ble_eq_true rfl, Nat.le_of_ble_eq_true rfl, ⟨_, rfl⟩, _, rfl, t48⟩
    | 17, hk => cases hk; exact ⟨_, rfl, Nat.le_of_ble_eq_true rfl, Nat.le_of_ble_eq_true rfl, ⟨_, rfl⟩, _, rfl, t36⟩
    | 18, hk => cases hk; exact ⟨_, rfl, Nat.le_of_ble_eq_true rfl, Nat.le_of_ble_eq_true rfl, ⟨_, rfl⟩, _, rfl, t49⟩
    | 19, hk => cases hk; exact ⟨_, rfl, Nat.le_of_ble_eq_true rfl, Nat.le_of_ble_eq_true rfl, ⟨_, rfl⟩, _, rfl, t34⟩
    | 20, hk => cases hk; exact ⟨_, rfl, rfl⟩
    | 21, hk => cases hk; exact ⟨_, rfl, Nat.le_of_ble_eq_true rfl, Nat.le_of_ble_eq_true rfl, ⟨_, rfl⟩, _, rfl, t18⟩
    | 22, hk => cases hk; exact ⟨_, rfl, Nat.le_of_ble_eq_true rfl, Nat.le_of_ble_eq_true rfl, ⟨_, rfl⟩, _, rfl, t59⟩
    | 23, hk => cases hk; exact ⟨_, rfl, Nat.le_of_ble_eq_true rfl, Nat.le_of_ble_eq_true rfl, ⟨_, rfl⟩, _, rfl, t60⟩
    | 24, hk => cases hk; exact ⟨_, rfl, rfl⟩
    | 25, hk => cases hk; exact ⟨_, rfl, rfl⟩
    | 26, hk => cases hk; exact ⟨_, rfl, rfl⟩
    | 27, hk => cases hk; exact ⟨_, rfl, Nat.le_of_ble_eq_true rfl, Nat.le_of_ble_eq_true rfl, ⟨_, rfl⟩, _, rfl, t50⟩
    | 28, hk => cases hk; exact ⟨_, rfl, Nat.le_of_ble_eq_true rfl, Nat.le_of_ble_eq_true rfl, ⟨_, rfl⟩, _, rfl, t31⟩
    | 29, hk => cases hk; exact ⟨_, rfl, Nat.le_of_ble_eq_true rfl, Nat.le_of_ble_eq_true rfl, ⟨_, rfl⟩, _, rfl, t51⟩
    | 30, hk => cases hk; exact ⟨_, rfl, Nat.le_of_ble_eq_true rfl, Nat.le_of_ble_eq_true rfl, ⟨_, rfl⟩, _, rfl, t52⟩
    | 31, hk => cases hk; exact ⟨_, rfl, Nat.le_of_ble_eq_true rfl, Nat.le_of_ble_eq_true rfl, ⟨_, rfl⟩, _, rfl, t53⟩
    | 32, hk => cases hk; exact ⟨_, rfl, Nat.le_of_ble_eq_true rfl, Nat.le_of_ble_eq_true rfl, ⟨_, rfl⟩, _, rfl, t54⟩
    | 33, hk => cases hk; exact ⟨_, rfl, Nat.le_of_ble_eq_true rfl, Nat.le_of_ble_eq_true rfl, ⟨_, rfl⟩, _, rfl, t55⟩
    | 34, hk => cases hk; exact ⟨_, rfl, Nat.le_of_ble_eq_true rfl, Nat.le_of_ble_eq_true rfl, ⟨_, rfl⟩, _, rfl, t56⟩
    | 35, hk => cases hk; exact ⟨_, rfl, Nat.le_of_ble_eq_true rfl, Nat.le_of_ble_eq_true rfl, ⟨_, rfl⟩, _, rfl, t33⟩
    | 36, hk => cases hk; exact ⟨_, rfl, Nat.le_of_ble_eq_true rfl, Nat.le_of_ble_eq_true rfl, ⟨_, rfl⟩, _, rfl, t57⟩
    | 37, hk => cases hk; exact ⟨_, rfl, Nat.le_of_ble_eq_true rfl, Nat.le_of_ble_eq_true rfl, ⟨_, rfl⟩, _, rfl, t37⟩
    | 38, hk => cases hk; exact ⟨_, rfl, Nat.le_of_ble_eq_true rfl, Nat.le_of_ble_eq_true rfl, ⟨_, rfl⟩, _, rfl, t58⟩
    | 39, hk => cases hk; exact ⟨_, rfl, Nat.le_of_ble_eq_true rfl, Nat.le_of_ble_eq_true rfl, ⟨_, rfl⟩, _, rfl, t35⟩
    | k + 40, hk => cases hk
  · simp only [List.map_cons, List.map_nil, h10, h3, h17, h38, h39, h40, h12, h41, h30, h42, h43, h44, h45, h46, h47, h32, h48, h36, h49, h34, h13, h18, h59, h60, h9, h15, h11, h50, h31, h51, h52, h53, h54, h55, h56, h33, h57, h37, h58, h35]
set_option maxRecDepth 100000 in
set_option maxHeartbeats 4000000 in
theorem cu_A_12_8 {X : ab_X} {z : ab_Z} {s : State} {ws : va_W} (hc : ∀ (k : Nat) (c : ab_C), k ∈ cu_KA → gl_L[k]? = some c → ∃ q, ws[k]? = some q ∧ ab_cR X z s c q.2) (hz : ws.map Prod.fst = z.2.2) (hd : ∃ ad, z.2.2[12]? = some ad ∧ cu_v ws 10 3 = .ref ad) (hs : ∃ ad, z.2.2[8]? = some ad ∧ cu_v ws 10 7 = .ref ad) : ∃ (σ : ex_S) (A : ex_A) (we : va_W), ex_wR X A s (WA (2000000, []) 6 σ) we ∧ ([10, 3, 17, 38, 39, 40, 12, 41, 30, 42, 43, 44, 45, 46, 47, 32, 48, 36, 49, 34, 13, 18, 59, 60, 8, 15] : List Nat).map (fun k => ws[k]?) = we.map some ∧ z.1[1]? = some (σ.1 0) := by
  obtain ⟨⟨a10, e10⟩, h10, r10⟩ := hc 10 _ (by decide) rfl
  obtain ⟨⟨a3, e3⟩, h3, r3⟩ := hc 3 _ (by decide) rfl
  obtain ⟨⟨a17, e17⟩, h17, r17⟩ := hc 17 _ (by decide) rfl
  obtain ⟨⟨a38, e38⟩, h38, r38⟩ := hc 38 _ (by decide) rfl
  obtain ⟨⟨a39, e39⟩, h39, r39⟩ := hc 39 _ (by decide) rfl
  obtain ⟨⟨a40, e40⟩, h40, r40⟩ := hc 40 _ (by decide) rfl
  obtain ⟨⟨a12, e12⟩, h12, r12⟩ := hc 12 _ (by decide) rfl
  obtain ⟨⟨a41, e41⟩, h41, r41⟩ := hc 41 _ (by decide) rfl
  obtain ⟨⟨a30, e30⟩, h30, r30⟩ := hc 30 _ (by decide) rfl
  obtain ⟨⟨a42, e42⟩, h42, r42⟩ := hc 42 _ (by decide) rfl
  obtain ⟨⟨a43, e43⟩, h43, r43⟩ := hc 43 _ (by decide) rfl
  obtain ⟨⟨a44, e44⟩, h44, r44⟩ := hc 44 _ (by decide) rfl
  obtain ⟨⟨a45, e45⟩, h45, r45⟩ := hc 45 _ (by decide) rfl
  obtain ⟨⟨a46, e46⟩, h46, r46⟩ := hc 46 _ (by decide) rfl
  obtain ⟨⟨a47, e47⟩, h47, r47⟩ := hc 47 _ (by decide) rfl
  obtain ⟨⟨a32, e32⟩, h32, r32⟩ := hc 32 _ (by decide) rfl
  obtain ⟨⟨a48, e48⟩, h48, r48⟩ := hc 48 _ (by decide) rfl
  obtain ⟨⟨a36, e36⟩, h36, r36⟩ := hc 36 _ (by decide) rfl
  obtain ⟨⟨a49, e49⟩, h49, r49⟩ := hc 49 _ (by decide) rfl
  obtain ⟨⟨a34, e34⟩, h34, r34⟩ := hc 34 _ (by decide) rfl
  obtain ⟨⟨a13, e13⟩, h13, r13⟩ := hc 13 _ (by decide) rfl
  obtain ⟨⟨a18, e18⟩, h18, r18⟩ := hc 18 _ (by decide) rfl
  obtain ⟨⟨a59, e59⟩, h59, r59⟩ := hc 59 _ (by decide) rfl
  obtain ⟨⟨a60, e60⟩, h60, r60⟩ := hc 60 _ (by decide) rfl
  obtain ⟨⟨a8, e8⟩, h8, r8⟩ := hc 8 _ (by decide) rfl
  obtain ⟨⟨a15, e15⟩, h15, r15⟩ := hc 15 _ (by decide) rfl
  obtain ⟨cA17, x17, f17, ⟨y17, g17⟩, t17, -⟩ := r17
  dsimp only at f17
  subst f17 g17
  obtain ⟨cA38, x38, f38, ⟨y38, g38⟩, t38, -⟩ := r38
  dsimp only at f38
  subst f38 g38
  obtain ⟨cA40, x40, f40, ⟨y40, g40⟩, t40, -⟩ := r40
  dsimp only at f40
  subst f40 g40
  obtain ⟨cA41, x41, f41, ⟨y41, g41⟩, t41, -⟩ := r41
  dsimp only at f41
  subst f41 g41
  obtain ⟨cA30, x30, f30, ⟨y30, g30⟩, t30, -⟩ := r30
  dsimp only at f30
  subst f30 g30
  obtain ⟨cA42, x42, f42, ⟨y42, g42⟩, t42, -⟩ := r42
  dsimp only at f42
  subst f42 g42
  obtain ⟨cA43, x43, f43, ⟨y43, g43⟩, t43, -⟩ := r43
  dsimp only at f43
  subst f43 g43
  obtain ⟨cA44, x44, f44, ⟨y44, g44⟩, t44, -⟩ := r44
  dsimp only at f44
  subst f44 g44
  obtain ⟨cA45, x45, f45, ⟨y45, g45⟩, t45, -⟩ := r45
  dsimp only at f45
  subst f45 g45
  obtain ⟨cA46, x46, f46, ⟨y46, g46⟩, t46, -⟩ := r46
  dsimp only at f46
  subst f46 g46
  obtain ⟨cA47, x47, f47, ⟨y47, g47⟩, t47, -⟩ := r47
  dsimp only at f47
  subst f47 g47
  obtain ⟨cA32, x32, f32, ⟨y32, g32⟩, t32, -⟩ := r32
  dsimp only at f32
  subst f32 g32
  obtain ⟨cA48, x48, f48, ⟨y48, g48⟩, t48, -⟩ := r48
  dsimp only at f48
  subst f48 g48
  obtain ⟨cA36, x36, f36, ⟨y36, g36⟩, t36, -⟩ := r36
  dsimp only at f36
  subst f36 g36
  obtain ⟨cA49, x49, f49, ⟨y49, g49⟩, t49, -⟩ := r49
  dsimp only at f49
  subst f49 g49
  obtain ⟨cA34, x34, f34, ⟨y34, g34⟩, t34, -⟩ := r34
  dsimp only at f34
  subst f34 g34
  obtain ⟨cA18, x18, f18, ⟨y18, g18⟩, t18, -⟩ := r18
  dsimp only at f18
  subst f18 g18
  obtain ⟨cA59, x59, f59, ⟨y59, g59⟩, t59, -⟩ := r59
  dsimp only at f59
  subst f59 g59
  obtain ⟨cA60, x60, f60, ⟨y60, g60⟩, t60, -⟩ := r60
  dsimp only at f60
  subst f60 g60
  obtain ⟨vs10, f10, l10, w10⟩ := r10
  dsimp only at f10
  subst f10
  obtain ⟨u10_0, s10_0, rfl, m10_0⟩ := cu_c l10
  obtain ⟨u10_1, s10_1, rfl, m10_1⟩ := cu_c m10_0
  obtain ⟨u10_2, s10_2, rfl, m10_2⟩ := cu_c m10_1
  obtain ⟨u10_3, s10_3, rfl, m10_3⟩ := cu_c m10_2
  obtain ⟨u10_4, s10_4, rfl, m10_4⟩ := cu_c m10_3
  obtain ⟨u10_5, s10_5, rfl, m10_5⟩ := cu_c m10_4
  obtain ⟨u10_6, s10_6, rfl, m10_6⟩ := cu_c m10_5
  obtain ⟨u10_7, s10_7, rfl, m10_7⟩ := cu_c m10_6
  obtain ⟨u10_8, s10_8, rfl, m10_8⟩ := cu_c m10_7
  obtain ⟨u10_9, s10_9, rfl, m10_9⟩ := cu_c m10_8
  obtain ⟨u10_10, s10_10, rfl, m10_10⟩ := cu_c m10_9
  obtain ⟨u10_11, s10_11, rfl, m10_11⟩ := cu_c m10_10
  obtain ⟨u10_12, s10_12, rfl, m10_12⟩ := cu_c m10_11
  obtain ⟨u10_13, s10_13, rfl, m10_13⟩ := cu_c m10_12
  obtain ⟨u10_14, s10_14, rfl, m10_14⟩ := cu_c m10_13
  obtain ⟨u10_15, s10_15, rfl, m10_15⟩ := cu_c m10_14
  obtain ⟨u10_16, s10_16, rfl, m10_16⟩ := cu_c m10_15
  cases cu_n m10_16
  have q10_0 := cu_R (cu_ad hz h3) (w10 0 _ _ rfl rfl)
  subst q10_0
  have q10_1 := cu_R (cu_ad hz h39) (w10 1 _ _ rfl rfl)
  subst q10_1
  obtain ⟨i10_2, q10_2⟩ := cu_Rx (w10 2 _ _ rfl rfl)
  subst q10_2
  have q10_3 : u10_3 = .ref a12 := by
    obtain ⟨ad, e1, e2⟩ := hd
    have e3 := e1.symm.trans (cu_ad hz h12)
    cases e3
    rw [cu_v_of h10] at e2
    exact e2
  subst q10_3
  have q10_4 := cu_R (cu_ad hz h13) (w10 4 _ _ rfl rfl)
  subst q10_4
  obtain ⟨i10_5, q10_5⟩ := cu_Rx (w10 5 _ _ rfl rfl)
  subst q10_5
  have q10_6 := cu_R (cu_ad hz h15) (w10 6 _ _ rfl rfl)
  subst q10_6
  have q10_7 : u10_7 = .ref a8 := by
    obtain ⟨ad, e1, e2⟩ := hs
    have e3 := e1.symm.trans (cu_ad hz h8)
    cases e3
    rw [cu_v_of h10] at e2
    exact e2
  subst q10_7
  obtain ⟨i10_8, q10_8⟩ := cu_Rx (w10 8 _ _ rfl rfl)
  subst q10_8
  obtain ⟨i10_9, q10_9⟩ := cu_Rx (w10 9 _ _ rfl rfl)
  subst q10_9
  obtain ⟨i10_10, q10_10⟩ := cu_Rx (w10 10 _ _ rfl rfl)
  subst q10_10
  obtain ⟨i10_11, q10_11⟩ := cu_Rx (w10 11 _ _ rfl rfl)
  subst q10_11
  obtain ⟨i10_12, q10_12⟩ := cu_Rx (w10 12 _ _ rfl rfl)
  subst q10_12
  obtain ⟨i10_13, q10_13⟩ := cu_Rx (w10 13 _ _ rfl rfl)
  subst q10_13
  obtain ⟨i10_14, q10_14⟩ := cu_I (w10 14 _ _ rfl rfl) rfl
  subst q10_14
  obtain ⟨i10_15, q10_15⟩ := cu_Rx (w10 15 _ _ rfl rfl)
  subst q10_15
  obtain ⟨i10_16, q10_16⟩ := cu_I (w10 16 _ _ rfl rfl) rfl
  subst q10_16
  obtain ⟨vs3, f3, l3, w3⟩ := r3
  dsimp only at f3
  subst f3
  obtain ⟨u3_0, s3_0, rfl, m3_0⟩ := cu_c l3
  obtain ⟨u3_1, s3_1, rfl, m3_1⟩ := cu_c m3_0
  obtain ⟨u3_2, s3_2, rfl, m3_2⟩ := cu_c m3_1
  obtain ⟨u3_3, s3_3, rfl, m3_3⟩ := cu_c m3_2
  obtain ⟨u3_4, s3_4, rfl, m3_4⟩ := cu_c m3_3
  obtain ⟨u3_5, s3_5, rfl, m3_5⟩ := cu_c m3_4
  obtain ⟨u3_6, s3_6, rfl, m3_6⟩ := cu_c m3_5
  obtain ⟨u3_7, s3_7, rfl, m3_7⟩ := cu_c m3_6
  obtain ⟨u3_8, s3_8, rfl, m3_8⟩ := cu_c m3_7
  obtain ⟨u3_9, s3_9, rfl, m3_9⟩ := cu_c m3_8
  obtain ⟨u3_10, s3_10, rfl, m3_10⟩ := cu_c m3_9
  obtain ⟨u3_11, s3_11, rfl, m3_11⟩ := cu_c m3_10
  obtain ⟨u3_12, s3_12, rfl, m3_12⟩ := cu_c m3_11
  obtain ⟨u3_13, s3_13, rfl, m3_13⟩ := cu_c m3_12
  obtain ⟨u3_14, s3_14, rfl, m3_14⟩ := cu_c m3_13
  cases cu_n m3_14
  have q3_0 := cu_R (cu_ad hz h17) (w3 0 _ _ rfl rfl)
  subst q3_0
  obtain ⟨i3_1, q3_1⟩ := cu_I (w3 1 _ _ rfl rfl) rfl
  obtain ⟨i3_2, q3_2⟩ := cu_I (w3 2 _ _ rfl rfl) rfl
  subst q3_2
  obtain ⟨i3_3, q3_3⟩ := cu_I (w3 3 _ _ rfl rfl) rfl
  subst q3_3
  obtain ⟨i3_4, q3_4⟩ := cu_I (w3 4 _ _ rfl rfl) rfl
  subst q3_4
  obtain ⟨i3_5, q3_5⟩ := cu_I (w3 5 _ _ rfl rfl) rfl
  subst q3_5
  obtain ⟨i3_6, q3_6⟩ := cu_L (w3 6 _ _ rfl rfl) rfl
  subst q3_6
  obtain ⟨i3_7, q3_7⟩ := cu_I (w3 7 _ _ rfl rfl) rfl
  subst q3_7
  obtain ⟨i3_8, q3_8⟩ := cu_I (w3 8 _ _ rfl rfl) rfl
  subst q3_8
  obtain ⟨i3_9, q3_9⟩ := cu_I (w3 9 _ _ rfl rfl) rfl
  subst q3_9
  obtain ⟨i3_10, q3_10⟩ := cu_L (w3 10 _ _ rfl rfl) rfl
  subst q3_10
  obtain ⟨i3_11, q3_11⟩ := cu_I (w3 11 _ _ rfl rfl) rfl
  subst q3_11
  obtain ⟨i3_12, q3_12⟩ := cu_I (w3 12 _ _ rfl rfl) rfl
  subst q3_12
  obtain ⟨i3_13, q3_13⟩ := cu_I (w3 13 _ _ rfl rfl) rfl
  subst q3_13
  have q3_14 := cu_R (cu_ad hz h38) (w3 14 _ _ rfl rfl)
  subst q3_14
  obtain ⟨vs39, f39, l39, w39⟩ := r39
  dsimp only at f39
  subst f39
  obtain ⟨u39_0, s39_0, rfl, m39_0⟩ := cu_c l39
  cases cu_n m39_0
  have q39_0 := cu_R (cu_ad hz h40) (w39 0 _ _ rfl rfl)
  subst q39_0
  obtain ⟨vs12, f12, l12, w12⟩ := r12
  dsimp only at f12
  subst f12
  obtain ⟨u12_0, s12_0, rfl, m12_0⟩ := cu_c l12
  obtain ⟨u12_1, s12_1, rfl, m12_1⟩ := cu_c m12_0
  obtain ⟨u12_2, s12_2, rfl, m12_2⟩ := cu_c m12_1
  obtain ⟨u12_3, s12_3, rfl, m12_3⟩ := cu_c m12_2
  obtain ⟨u12_4, s12_4, rfl, m12_4⟩ := cu_c m12_3
  obtain ⟨u12_5, s12_5, rfl, m12_5⟩ := cu_c m12_4
  obtain ⟨u12_6, s12_6, rfl, m12_6⟩ := cu_c m12_5
  obtain ⟨u12_7, s12_7, rfl, m12_7⟩ := cu_c m12_6
  obtain ⟨u12_8, s12_8, rfl, m12_8⟩ := cu_c m12_7
  obtain ⟨u12_9, s12_9, rfl, m12_9⟩ := cu_c m12_8
  obtain ⟨u12_10, s12_10, rfl, m12_10⟩ := cu_c m12_9
  obtain ⟨u12_11, s12_11, rfl, m12_11⟩ := cu_c m12_10
  obtain ⟨u12_12, s12_12, rfl, m12_12⟩ := cu_c m12_11
  obtain ⟨u12_13, s12_13, rfl, m12_13⟩ := cu_c m12_12
  obtain ⟨u12_14, s12_14, rfl, m12_14⟩ := cu_c m12_13
  obtain ⟨u12_15, s12_15, rfl, m12_15⟩ := cu_c m12_14
  cases cu_n m12_15
  obtain ⟨i12_0, q12_0⟩ := cu_I (w12 0 _ _ rfl rfl) rfl
  subst q12_0
  have q12_1 := cu_R (cu_ad hz h41) (w12 1 _ _ rfl rfl)
  subst q12_1
  have q12_2 := cu_R (cu_ad hz h30) (w12 2 _ _ rfl rfl)
  subst q12_2
  have q12_3 := cu_R (cu_ad hz h42) (w12 3 _ _ rfl rfl)
  subst q12_3
  obtain ⟨i12_4, q12_4⟩ := cu_I (w12 4 _ _ rfl rfl) rfl
  subst q12_4
  have q12_5 := cu_R (cu_ad hz h43) (w12 5 _ _ rfl rfl)
  subst q12_5
  have q12_6 := cu_R (cu_ad hz h44) (w12 6 _ _ rfl rfl)
  subst q12_6
  have q12_7 := cu_R (cu_ad hz h45) (w12 7 _ _ rfl rfl)
  subst q12_7
  have q12_8 := cu_R (cu_ad hz h46) (w12 8 _ _ rfl rfl)
  subst q12_8
  obtain ⟨i12_9, q12_9⟩ := cu_I (w12 9 _ _ rfl rfl) rfl
  subst q12_9
  have q12_10 := cu_R (cu_ad hz h47) (w12 10 _ _ rfl rfl)
  subst q12_10
  have q12_11 := cu_R (cu_ad hz h32) (w12 11 _ _ rfl rfl)
  subst q12_11
  have q12_12 := cu_R (cu_ad hz h48) (w12 12 _ _ rfl rfl)
  subst q12_12
  have q12_13 := cu_R (cu_ad hz h36) (w12 13 _ _ rfl rfl)
  subst q12_13
  have q12_14 := cu_R (cu_ad hz h49) (w12 14 _ _ rfl rfl)
  subst q12_14
  have q12_15 := cu_R (cu_ad hz h34) (w12 15 _ _ rfl rfl)
  subst q12_15
  obtain ⟨vs13, f13, l13, w13⟩ := r13
  dsimp only at f13
  subst f13
  obtain ⟨u13_0, s13_0, rfl, m13_0⟩ := cu_c l13
  obtain ⟨u13_1, s13_1, rfl, m13_1⟩ := cu_c m13_0
  obtain ⟨u13_2, s13_2, rfl, m13_2⟩ := cu_c m13_1
  obtain ⟨u13_3, s13_3, rfl, m13_3⟩ := cu_c m13_2
  obtain ⟨u13_4, s13_4, rfl, m13_4⟩ := cu_c m13_3
  obtain ⟨u13_5, s13_5, rfl, m13_5⟩ := cu_c m13_4
  obtain ⟨u13_6, s13_6, rfl, m13_6⟩ := cu_c m13_5
  cases cu_n m13_6
  obtain ⟨i13_0, q13_0⟩ := cu_I (w13 0 _ _ rfl rfl) rfl
  subst q13_0
  obtain ⟨i13_1, q13_1⟩ := cu_I (w13 1 _ _ rfl rfl) rfl
  subst q13_1
  obtain ⟨i13_2, q13_2⟩ := cu_I (w13 2 _ _ rfl rfl) rfl
  subst q13_2
  have q13_3 := cu_R (cu_ad hz h18) (w13 3 _ _ rfl rfl)
  subst q13_3
  have q13_4 := cu_R (cu_ad hz h59) (w13 4 _ _ rfl rfl)
  subst q13_4
  have q13_5 := cu_R (cu_ad hz h60) (w13 5 _ _ rfl rfl)
  subst q13_5
  obtain ⟨i13_6, q13_6⟩ := cu_I (w13 6 _ _ rfl rfl) rfl
  subst q13_6
  obtain ⟨vs8, f8, l8, w8⟩ := r8
  dsimp only at f8
  subst f8
  obtain ⟨u8_0, s8_0, rfl, m8_0⟩ := cu_c l8
  obtain ⟨u8_1, s8_1, rfl, m8_1⟩ := cu_c m8_0
  obtain ⟨u8_2, s8_2, rfl, m8_2⟩ := cu_c m8_1
  obtain ⟨u8_3, s8_3, rfl, m8_3⟩ := cu_c m8_2
  obtain ⟨u8_4, s8_4, rfl, m8_4⟩ := cu_c m8_3
  cases cu_n m8_4
  obtain ⟨i8_0, q8_0⟩ := cu_Rx (w8 0 _ _ rfl rfl)
  subst q8_0
  obtain ⟨i8_1, q8_1⟩ := cu_Rx (w8 1 _ _ rfl rfl)
  subst q8_1
  obtain ⟨i8_2, q8_2⟩ := cu_Rx (w8 2 _ _ rfl rfl)
  subst q8_2
  obtain ⟨i8_3, q8_3⟩ := cu_I (w8 3 _ _ rfl rfl) rfl
  subst q8_3
  obtain ⟨i8_4, q8_4⟩ := cu_I (w8 4 _ _ rfl rfl) rfl
  subst q8_4
  obtain ⟨vs15, f15, l15, w15⟩ := r15
  dsimp only at f15
  subst f15
  obtain ⟨u15_0, s15_0, rfl, m15_0⟩ := cu_c l15
  obtain ⟨u15_1, s15_1, rfl, m15_1⟩ := cu_c m15_0
  cases cu_n m15_1
  obtain ⟨i15_0, q15_0⟩ := cu_Rx (w15 0 _ _ rfl rfl)
  subst q15_0
  obtain ⟨i15_1, q15_1⟩ := cu_I (w15 1 _ _ rfl rfl) rfl
  subst q15_1
  have z3 := w3 1 _ _ rfl rfl
  subst q3_1
  refine ⟨((fun j => bif Nat.beq j 0 then i3_1 else bif Nat.beq j 1 then i3_2 else bif Nat.beq j 2 then i3_3 else bif Nat.beq j 3 then i3_4 else bif Nat.beq j 4 then i3_5 else bif Nat.beq j 5 then i3_7 else bif Nat.beq j 6 then i3_8 else bif Nat.beq j 7 then i3_9 else bif Nat.beq j 8 then i3_11 else bif Nat.beq j 9 then i3_12 else bif Nat.beq j 10 then i3_13 else bif Nat.beq j 11 then i12_0 else bif Nat.beq j 12 then i12_4 else bif Nat.beq j 13 then i12_9 else bif Nat.beq j 14 then i10_14 else bif Nat.beq j 15 then i10_16 else bif Nat.beq j 16 then i13_0 else bif Nat.beq j 17 then i13_1 else bif Nat.beq j 18 then i13_2 else bif Nat.beq j 19 then i13_6 else bif Nat.beq j 20 then i8_3 else bif Nat.beq j 21 then i8_4 else bif Nat.beq j 22 then i15_1 else (0 : Int32)), (fun j => bif Nat.beq j 0 then i3_6 else bif Nat.beq j 1 then i3_10 else (0 : Int64)), (fun j => bif Nat.beq j 0 then y17 else bif Nat.beq j 1 then y30 else bif Nat.beq j 2 then y42 else bif Nat.beq j 3 then y43 else bif Nat.beq j 4 then y44 else bif Nat.beq j 5 then y45 else bif Nat.beq j 6 then y46 else bif Nat.beq j 7 then y32 else bif Nat.beq j 8 then y48 else bif Nat.beq j 9 then y36 else bif Nat.beq j 10 then y49 else bif Nat.beq j 11 then y34 else bif Nat.beq j 12 then y40 else bif Nat.beq j 13 then y18 else bif Nat.beq j 14 then y59 else bif Nat.beq j 15 then y60 else (fun _ => (0 : Int32))), (fun j => bif Nat.beq j 0 then y38 else bif Nat.beq j 1 then y41 else bif Nat.beq j 2 then y47 else (fun _ => (0 : Int64)))), ([a10, a3, a17, a38, a39, a40, a12, a41, a30, a42, a43, a44, a45, a46, a47, a32, a48, a36, a49, a34, a13, a18, a59, a60, a8, a15], (fun j => bif Nat.beq j 0 then i10_2 else bif Nat.beq j 1 then i10_5 else bif Nat.beq j 2 then i10_8 else bif Nat.beq j 3 then i10_9 else bif Nat.beq j 4 then i10_10 else bif Nat.beq j 5 then i10_11 else bif Nat.beq j 6 then i10_12 else bif Nat.beq j 7 then i10_13 else bif Nat.beq j 8 then i10_15 else bif Nat.beq j 9 then i8_0 else bif Nat.beq j 10 then i8_1 else bif Nat.beq j 11 then i8_2 else bif Nat.beq j 12 then i15_0 else 0)), [(a10, .inr (10, [.ref a3, .ref a39, .ref i10_2, .ref a12, .ref a13, .ref i10_5, .ref a15, .ref a8, .ref i10_8, .ref i10_9, .ref i10_10, .ref i10_11, .ref i10_12, .ref i10_13, .int i10_14, .ref i10_15, .int i10_16])),
      (a3, .inr (4, [.ref a17, .int i3_1, .int i3_2, .int i3_3, .int i3_4, .int i3_5, .long i3_6, .int i3_7, .int i3_8, .int i3_9, .long i3_10, .int i3_11, .int i3_12, .int i3_13, .ref a38])),
      (a17, .inl (cA17, 940, .inl y17)),
      (a38, .inl (cA38, 22, .inr (.inl y38))),
      (a39, .inr (9, [.ref a40])),
      (a40, .inl (cA40, 3, .inl y40)),
      (a12, .inr (8, [.int i12_0, .ref a41, .ref a30, .ref a42, .int i12_4, .ref a43, .ref a44, .ref a45, .ref a46, .int i12_9, .ref a47, .ref a32, .ref a48, .ref a36, .ref a49, .ref a34])),
      (a41, .inl (cA41, 7, .inr (.inl y41))),
      (a30, .inl (cA30, 7, .inl y30)),
      (a42, .inl (cA42, 7, .inl y42)),
      (a43, .inl (cA43, 12, .inl y43)),
      (a44, .inl (cA44, 12, .inl y44)),
      (a45, .inl (cA45, 12, .inl y45)),
      (a46, .inl (cA46, 12, .inl y46)),
      (a47, .inl (cA47, 8, .inr (.inl y47))),
      (a32, .inl (cA32, 8, .inl y32)),
      (a48, .inl (cA48, 8, .inl y48)),
      (a36, .inl (cA36, 8, .inl y36)),
      (a49, .inl (cA49, 8, .inl y49)),
      (a34, .inl (cA34, 3, .inl y34)),
      (a13, .inr (7, [.int i13_0, .int i13_1, .int i13_2, .ref a18, .ref a59, .ref a60, .int i13_6])),
      (a18, .inl (cA18, 7, .inl y18)),
      (a59, .inl (cA59, 7, .inl y59)),
      (a60, .inl (cA60, 7, .inl y60)),
      (a8, .inr (6, [.ref i8_0, .ref i8_1, .ref i8_2, .int i8_3, .int i8_4])),
      (a15, .inr (1, [.ref i15_0, .int i15_1]))], ?_, ?_, cu_ev1 z3⟩
  · refine ⟨rfl, ⟨rfl, Nat.le_of_ble_eq_true rfl⟩, fun k c hk => ?_⟩
    match k, hk with
    | 0, hk => cases hk; exact ⟨_, rfl, rfl⟩
    | 1, hk => cases hk; exact ⟨_, rfl, rfl⟩
    | 2, hk => cases hk; exact ⟨_, rfl, Nat.le_of_ble_eq_true rfl, Nat.le_of_ble_eq_true rfl, ⟨_, rfl⟩, _, rfl, t17⟩
    | 3, hk => cases hk; exact ⟨_, rfl, Nat.le_of_ble_eq_true rfl, Nat.le_of_ble_eq_true rfl, ⟨_, rfl⟩, _, rfl, t38⟩
    | 4, hk => cases hk; exact ⟨_, rfl, rfl⟩
    | 5, hk => cases hk; exact ⟨_, rfl, Nat.le_of_ble_eq_true rfl, Nat.le_of_ble_eq_true rfl, ⟨_, rfl⟩, _, rfl, t40⟩
    | 6, hk => cases hk; exact ⟨_, rfl, rfl⟩
    | 7, hk => cases hk; exact ⟨_, rfl, Nat.le_of_ble_eq_true rfl, Nat.le_of_ble_eq_true rfl, ⟨_, rfl⟩, _, rfl, t41⟩
    | 8, hk => cases hk; exact ⟨_, rfl, Nat.le_of_ble_eq_true rfl, Nat.le_of_ble_eq_true rfl, ⟨_, rfl⟩, _, rfl, t30⟩
    | 9, hk => cases hk; exact ⟨_, rfl, Nat.le_of_ble_eq_true rfl, Nat.le_of_ble_eq_true rfl, ⟨_, rfl⟩, _, rfl, t42⟩
    | 10, hk => cases hk; exact ⟨_, rfl, Nat.le_of_ble_eq_true rfl, Nat.le_of_ble_eq_true rfl, ⟨_, rfl⟩, _, rfl, t43⟩
    | 11, hk => cases hk; exact ⟨_, rfl, Nat.le_of_ble_eq_true rfl, Nat.le_of_ble_eq_true rfl, ⟨_, rfl⟩, _, rfl, t44⟩
    | 12, hk => cases hk; exact ⟨_, rfl, Nat.le_of_ble_eq_true rfl, Nat.le_of_ble_eq_true rfl, ⟨_, rfl⟩, _, rfl, t45⟩
    | 13, hk => cases hk; exact ⟨_, rfl, Nat.le_of_ble_eq_true rfl, Nat.le_of_ble_eq_true rfl, ⟨_, rfl⟩, _, rfl, t46⟩
    | 14, hk => cases hk; exact ⟨_, rfl, Nat.le_of_ble_eq_true rfl, Nat.le_of_ble_eq_true rfl, ⟨_, rfl⟩, _, rfl, t47⟩
    | 15, hk => cases hk; exact ⟨_, rfl, Nat.le_of_ble_eq_true rfl, Nat.le_of_ble_eq_true rfl, ⟨_, rfl⟩, _, rfl, t32⟩
    | 16, hk => cases hk; exact ⟨_, rfl, Nat.le_of_ble_eq_true rfl, Nat.le_of_ble_eq_true rfl, ⟨_, rfl⟩, _, rfl, t48⟩
    | 17, hk => cases hk; exact ⟨_, rfl, Nat.le_of_ble_eq_true rfl, Nat.le_of_ble_eq_true rfl, ⟨_, rfl⟩, _, rfl, t36⟩
    | 18, hk => cases hk; exact ⟨_, rfl, Nat.le_of_ble_eq_true rfl, Nat.le_of_ble_eq_true rfl, ⟨_, rfl⟩, _, rfl, t49⟩
    | 19, hk => cases hk; exact ⟨_, rfl, Nat.le_of_ble_eq_true rfl, Nat.le_of_ble_eq_true rfl, ⟨_, rfl⟩, _, rfl, t34⟩
    | 20, hk => cases hk; exact ⟨_, rfl, rfl⟩
    | 21, hk => cases hk; exact ⟨_, rfl, Nat.le_of_ble_eq_true rfl, Nat.le_of_ble_eq_true rfl, ⟨_, rfl⟩, _, rfl, t18⟩
    | 22, hk => cases hk; exact ⟨_, rfl, Nat.le_of_ble_eq_true rfl, Nat.le_of_ble_eq_true rfl, ⟨_, rfl⟩, _, rfl, t59⟩
    | 23, hk => cases hk; exact ⟨_, rfl, Nat.le_of_ble_eq_true rfl, Nat.le_of_ble_eq_true rfl, ⟨_, rfl⟩, _, rfl, t60⟩
    | 24, hk => cases hk; exact ⟨_, rfl, rfl⟩
    | 25, hk => cases hk; exact ⟨_, rfl, rfl⟩
    | k + 26, hk => cases hk
  · simp only [List.map_cons, List.map_nil, h10, h3, h17, h38, h39, h40, h12, h41, h30, h42, h43, h44, h45, h46, h47, h32, h48, h36, h49, h34, h13, h18, h59, h60, h8, h15]
set_option maxRecDepth 100000 in
set_option maxHeartbeats 4000000 in
theorem cu_V_12_8 {X : ab_X} {z : ab_Z} {s : State} {ws : va_W} (hc : ∀ (k : Nat) (c : ab_C), k ∈ cu_KV → gl_L[k]? = some c → ∃ q, ws[k]? = some q ∧ ab_cR X z s c q.2) (hz : ws.map Prod.fst = z.2.2) (hl : ∃ ad, z.2.2[11]? = some ad ∧ cu_v ws 10 2 = .ref ad) (hd : ∃ ad, z.2.2[12]? = some ad ∧ cu_v ws 10 3 = .ref ad) (hs : ∃ ad, z.2.2[8]? = some ad ∧ cu_v ws 10 7 = .ref ad) : ∃ (σ : ex_S) (A : ex_A) (we : va_W) (u_towns u_terms u_trains : Int32) (p_townName p_trainName : Nat → Int64) (p_noon p_bendTold p_termTown p_termFrom p_termTo p_termBend p_trainFrom p_trainTo p_trainLeaves p_trainTakes p_settings : Nat → Int32), ex_wR X A s (WA (26, lw_L u_towns u_terms u_trains p_townName p_trainName p_noon p_bendTold p_termTown p_termFrom p_termTo p_termBend p_trainFrom p_trainTo p_trainLeaves p_trainTakes p_settings) 6 σ) we ∧ ([10, 3, 17, 38, 39, 40, 12, 41, 30, 42, 43, 44, 45, 46, 47, 32, 48, 36, 49, 34, 13, 18, 59, 60, 8, 15, 11, 50, 31, 51, 52, 53, 54, 55, 56, 33, 57, 37, 58, 35] : List Nat).map (fun k => ws[k]?) = we.map some ∧ z.1[1]? = some (σ.1 0) := by
  obtain ⟨⟨a10, e10⟩, h10, r10⟩ := hc 10 _ (by decide) rfl
  obtain ⟨⟨a3, e3⟩, h3, r3⟩ := hc 3 _ (by decide) rfl
  obtain ⟨⟨a17, e17⟩, h17, r17⟩ := hc 17 _ (by decide) rfl
  obtain ⟨⟨a38, e38⟩, h38, r38⟩ := hc 38 _ (by decide) rfl
  obtain ⟨⟨a39, e39⟩, h39, r39⟩ := hc 39 _ (by decide) rfl
  obtain ⟨⟨a40, e40⟩, h40, r40⟩ := hc 40 _ (by decide) rfl
  obtain ⟨⟨a12, e12⟩, h12, r12⟩ := hc 12 _ (by decide) rfl
  obtain ⟨⟨a41, e41⟩, h41, r41⟩ := hc 41 _ (by decide) rfl
  obtain ⟨⟨a30, e30⟩, h30, r30⟩ := hc 30 _ (by decide) rfl
  obtain ⟨⟨a42, e42⟩, h42, r42⟩ := hc 42 _ (by decide) rfl
  obtain ⟨⟨a43, e43⟩, h43, r43⟩ := hc 43 _ (by decide) rfl
  obtain ⟨⟨a44, e44⟩, h44, r44⟩ := hc 44 _ (by decide) rfl
  obtain ⟨⟨a45, e45⟩, h45, r45⟩ := hc 45 _ (by decide) rfl
  obtain ⟨⟨a46, e46⟩, h46, r46⟩ := hc 46 _ (by decide) rfl
  obtain ⟨⟨a47, e47⟩, h47, r47⟩ := hc 47 _ (by decide) rfl
  obtain ⟨⟨a32, e32⟩, h32, r32⟩ := hc 32 _ (by decide) rfl
  obtain ⟨⟨a48, e48⟩, h48, r48⟩ := hc 48 _ (by decide) rfl
  obtain ⟨⟨a36, e36⟩, h36, r36⟩ := hc 36 _ (by decide) rfl
  obtain ⟨⟨a49, e49⟩, h49, r49⟩ := hc 49 _ (by decide) rfl
  obtain ⟨⟨a34, e34⟩, h34, r34⟩ := hc 34 _ (by decide) rfl
  obtain ⟨⟨a13, e13⟩, h13, r13⟩ := hc 13 _ (by decide) rfl
  obtain ⟨⟨a18, e18⟩, h18, r18⟩ := hc 18 _ (by decide) rfl
  obtain ⟨⟨a59, e59⟩, h59, r59⟩ := hc 59 _ (by decide) rfl
  obtain ⟨⟨a60, e60⟩, h60, r60⟩ := hc 60 _ (by decide) rfl
  obtain ⟨⟨a8, e8⟩, h8, r8⟩ := hc 8 _ (by decide) rfl
  obtain ⟨⟨a15, e15⟩, h15, r15⟩ := hc 15 _ (by decide) rfl
  obtain ⟨⟨a11, e11⟩, h11, r11⟩ := hc 11 _ (by decide) rfl
  obtain ⟨⟨a50, e50⟩, h50, r50⟩ := hc 50 _ (by decide) rfl
  obtain ⟨⟨a31, e31⟩, h31, r31⟩ := hc 31 _ (by decide) rfl
  obtain ⟨⟨a51, e51⟩, h51, r51⟩ := hc 51 _ (by decide) rfl
  obtain ⟨⟨a52, e52⟩, h52, r52⟩ := hc 52 _ (by decide) rfl
  obtain ⟨⟨a53, e53⟩, h53, r53⟩ := hc 53 _ (by decide) rfl
  obtain ⟨⟨a54, e54⟩, h54, r54⟩ := hc 54 _ (by decide) rfl
  obtain ⟨⟨a55, e55⟩, h55, r55⟩ := hc 55 _ (by decide) rfl
  obtain ⟨⟨a56, e56⟩, h56, r56⟩ := hc 56 _ (by decide) rfl
  obtain ⟨⟨a33, e33⟩, h33, r33⟩ := hc 33 _ (by decide) rfl
  obtain ⟨⟨a57, e57⟩, h57, r57⟩ := hc 57 _ (by decide) rfl
  obtain ⟨⟨a37, e37⟩, h37, r37⟩ := hc 37 _ (by decide) rfl
  obtain ⟨⟨a58, e58⟩, h58, r58⟩ := hc 58 _ (by decide) rfl
  obtain ⟨⟨a35, e35⟩, h35, r35⟩ := hc 35 _ (by decide) rfl
  obtain ⟨cA17, x17, f17, ⟨y17, g17⟩, t17, -⟩ := r17
  dsimp only at f17
  subst f17 g17
  obtain ⟨cA38, x38, f38, ⟨y38, g38⟩, t38, -⟩ := r38
  dsimp only at f38
  subst f38 g38
  obtain ⟨cA40, x40, f40, ⟨y40, g40⟩, t40, -⟩ := r40
  dsimp only at f40
  subst f40 g40
  obtain ⟨cA41, x41, f41, ⟨y41, g41⟩, t41, -⟩ := r41
  dsimp only at f41
  subst f41 g41
  obtain ⟨cA30, x30, f30, ⟨y30, g30⟩, t30, -⟩ := r30
  dsimp only at f30
  subst f30 g30
  obtain ⟨cA42, x42, f42, ⟨y42, g42⟩, t42, -⟩ := r42
  dsimp only at f42
  subst f42 g42
  obtain ⟨cA43, x43, f43, ⟨y43, g43⟩, t43, -⟩ := r43
  dsimp only at f43
  subst f43 g43
  obtain ⟨cA44, x44, f44, ⟨y44, g44⟩, t44, -⟩ := r44
  dsimp only at f44
  subst f44 g44
  obtain ⟨cA45, x45, f45, ⟨y45, g45⟩, t45, -⟩ := r45
  dsimp only at f45
  subst f45 g45
  obtain ⟨cA46, x46, f46, ⟨y46, g46⟩, t46, -⟩ := r46
  dsimp only at f46
  subst f46 g46
  obtain ⟨cA47, x47, f47, ⟨y47, g47⟩, t47, -⟩ := r47
  dsimp only at f47
  subst f47 g47
  obtain ⟨cA32, x32, f32, ⟨y32, g32⟩, t32, -⟩ := r32
  dsimp only at f32
  subst f32 g32
  obtain ⟨cA48, x48, f48, ⟨y48, g48⟩, t48, -⟩ := r48
  dsimp only at f48
  subst f48 g48
  obtain ⟨cA36, x36, f36, ⟨y36, g36⟩, t36, -⟩ := r36
  dsimp only at f36
  subst f36 g36
  obtain ⟨cA49, x49, f49, ⟨y49, g49⟩, t49, -⟩ := r49
  dsimp only at f49
  subst f49 g49
  obtain ⟨cA34, x34, f34, ⟨y34, g34⟩, t34, -⟩ := r34
  dsimp only at f34
  subst f34 g34
  obtain ⟨cA18, x18, f18, ⟨y18, g18⟩, t18, -⟩ := r18
  dsimp only at f18
  subst f18 g18
  obtain ⟨cA59, x59, f59, ⟨y59, g59⟩, t59, -⟩ := r59
  dsimp only at f59
  subst f59 g59
  obtain ⟨cA60, x60, f60, ⟨y60, g60⟩, t60, -⟩ := r60
  dsimp only at f60
  subst f60 g60
  obtain ⟨cA50, x50, f50, ⟨y50, g50⟩, t50, -⟩ := r50
  dsimp only at f50
  subst f50 g50
  obtain ⟨cA31, x31, f31, ⟨y31, g31⟩, t31, -⟩ := r31
  dsimp only at f31
  subst f31 g31
  obtain ⟨cA51, x51, f51, ⟨y51, g51⟩, t51, -⟩ := r51
  dsimp only at f51
  subst f51 g51
  obtain ⟨cA52, x52, f52, ⟨y52, g52⟩, t52, -⟩ := r52
  dsimp only at f52
  subst f52 g52
  obtain ⟨cA53, x53, f53, ⟨y53, g53⟩, t53, -⟩ := r53
  dsimp only at f53
  subst f53 g53
  obtain ⟨cA54, x54, f54, ⟨y54, g54⟩, t54, -⟩ := r54
  dsimp only at f54
  subst f54 g54
  obtain ⟨cA55, x55, f55, ⟨y55, g55⟩, t55, -⟩ := r55
  dsimp only at f55
  subst f55 g55
  obtain ⟨cA56, x56, f56, ⟨y56, g56⟩, t56, -⟩ := r56
  dsimp only at f56
  subst f56 g56
  obtain ⟨cA33, x33, f33, ⟨y33, g33⟩, t33, -⟩ := r33
  dsimp only at f33
  subst f33 g33
  obtain ⟨cA57, x57, f57, ⟨y57, g57⟩, t57, -⟩ := r57
  dsimp only at f57
  subst f57 g57
  obtain ⟨cA37, x37, f37, ⟨y37, g37⟩, t37, -⟩ := r37
  dsimp only at f37
  subst f37 g37
  obtain ⟨cA58, x58, f58, ⟨y58, g58⟩, t58, -⟩ := r58
  dsimp only at f58
  subst f58 g58
  obtain ⟨cA35, x35, f35, ⟨y35, g35⟩, t35, -⟩ := r35
  dsimp only at f35
  subst f35 g35
  obtain ⟨vs10, f10, l10, w10⟩ := r10
  dsimp only at f10
  subst f10
  obtain ⟨u10_0, s10_0, rfl, m10_0⟩ := cu_c l10
  obtain ⟨u10_1, s10_1, rfl, m10_1⟩ := cu_c m10_0
  obtain ⟨u10_2, s10_2, rfl, m10_2⟩ := cu_c m10_1
  obtain ⟨u10_3, s10_3, rfl, m10_3⟩ := cu_c m10_2
  obtain ⟨u10_4, s10_4, rfl, m10_4⟩ := cu_c m10_3
  obtain ⟨u10_5, s10_5, rfl, m10_5⟩ := cu_c m10_4
  obtain ⟨u10_6, s10_6, rfl, m10_6⟩ := cu_c m10_5
  obtain ⟨u10_7, s10_7, rfl, m10_7⟩ := cu_c m10_6
  obtain ⟨u10_8, s10_8, rfl, m10_8⟩ := cu_c m10_7
  obtain ⟨u10_9, s10_9, rfl, m10_9⟩ := cu_c m10_8
  obtain ⟨u10_10, s10_10, rfl, m10_10⟩ := cu_c m10_9
  obtain ⟨u10_11, s10_11, rfl, m10_11⟩ := cu_c m10_10
  obtain ⟨u10_12, s10_12, rfl, m10_12⟩ := cu_c m10_11
  obtain ⟨u10_13, s10_13, rfl, m10_13⟩ := cu_c m10_12
  obtain ⟨u10_14, s10_14, rfl, m10_14⟩ := cu_c m10_13
  obtain ⟨u10_15, s10_15, rfl, m10_15⟩ := cu_c m10_14
  obtain ⟨u10_16, s10_16, rfl, m10_16⟩ := cu_c m10_15
  cases cu_n m10_16
  have q10_0 := cu_R (cu_ad hz h3) (w10 0 _ _ rfl rfl)
  subst q10_0
  have q10_1 := cu_R (cu_ad hz h39) (w10 1 _ _ rfl rfl)
  subst q10_1
  have q10_2 : u10_2 = .ref a11 := by
    obtain ⟨ad, e1, e2⟩ := hl
    have e3 := e1.symm.trans (cu_ad hz h11)
    cases e3
    rw [cu_v_of h10] at e2
    exact e2
  subst q10_2
  have q10_3 : u10_3 = .ref a12 := by
    obtain ⟨ad, e1, e2⟩ := hd
    have e3 := e1.symm.trans (cu_ad hz h12)
    cases e3
    rw [cu_v_of h10] at e2
    exact e2
  subst q10_3
  have q10_4 := cu_R (cu_ad hz h13) (w10 4 _ _ rfl rfl)
  subst q10_4
  obtain ⟨i10_5, q10_5⟩ := cu_Rx (w10 5 _ _ rfl rfl)
  subst q10_5
  have q10_6 := cu_R (cu_ad hz h15) (w10 6 _ _ rfl rfl)
  subst q10_6
  have q10_7 : u10_7 = .ref a8 := by
    obtain ⟨ad, e1, e2⟩ := hs
    have e3 := e1.symm.trans (cu_ad hz h8)
    cases e3
    rw [cu_v_of h10] at e2
    exact e2
  subst q10_7
  obtain ⟨i10_8, q10_8⟩ := cu_Rx (w10 8 _ _ rfl rfl)
  subst q10_8
  obtain ⟨i10_9, q10_9⟩ := cu_Rx (w10 9 _ _ rfl rfl)
  subst q10_9
  obtain ⟨i10_10, q10_10⟩ := cu_Rx (w10 10 _ _ rfl rfl)
  subst q10_10
  obtain ⟨i10_11, q10_11⟩ := cu_Rx (w10 11 _ _ rfl rfl)
  subst q10_11
  obtain ⟨i10_12, q10_12⟩ := cu_Rx (w10 12 _ _ rfl rfl)
  subst q10_12
  obtain ⟨i10_13, q10_13⟩ := cu_Rx (w10 13 _ _ rfl rfl)
  subst q10_13
  obtain ⟨i10_14, q10_14⟩ := cu_I (w10 14 _ _ rfl rfl) rfl
  subst q10_14
  obtain ⟨i10_15, q10_15⟩ := cu_Rx (w10 15 _ _ rfl rfl)
  subst q10_15
  obtain ⟨i10_16, q10_16⟩ := cu_I (w10 16 _ _ rfl rfl) rfl
  subst q10_16
  obtain ⟨vs3, f3, l3, w3⟩ := r3
  dsimp only at f3
  subst f3
  obtain ⟨u3_0, s3_0, rfl, m3_0⟩ := cu_c l3
  obtain ⟨u3_1, s3_1, rfl, m3_1⟩ := cu_c m3_0
  obtain ⟨u3_2, s3_2, rfl, m3_2⟩ := cu_c m3_1
  obtain ⟨u3_3, s3_3, rfl, m3_3⟩ := cu_c m3_2
  obtain ⟨u3_4, s3_4, rfl, m3_4⟩ := cu_c m3_3
  obtain ⟨u3_5, s3_5, rfl, m3_5⟩ := cu_c m3_4
  obtain ⟨u3_6, s3_6, rfl, m3_6⟩ := cu_c m3_5
  obtain ⟨u3_7, s3_7, rfl, m3_7⟩ := cu_c m3_6
  obtain ⟨u3_8, s3_8, rfl, m3_8⟩ := cu_c m3_7
  obtain ⟨u3_9, s3_9, rfl, m3_9⟩ := cu_c m3_8
  obtain ⟨u3_10, s3_10, rfl, m3_10⟩ := cu_c m3_9
  obtain ⟨u3_11, s3_11, rfl, m3_11⟩ := cu_c m3_10
  obtain ⟨u3_12, s3_12, rfl, m3_12⟩ := cu_c m3_11
  obtain ⟨u3_13, s3_13, rfl, m3_13⟩ := cu_c m3_12
  obtain ⟨u3_14, s3_14, rfl, m3_14⟩ := cu_c m3_13
  cases cu_n m3_14
  have q3_0 := cu_R (cu_ad hz h17) (w3 0 _ _ rfl rfl)
  subst q3_0
  obtain ⟨i3_1, q3_1⟩ := cu_I (w3 1 _ _ rfl rfl) rfl
  obtain ⟨i3_2, q3_2⟩ := cu_I (w3 2 _ _ rfl rfl) rfl
  subst q3_2
  obtain ⟨i3_3, q3_3⟩ := cu_I (w3 3 _ _ rfl rfl) rfl
  subst q3_3
  obtain ⟨i3_4, q3_4⟩ := cu_I (w3 4 _ _ rfl rfl) rfl
  subst q3_4
  obtain ⟨i3_5, q3_5⟩ := cu_I (w3 5 _ _ rfl rfl) rfl
  subst q3_5
  obtain ⟨i3_6, q3_6⟩ := cu_L (w3 6 _ _ rfl rfl) rfl
  subst q3_6
  obtain ⟨i3_7, q3_7⟩ := cu_I (w3 7 _ _ rfl rfl) rfl
  subst q3_7
  obtain ⟨i3_8, q3_8⟩ := cu_I (w3 8 _ _ rfl rfl) rfl
  subst q3_8
  obtain ⟨i3_9, q3_9⟩ := cu_I (w3 9 _ _ rfl rfl) rfl
  subst q3_9
  obtain ⟨i3_10, q3_10⟩ := cu_L (w3 10 _ _ rfl rfl) rfl
  subst q3_10
  obtain ⟨i3_11, q3_11⟩ := cu_I (w3 11 _ _ rfl rfl) rfl
  subst q3_11
  obtain ⟨i3_12, q3_12⟩ := cu_I (w3 12 _ _ rfl rfl) rfl
  subst q3_12
  obtain ⟨i3_13, q3_13⟩ := cu_I (w3 13 _ _ rfl rfl) rfl
  subst q3_13
  have q3_14 := cu_R (cu_ad hz h38) (w3 14 _ _ rfl rfl)
  subst q3_14
  obtain ⟨vs39, f39, l39, w39⟩ := r39
  dsimp only at f39
  subst f39
  obtain ⟨u39_0, s39_0, rfl, m39_0⟩ := cu_c l39
  cases cu_n m39_0
  have q39_0 := cu_R (cu_ad hz h40) (w39 0 _ _ rfl rfl)
  subst q39_0
  obtain ⟨vs12, f12, l12, w12⟩ := r12
  dsimp only at f12
  subst f12
  obtain ⟨u12_0, s12_0, rfl, m12_0⟩ := cu_c l12
  obtain ⟨u12_1, s12_1, rfl, m12_1⟩ := cu_c m12_0
  obtain ⟨u12_2, s12_2, rfl, m12_2⟩ := cu_c m12_1
  obtain ⟨u12_3, s12_3, rfl, m12_3⟩ := cu_c m12_2
  obtain ⟨u12_4, s12_4, rfl, m12_4⟩ := cu_c m12_3
  obtain ⟨u12_5, s12_5, rfl, m12_5⟩ := cu_c m12_4
  obtain ⟨u12_6, s12_6, rfl, m12_6⟩ := cu_c m12_5
  obtain ⟨u12_7, s12_7, rfl, m12_7⟩ := cu_c m12_6
  obtain ⟨u12_8, s12_8, rfl, m12_8⟩ := cu_c m12_7
  obtain ⟨u12_9, s12_9, rfl, m12_9⟩ := cu_c m12_8
  obtain ⟨u12_10, s12_10, rfl, m12_10⟩ := cu_c m12_9
  obtain ⟨u12_11, s12_11, rfl, m12_11⟩ := cu_c m12_10
  obtain ⟨u12_12, s12_12, rfl, m12_12⟩ := cu_c m12_11
  obtain ⟨u12_13, s12_13, rfl, m12_13⟩ := cu_c m12_12
  obtain ⟨u12_14, s12_14, rfl, m12_14⟩ := cu_c m12_13
  obtain ⟨u12_15, s12_15, rfl, m12_15⟩ := cu_c m12_14
  cases cu_n m12_15
  obtain ⟨i12_0, q12_0⟩ := cu_I (w12 0 _ _ rfl rfl) rfl
  subst q12_0
  have q12_1 := cu_R (cu_ad hz h41) (w12 1 _ _ rfl rfl)
  subst q12_1
  have q12_2 := cu_R (cu_ad hz h30) (w12 2 _ _ rfl rfl)
  subst q12_2
  have q12_3 := cu_R (cu_ad hz h42) (w12 3 _ _ rfl rfl)
  subst q12_3
  obtain ⟨i12_4, q12_4⟩ := cu_I (w12 4 _ _ rfl rfl) rfl
  subst q12_4
  have q12_5 := cu_R (cu_ad hz h43) (w12 5 _ _ rfl rfl)
  subst q12_5
  have q12_6 := cu_R (cu_ad hz h44) (w12 6 _ _ rfl rfl)
  subst q12_6
  have q12_7 := cu_R (cu_ad hz h45) (w12 7 _ _ rfl rfl)
  subst q12_7
  have q12_8 := cu_R (cu_ad hz h46) (w12 8 _ _ rfl rfl)
  subst q12_8
  obtain ⟨i12_9, q12_9⟩ := cu_I (w12 9 _ _ rfl rfl) rfl
  subst q12_9
  have q12_10 := cu_R (cu_ad hz h47) (w12 10 _ _ rfl rfl)
  subst q12_10
  have q12_11 := cu_R (cu_ad hz h32) (w12 11 _ _ rfl rfl)
  subst q12_11
  have q12_12 := cu_R (cu_ad hz h48) (w12 12 _ _ rfl rfl)
  subst q12_12
  have q12_13 := cu_R (cu_ad hz h36) (w12 13 _ _ rfl rfl)
  subst q12_13
  have q12_14 := cu_R (cu_ad hz h49) (w12 14 _ _ rfl rfl)
  subst q12_14
  have q12_15 := cu_R (cu_ad hz h34) (w12 15 _ _ rfl rfl)
  subst q12_15
  obtain ⟨vs13, f13, l13, w13⟩ := r13
  dsimp only at f13
  subst f13
  obtain ⟨u13_0, s13_0, rfl, m13_0⟩ := cu_c l13
  obtain ⟨u13_1, s13_1, rfl, m13_1⟩ := cu_c m13_0
  obtain ⟨u13_2, s13_2, rfl, m13_2⟩ := cu_c m13_1
  obtain ⟨u13_3, s13_3, rfl, m13_3⟩ := cu_c m13_2
  obtain ⟨u13_4, s13_4, rfl, m13_4⟩ := cu_c m13_3
  obtain ⟨u13_5, s13_5, rfl, m13_5⟩ := cu_c m13_4
  obtain ⟨u13_6, s13_6, rfl, m13_6⟩ := cu_c m13_5
  cases cu_n m13_6
  obtain ⟨i13_0, q13_0⟩ := cu_I (w13 0 _ _ rfl rfl) rfl
  subst q13_0
  obtain ⟨i13_1, q13_1⟩ := cu_I (w13 1 _ _ rfl rfl) rfl
  subst q13_1
  obtain ⟨i13_2, q13_2⟩ := cu_I (w13 2 _ _ rfl rfl) rfl
  subst q13_2
  have q13_3 := cu_R (cu_ad hz h18) (w13 3 _ _ rfl rfl)
  subst q13_3
  have q13_4 := cu_R (cu_ad hz h59) (w13 4 _ _ rfl rfl)
  subst q13_4
  have q13_5 := cu_R (cu_ad hz h60) (w13 5 _ _ rfl rfl)
  subst q13_5
  obtain ⟨i13_6, q13_6⟩ := cu_I (w13 6 _ _ rfl rfl) rfl
  subst q13_6
  obtain ⟨vs8, f8, l8, w8⟩ := r8
  dsimp only at f8
  subst f8
  obtain ⟨u8_0, s8_0, rfl, m8_0⟩ := cu_c l8
  obtain ⟨u8_1, s8_1, rfl, m8_1⟩ := cu_c m8_0
  obtain ⟨u8_2, s8_2, rfl, m8_2⟩ := cu_c m8_1
  obtain ⟨u8_3, s8_3, rfl, m8_3⟩ := cu_c m8_2
  obtain ⟨u8_4, s8_4, rfl, m8_4⟩ := cu_c m8_3
  cases cu_n m8_4
  obtain ⟨i8_0, q8_0⟩ := cu_Rx (w8 0 _ _ rfl rfl)
  subst q8_0
  obtain ⟨i8_1, q8_1⟩ := cu_Rx (w8 1 _ _ rfl rfl)
  subst q8_1
  obtain ⟨i8_2, q8_2⟩ := cu_Rx (w8 2 _ _ rfl rfl)
  subst q8_2
  obtain ⟨i8_3, q8_3⟩ := cu_I (w8 3 _ _ rfl rfl) rfl
  subst q8_3
  obtain ⟨i8_4, q8_4⟩ := cu_I (w8 4 _ _ rfl rfl) rfl
  subst q8_4
  obtain ⟨vs15, f15, l15, w15⟩ := r15
  dsimp only at f15
  subst f15
  obtain ⟨u15_0, s15_0, rfl, m15_0⟩ := cu_c l15
  obtain ⟨u15_1, s15_1, rfl, m15_1⟩ := cu_c m15_0
  cases cu_n m15_1
  obtain ⟨i15_0, q15_0⟩ := cu_Rx (w15 0 _ _ rfl rfl)
  subst q15_0
  obtain ⟨i15_1, q15_1⟩ := cu_I (w15 1 _ _ rfl rfl) rfl
  subst q15_1
  obtain ⟨vs11, f11, l11, w11⟩ := r11
  dsimp only at f11
  subst f11
  obtain ⟨u11_0, s11_0, rfl, m11_0⟩ := cu_c l11
  obtain ⟨u11_1, s11_1, rfl, m11_1⟩ := cu_c m11_0
  obtain ⟨u11_2, s11_2, rfl, m11_2⟩ := cu_c m11_1
  obtain ⟨u11_3, s11_3, rfl, m11_3⟩ := cu_c m11_2
  obtain ⟨u11_4, s11_4, rfl, m11_4⟩ := cu_c m11_3
  obtain ⟨u11_5, s11_5, rfl, m11_5⟩ := cu_c m11_4
  obtain ⟨u11_6, s11_6, rfl, m11_6⟩ := cu_c m11_5
  obtain ⟨u11_7, s11_7, rfl, m11_7⟩ := cu_c m11_6
  obtain ⟨u11_8, s11_8, rfl, m11_8⟩ := cu_c m11_7
  obtain ⟨u11_9, s11_9, rfl, m11_9⟩ := cu_c m11_8
  obtain ⟨u11_10, s11_10, rfl, m11_10⟩ := cu_c m11_9
  obtain ⟨u11_11, s11_11, rfl, m11_11⟩ := cu_c m11_10
  obtain ⟨u11_12, s11_12, rfl, m11_12⟩ := cu_c m11_11
  obtain ⟨u11_13, s11_13, rfl, m11_13⟩ := cu_c m11_12
  obtain ⟨u11_14, s11_14, rfl, m11_14⟩ := cu_c m11_13
  obtain ⟨u11_15, s11_15, rfl, m11_15⟩ := cu_c m11_14
  cases cu_n m11_15
  obtain ⟨i11_0, q11_0⟩ := cu_I (w11 0 _ _ rfl rfl) rfl
  subst q11_0
  have q11_1 := cu_R (cu_ad hz h50) (w11 1 _ _ rfl rfl)
  subst q11_1
  have q11_2 := cu_R (cu_ad hz h31) (w11 2 _ _ rfl rfl)
  subst q11_2
  have q11_3 := cu_R (cu_ad hz h51) (w11 3 _ _ rfl rfl)
  subst q11_3
  obtain ⟨i11_4, q11_4⟩ := cu_I (w11 4 _ _ rfl rfl) rfl
  subst q11_4
  have q11_5 := cu_R (cu_ad hz h52) (w11 5 _ _ rfl rfl)
  subst q11_5
  have q11_6 := cu_R (cu_ad hz h53) (w11 6 _ _ rfl rfl)
  subst q11_6
  have q11_7 := cu_R (cu_ad hz h54) (w11 7 _ _ rfl rfl)
  subst q11_7
  have q11_8 := cu_R (cu_ad hz h55) (w11 8 _ _ rfl rfl)
  subst q11_8
  obtain ⟨i11_9, q11_9⟩ := cu_I (w11 9 _ _ rfl rfl) rfl
  subst q11_9
  have q11_10 := cu_R (cu_ad hz h56) (w11 10 _ _ rfl rfl)
  subst q11_10
  have q11_11 := cu_R (cu_ad hz h33) (w11 11 _ _ rfl rfl)
  subst q11_11
  have q11_12 := cu_R (cu_ad hz h57) (w11 12 _ _ rfl rfl)
  subst q11_12
  have q11_13 := cu_R (cu_ad hz h37) (w11 13 _ _ rfl rfl)
  subst q11_13
  have q11_14 := cu_R (cu_ad hz h58) (w11 14 _ _ rfl rfl)
  subst q11_14
  have q11_15 := cu_R (cu_ad hz h35) (w11 15 _ _ rfl rfl)
  subst q11_15
  have z3 := w3 1 _ _ rfl rfl
  subst q3_1
  refine ⟨((fun j => bif Nat.beq j 0 then i3_1 else bif Nat.beq j 1 then i3_2 else bif Nat.beq j 2 then i3_3 else bif Nat.beq j 3 then i3_4 else bif Nat.beq j 4 then i3_5 else bif Nat.beq j 5 then i3_7 else bif Nat.beq j 6 then i3_8 else bif Nat.beq j 7 then i3_9 else bif Nat.beq j 8 then i3_11 else bif Nat.beq j 9 then i3_12 else bif Nat.beq j 10 then i3_13 else bif Nat.beq j 11 then i12_0 else bif Nat.beq j 12 then i12_4 else bif Nat.beq j 13 then i12_9 else bif Nat.beq j 14 then i10_14 else bif Nat.beq j 15 then i10_16 else bif Nat.beq j 16 then i13_0 else bif Nat.beq j 17 then i13_1 else bif Nat.beq j 18 then i13_2 else bif Nat.beq j 19 then i13_6 else bif Nat.beq j 20 then i8_3 else bif Nat.beq j 21 then i8_4 else bif Nat.beq j 22 then i15_1 else (0 : Int32)), (fun j => bif Nat.beq j 0 then i3_6 else bif Nat.beq j 1 then i3_10 else (0 : Int64)), (fun j => bif Nat.beq j 0 then y17 else bif Nat.beq j 1 then y30 else bif Nat.beq j 2 then y42 else bif Nat.beq j 3 then y43 else bif Nat.beq j 4 then y44 else bif Nat.beq j 5 then y45 else bif Nat.beq j 6 then y46 else bif Nat.beq j 7 then y32 else bif Nat.beq j 8 then y48 else bif Nat.beq j 9 then y36 else bif Nat.beq j 10 then y49 else bif Nat.beq j 11 then y34 else bif Nat.beq j 12 then y40 else bif Nat.beq j 13 then y18 else bif Nat.beq j 14 then y59 else bif Nat.beq j 15 then y60 else (fun _ => (0 : Int32))), (fun j => bif Nat.beq j 0 then y38 else bif Nat.beq j 1 then y41 else bif Nat.beq j 2 then y47 else (fun _ => (0 : Int64)))), ([a10, a3, a17, a38, a39, a40, a12, a41, a30, a42, a43, a44, a45, a46, a47, a32, a48, a36, a49, a34, a13, a18, a59, a60, a8, a15, a11, a50, a31, a51, a52, a53, a54, a55, a56, a33, a57, a37, a58, a35], (fun j => bif Nat.beq j 1 then i10_5 else bif Nat.beq j 2 then i10_8 else bif Nat.beq j 3 then i10_9 else bif Nat.beq j 4 then i10_10 else bif Nat.beq j 5 then i10_11 else bif Nat.beq j 6 then i10_12 else bif Nat.beq j 7 then i10_13 else bif Nat.beq j 8 then i10_15 else bif Nat.beq j 9 then i8_0 else bif Nat.beq j 10 then i8_1 else bif Nat.beq j 11 then i8_2 else bif Nat.beq j 12 then i15_0 else 0)), [(a10, .inr (10, [.ref a3, .ref a39, .ref a11, .ref a12, .ref a13, .ref i10_5, .ref a15, .ref a8, .ref i10_8, .ref i10_9, .ref i10_10, .ref i10_11, .ref i10_12, .ref i10_13, .int i10_14, .ref i10_15, .int i10_16])),
      (a3, .inr (4, [.ref a17, .int i3_1, .int i3_2, .int i3_3, .int i3_4, .int i3_5, .long i3_6, .int i3_7, .int i3_8, .int i3_9, .long i3_10, .int i3_11, .int i3_12, .int i3_13, .ref a38])),
      (a17, .inl (cA17, 940, .inl y17)),
      (a38, .inl (cA38, 22, .inr (.inl y38))),
      (a39, .inr (9, [.ref a40])),
      (a40, .inl (cA40, 3, .inl y40)),
      (a12, .inr (8, [.int i12_0, .ref a41, .ref a30, .ref a42, .int i12_4, .ref a43, .ref a44, .ref a45, .ref a46, .int i12_9, .ref a47, .ref a32, .ref a48, .ref a36, .ref a49, .ref a34])),
      (a41, .inl (cA41, 7, .inr (.inl y41))),
      (a30, .inl (cA30, 7, .inl y30)),
      (a42, .inl (cA42, 7, .inl y42)),
      (a43, .inl (cA43, 12, .inl y43)),
      (a44, .inl (cA44, 12, .inl y44)),
      (a45, .inl (cA45, 12, .inl y45)),
      (a46, .inl (cA46, 12, .inl y46)),
      (a47, .inl (cA47, 8, .inr (.inl y47))),
      (a32, .inl (cA32, 8, .inl y32)),
      (a48, .inl (cA48, 8, .inl y48)),
      (a36, .inl (cA36, 8, .inl y36)),
      (a49, .inl (cA49, 8, .inl y49)),
      (a34, .inl (cA34, 3, .inl y34)),
      (a13, .inr (7, [.int i13_0, .int i13_1, .int i13_2, .ref a18, .ref a59, .ref a60, .int i13_6])),
      (a18, .inl (cA18, 7, .inl y18)),
      (a59, .inl (cA59, 7, .inl y59)),
      (a60, .inl (cA60, 7, .inl y60)),
      (a8, .inr (6, [.ref i8_0, .ref i8_1, .ref i8_2, .int i8_3, .int i8_4])),
      (a15, .inr (1, [.ref i15_0, .int i15_1])),
      (a11, .inr (8, [.int i11_0, .ref a50, .ref a31, .ref a51, .int i11_4, .ref a52, .ref a53, .ref a54, .ref a55, .int i11_9, .ref a56, .ref a33, .ref a57, .ref a37, .ref a58, .ref a35])),
      (a50, .inl (cA50, 7, .inr (.inl y50))),
      (a31, .inl (cA31, 7, .inl y31)),
      (a51, .inl (cA51, 7, .inl y51)),
      (a52, .inl (cA52, 12, .inl y52)),
      (a53, .inl (cA53, 12, .inl y53)),
      (a54, .inl (cA54, 12, .inl y54)),
      (a55, .inl (cA55, 12, .inl y55)),
      (a56, .inl (cA56, 8, .inr (.inl y56))),
      (a33, .inl (cA33, 8, .inl y33)),
      (a57, .inl (cA57, 8, .inl y57)),
      (a37, .inl (cA37, 8, .inl y37)),
      (a58, .inl (cA58, 8, .inl y58)),
      (a35, .inl (cA35, 3, .inl y35))], i11_0, i11_4, i11_9, y50, y56, y31, y51, y52, y53, y54, y55, y33, y57, y37, y58, y35, ?_, ?_, cu_ev1 z3⟩
  · refine ⟨rfl, ⟨rfl, Nat.le_of_ble_eq_true rfl⟩, fun k c hk => ?_⟩
    match k, hk with
    | 0, hk => cases hk; exact ⟨_, rfl, rfl⟩
    | 1, hk => cases hk; exact ⟨_, rfl, rfl⟩
    | 2, hk => cases hk; exact ⟨_, rfl, Nat.le_of_ble_eq_true rfl, Nat.le_of_ble_eq_true rfl, ⟨_, rfl⟩, _, rfl, t17⟩
    | 3, hk => cases hk; exact ⟨_, rfl, Nat.le_of_ble_eq_true rfl, Nat.le_of_ble_eq_true rfl, ⟨_, rfl⟩, _, rfl, t38⟩
    | 4, hk => cases hk; exact ⟨_, rfl, rfl⟩
    | 5, hk => cases hk; exact ⟨_, rfl, Nat.le_of_ble_eq_true rfl, Nat.le_of_ble_eq_true rfl, ⟨_, rfl⟩, _, rfl, t40⟩
    | 6, hk => cases hk; exact ⟨_, rfl, rfl⟩
    | 7, hk => cases hk; exact ⟨_, rfl, Nat.le_of_ble_eq_true rfl, Nat.le_of_ble_eq_true rfl, ⟨_, rfl⟩, _, rfl, t41⟩
    | 8, hk => cases hk; exact ⟨_, rfl, Nat.le_of_ble_eq_true rfl, Nat.le_of_ble_eq_true rfl, ⟨_, rfl⟩, _, rfl, t30⟩
    | 9, hk => cases hk; exact ⟨_, rfl, Nat.le_of_ble_eq_true rfl, Nat.le_of_ble_eq_true rfl, ⟨_, rfl⟩, _, rfl, t42⟩
    | 10, hk => cases hk; exact ⟨_, rfl, Nat.le_of_ble_eq_true rfl, Nat.le_of_ble_eq_true rfl, ⟨_, rfl⟩, _, rfl, t43⟩
    | 11, hk => cases hk; exact ⟨_, rfl, Nat.le_of_ble_eq_true rfl, Nat.le_of_ble_eq_true rfl, ⟨_, rfl⟩, _, rfl, t44⟩
    | 12, hk => cases hk; exact ⟨_, rfl, Nat.le_of_ble_eq_true rfl, Nat.le_of_ble_eq_true rfl, ⟨_, rfl⟩, _, rfl, t45⟩
    | 13, hk => cases hk; exact ⟨_, rfl, Nat.le_of_ble_eq_true rfl, Nat.le_of_ble_eq_true rfl, ⟨_, rfl⟩, _, rfl, t46⟩
    | 14, hk => cases hk; exact ⟨_, rfl, Nat.le_of_ble_eq_true rfl, Nat.le_of_ble_eq_true rfl, ⟨_, rfl⟩, _, rfl, t47⟩
    | 15, hk => cases hk; exact ⟨_, rfl, Nat.le_of_ble_eq_true rfl, Nat.le_of_ble_eq_true rfl, ⟨_, rfl⟩, _, rfl, t32⟩
    | 16, hk => cases hk; exact ⟨_, rfl, Nat.le_of_ble_eq_true rfl, Nat.le_of_ble_eq_true rfl, ⟨_, rfl⟩, _, rfl, t48⟩
    | 17, hk => cases hk; exact ⟨_, rfl, Nat.le_of_ble_eq_true rfl, Nat.le_of_ble_eq_true rfl, ⟨_, rfl⟩, _, rfl, t36⟩
    | 18, hk => cases hk; exact ⟨_, rfl, Nat.le_of_ble_eq_true rfl, Nat.le_of_ble_eq_true rfl, ⟨_, rfl⟩, _, rfl, t49⟩
    | 19, hk => cases hk; exact ⟨_, rfl, Nat.le_of_ble_eq_true rfl, Nat.le_of_ble_eq_true rfl, ⟨_, rfl⟩, _, rfl, t34⟩
    | 20, hk => cases hk; exact ⟨_, rfl, rfl⟩
    | 21, hk => cases hk; exact ⟨_, rfl, Nat.le_of_ble_eq_true rfl, Nat.le_of_ble_eq_true rfl, ⟨_, rfl⟩, _, rfl, t18⟩
    | 22, hk => cases hk; exact ⟨_, rfl, Nat.le_of_ble_eq_true rfl, Nat.le_of_ble_eq_true rfl, ⟨_, rfl⟩, _, rfl, t59⟩
    | 23, hk => cases hk; exact ⟨_, rfl, Nat.le_of_ble_eq_true rfl, Nat.le_of_ble_eq_true rfl, ⟨_, rfl⟩, _, rfl, t60⟩
    | 24, hk => cases hk; exact ⟨_, rfl, rfl⟩
    | 25, hk => cases hk; exact ⟨_, rfl, rfl⟩
    | 26, hk => cases hk; exact ⟨_, rfl, rfl⟩
    | 27, hk => cases hk; exact ⟨_, rfl, Nat.le_of_ble_eq_true rfl, Nat.le_of_ble_eq_true rfl, ⟨_, rfl⟩, _, rfl, t50⟩
    | 28, hk => cases hk; exact ⟨_, rfl, Nat.le_of_ble_eq_true rfl, Nat.le_of_ble_eq_true rfl, ⟨_, rfl⟩, _, rfl, t31⟩
    | 29, hk => cases hk; exact ⟨_, rfl, Nat.le_of_ble_eq_true rfl, Nat.le_of_ble_eq_true rfl, ⟨_, rfl⟩, _, rfl, t51⟩
    | 30, hk => cases hk; exact ⟨_, rfl, Nat.le_of_ble_eq_true rfl, Nat.le_of_ble_eq_true rfl, ⟨_, rfl⟩, _, rfl, t52⟩
    | 31, hk => cases hk; exact ⟨_, rfl, Nat.le_of_ble_eq_true rfl, Nat.le_of_ble_eq_true rfl, ⟨_, rfl⟩, _, rfl, t53⟩
    | 32, hk => cases hk; exact ⟨_, rfl, Nat.le_of_ble_eq_true rfl, Nat.le_of_ble_eq_true rfl, ⟨_, rfl⟩, _, rfl, t54⟩
    | 33, hk => cases hk; exact ⟨_, rfl, Nat.le_of_ble_eq_true rfl, Nat.le_of_ble_eq_true rfl, ⟨_, rfl⟩, _, rfl, t55⟩
    | 34, hk => cases hk; exact ⟨_, rfl, Nat.le_of_ble_eq_true rfl, Nat.le_of_ble_eq_true rfl, ⟨_, rfl⟩, _, rfl, t56⟩
    | 35, hk => cases hk; exact ⟨_, rfl, Nat.le_of_ble_eq_true rfl, Nat.le_of_ble_eq_true rfl, ⟨_, rfl⟩, _, rfl, t33⟩
    | 36, hk => cases hk; exact ⟨_, rfl, Nat.le_of_ble_eq_true rfl, Nat.le_of_ble_eq_true rfl, ⟨_, rfl⟩, _, rfl, t57⟩
    | 37, hk => cases hk; exact ⟨_, rfl, Nat.le_of_ble_eq_true rfl, Nat.le_of_ble_eq_true rfl, ⟨_, rfl⟩, _, rfl, t37⟩
    | 38, hk => cases hk; exact ⟨_, rfl, Nat.le_of_ble_eq_true rfl, Nat.le_of_ble_eq_true rfl, ⟨_, rfl⟩, _, rfl, t58⟩
    | 39, hk => cases hk; exact ⟨_, rfl, Nat.le_of_ble_eq_true rfl, Nat.le_of_ble_eq_true rfl, ⟨_, rfl⟩, _, rfl, t35⟩
    | k + 40, hk => cases hk
  · simp only [List.map_cons, List.map_nil, h10, h3, h17, h38, h39, h40, h12, h41, h30, h42, h43, h44, h45, h46, h47, h32, h48, h36, h49, h34, h13, h18, h59, h60, h8, h15, h11, h50, h31, h51, h52, h53, h54, h55, h56, h33, h57, h37, h58, h35]
set_option maxRecDepth 100000 in
set_option maxHeartbeats 4000000 in
theorem cu_A_11_9 {X : ab_X} {z : ab_Z} {s : State} {ws : va_W} (hc : ∀ (k : Nat) (c : ab_C), k ∈ cu_KA → gl_L[k]? = some c → ∃ q, ws[k]? = some q ∧ ab_cR X z s c q.2) (hz : ws.map Prod.fst = z.2.2) (hd : ∃ ad, z.2.2[11]? = some ad ∧ cu_v ws 10 3 = .ref ad) (hs : ∃ ad, z.2.2[9]? = some ad ∧ cu_v ws 10 7 = .ref ad) : ∃ (σ : ex_S) (A : ex_A) (we : va_W), ex_wR X A s (WA (2000000, []) 6 σ) we ∧ ([10, 3, 17, 38, 39, 40, 11, 50, 31, 51, 52, 53, 54, 55, 56, 33, 57, 37, 58, 35, 13, 18, 59, 60, 9, 15] : List Nat).map (fun k => ws[k]?) = we.map some ∧ z.1[1]? = some (σ.1 0) := by
  obtain ⟨⟨a10, e10⟩, h10, r10⟩ := hc 10 _ (by decide) rfl
  obtain ⟨⟨a3, e3⟩, h3, r3⟩ := hc 3 _ (by decide) rfl
  obtain ⟨⟨a17, e17⟩, h17, r17⟩ := hc 17 _ (by decide) rfl
  obtain ⟨⟨a38, e38⟩, h38, r38⟩ := hc 38 _ (by decide) rfl
  obtain ⟨⟨a39, e39⟩, h39, r39⟩ := hc 39 _ (by decide) rfl
  obtain ⟨⟨a40, e40⟩, h40, r40⟩ := hc 40 _ (by decide) rfl
  obtain ⟨⟨a11, e11⟩, h11, r11⟩ := hc 11 _ (by decide) rfl
  obtain ⟨⟨a50, e50⟩, h50, r50⟩ := hc 50 _ (by decide) rfl
  obtain ⟨⟨a31, e31⟩, h31, r31⟩ := hc 31 _ (by decide) rfl
  obtain ⟨⟨a51, e51⟩, h51, r51⟩ := hc 51 _ (by decide) rfl
  obtain ⟨⟨a52, e52⟩, h52, r52⟩ := hc 52 _ (by decide) rfl
  obtain ⟨⟨a53, e53⟩, h53, r53⟩ := hc 53 _ (by decide) rfl
  obtain ⟨⟨a54, e54⟩, h54, r54⟩ := hc 54 _ (by decide) rfl
  obtain ⟨⟨a55, e55⟩, h55, r55⟩ := hc 55 _ (by decide) rfl
  obtain ⟨⟨a56, e56⟩, h56, r56⟩ := hc 56 _ (by decide) rfl
  obtain ⟨⟨a33, e33⟩, h33, r33⟩ := hc 33 _ (by decide) rfl
  obtain ⟨⟨a57, e57⟩, h57, r57⟩ := hc 57 _ (by decide) rfl
  obtain ⟨⟨a37, e37⟩, h37, r37⟩ := hc 37 _ (by decide) rfl
  obtain ⟨⟨a58, e58⟩, h58, r58⟩ := hc 58 _ (by decide) rfl
  obtain ⟨⟨a35, e35⟩, h35, r35⟩ := hc 35 _ (by decide) rfl
  obtain ⟨⟨a13, e13⟩, h13, r13⟩ := hc 13 _ (by decide) rfl
  obtain ⟨⟨a18, e18⟩, h18, r18⟩ := hc 18 _ (by decide) rfl
  obtain ⟨⟨a59, e59⟩, h59, r59⟩ := hc 59 _ (by decide) rfl
  obtain ⟨⟨a60, e60⟩, h60, r60⟩ := hc 60 _ (by decide) rfl
  obtain ⟨⟨a9, e9⟩, h9, r9⟩ := hc 9 _ (by decide) rfl
  obtain ⟨⟨a15, e15⟩, h15, r15⟩ := hc 15 _ (by decide) rfl
  obtain ⟨cA17, x17, f17, ⟨y17, g17⟩, t17, -⟩ := r17
  dsimp only at f17
  subst f17 g17
  obtain ⟨cA38, x38, f38, ⟨y38, g38⟩, t38, -⟩ := r38
  dsimp only at f38
  subst f38 g38
  obtain ⟨cA40, x40, f40, ⟨y40, g40⟩, t40, -⟩ := r40
  dsimp only at f40
  subst f40 g40
  obtain ⟨cA50, x50, f50, ⟨y50, g50⟩, t50, -⟩ := r50
  dsimp only at f50
  subst f50 g50
  obtain ⟨cA31, x31, f31, ⟨y31, g31⟩, t31, -⟩ := r31
  dsimp only at f31
  subst f31 g31
  obtain ⟨cA51, x51, f51, ⟨y51, g51⟩, t51, -⟩ := r51
  dsimp only at f51
  subst f51 g51
  obtain ⟨cA52, x52, f52, ⟨y52, g52⟩, t52, -⟩ := r52
  dsimp only at f52
  subst f52 g52
  obtain ⟨cA53, x53, f53, ⟨y53, g53⟩, t53, -⟩ := r53
  dsimp only at f53
  subst f53 g53
  obtain ⟨cA54, x54, f54, ⟨y54, g54⟩, t54, -⟩ := r54
  dsimp only at f54
  subst f54 g54
  obtain ⟨cA55, x55, f55, ⟨y55, g55⟩, t55, -⟩ := r55
  dsimp only at f55
  subst f55 g55
  obtain ⟨cA56, x56, f56, ⟨y56, g56⟩, t56, -⟩ := r56
  dsimp only at f56
  subst f56 g56
  obtain ⟨cA33, x33, f33, ⟨y33, g33⟩, t33, -⟩ := r33
  dsimp only at f33
  subst f33 g33
  obtain ⟨cA57, x57, f57, ⟨y57, g57⟩, t57, -⟩ := r57
  dsimp only at f57
  subst f57 g57
  obtain ⟨cA37, x37, f37, ⟨y37, g37⟩, t37, -⟩ := r37
  dsimp only at f37
  subst f37 g37
  obtain ⟨cA58, x58, f58, ⟨y58, g58⟩, t58, -⟩ := r58
  dsimp only at f58
  subst f58 g58
  obtain ⟨cA35, x35, f35, ⟨y35, g35⟩, t35, -⟩ := r35
  dsimp only at f35
  subst f35 g35
  obtain ⟨cA18, x18, f18, ⟨y18, g18⟩, t18, -⟩ := r18
  dsimp only at f18
  subst f18 g18
  obtain ⟨cA59, x59, f59, ⟨y59, g59⟩, t59, -⟩ := r59
  dsimp only at f59
  subst f59 g59
  obtain ⟨cA60, x60, f60, ⟨y60, g60⟩, t60, -⟩ := r60
  dsimp only at f60
  subst f60 g60
  obtain ⟨vs10, f10, l10, w10⟩ := r10
  dsimp only at f10
  subst f10
  obtain ⟨u10_0, s10_0, rfl, m10_0⟩ := cu_c l10
  obtain ⟨u10_1, s10_1, rfl, m10_1⟩ := cu_c m10_0
  obtain ⟨u10_2, s10_2, rfl, m10_2⟩ := cu_c m10_1
  obtain ⟨u10_3, s10_3, rfl, m10_3⟩ := cu_c m10_2
  obtain ⟨u10_4, s10_4, rfl, m10_4⟩ := cu_c m10_3
  obtain ⟨u10_5, s10_5, rfl, m10_5⟩ := cu_c m10_4
  obtain ⟨u10_6, s10_6, rfl, m10_6⟩ := cu_c m10_5
  obtain ⟨u10_7, s10_7, rfl, m10_7⟩ := cu_c m10_6
  obtain ⟨u10_8, s10_8, rfl, m10_8⟩ := cu_c m10_7
  obtain ⟨u10_9, s10_9, rfl, m10_9⟩ := cu_c m10_8
  obtain ⟨u10_10, s10_10, rfl, m10_10⟩ := cu_c m10_9
  obtain ⟨u10_11, s10_11, rfl, m10_11⟩ := cu_c m10_10
  obtain ⟨u10_12, s10_12, rfl, m10_12⟩ := cu_c m10_11
  obtain ⟨u10_13, s10_13, rfl, m10_13⟩ := cu_c m10_12
  obtain ⟨u10_14, s10_14, rfl, m10_14⟩ := cu_c m10_13
  obtain ⟨u10_15, s10_15, rfl, m10_15⟩ := cu_c m10_14
  obtain ⟨u10_16, s10_16, rfl, m10_16⟩ := cu_c m10_15
  cases cu_n m10_16
  have q10_0 := cu_R (cu_ad hz h3) (w10 0 _ _ rfl rfl)
  subst q10_0
  have q10_1 := cu_R (cu_ad hz h39) (w10 1 _ _ rfl rfl)
  subst q10_1
  obtain ⟨i10_2, q10_2⟩ := cu_Rx (w10 2 _ _ rfl rfl)
  subst q10_2
  have q10_3 : u10_3 = .ref a11 := by
    obtain ⟨ad, e1, e2⟩ := hd
    have e3 := e1.symm.trans (cu_ad hz h11)
    cases e3
    rw [cu_v_of h10] at e2
    exact e2
  subst q10_3
  have q10_4 := cu_R (cu_ad hz h13) (w10 4 _ _ rfl rfl)
  subst q10_4
  obtain ⟨i10_5, q10_5⟩ := cu_Rx (w10 5 _ _ rfl rfl)
  subst q10_5
  have q10_6 := cu_R (cu_ad hz h15) (w10 6 _ _ rfl rfl)
  subst q10_6
  have q10_7 : u10_7 = .ref a9 := by
    obtain ⟨ad, e1, e2⟩ := hs
    have e3 := e1.symm.trans (cu_ad hz h9)
    cases e3
    rw [cu_v_of h10] at e2
    exact e2
  subst q10_7
  obtain ⟨i10_8, q10_8⟩ := cu_Rx (w10 8 _ _ rfl rfl)
  subst q10_8
  obtain ⟨i10_9, q10_9⟩ := cu_Rx (w10 9 _ _ rfl rfl)
  subst q10_9
  obtain ⟨i10_10, q10_10⟩ := cu_Rx (w10 10 _ _ rfl rfl)
  subst q10_10
  obtain ⟨i10_11, q10_11⟩ := cu_Rx (w10 11 _ _ rfl rfl)
  subst q10_11
  obtain ⟨i10_12, q10_12⟩ := cu_Rx (w10 12 _ _ rfl rfl)
  subst q10_12
  obtain ⟨i10_13, q10_13⟩ := cu_Rx (w10 13 _ _ rfl rfl)
  subst q10_13
  obtain ⟨i10_14, q10_14⟩ := cu_I (w10 14 _ _ rfl rfl) rfl
  subst q10_14
  obtain ⟨i10_15, q10_15⟩ := cu_Rx (w10 15 _ _ rfl rfl)
  subst q10_15
  obtain ⟨i10_16, q10_16⟩ := cu_I (w10 16 _ _ rfl rfl) rfl
  subst q10_16
  obtain ⟨vs3, f3, l3, w3⟩ := r3
  dsimp only at f3
  subst f3
  obtain ⟨u3_0, s3_0, rfl, m3_0⟩ := cu_c l3
  obtain ⟨u3_1, s3_1, rfl, m3_1⟩ := cu_c m3_0
  obtain ⟨u3_2, s3_2, rfl, m3_2⟩ := cu_c m3_1
  obtain ⟨u3_3, s3_3, rfl, m3_3⟩ := cu_c m3_2
  obtain ⟨u3_4, s3_4, rfl, m3_4⟩ := cu_c m3_3
  obtain ⟨u3_5, s3_5, rfl, m3_5⟩ := cu_c m3_4
  obtain ⟨u3_6, s3_6, rfl, m3_6⟩ := cu_c m3_5
  obtain ⟨u3_7, s3_7, rfl, m3_7⟩ := cu_c m3_6
  obtain ⟨u3_8, s3_8, rfl, m3_8⟩ := cu_c m3_7
  obtain ⟨u3_9, s3_9, rfl, m3_9⟩ := cu_c m3_8
  obtain ⟨u3_10, s3_10, rfl, m3_10⟩ := cu_c m3_9
  obtain ⟨u3_11, s3_11, rfl, m3_11⟩ := cu_c m3_10
  obtain ⟨u3_12, s3_12, rfl, m3_12⟩ := cu_c m3_11
  obtain ⟨u3_13, s3_13, rfl, m3_13⟩ := cu_c m3_12
  obtain ⟨u3_14, s3_14, rfl, m3_14⟩ := cu_c m3_13
  cases cu_n m3_14
  have q3_0 := cu_R (cu_ad hz h17) (w3 0 _ _ rfl rfl)
  subst q3_0
  obtain ⟨i3_1, q3_1⟩ := cu_I (w3 1 _ _ rfl rfl) rfl
  obtain ⟨i3_2, q3_2⟩ := cu_I (w3 2 _ _ rfl rfl) rfl
  subst q3_2
  obtain ⟨i3_3, q3_3⟩ := cu_I (w3 3 _ _ rfl rfl) rfl
  subst q3_3
  obtain ⟨i3_4, q3_4⟩ := cu_I (w3 4 _ _ rfl rfl) rfl
  subst q3_4
  obtain ⟨i3_5, q3_5⟩ := cu_I (w3 5 _ _ rfl rfl) rfl
  subst q3_5
  obtain ⟨i3_6, q3_6⟩ := cu_L (w3 6 _ _ rfl rfl) rfl
  subst q3_6
  obtain ⟨i3_7, q3_7⟩ := cu_I (w3 7 _ _ rfl rfl) rfl
  subst q3_7
  obtain ⟨i3_8, q3_8⟩ := cu_I (w3 8 _ _ rfl rfl) rfl
  subst q3_8
  obtain ⟨i3_9, q3_9⟩ := cu_I (w3 9 _ _ rfl rfl) rfl
  subst q3_9
  obtain ⟨i3_10, q3_10⟩ := cu_L (w3 10 _ _ rfl rfl) rfl
  subst q3_10
  obtain ⟨i3_11, q3_11⟩ := cu_I (w3 11 _ _ rfl rfl) rfl
  subst q3_11
  obtain ⟨i3_12, q3_12⟩ := cu_I (w3 12 _ _ rfl rfl) rfl
  subst q3_12
  obtain ⟨i3_13, q3_13⟩ := cu_I (w3 13 _ _ rfl rfl) rfl
  subst q3_13
  have q3_14 := cu_R (cu_ad hz h38) (w3 14 _ _ rfl rfl)
  subst q3_14
  obtain ⟨vs39, f39, l39, w39⟩ := r39
  dsimp only at f39
  subst f39
  obtain ⟨u39_0, s39_0, rfl, m39_0⟩ := cu_c l39
  cases cu_n m39_0
  have q39_0 := cu_R (cu_ad hz h40) (w39 0 _ _ rfl rfl)
  subst q39_0
  obtain ⟨vs11, f11, l11, w11⟩ := r11
  dsimp only at f11
  subst f11
  obtain ⟨u11_0, s11_0, rfl, m11_0⟩ := cu_c l11
  obtain ⟨u11_1, s11_1, rfl, m11_1⟩ := cu_c m11_0
  obtain ⟨u11_2, s11_2, rfl, m11_2⟩ := cu_c m11_1
  obtain ⟨u11_3, s11_3, rfl, m11_3⟩ := cu_c m11_2
  obtain ⟨u11_4, s11_4, rfl, m11_4⟩ := cu_c m11_3
  obtain ⟨u11_5, s11_5, rfl, m11_5⟩ := cu_c m11_4
  obtain ⟨u11_6, s11_6, rfl, m11_6⟩ := cu_c m11_5
  obtain ⟨u11_7, s11_7, rfl, m11_7⟩ := cu_c m11_6
  obtain ⟨u11_8, s11_8, rfl, m11_8⟩ := cu_c m11_7
  obtain ⟨u11_9, s11_9, rfl, m11_9⟩ := cu_c m11_8
  obtain ⟨u11_10, s11_10, rfl, m11_10⟩ := cu_c m11_9
  obtain ⟨u11_11, s11_11, rfl, m11_11⟩ := cu_c m11_10
  obtain ⟨u11_12, s11_12, rfl, m11_12⟩ := cu_c m11_11
  obtain ⟨u11_13, s11_13, rfl, m11_13⟩ := cu_c m11_12
  obtain ⟨u11_14, s11_14, rfl, m11_14⟩ := cu_c m11_13
  obtain ⟨u11_15, s11_15, rfl, m11_15⟩ := cu_c m11_14
  cases cu_n m11_15
  obtain ⟨i11_0, q11_0⟩ := cu_I (w11 0 _ _ rfl rfl) rfl
  subst q11_0
  have q11_1 := cu_R (cu_ad hz h50) (w11 1 _ _ rfl rfl)
  subst q11_1
  have q11_2 := cu_R (cu_ad hz h31) (w11 2 _ _ rfl rfl)
  subst q11_2
  have q11_3 := cu_R (cu_ad hz h51) (w11 3 _ _ rfl rfl)
  subst q11_3
  obtain ⟨i11_4, q11_4⟩ := cu_I (w11 4 _ _ rfl rfl) rfl
  subst q11_4
  have q11_5 := cu_R (cu_ad hz h52) (w11 5 _ _ rfl rfl)
  subst q11_5
  have q11_6 := cu_R (cu_ad hz h53) (w11 6 _ _ rfl rfl)
  subst q11_6
  have q11_7 := cu_R (cu_ad hz h54) (w11 7 _ _ rfl rfl)
  subst q11_7
  have q11_8 := cu_R (cu_ad hz h55) (w11 8 _ _ rfl rfl)
  subst q11_8
  obtain ⟨i11_9, q11_9⟩ := cu_I (w11 9 _ _ rfl rfl) rfl
  subst q11_9
  have q11_10 := cu_R (cu_ad hz h56) (w11 10 _ _ rfl rfl)
  subst q11_10
  have q11_11 := cu_R (cu_ad hz h33) (w11 11 _ _ rfl rfl)
  subst q11_11
  have q11_12 := cu_R (cu_ad hz h57) (w11 12 _ _ rfl rfl)
  subst q11_12
  have q11_13 := cu_R (cu_ad hz h37) (w11 13 _ _ rfl rfl)
  subst q11_13
  have q11_14 := cu_R (cu_ad hz h58) (w11 14 _ _ rfl rfl)
  subst q11_14
  have q11_15 := cu_R (cu_ad hz h35) (w11 15 _ _ rfl rfl)
  subst q11_15
  obtain ⟨vs13, f13, l13, w13⟩ := r13
  dsimp only at f13
  subst f13
  obtain ⟨u13_0, s13_0, rfl, m13_0⟩ := cu_c l13
  obtain ⟨u13_1, s13_1, rfl, m13_1⟩ := cu_c m13_0
  obtain ⟨u13_2, s13_2, rfl, m13_2⟩ := cu_c m13_1
  obtain ⟨u13_3, s13_3, rfl, m13_3⟩ := cu_c m13_2
  obtain ⟨u13_4, s13_4, rfl, m13_4⟩ := cu_c m13_3
  obtain ⟨u13_5, s13_5, rfl, m13_5⟩ := cu_c m13_4
  obtain ⟨u13_6, s13_6, rfl, m13_6⟩ := cu_c m13_5
  cases cu_n m13_6
  obtain ⟨i13_0, q13_0⟩ := cu_I (w13 0 _ _ rfl rfl) rfl
  subst q13_0
  obtain ⟨i13_1, q13_1⟩ := cu_I (w13 1 _ _ rfl rfl) rfl
  subst q13_1
  obtain ⟨i13_2, q13_2⟩ := cu_I (w13 2 _ _ rfl rfl) rfl
  subst q13_2
  have q13_3 := cu_R (cu_ad hz h18) (w13 3 _ _ rfl rfl)
  subst q13_3
  have q13_4 := cu_R (cu_ad hz h59) (w13 4 _ _ rfl rfl)
  subst q13_4
  have q13_5 := cu_R (cu_ad hz h60) (w13 5 _ _ rfl rfl)
  subst q13_5
  obtain ⟨i13_6, q13_6⟩ := cu_I (w13 6 _ _ rfl rfl) rfl
  subst q13_6
  obtain ⟨vs9, f9, l9, w9⟩ := r9
  dsimp only at f9
  subst f9
  obtain ⟨u9_0, s9_0, rfl, m9_0⟩ := cu_c l9
  obtain ⟨u9_1, s9_1, rfl, m9_1⟩ := cu_c m9_0
  obtain ⟨u9_2, s9_2, rfl, m9_2⟩ := cu_c m9_1
  obtain ⟨u9_3, s9_3, rfl, m9_3⟩ := cu_c m9_2
  obtain ⟨u9_4, s9_4, rfl, m9_4⟩ := cu_c m9_3
  cases cu_n m9_4
  obtain ⟨i9_0, q9_0⟩ := cu_Rx (w9 0 _ _ rfl rfl)
  subst q9_0
  obtain ⟨i9_1, q9_1⟩ := cu_Rx (w9 1 _ _ rfl rfl)
  subst q9_1
  obtain ⟨i9_2, q9_2⟩ := cu_Rx (w9 2 _ _ rfl rfl)
  subst q9_2
  obtain ⟨i9_3, q9_3⟩ := cu_I (w9 3 _ _ rfl rfl) rfl
  subst q9_3
  obtain ⟨i9_4, q9_4⟩ := cu_I (w9 4 _ _ rfl rfl) rfl
  subst q9_4
  obtain ⟨vs15, f15, l15, w15⟩ := r15
  dsimp only at f15
  subst f15
  obtain ⟨u15_0, s15_0, rfl, m15_0⟩ := cu_c l15
  obtain ⟨u15_1, s15_1, rfl, m15_1⟩ := cu_c m15_0
  cases cu_n m15_1
  obtain ⟨i15_0, q15_0⟩ := cu_Rx (w15 0 _ _ rfl rfl)
  subst q15_0
  obtain ⟨i15_1, q15_1⟩ := cu_I (w15 1 _ _ rfl rfl) rfl
  subst q15_1
  have z3 := w3 1 _ _ rfl rfl
  subst q3_1
  refine ⟨((fun j => bif Nat.beq j 0 then i3_1 else bif Nat.beq j 1 then i3_2 else bif Nat.beq j 2 then i3_3 else bif Nat.beq j 3 then i3_4 else bif Nat.beq j 4 then i3_5 else bif Nat.beq j 5 then i3_7 else bif Nat.beq j 6 then i3_8 else bif Nat.beq j 7 then i3_9 else bif Nat.beq j 8 then i3_11 else bif Nat.beq j 9 then i3_12 else bif Nat.beq j 10 then i3_13 else bif Nat.beq j 11 then i11_0 else bif Nat.beq j 12 then i11_4 else bif Nat.beq j 13 then i11_9 else bif Nat.beq j 14 then i10_14 else bif Nat.beq j 15 then i10_16 else bif Nat.beq j 16 then i13_0 else bif Nat.beq j 17 then i13_1 else bif Nat.beq j 18 then i13_2 else bif Nat.beq j 19 then i13_6 else bif Nat.beq j 20 then i9_3 else bif Nat.beq j 21 then i9_4 else bif Nat.beq j 22 then i15_1 else (0 : Int32)), (fun j => bif Nat.beq j 0 then i3_6 else bif Nat.beq j 1 then i3_10 else (0 : Int64)), (fun j => bif Nat.beq j 0 then y17 else bif Nat.beq j 1 then y31 else bif Nat.beq j 2 then y51 else bif Nat.beq j 3 then y52 else bif Nat.beq j 4 then y53 else bif Nat.beq j 5 then y54 else bif Nat.beq j 6 then y55 else bif Nat.beq j 7 then y33 else bif Nat.beq j 8 then y57 else bif Nat.beq j 9 then y37 else bif Nat.beq j 10 then y58 else bif Nat.beq j 11 then y35 else bif Nat.beq j 12 then y40 else bif Nat.beq j 13 then y18 else bif Nat.beq j 14 then y59 else bif Nat.beq j 15 then y60 else (fun _ => (0 : Int32))), (fun j => bif Nat.beq j 0 then y38 else bif Nat.beq j 1 then y50 else bif Nat.beq j 2 then y56 else (fun _ => (0 : Int64)))), ([a10, a3, a17, a38, a39, a40, a11, a50, a31, a51, a52, a53, a54, a55, a56, a33, a57, a37, a58, a35, a13, a18, a59, a60, a9, a15], (fun j => bif Nat.beq j 0 then i10_2 else bif Nat.beq j 1 then i10_5 else bif Nat.beq j 2 then i10_8 else bif Nat.beq j 3 then i10_9 else bif Nat.beq j 4 then i10_10 else bif Nat.beq j 5 then i10_11 else bif Nat.beq j 6 then i10_12 else bif Nat.beq j 7 then i10_13 else bif Nat.beq j 8 then i10_15 else bif Nat.beq j 9 then i9_0 else bif Nat.beq j 10 then i9_1 else bif Nat.beq j 11 then i9_2 else bif Nat.beq j 12 then i15_0 else 0)), [(a10, .inr (10, [.ref a3, .ref a39, .ref i10_2, .ref a11, .ref a13, .ref i10_5, .ref a15, .ref a9, .ref i10_8, .ref i10_9, .ref i10_10, .ref i10_11, .ref i10_12, .ref i10_13, .int i10_14, .ref i10_15, .int i10_16])),
      (a3, .inr (4, [.ref a17, .int i3_1, .int i3_2, .int i3_3, .int i3_4, .int i3_5, .long i3_6, .int i3_7, .int i3_8, .int i3_9, .long i3_10, .int i3_11, .int i3_12, .int i3_13, .ref a38])),
      (a17, .inl (cA17, 940, .inl y17)),
      (a38, .inl (cA38, 22, .inr (.inl y38))),
      (a39, .inr (9, [.ref a40])),
      (a40, .inl (cA40, 3, .inl y40)),
      (a11, .inr (8, [.int i11_0, .ref a50, .ref a31, .ref a51, .int i11_4, .ref a52, .ref a53, .ref a54, .ref a55, .int i11_9, .ref a56, .ref a33, .ref a57, .ref a37, .ref a58, .ref a35])),
      (a50, .inl (cA50, 7, .inr (.inl y50))),
      (a31, .inl (cA31, 7, .inl y31)),
      (a51, .inl (cA51, 7, .inl y51)),
      (a52, .inl (cA52, 12, .inl y52)),
      (a53, .inl (cA53, 12, .inl y53)),
      (a54, .inl (cA54, 12, .inl y54)),
      (a55, .inl (cA55, 12, .inl y55)),
      (a56, .inl (cA56, 8, .inr (.inl y56))),
      (a33, .inl (cA33, 8, .inl y33)),
      (a57, .inl (cA57, 8, .inl y57)),
      (a37, .inl (cA37, 8, .inl y37)),
      (a58, .inl (cA58, 8, .inl y58)),
      (a35, .inl (cA35, 3, .inl y35)),
      (a13, .inr (7, [.int i13_0, .int i13_1, .int i13_2, .ref a18, .ref a59, .ref a60, .int i13_6])),
      (a18, .inl (cA18, 7, .inl y18)),
      (a59, .inl (cA59, 7, .inl y59)),
      (a60, .inl (cA60, 7, .inl y60)),
      (a9, .inr (6, [.ref i9_0, .ref i9_1, .ref i9_2, .int i9_3, .int i9_4])),
      (a15, .inr (1, [.ref i15_0, .int i15_1]))], ?_, ?_, cu_ev1 z3⟩
  · refine ⟨rfl, ⟨rfl, Nat.le_of_ble_eq_true rfl⟩, fun k c hk => ?_⟩
    match k, hk with
    | 0, hk => cases hk; exact ⟨_, rfl, rfl⟩
    | 1, hk => cases hk; exact ⟨_, rfl, rfl⟩
    | 2, hk => cases hk; exact ⟨_, rfl, Nat.le_of_ble_eq_true rfl, Nat.le_of_ble_eq_true rfl, ⟨_, rfl⟩, _, rfl, t17⟩
    | 3, hk => cases hk; exact ⟨_, rfl, Nat.le_of_ble_eq_true rfl, Nat.le_of_ble_eq_true rfl, ⟨_, rfl⟩, _, rfl, t38⟩
    | 4, hk => cases hk; exact ⟨_, rfl, rfl⟩
    | 5, hk => cases hk; exact ⟨_, rfl, Nat.le_of_ble_eq_true rfl, Nat.le_of_ble_eq_true rfl, ⟨_, rfl⟩, _, rfl, t40⟩
    | 6, hk => cases hk; exact ⟨_, rfl, rfl⟩
    | 7, hk => cases hk; exact ⟨_, rfl, Nat.le_of_ble_eq_true rfl, Nat.le_of_ble_eq_true rfl, ⟨_, rfl⟩, _, rfl, t50⟩
    | 8, hk => cases hk; exact ⟨_, rfl, Nat.le_of_ble_eq_true rfl, Nat.le_of_ble_eq_true rfl, ⟨_, rfl⟩, _, rfl, t31⟩
    | 9, hk => cases hk; exact ⟨_, rfl, Nat.le_of_ble_eq_true rfl, Nat.le_of_ble_eq_true rfl, ⟨_, rfl⟩, _, rfl, t51⟩
    | 10, hk => cases hk; exact ⟨_, rfl, Nat.le_of_ble_eq_true rfl, Nat.le_of_ble_eq_true rfl, ⟨_, rfl⟩, _, rfl, t52⟩
    | 11, hk => cases hk; exact ⟨_, rfl, Nat.le_of_ble_eq_true rfl, Nat.le_of_ble_eq_true rfl, ⟨_, rfl⟩, _, rfl, t53⟩
    | 12, hk => cases hk; exact ⟨_, rfl, Nat.le_of_ble_eq_true rfl, Nat.le_of_ble_eq_true rfl, ⟨_, rfl⟩, _, rfl, t54⟩
    | 13, hk => cases hk; exact ⟨_, rfl, Nat.le_of_ble_eq_true rfl, Nat.le_of_ble_eq_true rfl, ⟨_, rfl⟩, _, rfl, t55⟩
    | 14, hk => cases hk; exact ⟨_, rfl, Nat.le_of_ble_eq_true rfl, Nat.le_of_ble_eq_true rfl, ⟨_, rfl⟩, _, rfl, t56⟩
    | 15, hk => cases hk; exact ⟨_, rfl, Nat.le_of_ble_eq_true rfl, Nat.le_of_ble_eq_true rfl, ⟨_, rfl⟩, _, rfl, t33⟩
    | 16, hk => cases hk; exact ⟨_, rfl, Nat.le_of_ble_eq_true rfl, Nat.le_of_ble_eq_true rfl, ⟨_, rfl⟩, _, rfl, t57⟩
    | 17, hk => cases hk; exact ⟨_, rfl, Nat.le_of_ble_eq_true rfl, Nat.le_of_ble_eq_true rfl, ⟨_, rfl⟩, _, rfl, t37⟩
    | 18, hk => cases hk; exact ⟨_, rfl, Nat.le_of_ble_eq_true rfl, Nat.le_of_ble_eq_true rfl, ⟨_, rfl⟩, _, rfl, t58⟩
    | 19, hk => cases hk; exact ⟨_, rfl, Nat.le_of_ble_eq_true rfl, Nat.le_of_ble_eq_true rfl, ⟨_, rfl⟩, _, rfl, t35⟩
    | 20, hk => cases hk; exact ⟨_, rfl, rfl⟩
    | 21, hk => cases hk; exact ⟨_, rfl, Nat.le_of_ble_eq_true rfl, Nat.le_of_ble_eq_true rfl, ⟨_, rfl⟩, _, rfl, t18⟩
    | 22, hk => cases hk; exact ⟨_, rfl, Nat.le_of_ble_eq_true rfl, Nat.le_of_ble_eq_true rfl, ⟨_, rfl⟩, _, rfl, t59⟩
    | 23, hk => cases hk; exact ⟨_, rfl, Nat.le_of_ble_eq_true rfl, Nat.le_of_ble_eq_true rfl, ⟨_, rfl⟩, _, rfl, t60⟩
    | 24, hk => cases hk; exact ⟨_, rfl, rfl⟩
    | 25, hk => cases hk; exact ⟨_, rfl, rfl⟩
    | k + 26, hk => cases hk
  · simp only [List.map_cons, List.map_nil, h10, h3, h17, h38, h39, h40, h11, h50, h31, h51, h52, h53, h54, h55, h56, h33, h57, h37, h58, h35, h13, h18, h59, h60, h9, h15]
set_option maxRecDepth 100000 in
set_option maxHeartbeats 4000000 in
theorem cu_V_11_9 {X : ab_X} {z : ab_Z} {s : State} {ws : va_W} (hc : ∀ (k : Nat) (c : ab_C), k ∈ cu_KV → gl_L[k]? = some c → ∃ q, ws[k]? = some q ∧ ab_cR X z s c q.2) (hz : ws.map Prod.fst = z.2.2) (hl : ∃ ad, z.2.2[12]? = some ad ∧ cu_v ws 10 2 = .ref ad) (hd : ∃ ad, z.2.2[11]? = some ad ∧ cu_v ws 10 3 = .ref ad) (hs : ∃ ad, z.2.2[9]? = some ad ∧ cu_v ws 10 7 = .ref ad) : ∃ (σ : ex_S) (A : ex_A) (we : va_W) (u_towns u_terms u_trains : Int32) (p_townName p_trainName : Nat → Int64) (p_noon p_bendTold p_termTown p_termFrom p_termTo p_termBend p_trainFrom p_trainTo p_trainLeaves p_trainTakes p_settings : Nat → Int32), ex_wR X A s (WA (26, lw_L u_towns u_terms u_trains p_townName p_trainName p_noon p_bendTold p_termTown p_termFrom p_termTo p_termBend p_trainFrom p_trainTo p_trainLeaves p_trainTakes p_settings) 6 σ) we ∧ ([10, 3, 17, 38, 39, 40, 11, 50, 31, 51, 52, 53, 54, 55, 56, 33, 57, 37, 58, 35, 13, 18, 59, 60, 9, 15, 12, 41, 30, 42, 43, 44, 45, 46, 47, 32, 48, 36, 49, 34] : List Nat).map (fun k => ws[k]?) = we.map some ∧ z.1[1]? = some (σ.1 0) := by
  obtain ⟨⟨a10, e10⟩, h10, r10⟩ := hc 10 _ (by decide) rfl
  obtain ⟨⟨a3, e3⟩, h3, r3⟩ := hc 3 _ (by decide) rfl
  obtain ⟨⟨a17, e17⟩, h17, r17⟩ := hc 17 _ (by decide) rfl
  obtain ⟨⟨a38, e38⟩, h38, r38⟩ := hc 38 _ (by decide) rfl
  obtain ⟨⟨a39, e39⟩, h39, r39⟩ := hc 39 _ (by decide) rfl
  obtain ⟨⟨a40, e40⟩, h40, r40⟩ := hc 40 _ (by decide) rfl
  obtain ⟨⟨a11, e11⟩, h11, r11⟩ := hc 11 _ (by decide) rfl
  obtain ⟨⟨a50, e50⟩, h50, r50⟩ := hc 50 _ (by decide) rfl
  obtain ⟨⟨a31, e31⟩, h31, r31⟩ := hc 31 _ (by decide) rfl
  obtain ⟨⟨a51, e51⟩, h51, r51⟩ := hc 51 _ (by decide) rfl
  obtain ⟨⟨a52, e52⟩, h52, r52⟩ := hc 52 _ (by decide) rfl
  obtain ⟨⟨a53, e53⟩, h53, r53⟩ := hc 53 _ (by decide) rfl
  obtain ⟨⟨a54, e54⟩, h54, r54⟩ := hc 54 _ (by decide) rfl
  obtain ⟨⟨a55, e55⟩, h55, r55⟩ := hc 55 _ (by decide) rfl
  obtain ⟨⟨a56, e56⟩, h56, r56⟩ := hc 56 _ (by decide) rfl
  obtain ⟨⟨a33, e33⟩, h33, r33⟩ := hc 33 _ (by decide) rfl
  obtain ⟨⟨a57, e57⟩, h57, r57⟩ := hc 57 _ (by decide) rfl
  obtain ⟨⟨a37, e37⟩, h37, r37⟩ := hc 37 _ (by decide) rfl
  obtain ⟨⟨a58, e58⟩, h58, r58⟩ := hc 58 _ (by decide) rfl
  obtain ⟨⟨a35, e35⟩, h35, r35⟩ := hc 35 _ (by decide) rfl
  obtain ⟨⟨a13, e13⟩, h13, r13⟩ := hc 13 _ (by decide) rfl
  obtain ⟨⟨a18, e18⟩, h18, r18⟩ := hc 18 _ (by decide) rfl
  obtain ⟨⟨a59, e59⟩, h59, r59⟩ := hc 59 _ (by decide) rfl
  obtain ⟨⟨a60, e60⟩, h60, r60⟩ := hc 60 _ (by decide) rfl
  obtain ⟨⟨a9, e9⟩, h9, r9⟩ := hc 9 _ (by decide) rfl
  obtain ⟨⟨a15, e15⟩, h15, r15⟩ := hc 15 _ (by decide) rfl
  obtain ⟨⟨a12, e12⟩, h12, r12⟩ := hc 12 _ (by decide) rfl
  obtain ⟨⟨a41, e41⟩, h41, r41⟩ := hc 41 _ (by decide) rfl
  obtain ⟨⟨a30, e30⟩, h30, r30⟩ := hc 30 _ (by decide) rfl
  obtain ⟨⟨a42, e42⟩, h42, r42⟩ := hc 42 _ (by decide) rfl
  obtain ⟨⟨a43, e43⟩, h43, r43⟩ := hc 43 _ (by decide) rfl
  obtain ⟨⟨a44, e44⟩, h44, r44⟩ := hc 44 _ (by decide) rfl
  obtain ⟨⟨a45, e45⟩, h45, r45⟩ := hc 45 _ (by decide) rfl
  obtain ⟨⟨a46, e46⟩, h46, r46⟩ := hc 46 _ (by decide) rfl
  obtain ⟨⟨a47, e47⟩, h47, r47⟩ := hc 47 _ (by decide) rfl
  obtain ⟨⟨a32, e32⟩, h32, r32⟩ := hc 32 _ (by decide) rfl
  obtain ⟨⟨a48, e48⟩, h48, r48⟩ := hc 48 _ (by decide) rfl
  obtain ⟨⟨a36, e36⟩, h36, r36⟩ := hc 36 _ (by decide) rfl
  obtain ⟨⟨a49, e49⟩, h49, r49⟩ := hc 49 _ (by decide) rfl
  obtain ⟨⟨a34, e34⟩, h34, r34⟩ := hc 34 _ (by decide) rfl
  obtain ⟨cA17, x17, f17, ⟨y17, g17⟩, t17, -⟩ := r17
  dsimp only at f17
  subst f17 g17
  obtain ⟨cA38, x38, f38, ⟨y38, g38⟩, t38, -⟩ := r38
  dsimp only at f38
  subst f38 g38
  obtain ⟨cA40, x40, f40, ⟨y40, g40⟩, t40, -⟩ := r40
  dsimp only at f40
  subst f40 g40
  obtain ⟨cA50, x50, f50, ⟨y50, g50⟩, t50, -⟩ := r50
  dsimp only at f50
  subst f50 g50
  obtain ⟨cA31, x31, f31, ⟨y31, g31⟩, t31, -⟩ := r31
  dsimp only at f31
  subst f31 g31
  obtain ⟨cA51, x51, f51, ⟨y51, g51⟩, t51, -⟩ := r51
  dsimp only at f51
  subst f51 g51
  obtain ⟨cA52, x52, f52, ⟨y52, g52⟩, t52, -⟩ := r52
  dsimp only at f52
  subst f52 g52
  obtain ⟨cA53, x53, f53, ⟨y53, g53⟩, t53, -⟩ := r53
  dsimp only at f53
  subst f53 g53
  obtain ⟨cA54, x54, f54, ⟨y54, g54⟩, t54, -⟩ := r54
  dsimp only at f54
  subst f54 g54
  obtain ⟨cA55, x55, f55, ⟨y55, g55⟩, t55, -⟩ := r55
  dsimp only at f55
  subst f55 g55
  obtain ⟨cA56, x56, f56, ⟨y56, g56⟩, t56, -⟩ := r56
  dsimp only at f56
  subst f56 g56
  obtain ⟨cA33, x33, f33, ⟨y33, g33⟩, t33, -⟩ := r33
  dsimp only at f33
  subst f33 g33
  obtain ⟨cA57, x57, f57, ⟨y57, g57⟩, t57, -⟩ := r57
  dsimp only at f57
  subst f57 g57
  obtain ⟨cA37, x37, f37, ⟨y37, g37⟩, t37, -⟩ := r37
  dsimp only at f37
  subst f37 g37
  obtain ⟨cA58, x58, f58, ⟨y58, g58⟩, t58, -⟩ := r58
  dsimp only at f58
  subst f58 g58
  obtain ⟨cA35, x35, f35, ⟨y35, g35⟩, t35, -⟩ := r35
  dsimp only at f35
  subst f35 g35
  obtain ⟨cA18, x18, f18, ⟨y18, g18⟩, t18, -⟩ := r18
  dsimp only at f18
  subst f18 g18
  obtain ⟨cA59, x59, f59, ⟨y59, g59⟩, t59, -⟩ := r59
  dsimp only at f59
  subst f59 g59
  obtain ⟨cA60, x60, f60, ⟨y60, g60⟩, t60, -⟩ := r60
  dsimp only at f60
  subst f60 g60
  obtain ⟨cA41, x41, f41, ⟨y41, g41⟩, t41, -⟩ := r41
  dsimp only at f41
  subst f41 g41
  obtain ⟨cA30, x30, f30, ⟨y30, g30⟩, t30, -⟩ := r30
  dsimp only at f30
  subst f30 g30
  obtain ⟨cA42, x42, f42, ⟨y42, g42⟩, t42, -⟩ := r42
  dsimp only at f42
  subst f42 g42
  obtain ⟨cA43, x43, f43, ⟨y43, g43⟩, t43, -⟩ := r43
  dsimp only at f43
  subst f43 g43
  obtain ⟨cA44, x44, f44, ⟨y44, g44⟩, t44, -⟩ := r44
  dsimp only at f44
  subst f44 g44
  obtain ⟨cA45, x45, f45, ⟨y45, g45⟩, t45, -⟩ := r45
  dsimp only at f45
  subst f45 g45
  obtain ⟨cA46, x46, f46, ⟨y46, g46⟩, t46, -⟩ := r46
  dsimp only at f46
  subst f46 g46
  obtain ⟨cA47, x47, f47, ⟨y47, g47⟩, t47, -⟩ := r47
  dsimp only at f47
  subst f47 g47
  obtain ⟨cA32, x32, f32, ⟨y32, g32⟩, t32, -⟩ := r32
  dsimp only at f32
  subst f32 g32
  obtain ⟨cA48, x48, f48, ⟨y48, g48⟩, t48, -⟩ := r48
  dsimp only at f48
  subst f48 g48
  obtain ⟨cA36, x36, f36, ⟨y36, g36⟩, t36, -⟩ := r36
  dsimp only at f36
  subst f36 g36
  obtain ⟨cA49, x49, f49, ⟨y49, g49⟩, t49, -⟩ := r49
  dsimp only at f49
  subst f49 g49
  obtain ⟨cA34, x34, f34, ⟨y34, g34⟩, t34, -⟩ := r34
  dsimp only at f34
  subst f34 g34
  obtain ⟨vs10, f10, l10, w10⟩ := r10
  dsimp only at f10
  subst f10
  obtain ⟨u10_0, s10_0, rfl, m10_0⟩ := cu_c l10
  obtain ⟨u10_1, s10_1, rfl, m10_1⟩ := cu_c m10_0
  obtain ⟨u10_2, s10_2, rfl, m10_2⟩ := cu_c m10_1
  obtain ⟨u10_3, s10_3, rfl, m10_3⟩ := cu_c m10_2
  obtain ⟨u10_4, s10_4, rfl, m10_4⟩ := cu_c m10_3
  obtain ⟨u10_5, s10_5, rfl, m10_5⟩ := cu_c m10_4
  obtain ⟨u10_6, s10_6, rfl, m10_6⟩ := cu_c m10_5
  obtain ⟨u10_7, s10_7, rfl, m10_7⟩ := cu_c m10_6
  obtain ⟨u10_8, s10_8, rfl, m10_8⟩ := cu_c m10_7
  obtain ⟨u10_9, s10_9, rfl, m10_9⟩ := cu_c m10_8
  obtain ⟨u10_10, s10_10, rfl, m10_10⟩ := cu_c m10_9
  obtain ⟨u10_11, s10_11, rfl, m10_11⟩ := cu_c m10_10
  obtain ⟨u10_12, s10_12, rfl, m10_12⟩ := cu_c m10_11
  obtain ⟨u10_13, s10_13, rfl, m10_13⟩ := cu_c m10_12
  obtain ⟨u10_14, s10_14, rfl, m10_14⟩ := cu_c m10_13
  obtain ⟨u10_15, s10_15, rfl, m10_15⟩ := cu_c m10_14
  obtain ⟨u10_16, s10_16, rfl, m10_16⟩ := cu_c m10_15
  cases cu_n m10_16
  have q10_0 := cu_R (cu_ad hz h3) (w10 0 _ _ rfl rfl)
  subst q10_0
  have q10_1 := cu_R (cu_ad hz h39) (w10 1 _ _ rfl rfl)
  subst q10_1
  have q10_2 : u10_2 = .ref a12 := by
    obtain ⟨ad, e1, e2⟩ := hl
    have e3 := e1.symm.trans (cu_ad hz h12)
    cases e3
    rw [cu_v_of h10] at e2
    exact e2
  subst q10_2
  have q10_3 : u10_3 = .ref a11 := by
    obtain ⟨ad, e1, e2⟩ := hd
    have e3 := e1.symm.trans (cu_ad hz h11)
    cases e3
    rw [cu_v_of h10] at e2
    exact e2
  subst q10_3
  have q10_4 := cu_R (cu_ad hz h13) (w10 4 _ _ rfl rfl)
  subst q10_4
  obtain ⟨i10_5, q10_5⟩ := cu_Rx (w10 5 _ _ rfl rfl)
  subst q10_5
  have q10_6 := cu_R (cu_ad hz h15) (w10 6 _ _ rfl rfl)
  subst q10_6
  have q10_7 : u10_7 = .ref a9 := by
    obtain ⟨ad, e1, e2⟩ := hs
    have e3 := e1.symm.trans (cu_ad hz h9)
    cases e3
    rw [cu_v_of h10] at e2
    exact e2
  subst q10_7
  obtain ⟨i10_8, q10_8⟩ := cu_Rx (w10 8 _ _ rfl rfl)
  subst q10_8
  obtain ⟨i10_9, q10_9⟩ := cu_Rx (w10 9 _ _ rfl rfl)
  subst q10_9
  obtain ⟨i10_10, q10_10⟩ := cu_Rx (w10 10 _ _ rfl rfl)
  subst q10_10
  obtain ⟨i10_11, q10_11⟩ := cu_Rx (w10 11 _ _ rfl rfl)
  subst q10_11
  obtain ⟨i10_12, q10_12⟩ := cu_Rx (w10 12 _ _ rfl rfl)
  subst q10_12
  obtain ⟨i10_13, q10_13⟩ := cu_Rx (w10 13 _ _ rfl rfl)
  subst q10_13
  obtain ⟨i10_14, q10_14⟩ := cu_I (w10 14 _ _ rfl rfl) rfl
  subst q10_14
  obtain ⟨i10_15, q10_15⟩ := cu_Rx (w10 15 _ _ rfl rfl)
  subst q10_15
  obtain ⟨i10_16, q10_16⟩ := cu_I (w10 16 _ _ rfl rfl) rfl
  subst q10_16
  obtain ⟨vs3, f3, l3, w3⟩ := r3
  dsimp only at f3
  subst f3
  obtain ⟨u3_0, s3_0, rfl, m3_0⟩ := cu_c l3
  obtain ⟨u3_1, s3_1, rfl, m3_1⟩ := cu_c m3_0
  obtain ⟨u3_2, s3_2, rfl, m3_2⟩ := cu_c m3_1
  obtain ⟨u3_3, s3_3, rfl, m3_3⟩ := cu_c m3_2
  obtain ⟨u3_4, s3_4, rfl, m3_4⟩ := cu_c m3_3
  obtain ⟨u3_5, s3_5, rfl, m3_5⟩ := cu_c m3_4
  obtain ⟨u3_6, s3_6, rfl, m3_6⟩ := cu_c m3_5
  obtain ⟨u3_7, s3_7, rfl, m3_7⟩ := cu_c m3_6
  obtain ⟨u3_8, s3_8, rfl, m3_8⟩ := cu_c m3_7
  obtain ⟨u3_9, s3_9, rfl, m3_9⟩ := cu_c m3_8
  obtain ⟨u3_10, s3_10, rfl, m3_10⟩ := cu_c m3_9
  obtain ⟨u3_11, s3_11, rfl, m3_11⟩ := cu_c m3_10
  obtain ⟨u3_12, s3_12, rfl, m3_12⟩ := cu_c m3_11
  obtain ⟨u3_13, s3_13, rfl, m3_13⟩ := cu_c m3_12
  obtain ⟨u3_14, s3_14, rfl, m3_14⟩ := cu_c m3_13
  cases cu_n m3_14
  have q3_0 := cu_R (cu_ad hz h17) (w3 0 _ _ rfl rfl)
  subst q3_0
  obtain ⟨i3_1, q3_1⟩ := cu_I (w3 1 _ _ rfl rfl) rfl
  obtain ⟨i3_2, q3_2⟩ := cu_I (w3 2 _ _ rfl rfl) rfl
  subst q3_2
  obtain ⟨i3_3, q3_3⟩ := cu_I (w3 3 _ _ rfl rfl) rfl
  subst q3_3
  obtain ⟨i3_4, q3_4⟩ := cu_I (w3 4 _ _ rfl rfl) rfl
  subst q3_4
  obtain ⟨i3_5, q3_5⟩ := cu_I (w3 5 _ _ rfl rfl) rfl
  subst q3_5
  obtain ⟨i3_6, q3_6⟩ := cu_L (w3 6 _ _ rfl rfl) rfl
  subst q3_6
  obtain ⟨i3_7, q3_7⟩ := cu_I (w3 7 _ _ rfl rfl) rfl
  subst q3_7
  obtain ⟨i3_8, q3_8⟩ := cu_I (w3 8 _ _ rfl rfl) rfl
  subst q3_8
  obtain ⟨i3_9, q3_9⟩ := cu_I (w3 9 _ _ rfl rfl) rfl
  subst q3_9
  obtain ⟨i3_10, q3_10⟩ := cu_L (w3 10 _ _ rfl rfl) rfl
  subst q3_10
  obtain ⟨i3_11, q3_11⟩ := cu_I (w3 11 _ _ rfl rfl) rfl
  subst q3_11
  obtain ⟨i3_12, q3_12⟩ := cu_I (w3 12 _ _ rfl rfl) rfl
  subst q3_12
  obtain ⟨i3_13, q3_13⟩ := cu_I (w3 13 _ _ rfl rfl) rfl
  subst q3_13
  have q3_14 := cu_R (cu_ad hz h38) (w3 14 _ _ rfl rfl)
  subst q3_14
  obtain ⟨vs39, f39, l39, w39⟩ := r39
  dsimp only at f39
  subst f39
  obtain ⟨u39_0, s39_0, rfl, m39_0⟩ := cu_c l39
  cases cu_n m39_0
  have q39_0 := cu_R (cu_ad hz h40) (w39 0 _ _ rfl rfl)
  subst q39_0
  obtain ⟨vs11, f11, l11, w11⟩ := r11
  dsimp only at f11
  subst f11
  obtain ⟨u11_0, s11_0, rfl, m11_0⟩ := cu_c l11
  obtain ⟨u11_1, s11_1, rfl, m11_1⟩ := cu_c m11_0
  obtain ⟨u11_2, s11_2, rfl, m11_2⟩ := cu_c m11_1
  obtain ⟨u11_3, s11_3, rfl, m11_3⟩ := cu_c m11_2
  obtain ⟨u11_4, s11_4, rfl, m11_4⟩ := cu_c m11_3
  obtain ⟨u11_5, s11_5, rfl, m11_5⟩ := cu_c m11_4
  obtain ⟨u11_6, s11_6, rfl, m11_6⟩ := cu_c m11_5
  obtain ⟨u11_7, s11_7, rfl, m11_7⟩ := cu_c m11_6
  obtain ⟨u11_8, s11_8, rfl, m11_8⟩ := cu_c m11_7
  obtain ⟨u11_9, s11_9, rfl, m11_9⟩ := cu_c m11_8
  obtain ⟨u11_10, s11_10, rfl, m11_10⟩ := cu_c m11_9
  obtain ⟨u11_11, s11_11, rfl, m11_11⟩ := cu_c m11_10
  obtain ⟨u11_12, s11_12, rfl, m11_12⟩ := cu_c m11_11
  obtain ⟨u11_13, s11_13, rfl, m11_13⟩ := cu_c m11_12
  obtain ⟨u11_14, s11_14, rfl, m11_14⟩ := cu_c m11_13
  obtain ⟨u11_15, s11_15, rfl, m11_15⟩ := cu_c m11_14
  cases cu_n m11_15
  obtain ⟨i11_0, q11_0⟩ := cu_I (w11 0 _ _ rfl rfl) rfl
  subst q11_0
  have q11_1 := cu_R (cu_ad hz h50) (w11 1 _ _ rfl rfl)
  subst q11_1
  have q11_2 := cu_R (cu_ad hz h31) (w11 2 _ _ rfl rfl)
  subst q11_2
  have q11_3 := cu_R (cu_ad hz h51) (w11 3 _ _ rfl rfl)
  subst q11_3
  obtain ⟨i11_4, q11_4⟩ := cu_I (w11 4 _ _ rfl rfl) rfl
  subst q11_4
  have q11_5 := cu_R (cu_ad hz h52) (w11 5 _ _ rfl rfl)
  subst q11_5
  have q11_6 := cu_R (cu_ad hz h53) (w11 6 _ _ rfl rfl)
  subst q11_6
  have q11_7 := cu_R (cu_ad hz h54) (w11 7 _ _ rfl rfl)
  subst q11_7
  have q11_8 := cu_R (cu_ad hz h55) (w11 8 _ _ rfl rfl)
  subst q11_8
  obtain ⟨i11_9, q11_9⟩ := cu_I (w11 9 _ _ rfl rfl) rfl
  subst q11_9
  have q11_10 := cu_R (cu_ad hz h56) (w11 10 _ _ rfl rfl)
  subst q11_10
  have q11_11 := cu_R (cu_ad hz h33) (w11 11 _ _ rfl rfl)
  subst q11_11
  have q11_12 := cu_R (cu_ad hz h57) (w11 12 _ _ rfl rfl)
  subst q11_12
  have q11_13 := cu_R (cu_ad hz h37) (w11 13 _ _ rfl rfl)
  subst q11_13
  have q11_14 := cu_R (cu_ad hz h58) (w11 14 _ _ rfl rfl)
  subst q11_14
  have q11_15 := cu_R (cu_ad hz h35) (w11 15 _ _ rfl rfl)
  subst q11_15
  obtain ⟨vs13, f13, l13, w13⟩ := r13
  dsimp only at f13
  subst f13
  obtain ⟨u13_0, s13_0, rfl, m13_0⟩ := cu_c l13
  obtain ⟨u13_1, s13_1, rfl, m13_1⟩ := cu_c m13_0
  obtain ⟨u13_2, s13_2, rfl, m13_2⟩ := cu_c m13_1
  obtain ⟨u13_3, s13_3, rfl, m13_3⟩ := cu_c m13_2
  obtain ⟨u13_4, s13_4, rfl, m13_4⟩ := cu_c m13_3
  obtain ⟨u13_5, s13_5, rfl, m13_5⟩ := cu_c m13_4
  obtain ⟨u13_6, s13_6, rfl, m13_6⟩ := cu_c m13_5
  cases cu_n m13_6
  obtain ⟨i13_0, q13_0⟩ := cu_I (w13 0 _ _ rfl rfl) rfl
  subst q13_0
  obtain ⟨i13_1, q13_1⟩ := cu_I (w13 1 _ _ rfl rfl) rfl
  subst q13_1
  obtain ⟨i13_2, q13_2⟩ := cu_I (w13 2 _ _ rfl rfl) rfl
  subst q13_2
  have q13_3 := cu_R (cu_ad hz h18) (w13 3 _ _ rfl rfl)
  subst q13_3
  have q13_4 := cu_R (cu_ad hz h59) (w13 4 _ _ rfl rfl)
  subst q13_4
  have q13_5 := cu_R (cu_ad hz h60) (w13 5 _ _ rfl rfl)
  subst q13_5
  obtain ⟨i13_6, q13_6⟩ := cu_I (w13 6 _ _ rfl rfl) rfl
  subst q13_6
  obtain ⟨vs9, f9, l9, w9⟩ := r9
  dsimp only at f9
  subst f9
  obtain ⟨u9_0, s9_0, rfl, m9_0⟩ := cu_c l9
  obtain ⟨u9_1, s9_1, rfl, m9_1⟩ := cu_c m9_0
  obtain ⟨u9_2, s9_2, rfl, m9_2⟩ := cu_c m9_1
  obtain ⟨u9_3, s9_3, rfl, m9_3⟩ := cu_c m9_2
  obtain ⟨u9_4, s9_4, rfl, m9_4⟩ := cu_c m9_3
  cases cu_n m9_4
  obtain ⟨i9_0, q9_0⟩ := cu_Rx (w9 0 _ _ rfl rfl)
  subst q9_0
  obtain ⟨i9_1, q9_1⟩ := cu_Rx (w9 1 _ _ rfl rfl)
  subst q9_1
  obtain ⟨i9_2, q9_2⟩ := cu_Rx (w9 2 _ _ rfl rfl)
  subst q9_2
  obtain ⟨i9_3, q9_3⟩ := cu_I (w9 3 _ _ rfl rfl) rfl
  subst q9_3
  obtain ⟨i9_4, q9_4⟩ := cu_I (w9 4 _ _ rfl rfl) rfl
  subst q9_4
  obtain ⟨vs15, f15, l15, w15⟩ := r15
  dsimp only at f15
  subst f15
  obtain ⟨u15_0, s15_0, rfl, m15_0⟩ := cu_c l15
  obtain ⟨u15_1, s15_1, rfl, m15_1⟩ := cu_c m15_0
  cases cu_n m15_1
  obtain ⟨i15_0, q15_0⟩ := cu_Rx (w15 0 _ _ rfl rfl)
  subst q15_0
  obtain ⟨i15_1, q15_1⟩ := cu_I (w15 1 _ _ rfl rfl) rfl
  subst q15_1
  obtain ⟨vs12, f12, l12, w12⟩ := r12
  dsimp only at f12
  subst f12
  obtain ⟨u12_0, s12_0, rfl, m12_0⟩ := cu_c l12
  obtain ⟨u12_1, s12_1, rfl, m12_1⟩ := cu_c m12_0
  obtain ⟨u12_2, s12_2, rfl, m12_2⟩ := cu_c m12_1
  obtain ⟨u12_3, s12_3, rfl, m12_3⟩ := cu_c m12_2
  obtain ⟨u12_4, s12_4, rfl, m12_4⟩ := cu_c m12_3
  obtain ⟨u12_5, s12_5, rfl, m12_5⟩ := cu_c m12_4
  obtain ⟨u12_6, s12_6, rfl, m12_6⟩ := cu_c m12_5
  obtain ⟨u12_7, s12_7, rfl, m12_7⟩ := cu_c m12_6
  obtain ⟨u12_8, s12_8, rfl, m12_8⟩ := cu_c m12_7
  obtain ⟨u12_9, s12_9, rfl, m12_9⟩ := cu_c m12_8
  obtain ⟨u12_10, s12_10, rfl, m12_10⟩ := cu_c m12_9
  obtain ⟨u12_11, s12_11, rfl, m12_11⟩ := cu_c m12_10
  obtain ⟨u12_12, s12_12, rfl, m12_12⟩ := cu_c m12_11
  obtain ⟨u12_13, s12_13, rfl, m12_13⟩ := cu_c m12_12
  obtain ⟨u12_14, s12_14, rfl, m12_14⟩ := cu_c m12_13
  obtain ⟨u12_15, s12_15, rfl, m12_15⟩ := cu_c m12_14
  cases cu_n m12_15
  obtain ⟨i12_0, q12_0⟩ := cu_I (w12 0 _ _ rfl rfl) rfl
  subst q12_0
  have q12_1 := cu_R (cu_ad hz h41) (w12 1 _ _ rfl rfl)
  subst q12_1
  have q12_2 := cu_R (cu_ad hz h30) (w12 2 _ _ rfl rfl)
  subst q12_2
  have q12_3 := cu_R (cu_ad hz h42) (w12 3 _ _ rfl rfl)
  subst q12_3
  obtain ⟨i12_4, q12_4⟩ := cu_I (w12 4 _ _ rfl rfl) rfl
  subst q12_4
  have q12_5 := cu_R (cu_ad hz h43) (w12 5 _ _ rfl rfl)
  subst q12_5
  have q12_6 := cu_R (cu_ad hz h44) (w12 6 _ _ rfl rfl)
  subst q12_6
  have q12_7 := cu_R (cu_ad hz h45) (w12 7 _ _ rfl rfl)
  subst q12_7
  have q12_8 := cu_R (cu_ad hz h46) (w12 8 _ _ rfl rfl)
  subst q12_8
  obtain ⟨i12_9, q12_9⟩ := cu_I (w12 9 _ _ rfl rfl) rfl
  subst q12_9
  have q12_10 := cu_R (cu_ad hz h47) (w12 10 _ _ rfl rfl)
  subst q12_10
  have q12_11 := cu_R (cu_ad hz h32) (w12 11 _ _ rfl rfl)
  subst q12_11
  have q12_12 := cu_R (cu_ad hz h48) (w12 12 _ _ rfl rfl)
  subst q12_12
  have q12_13 := cu_R (cu_ad hz h36) (w12 13 _ _ rfl rfl)
  subst q12_13
  have q12_14 := cu_R (cu_ad hz h49) (w12 14 _ _ rfl rfl)
  subst q12_14
  have q12_15 := cu_R (cu_ad hz h34) (w12 15 _ _ rfl rfl)
  subst q12_15
  have z3 := w3 1 _ _ rfl rfl
  subst q3_1
  refine ⟨((fun j => bif Nat.beq j 0 then i3_1 else bif Nat.beq j 1 then i3_2 else bif Nat.beq j 2 then i3_3 else bif Nat.beq j 3 then i3_4 else bif Nat.beq j 4 then i3_5 else bif Nat.beq j 5 then i3_7 else bif Nat.beq j 6 then i3_8 else bif Nat.beq j 7 then i3_9 else bif Nat.beq j 8 then i3_11 else bif Nat.beq j 9 then i3_12 else bif Nat.beq j 10 then i3_13 else bif Nat.beq j 11 then i11_0 else bif Nat.beq j 12 then i11_4 else bif Nat.beq j 13 then i11_9 else bif Nat.beq j 14 then i10_14 else bif Nat.beq j 15 then i10_16 else bif Nat.beq j 16 then i13_0 else bif Nat.beq j 17 then i13_1 else bif Nat.beq j 18 then i13_2 else bif Nat.beq j 19 then i13_6 else bif Nat.beq j 20 then i9_3 else bif Nat.beq j 21 then i9_4 else bif Nat.beq j 22 then i15_1 else (0 : Int32)), (fun j => bif Nat.beq j 0 then i3_6 else bif Nat.beq j 1 then i3_10 else (0 : Int64)), (fun j => bif Nat.beq j 0 then y17 else bif Nat.beq j 1 then y31 else bif Nat.beq j 2 then y51 else bif Nat.beq j 3 then y52 else bif Nat.beq j 4 then y53 else bif Nat.beq j 5 then y54 else bif Nat.beq j 6 then y55 else bif Nat.beq j 7 then y33 else bif Nat.beq j 8 then y57 else bif Nat.beq j 9 then y37 else bif Nat.beq j 10 then y58 else bif Nat.beq j 11 then y35 else bif Nat.beq j 12 then y40 else bif Nat.beq j 13 then y18 else bif Nat.beq j 14 then y59 else bif Nat.beq j 15 then y60 else (fun _ => (0 : Int32))), (fun j => bif Nat.beq j 0 then y38 else bif Nat.beq j 1 then y50 else bif Nat.beq j 2 then y56 else (fun _ => (0 : Int64)))), ([a10, a3, a17, a38, a39, a40, a11, a50, a31, a51, a52, a53, a54, a55, a56, a33, a57, a37, a58, a35, a13, a18, a59, a60, a9, a15, a12, a41, a30, a42, a43, a44, a45, a46, a47, a32, a48, a36, a49, a34], (fun j => bif Nat.beq j 1 then i10_5 else bif Nat.beq j 2 then i10_8 else bif Nat.beq j 3 then i10_9 else bif Nat.beq j 4 then i10_10 else bif Nat.beq j 5 then i10_11 else bif Nat.beq j 6 then i10_12 else bif Nat.beq j 7 then i10_13 else bif Nat.beq j 8 then i10_15 else bif Nat.beq j 9 then i9_0 else bif Nat.beq j 10 then i9_1 else bif Nat.beq j 11 then i9_2 else bif Nat.beq j 12 then i15_0 else 0)), [(a10, .inr (10, [.ref a3, .ref a39, .ref a12, .ref a11, .ref a13, .ref i10_5, .ref a15, .ref a9, .ref i10_8, .ref i10_9, .ref i10_10, .ref i10_11, .ref i10_12, .ref i10_13, .int i10_14, .ref i10_15, .int i10_16])),
      (a3, .inr (4, [.ref a17, .int i3_1, .int i3_2, .int i3_3, .int i3_4, .int i3_5, .long i3_6, .int i3_7, .int i3_8, .int i3_9, .long i3_10, .int i3_11, .int i3_12, .int i3_13, .ref a38])),
      (a17, .inl (cA17, 940, .inl y17)),
      (a38, .inl (cA38, 22, .inr (.inl y38))),
      (a39, .inr (9, [.ref a40])),
      (a40, .inl (cA40, 3, .inl y40)),
      (a11, .inr (8, [.int i11_0, .ref a50, .ref a31, .ref a51, .int i11_4, .ref a52, .ref a53, .ref a54, .ref a55, .int i11_9, .ref a56, .ref a33, .ref a57, .ref a37, .ref a58, .ref a35])),
      (a50, .inl (cA50, 7, .inr (.inl y50))),
      (a31, .inl (cA31, 7, .inl y31)),
      (a51, .inl (cA51, 7, .inl y51)),
      (a52, .inl (cA52, 12, .inl y52)),
      (a53, .inl (cA53, 12, .inl y53)),
      (a54, .inl (cA54, 12, .inl y54)),
      (a55, .inl (cA55, 12, .inl y55)),
      (a56, .inl (cA56, 8, .inr (.inl y56))),
      (a33, .inl (cA33, 8, .inl y33)),
      (a57, .inl (cA57, 8, .inl y57)),
      (a37, .inl (cA37, 8, .inl y37)),
      (a58, .inl (cA58, 8, .inl y58)),
      (a35, .inl (cA35, 3, .inl y35)),
      (a13, .inr (7, [.int i13_0, .int i13_1, .int i13_2, .ref a18, .ref a59, .ref a60, .int i13_6])),
      (a18, .inl (cA18, 7, .inl y18)),
      (a59, .inl (cA59, 7, .inl y59)),
      (a60, .inl (cA60, 7, .inl y60)),
      (a9, .inr (6, [.ref i9_0, .ref i9_1, .ref i9_2, .int i9_3, .int i9_4])),
      (a15, .inr (1, [.ref i15_0, .int i15_1])),
      (a12, .inr (8, [.int i12_0, .ref a41, .ref a30, .ref a42, .int i12_4, .ref a43, .ref a44, .ref a45, .ref a46, .int i12_9, .ref a47, .ref a32, .ref a48, .ref a36, .ref a49, .ref a34])),
      (a41, .inl (cA41, 7, .inr (.inl y41))),
      (a30, .inl (cA30, 7, .inl y30)),
      (a42, .inl (cA42, 7, .inl y42)),
      (a43, .inl (cA43, 12, .inl y43)),
      (a44, .inl (cA44, 12, .inl y44)),
      (a45, .inl (cA45, 12, .inl y45)),
      (a46, .inl (cA46, 12, .inl y46)),
      (a47, .inl (cA47, 8, .inr (.inl y47))),
      (a32, .inl (cA32, 8, .inl y32)),
      (a48, .inl (cA48, 8, .inl y48)),
      (a36, .inl (cA36, 8, .inl y36)),
      (a49, .inl (cA49, 8, .inl y49)),
      (a34, .inl (cA34, 3, .inl y34))], i12_0, i12_4, i12_9, y41, y47, y30, y42, y43, y44, y45, y46, y32, y48, y36, y49, y34, ?_, ?_, cu_ev1 z3⟩
  · refine ⟨rfl, ⟨rfl, Nat.le_of_ble_eq_true rfl⟩, fun k c hk => ?_⟩
    match k, hk with
    | 0, hk => cases hk; exact ⟨_, rfl, rfl⟩
    | 1, hk => cases hk; exact ⟨_, rfl, rfl⟩
    | 2, hk => cases hk; exact ⟨_, rfl, Nat.le_of_ble_eq_true rfl, Nat.le_of_ble_eq_true rfl, ⟨_, rfl⟩, _, rfl, t17⟩
    | 3, hk => cases hk; exact ⟨_, rfl, Nat.le_of_ble_eq_true rfl, Nat.le_of_ble_eq_true rfl, ⟨_, rfl⟩, _, rfl, t38⟩
    | 4, hk => cases hk; exact ⟨_, rfl, rfl⟩
    | 5, hk => cases hk; exact ⟨_, rfl, Nat.le_of_ble_eq_true rfl, Nat.le_of_ble_eq_true rfl, ⟨_, rfl⟩, _, rfl, t40⟩
    | 6, hk => cases hk; exact ⟨_, rfl, rfl⟩
    | 7, hk => cases hk; exact ⟨_, rfl, Nat.le_of_ble_eq_true rfl, Nat.le_of_ble_eq_true rfl, ⟨_, rfl⟩, _, rfl, t50⟩
    | 8, hk => cases hk; exact ⟨_, rfl, Nat.le_of_ble_eq_true rfl, Nat.le_of_ble_eq_true rfl, ⟨_, rfl⟩, _, rfl, t31⟩
    | 9, hk => cases hk; exact ⟨_, rfl, Nat.le_of_ble_eq_true rfl, Nat.le_of_ble_eq_true rfl, ⟨_, rfl⟩, _, rfl, t51⟩
    | 10, hk => cases hk; exact ⟨_, rfl, Nat.le_of_ble_eq_true rfl, Nat.le_of_ble_eq_true rfl, ⟨_, rfl⟩, _, rfl, t52⟩
    | 11, hk => cases hk; exact ⟨_, rfl, Nat.le_of_ble_eq_true rfl, Nat.le_of_ble_eq_true rfl, ⟨_, rfl⟩, _, rfl, t53⟩
    | 12, hk => cases hk; exact ⟨_, rfl, Nat.le_of_ble_eq_true rfl, Nat.le_of_ble_eq_true rfl, ⟨_, rfl⟩, _, rfl, t54⟩
    | 13, hk => cases hk; exact ⟨_, rfl, Nat.le_of_ble_eq_true rfl, Nat.le_of_ble_eq_true rfl, ⟨_, rfl⟩, _, rfl, t55⟩
    | 14, hk => cases hk; exact ⟨_, rfl, Nat.le_of_ble_eq_true rfl, Nat.le_of_ble_eq_true rfl, ⟨_, rfl⟩, _, rfl, t56⟩
    | 15, hk => cases hk; exact ⟨_, rfl, Nat.le_of_ble_eq_true rfl, Nat.le_of_ble_eq_true rfl, ⟨_, rfl⟩, _, rfl, t33⟩
    | 16, hk => cases hk; exact ⟨_, rfl, Nat.le_of_ble_eq_true rfl, Nat.le_of_ble_eq_true rfl, ⟨_, rfl⟩, _, rfl, t57⟩
    | 17, hk => cases hk; exact ⟨_, rfl, Nat.le_of_ble_eq_true rfl, Nat.le_of_ble_eq_true rfl, ⟨_, rfl⟩, _, rfl, t37⟩
    | 18, hk => cases hk; exact ⟨_, rfl, Nat.le_of_ble_eq_true rfl, Nat.le_of_ble_eq_true rfl, ⟨_, rfl⟩, _, rfl, t58⟩
    | 19, hk => cases hk; exact ⟨_, rfl, Nat.le_of_ble_eq_true rfl, Nat.le_of_ble_eq_true rfl, ⟨_, rfl⟩, _, rfl, t35⟩
    | 20, hk => cases hk; exact ⟨_, rfl, rfl⟩
    | 21, hk => cases hk; exact ⟨_, rfl, Nat.le_of_ble_eq_true rfl, Nat.le_of_ble_eq_true rfl, ⟨_, rfl⟩, _, rfl, t18⟩
    | 22, hk => cases hk; exact ⟨_, rfl, Nat.le_of_ble_eq_true rfl, Nat.le_of_ble_eq_true rfl, ⟨_, rfl⟩, _, rfl, t59⟩
    | 23, hk => cases hk; exact ⟨_, rfl, Nat.le_of_ble_eq_true rfl, Nat.le_of_ble_eq_true rfl, ⟨_, rfl⟩, _, rfl, t60⟩
    | 24, hk => cases hk; exact ⟨_, rfl, rfl⟩
    | 25, hk => cases hk; exact ⟨_, rfl, rfl⟩
    | 26, hk => cases hk; exact ⟨_, rfl, rfl⟩
    | 27, hk => cases hk; exact ⟨_, rfl, Nat.le_of_ble_eq_true rfl, Nat.le_of_ble_eq_true rfl, ⟨_, rfl⟩, _, rfl, t41⟩
    | 28, hk => cases hk; exact ⟨_, rfl, Nat.le_of_ble_eq_true rfl, Nat.le_of_ble_eq_true rfl, ⟨_, rfl⟩, _, rfl, t30⟩
    | 29, hk => cases hk; exact ⟨_, rfl, Nat.le_of_ble_eq_true rfl, Nat.le_of_ble_eq_true rfl, ⟨_, rfl⟩, _, rfl, t42⟩
    | 30, hk => cases hk; exact ⟨_, rfl, Nat.le_of_ble_eq_true rfl, Nat.le_of_ble_eq_true rfl, ⟨_, rfl⟩, _, rfl, t43⟩
    | 31, hk => cases hk; exact ⟨_, rfl, Nat.le_of_ble_eq_true rfl, Nat.le_of_ble_eq_true rfl, ⟨_, rfl⟩, _, rfl, t44⟩
    | 32, hk => cases hk; exact ⟨_, rfl, Nat.le_of_ble_eq_true rfl, Nat.le_of_ble_eq_true rfl, ⟨_, rfl⟩, _, rfl, t45⟩
    | 33, hk => cases hk; exact ⟨_, rfl, Nat.le_of_ble_eq_true rfl, Nat.le_of_ble_eq_true rfl, ⟨_, rfl⟩, _, rfl, t46⟩
    | 34, hk => cases hk; exact ⟨_, rfl, Nat.le_of_ble_eq_true rfl, Nat.le_of_ble_eq_true rfl, ⟨_, rfl⟩, _, rfl, t47⟩
    | 35, hk => cases hk; exact ⟨_, rfl, Nat.le_of_ble_eq_true rfl, Nat.le_of_ble_eq_true rfl, ⟨_, rfl⟩, _, rfl, t32⟩
    | 36, hk => cases hk; exact ⟨_, rfl, Nat.le_of_ble_eq_true rfl, Nat.le_of_ble_eq_true rfl, ⟨_, rfl⟩, _, rfl, t48⟩
    | 37, hk => cases hk; exact ⟨_, rfl, Nat.le_of_ble_eq_true rfl, Nat.le_of_ble_eq_true rfl, ⟨_, rfl⟩, _, rfl, t36⟩
    | 38, hk => cases hk; exact ⟨_, rfl, Nat.le_of_ble_eq_true rfl, Nat.le_of_ble_eq_true rfl, ⟨_, rfl⟩, _, rfl, t49⟩
    | 39, hk => cases hk; exact ⟨_, rfl, Nat.le_of_ble_eq_true rfl, Nat.le_of_ble_eq_true rfl, ⟨_, rfl⟩, _, rfl, t34⟩
    | k + 40, hk => cases hk
  · simp only [List.map_cons, List.map_nil, h10, h3, h17, h38, h39, h40, h11, h50, h31, h51, h52, h53, h54, h55, h56, h33, h57, h37, h58, h35, h13, h18, h59, h60, h9, h15, h12, h41, h30, h42, h43, h44, h45, h46, h47, h32, h48, h36, h49, h34]
set_option maxRecDepth 100000 in
set_option maxHeartbeats 4000000 in
theorem cu_A_11_8 {X : ab_X} {z : ab_Z} {s : State} {ws : va_W} (hc : ∀ (k : Nat) (c : ab_C), k ∈ cu_KA → gl_L[k]? = some c → ∃ q, ws[k]? = some q ∧ ab_cR X z s c q.2) (hz : ws.map Prod.fst = z.2.2) (hd : ∃ ad, z.2.2[11]? = some ad ∧ cu_v ws 10 3 = .ref ad) (hs : ∃ ad, z.2.2[8]? = some ad ∧ cu_v ws 10 7 = .ref ad) : ∃ (σ : ex_S) (A : ex_A) (we : va_W), ex_wR X A s (WA (2000000, []) 6 σ) we ∧ ([10, 3, 17, 38, 39, 40, 11, 50, 31, 51, 52, 53, 54, 55, 56, 33, 57, 37, 58, 35, 13, 18, 59, 60, 8, 15] : List Nat).map (fun k => ws[k]?) = we.map some ∧ z.1[1]? = some (σ.1 0) := by
  obtain ⟨⟨a10, e10⟩, h10, r10⟩ := hc 10 _ (by decide) rfl
  obtain ⟨⟨a3, e3⟩, h3, r3⟩ := hc 3 _ (by decide) rfl
  obtain ⟨⟨a17, e17⟩, h17, r17⟩ := hc 17 _ (by decide) rfl
  obtain ⟨⟨a38, e38⟩, h38, r38⟩ := hc 38 _ (by decide) rfl
  obtain ⟨⟨a39, e39⟩, h39, r39⟩ := hc 39 _ (by decide) rfl
  obtain ⟨⟨a40, e40⟩, h40, r40⟩ := hc 40 _ (by decide) rfl
  obtain ⟨⟨a11, e11⟩, h11, r11⟩ := hc 11 _ (by decide) rfl
  obtain ⟨⟨a50, e50⟩, h50, r50⟩ := hc 50 _ (by decide) rfl
  obtain ⟨⟨a31, e31⟩, h31, r31⟩ := hc 31 _ (by decide) rfl
  obtain ⟨⟨a51, e51⟩, h51, r51⟩ := hc 51 _ (by decide) rfl
  obtain ⟨⟨a52, e52⟩, h52, r52⟩ := hc 52 _ (by decide) rfl
  obtain ⟨⟨a53, e53⟩, h53, r53⟩ := hc 53 _ (by decide) rfl
  obtain ⟨⟨a54, e54⟩, h54, r54⟩ := hc 54 _ (by decide) rfl
  obtain ⟨⟨a55, e55⟩, h55, r55⟩ := hc 55 _ (by decide) rfl
  obtain ⟨⟨a56, e56⟩, h56, r56⟩ := hc 56 _ (by decide) rfl
  obtain ⟨⟨a33, e33⟩, h33, r33⟩ := hc 33 _ (by decide) rfl
  obtain ⟨⟨a57, e57⟩, h57, r57⟩ := hc 57 _ (by decide) rfl
  obtain ⟨⟨a37, e37⟩, h37, r37⟩ := hc 37 _ (by decide) rfl
  obtain ⟨⟨a58, e58⟩, h58, r58⟩ := hc 58 _ (by decide) rfl
  obtain ⟨⟨a35, e35⟩, h35, r35⟩ := hc 35 _ (by decide) rfl
  obtain ⟨⟨a13, e13⟩, h13, r13⟩ := hc 13 _ (by decide) rfl
  obtain ⟨⟨a18, e18⟩, h18, r18⟩ := hc 18 _ (by decide) rfl
  obtain ⟨⟨a59, e59⟩, h59, r59⟩ := hc 59 _ (by decide) rfl
  obtain ⟨⟨a60, e60⟩, h60, r60⟩ := hc 60 _ (by decide) rfl
  obtain ⟨⟨a8, e8⟩, h8, r8⟩ := hc 8 _ (by decide) rfl
  obtain ⟨⟨a15, e15⟩, h15, r15⟩ := hc 15 _ (by decide) rfl
  obtain ⟨cA17, x17, f17, ⟨y17, g17⟩, t17, -⟩ := r17
  dsimp only at f17
  subst f17 g17
  obtain ⟨cA38, x38, f38, ⟨y38, g38⟩, t38, -⟩ := r38
  dsimp only at f38
  subst f38 g38
  obtain ⟨cA40, x40, f40, ⟨y40, g40⟩, t40, -⟩ := r40
  dsimp only at f40
  subst f40 g40
  obtain ⟨cA50, x50, f50, ⟨y50, g50⟩, t50, -⟩ := r50
  dsimp only at f50
  subst f50 g50
  obtain ⟨cA31, x31, f31, ⟨y31, g31⟩, t31, -⟩ := r31
  dsimp only at f31
  subst f31 g31
  obtain ⟨cA51, x51, f51, ⟨y51, g51⟩, t51, -⟩ := r51
  dsimp only at f51
  subst f51 g51
  obtain ⟨cA52, x52, f52, ⟨y52, g52⟩, t52, -⟩ := r52
  dsimp only at f52
  subst f52 g52
  obtain ⟨cA53, x53, f53, ⟨y53, g53⟩, t53, -⟩ := r53
  dsimp only at f53
  subst f53 g53
  obtain ⟨cA54, x54, f54, ⟨y54, g54⟩, t54, -⟩ := r54
  dsimp only at f54
  subst f54 g54
  obtain ⟨cA55, x55, f55, ⟨y55, g55⟩, t55, -⟩ := r55
  dsimp only at f55
  subst f55 g55
  obtain ⟨cA56, x56, f56, ⟨y56, g56⟩, t56, -⟩ := r56
  dsimp only at f56
  subst f56 g56
  obtain ⟨cA33, x33, f33, ⟨y33, g33⟩, t33, -⟩ := r33
  dsimp only at f33
  subst f33 g33
  obtain ⟨cA57, x57, f57, ⟨y57, g57⟩, t57, -⟩ := r57
  dsimp only at f57
  subst f57 g57
  obtain ⟨cA37, x37, f37, ⟨y37, g37⟩, t37, -⟩ := r37
  dsimp only at f37
  subst f37 g37
  obtain ⟨cA58, x58, f58, ⟨y58, g58⟩, t58, -⟩ := r58
  dsimp only at f58
  subst f58 g58
  obtain ⟨cA35, x35, f35, ⟨y35, g35⟩, t35, -⟩ := r35
  dsimp only at f35
  subst f35 g35
  obtain ⟨cA18, x18, f18, ⟨y18, g18⟩, t18, -⟩ := r18
  dsimp only at f18
  subst f18 g18
  obtain ⟨cA59, x59, f59, ⟨y59, g59⟩, t59, -⟩ := r59
  dsimp only at f59
  subst f59 g59
  obtain ⟨cA60, x60, f60, ⟨y60, g60⟩, t60, -⟩ := r60
  dsimp only at f60
  subst f60 g60
  obtain ⟨vs10, f10, l10, w10⟩ := r10
  dsimp only at f10
  subst f10
  obtain ⟨u10_0, s10_0, rfl, m10_0⟩ := cu_c l10
  obtain ⟨u10_1, s10_1, rfl, m10_1⟩ := cu_c m10_0
  obtain ⟨u10_2, s10_2, rfl, m10_2⟩ := cu_c m10_1
  obtain ⟨u10_3, s10_3, rfl, m10_3⟩ := cu_c m10_2
  obtain ⟨u10_4, s10_4, rfl, m10_4⟩ := cu_c m10_3
  obtain ⟨u10_5, s10_5, rfl, m10_5⟩ := cu_c m10_4
  obtain ⟨u10_6, s10_6, rfl, m10_6⟩ := cu_c m10_5
  obtain ⟨u10_7, s10_7, rfl, m10_7⟩ := cu_c m10_6
  obtain ⟨u10_8, s10_8, rfl, m10_8⟩ := cu_c m10_7
  obtain ⟨u10_9, s10_9, rfl, m10_9⟩ := cu_c m10_8
  obtain ⟨u10_10, s10_10, rfl, m10_10⟩ := cu_c m10_9
  obtain ⟨u10_11, s10_11, rfl, m10_11⟩ := cu_c m10_10
  obtain ⟨u10_12, s10_12, rfl, m10_12⟩ := cu_c m10_11
  obtain ⟨u10_13, s10_13, rfl, m10_13⟩ := cu_c m10_12
  obtain ⟨u10_14, s10_14, rfl, m10_14⟩ := cu_c m10_13
  obtain ⟨u10_15, s10_15, rfl, m10_15⟩ := cu_c m10_14
  obtain ⟨u10_16, s10_16, rfl, m10_16⟩ := cu_c m10_15
  cases cu_n m10_16
  have q10_0 := cu_R (cu_ad hz h3) (w10 0 _ _ rfl rfl)
  subst q10_0
  have q10_1 := cu_R (cu_ad hz h39) (w10 1 _ _ rfl rfl)
  subst q10_1
  obtain ⟨i10_2, q10_2⟩ := cu_Rx (w10 2 _ _ rfl rfl)
  subst q10_2
  have q10_3 : u10_3 = .ref a11 := by
    obtain ⟨ad, e1, e2⟩ := hd
    have e3 := e1.symm.trans (cu_ad hz h11)
    cases e3
    rw [cu_v_of h10] at e2
    exact e2
  subst q10_3
  have q10_4 := cu_R (cu_ad hz h13) (w10 4 _ _ rfl rfl)
  subst q10_4
  obtain ⟨i10_5, q10_5⟩ := cu_Rx (w10 5 _ _ rfl rfl)
  subst q10_5
  have q10_6 := cu_R (cu_ad hz h15) (w10 6 _ _ rfl rfl)
  subst q10_6
  have q10_7 : u10_7 = .ref a8 := by
    obtain ⟨ad, e1, e2⟩ := hs
    have e3 := e1.symm.trans (cu_ad hz h8)
    cases e3
    rw [cu_v_of h10] at e2
    exact e2
  subst q10_7
  obtain ⟨i10_8, q10_8⟩ := cu_Rx (w10 8 _ _ rfl rfl)
  subst q10_8
  obtain ⟨i10_9, q10_9⟩ := cu_Rx (w10 9 _ _ rfl rfl)
  subst q10_9
  obtain ⟨i10_10, q10_10⟩ := cu_Rx (w10 10 _ _ rfl rfl)
  subst q10_10
  obtain ⟨i10_11, q10_11⟩ := cu_Rx (w10 11 _ _ rfl rfl)
  subst q10_11
  obtain ⟨i10_12, q10_12⟩ := cu_Rx (w10 12 _ _ rfl rfl)
  subst q10_12
  obtain ⟨i10_13, q10_13⟩ := cu_Rx (w10 13 _ _ rfl rfl)
  subst q10_13
  obtain ⟨i10_14, q10_14⟩ := cu_I (w10 14 _ _ rfl rfl) rfl
  subst q10_14
  obtain ⟨i10_15, q10_15⟩ := cu_Rx (w10 15 _ _ rfl rfl)
  subst q10_15
  obtain ⟨i10_16, q10_16⟩ := cu_I (w10 16 _ _ rfl rfl) rfl
  subst q10_16
  obtain ⟨vs3, f3, l3, w3⟩ := r3
  dsimp only at f3
  subst f3
  obtain ⟨u3_0, s3_0, rfl, m3_0⟩ := cu_c l3
  obtain ⟨u3_1, s3_1, rfl, m3_1⟩ := cu_c m3_0
  obtain ⟨u3_2, s3_2, rfl, m3_2⟩ := cu_c m3_1
  obtain ⟨u3_3, s3_3, rfl, m3_3⟩ := cu_c m3_2
  obtain ⟨u3_4, s3_4, rfl, m3_4⟩ := cu_c m3_3
  obtain ⟨u3_5, s3_5, rfl, m3_5⟩ := cu_c m3_4
  obtain ⟨u3_6, s3_6, rfl, m3_6⟩ := cu_c m3_5
  obtain ⟨u3_7, s3_7, rfl, m3_7⟩ := cu_c m3_6
  obtain ⟨u3_8, s3_8, rfl, m3_8⟩ := cu_c m3_7
  obtain ⟨u3_9, s3_9, rfl, m3_9⟩ := cu_c m3_8
  obtain ⟨u3_10, s3_10, rfl, m3_10⟩ := cu_c m3_9
  obtain ⟨u3_11, s3_11, rfl, m3_11⟩ := cu_c m3_10
  obtain ⟨u3_12, s3_12, rfl, m3_12⟩ := cu_c m3_11
  obtain ⟨u3_13, s3_13, rfl, m3_13⟩ := cu_c m3_12
  obtain ⟨u3_14, s3_14, rfl, m3_14⟩ := cu_c m3_13
  cases cu_n m3_14
  have q3_0 := cu_R (cu_ad hz h17) (w3 0 _ _ rfl rfl)
  subst q3_0
  obtain ⟨i3_1, q3_1⟩ := cu_I (w3 1 _ _ rfl rfl) rfl
  obtain ⟨i3_2, q3_2⟩ := cu_I (w3 2 _ _ rfl rfl) rfl
  subst q3_2
  obtain ⟨i3_3, q3_3⟩ := cu_I (w3 3 _ _ rfl rfl) rfl
  subst q3_3
  obtain ⟨i3_4, q3_4⟩ := cu_I (w3 4 _ _ rfl rfl) rfl
  subst q3_4
  obtain ⟨i3_5, q3_5⟩ := cu_I (w3 5 _ _ rfl rfl) rfl
  subst q3_5
  obtain ⟨i3_6, q3_6⟩ := cu_L (w3 6 _ _ rfl rfl) rfl
  subst q3_6
  obtain ⟨i3_7, q3_7⟩ := cu_I (w3 7 _ _ rfl rfl) rfl
  subst q3_7
  obtain ⟨i3_8, q3_8⟩ := cu_I (w3 8 _ _ rfl rfl) rfl
  subst q3_8
  obtain ⟨i3_9, q3_9⟩ := cu_I (w3 9 _ _ rfl rfl) rfl
  subst q3_9
  obtain ⟨i3_10, q3_10⟩ := cu_L (w3 10 _ _ rfl rfl) rfl
  subst q3_10
  obtain ⟨i3_11, q3_11⟩ := cu_I (w3 11 _ _ rfl rfl) rfl
  subst q3_11
  obtain ⟨i3_12, q3_12⟩ := cu_I (w3 12 _ _ rfl rfl) rfl
  subst q3_12
  obtain ⟨i3_13, q3_13⟩ := cu_I (w3 13 _ _ rfl rfl) rfl
  subst q3_13
  have q3_14 := cu_R (cu_ad hz h38) (w3 14 _ _ rfl rfl)
  subst q3_14
  obtain ⟨vs39, f39, l39, w39⟩ := r39
  dsimp only at f39
  subst f39
  obtain ⟨u39_0, s39_0, rfl, m39_0⟩ := cu_c l39
  cases cu_n m39_0
  have q39_0 := cu_R (cu_ad hz h40) (w39 0 _ _ rfl rfl)
  subst q39_0
  obtain ⟨vs11, f11, l11, w11⟩ := r11
  dsimp only at f11
  subst f11
  obtain ⟨u11_0, s11_0, rfl, m11_0⟩ := cu_c l11
  obtain ⟨u11_1, s11_1, rfl, m11_1⟩ := cu_c m11_0
  obtain ⟨u11_2, s11_2, rfl, m11_2⟩ := cu_c m11_1
  obtain ⟨u11_3, s11_3, rfl, m11_3⟩ := cu_c m11_2
  obtain ⟨u11_4, s11_4, rfl, m11_4⟩ := cu_c m11_3
  obtain ⟨u11_5, s11_5, rfl, m11_5⟩ := cu_c m11_4
  obtain ⟨u11_6, s11_6, rfl, m11_6⟩ := cu_c m11_5
  obtain ⟨u11_7, s11_7, rfl, m11_7⟩ := cu_c m11_6
  obtain ⟨u11_8, s11_8, rfl, m11_8⟩ := cu_c m11_7
  obtain ⟨u11_9, s11_9, rfl, m11_9⟩ := cu_c m11_8
  obtain ⟨u11_10, s11_10, rfl, m11_10⟩ := cu_c m11_9
  obtain ⟨u11_11, s11_11, rfl, m11_11⟩ := cu_c m11_10
  obtain ⟨u11_12, s11_12, rfl, m11_12⟩ := cu_c m11_11
  obtain ⟨u11_13, s11_13, rfl, m11_13⟩ := cu_c m11_12
  obtain ⟨u11_14, s11_14, rfl, m11_14⟩ := cu_c m11_13
  obtain ⟨u11_15, s11_15, rfl, m11_15⟩ := cu_c m11_14
  cases cu_n m11_15
  obtain ⟨i11_0, q11_0⟩ := cu_I (w11 0 _ _ rfl rfl) rfl
  subst q11_0
  have q11_1 := cu_R (cu_ad hz h50) (w11 1 _ _ rfl rfl)
  subst q11_1
  have q11_2 := cu_R (cu_ad hz h31) (w11 2 _ _ rfl rfl)
  subst q11_2
  have q11_3 := cu_R (cu_ad hz h51) (w11 3 _ _ rfl rfl)
  subst q11_3
  obtain ⟨i11_4, q11_4⟩ := cu_I (w11 4 _ _ rfl rfl) rfl
  subst q11_4
  have q11_5 := cu_R (cu_ad hz h52) (w11 5 _ _ rfl rfl)
  subst q11_5
  have q11_6 := cu_R (cu_ad hz h53) (w11 6 _ _ rfl rfl)
  subst q11_6
  have q11_7 := cu_R (cu_ad hz h54) (w11 7 _ _ rfl rfl)
  subst q11_7
  have q11_8 := cu_R (cu_ad hz h55) (w11 8 _ _ rfl rfl)
  subst q11_8
  obtain ⟨i11_9, q11_9⟩ := cu_I (w11 9 _ _ rfl rfl) rfl
  subst q11_9
  have q11_10 := cu_R (cu_ad hz h56) (w11 10 _ _ rfl rfl)
  subst q11_10
  have q11_11 := cu_R (cu_ad hz h33) (w11 11 _ _ rfl rfl)
  subst q11_11
  have q11_12 := cu_R (cu_ad hz h57) (w11 12 _ _ rfl rfl)
  subst q11_12
  have q11_13 := cu_R (cu_ad hz h37) (w11 13 _ _ rfl rfl)
  subst q11_13
  have q11_14 := cu_R (cu_ad hz h58) (w11 14 _ _ rfl rfl)
  subst q11_14
  have q11_15 := cu_R (cu_ad hz h35) (w11 15 _ _ rfl rfl)
  subst q11_15
  obtain ⟨vs13, f13, l13, w13⟩ := r13
  dsimp only at f13
  subst f13
  obtain ⟨u13_0, s13_0, rfl, m13_0⟩ := cu_c l13
  obtain ⟨u13_1, s13_1, rfl, m13_1⟩ := cu_c m13_0
  obtain ⟨u13_2, s13_2, rfl, m13_2⟩ := cu_c m13_1
  obtain ⟨u13_3, s13_3, rfl, m13_3⟩ := cu_c m13_2
  obtain ⟨u13_4, s13_4, rfl, m13_4⟩ := cu_c m13_3
  obtain ⟨u13_5, s13_5, rfl, m13_5⟩ := cu_c m13_4
  obtain ⟨u13_6, s13_6, rfl, m13_6⟩ := cu_c m13_5
  cases cu_n m13_6
  obtain ⟨i13_0, q13_0⟩ := cu_I (w13 0 _ _ rfl rfl) rfl
  subst q13_0
  obtain ⟨i13_1, q13_1⟩ := cu_I (w13 1 _ _ rfl rfl) rfl
  subst q13_1
  obtain ⟨i13_2, q13_2⟩ := cu_I (w13 2 _ _ rfl rfl) rfl
  subst q13_2
  have q13_3 := cu_R (cu_ad hz h18) (w13 3 _ _ rfl rfl)
  subst q13_3
  have q13_4 := cu_R (cu_ad hz h59) (w13 4 _ _ rfl rfl)
  subst q13_4
  have q13_5 := cu_R (cu_ad hz h60) (w13 5 _ _ rfl rfl)
  subst q13_5
  obtain ⟨i13_6, q13_6⟩ := cu_I (w13 6 _ _ rfl rfl) rfl
  subst q13_6
  obtain ⟨vs8, f8, l8, w8⟩ := r8
  dsimp only at f8
  subst f8
  obtain ⟨u8_0, s8_0, rfl, m8_0⟩ := cu_c l8
  obtain ⟨u8_1, s8_1, rfl, m8_1⟩ := cu_c m8_0
  obtain ⟨u8_2, s8_2, rfl, m8_2⟩ := cu_c m8_1
  obtain ⟨u8_3, s8_3, rfl, m8_3⟩ := cu_c m8_2
  obtain ⟨u8_4, s8_4, rfl, m8_4⟩ := cu_c m8_3
  cases cu_n m8_4
  obtain ⟨i8_0, q8_0⟩ := cu_Rx (w8 0 _ _ rfl rfl)
  subst q8_0
  obtain ⟨i8_1, q8_1⟩ := cu_Rx (w8 1 _ _ rfl rfl)
  subst q8_1
  obtain ⟨i8_2, q8_2⟩ := cu_Rx (w8 2 _ _ rfl rfl)
  subst q8_2
  obtain ⟨i8_3, q8_3⟩ := cu_I (w8 3 _ _ rfl rfl) rfl
  subst q8_3
  obtain ⟨i8_4, q8_4⟩ := cu_I (w8 4 _ _ rfl rfl) rfl
  subst q8_4
  obtain ⟨vs15, f15, l15, w15⟩ := r15
  dsimp only at f15
  subst f15
  obtain ⟨u15_0, s15_0, rfl, m15_0⟩ := cu_c l15
  obtain ⟨u15_1, s15_1, rfl, m15_1⟩ := cu_c m15_0
  cases cu_n m15_1
  obtain ⟨i15_0, q15_0⟩ := cu_Rx (w15 0 _ _ rfl rfl)
  subst q15_0
  obtain ⟨i15_1, q15_1⟩ := cu_I (w15 1 _ _ rfl rfl) rfl
  subst q15_1
  have z3 := w3 1 _ _ rfl rfl
  subst q3_1
  refine ⟨((fun j => bif Nat.beq j 0 then i3_1 else bif Nat.beq j 1 then i3_2 else bif Nat.beq j 2 then i3_3 else bif Nat.beq j 3 then i3_4 else bif Nat.beq j 4 then i3_5 else bif Nat.beq j 5 then i3_7 else bif Nat.beq j 6 then i3_8 else bif Nat.beq j 7 then i3_9 else bif Nat.beq j 8 then i3_11 else bif Nat.beq j 9 then i3_12 else bif Nat.beq j 10 then i3_13 else bif Nat.beq j 11 then i11_0 else bif Nat.beq j 12 then i11_4 else bif Nat.beq j 13 then i11_9 else bif Nat.beq j 14 then i10_14 else bif Nat.beq j 15 then i10_16 else bif Nat.beq j 16 then i13_0 else bif Nat.beq j 17 then i13_1 else bif Nat.beq j 18 then i13_2 else bif Nat.beq j 19 then i13_6 else bif Nat.beq j 20 then i8_3 else bif Nat.beq j 21 then i8_4 else bif Nat.beq j 22 then i15_1 else (0 : Int32)), (fun j => bif Nat.beq j 0 then i3_6 else bif Nat.beq j 1 then i3_10 else (0 : Int64)), (fun j => bif Nat.beq j 0 then y17 else bif Nat.beq j 1 then y31 else bif Nat.beq j 2 then y51 else bif Nat.beq j 3 then y52 else bif Nat.beq j 4 then y53 else bif Nat.beq j 5 then y54 else bif Nat.beq j 6 then y55 else bif Nat.beq j 7 then y33 else bif Nat.beq j 8 then y57 else bif Nat.beq j 9 then y37 else bif Nat.beq j 10 then y58 else bif Nat.beq j 11 then y35 else bif Nat.beq j 12 then y40 else bif Nat.beq j 13 then y18 else bif Nat.beq j 14 then y59 else bif Nat.beq j 15 then y60 else (fun _ => (0 : Int32))), (fun j => bif Nat.beq j 0 then y38 else bif Nat.beq j 1 then y50 else bif Nat.beq j 2 then y56 else (fun _ => (0 : Int64)))), ([a10, a3, a17, a38, a39, a40, a11, a50, a31, a51, a52, a53, a54, a55, a56, a33, a57, a37, a58, a35, a13, a18, a59, a60, a8, a15], (fun j => bif Nat.beq j 0 then i10_2 else bif Nat.beq j 1 then i10_5 else bif Nat.beq j 2 then i10_8 else bif Nat.beq j 3 then i10_9 else bif Nat.beq j 4 then i10_10 else bif Nat.beq j 5 then i10_11 else bif Nat.beq j 6 then i10_12 else bif Nat.beq j 7 then i10_13 else bif Nat.beq j 8 then i10_15 else bif Nat.beq j 9 then i8_0 else bif Nat.beq j 10 then i8_1 else bif Nat.beq j 11 then i8_2 else bif Nat.beq j 12 then i15_0 else 0)), [(a10, .inr (10, [.ref a3, .ref a39, .ref i10_2, .ref a11, .ref a13, .ref i10_5, .ref a15, .ref a8, .ref i10_8, .ref i10_9, .ref i10_10, .ref i10_11, .ref i10_12, .ref i10_13, .int i10_14, .ref i10_15, .int i10_16])),
      (a3, .inr (4, [.ref a17, .int i3_1, .int i3_2, .int i3_3, .int i3_4, .int i3_5, .long i3_6, .int i3_7, .int i3_8, .int i3_9, .long i3_10, .int i3_11, .int i3_12, .int i3_13, .ref a38])),
      (a17, .inl (cA17, 940, .inl y17)),
      (a38, .inl (cA38, 22, .inr (.inl y38))),
      (a39, .inr (9, [.ref a40])),
      (a40, .inl (cA40, 3, .inl y40)),
      (a11, .inr (8, [.int i11_0, .ref a50, .ref a31, .ref a51, .int i11_4, .ref a52, .ref a53, .ref a54, .ref a55, .int i11_9, .ref a56, .ref a33, .ref a57, .ref a37, .ref a58, .ref a35])),
      (a50, .inl (cA50, 7, .inr (.inl y50))),
      (a31, .inl (cA31, 7, .inl y31)),
      (a51, .inl (cA51, 7, .inl y51)),
      (a52, .inl (cA52, 12, .inl y52)),
      (a53, .inl (cA53, 12, .inl y53)),
      (a54, .inl (cA54, 12, .inl y54)),
      (a55, .inl (cA55, 12, .inl y55)),
      (a56, .inl (cA56, 8, .inr (.inl y56))),
      (a33, .inl (cA33, 8, .inl y33)),
      (a57, .inl (cA57, 8, .inl y57)),
      (a37, .inl (cA37, 8, .inl y37)),
      (a58, .inl (cA58, 8, .inl y58)),
      (a35, .inl (cA35, 3, .inl y35)),
      (a13, .inr (7, [.int i13_0, .int i13_1, .int i13_2, .ref a18, .ref a59, .ref a60, .int i13_6])),
      (a18, .inl (cA18, 7, .inl y18)),
      (a59, .inl (cA59, 7, .inl y59)),
      (a60, .inl (cA60, 7, .inl y60)),
      (a8, .inr (6, [.ref i8_0, .ref i8_1, .ref i8_2, .int i8_3, .int i8_4])),
      (a15, .inr (1, [.ref i15_0, .int i15_1]))], ?_, ?_, cu_ev1 z3⟩
  · refine ⟨rfl, ⟨rfl, Nat.le_of_ble_eq_true rfl⟩, fun k c hk => ?_⟩
    match k, hk with
    | 0, hk => cases hk; exact ⟨_, rfl, rfl⟩
    | 1, hk => cases hk; exact ⟨_, rfl, rfl⟩
    | 2, hk => cases hk; exact ⟨_, rfl, Nat.le_of_ble_eq_true rfl, Nat.le_of_ble_eq_true rfl, ⟨_, rfl⟩, _, rfl, t17⟩
    | 3, hk => cases hk; exact ⟨_, rfl, Nat.le_of_ble_eq_true rfl, Nat.le_of_ble_eq_true rfl, ⟨_, rfl⟩, _, rfl, t38⟩
    | 4, hk => cases hk; exact ⟨_, rfl, rfl⟩
    | 5, hk => cases hk; exact ⟨_, rfl, Nat.le_of_ble_eq_true rfl, Nat.le_of_ble_eq_true rfl, ⟨_, rfl⟩, _, rfl, t40⟩
    | 6, hk => cases hk; exact ⟨_, rfl, rfl⟩
    | 7, hk => cases hk; exact ⟨_, rfl, Nat.le_of_ble_eq_true rfl, Nat.le_of_ble_eq_true rfl, ⟨_, rfl⟩, _, rfl, t50⟩
    | 8, hk => cases hk; exact ⟨_, rfl, Nat.le_of_ble_eq_true rfl, Nat.le_of_ble_eq_true rfl, ⟨_, rfl⟩, _, rfl, t31⟩
    | 9, hk => cases hk; exact ⟨_, rfl, Nat.le_of_ble_eq_true rfl, Nat.le_of_ble_eq_true rfl, ⟨_, rfl⟩, _, rfl, t51⟩
    | 10, hk => cases hk; exact ⟨_, rfl, Nat.le_of_ble_eq_true rfl, Nat.le_of_ble_eq_true rfl, ⟨_, rfl⟩, _, rfl, t52⟩
    | 11, hk => cases hk; exact ⟨_, rfl, Nat.le_of_ble_eq_true rfl, Nat.le_of_ble_eq_true rfl, ⟨_, rfl⟩, _, rfl, t53⟩
    | 12, hk => cases hk; exact ⟨_, rfl, Nat.le_of_ble_eq_true rfl, Nat.le_of_ble_eq_true rfl, ⟨_, rfl⟩, _, rfl, t54⟩
    | 13, hk => cases hk; exact ⟨_, rfl, Nat.le_of_ble_eq_true rfl, Nat.le_of_ble_eq_true rfl, ⟨_, rfl⟩, _, rfl, t55⟩
    | 14, hk => cases hk; exact ⟨_, rfl, Nat.le_of_ble_eq_true rfl, Nat.le_of_ble_eq_true rfl, ⟨_, rfl⟩, _, rfl, t56⟩
    | 15, hk => cases hk; exact ⟨_, rfl, Nat.le_of_ble_eq_true rfl, Nat.le_of_ble_eq_true rfl, ⟨_, rfl⟩, _, rfl, t33⟩
    | 16, hk => cases hk; exact ⟨_, rfl, Nat.le_of_ble_eq_true rfl, Nat.le_of_ble_eq_true rfl, ⟨_, rfl⟩, _, rfl, t57⟩
    | 17, hk => cases hk; exact ⟨_, rfl, Nat.le_of_ble_eq_true rfl, Nat.le_of_ble_eq_true rfl, ⟨_, rfl⟩, _, rfl, t37⟩
    | 18, hk => cases hk; exact ⟨_, rfl, Nat.le_of_ble_eq_true rfl, Nat.le_of_ble_eq_true rfl, ⟨_, rfl⟩, _, rfl, t58⟩
    | 19, hk => cases hk; exact ⟨_, rfl, Nat.le_of_ble_eq_true rfl, Nat.le_of_ble_eq_true rfl, ⟨_, rfl⟩, _, rfl, t35⟩
    | 20, hk => cases hk; exact ⟨_, rfl, rfl⟩
    | 21, hk => cases hk; exact ⟨_, rfl, Nat.le_of_ble_eq_true rfl, Nat.le_of_ble_eq_true rfl, ⟨_, rfl⟩, _, rfl, t18⟩
    | 22, hk => cases hk; exact ⟨_, rfl, Nat.le_of_ble_eq_true rfl, Nat.le_of_ble_eq_true rfl, ⟨_, rfl⟩, _, rfl, t59⟩
    | 23, hk => cases hk; exact ⟨_, rfl, Nat.le_of_ble_eq_true rfl, Nat.le_of_ble_eq_true rfl, ⟨_, rfl⟩, _, rfl, t60⟩
    | 24, hk => cases hk; exact ⟨_, rfl, rfl⟩
    | 25, hk => cases hk; exact ⟨_, rfl, rfl⟩
    | k + 26, hk => cases hk
  · simp only [List.map_cons, List.map_nil, h10, h3, h17, h38, h39, h40, h11, h50, h31, h51, h52, h53, h54, h55, h56, h33, h57, h37, h58, h35, h13, h18, h59, h60, h8, h15]
set_option maxRecDepth 100000 in
set_option maxHeartbeats 4000000 in
theorem cu_V_11_8 {X : ab_X} {z : ab_Z} {s : State} {ws : va_W} (hc : ∀ (k : Nat) (c : ab_C), k ∈ cu_KV → gl_L[k]? = some c → ∃ q, ws[k]? = some q ∧ ab_cR X z s c q.2) (hz : ws.map Prod.fst = z.2.2) (hl : ∃ ad, z.2.2[12]? = some ad ∧ cu_v ws 10 2 = .ref ad) (hd : ∃ ad, z.2.2[11]? = some ad ∧ cu_v ws 10 3 = .ref ad) (hs : ∃ ad, z.2.2[8]? = some ad ∧ cu_v ws 10 7 = .ref ad) : ∃ (σ : ex_S) (A : ex_A) (we : va_W) (u_towns u_terms u_trains : Int32) (p_townName p_trainName : Nat → Int64) (p_noon p_bendTold p_termTown p_termFrom p_termTo p_termBend p_trainFrom p_trainTo p_trainLeaves p_trainTakes p_settings : Nat → Int32), ex_wR X A s (WA (26, lw_L u_towns u_terms u_trains p_townName p_trainName p_noon p_bendTold p_termTown p_termFrom p_termTo p_termBend p_trainFrom p_trainTo p_trainLeaves p_trainTakes p_settings) 6 σ) we ∧ ([10, 3, 17, 38, 39, 40, 11, 50, 31, 51, 52, 53, 54, 55, 56, 33, 57, 37, 58, 35, 13, 18, 59, 60, 8, 15, 12, 41, 30, 42, 43, 44, 45, 46, 47, 32, 48, 36, 49, 34] : List Nat).map (fun k => ws[k]?) = we.map some ∧ z.1[1]? = some (σ.1 0) := by
  obtain ⟨⟨a10, e10⟩, h10, r10⟩ := hc 10 _ (by decide) rfl
  obtain ⟨⟨a3, e3⟩, h3, r3⟩ := hc 3 _ (by decide) rfl
  obtain ⟨⟨a17, e17⟩, h17, r17⟩ := hc 17 _ (by decide) rfl
  obtain ⟨⟨a38, e38⟩, h38, r38⟩ := hc 38 _ (by decide) rfl
  obtain ⟨⟨a39, e39⟩, h39, r39⟩ := hc 39 _ (by decide) rfl
  obtain ⟨⟨a40, e40⟩, h40, r40⟩ := hc 40 _ (by decide) rfl
  obtain ⟨⟨a11, e11⟩, h11, r11⟩ := hc 11 _ (by decide) rfl
  obtain ⟨⟨a50, e50⟩, h50, r50⟩ := hc 50 _ (by decide) rfl
  obtain ⟨⟨a31, e31⟩, h31, r31⟩ := hc 31 _ (by decide) rfl
  obtain ⟨⟨a51, e51⟩, h51, r51⟩ := hc 51 _ (by decide) rfl
  obtain ⟨⟨a52, e52⟩, h52, r52⟩ := hc 52 _ (by decide) rfl
  obtain ⟨⟨a53, e53⟩, h53, r53⟩ := hc 53 _ (by decide) rfl
  obtain ⟨⟨a54, e54⟩, h54, r54⟩ := hc 54 _ (by decide) rfl
  obtain ⟨⟨a55, e55⟩, h55, r55⟩ := hc 55 _ (by decide) rfl
  obtain ⟨⟨a56, e56⟩, h56, r56⟩ := hc 56 _ (by decide) rfl
  obtain ⟨⟨a33, e33⟩, h33, r33⟩ := hc 33 _ (by decide) rfl
  obtain ⟨⟨a57, e57⟩, h57, r57⟩ := hc 57 _ (by decide) rfl
  obtain ⟨⟨a37, e37⟩, h37, r37⟩ := hc 37 _ (by decide) rfl
  obtain ⟨⟨a58, e58⟩, h58, r58⟩ := hc 58 _ (by decide) rfl
  obtain ⟨⟨a35, e35⟩, h35, r35⟩ := hc 35 _ (by decide) rfl
  obtain ⟨⟨a13, e13⟩, h13, r13⟩ := hc 13 _ (by decide) rfl
  obtain ⟨⟨a18, e18⟩, h18, r18⟩ := hc 18 _ (by decide) rfl
  obtain ⟨⟨a59, e59⟩, h59, r59⟩ := hc 59 _ (by decide) rfl
  obtain ⟨⟨a60, e60⟩, h60, r60⟩ := hc 60 _ (by decide) rfl
  obtain ⟨⟨a8, e8⟩, h8, r8⟩ := hc 8 _ (by decide) rfl
  obtain ⟨⟨a15, e15⟩, h15, r15⟩ := hc 15 _ (by decide) rfl
  obtain ⟨⟨a12, e12⟩, h12, r12⟩ := hc 12 _ (by decide) rfl
  obtain ⟨⟨a41, e41⟩, h41, r41⟩ := hc 41 _ (by decide) rfl
  obtain ⟨⟨a30, e30⟩, h30, r30⟩ := hc 30 _ (by decide) rfl
  obtain ⟨⟨a42, e42⟩, h42, r42⟩ := hc 42 _ (by decide) rfl
  obtain ⟨⟨a43, e43⟩, h43, r43⟩ := hc 43 _ (by decide) rfl
  obtain ⟨⟨a44, e44⟩, h44, r44⟩ := hc 44 _ (by decide) rfl
  obtain ⟨⟨a45, e45⟩, h45, r45⟩ := hc 45 _ (by decide) rfl
  obtain ⟨⟨a46, e46⟩, h46, r46⟩ := hc 46 _ (by decide) rfl
  obtain ⟨⟨a47, e47⟩, h47, r47⟩ := hc 47 _ (by decide) rfl
  obtain ⟨⟨a32, e32⟩, h32, r32⟩ := hc 32 _ (by decide) rfl
  obtain ⟨⟨a48, e48⟩, h48, r48⟩ := hc 48 _ (by decide) rfl
  obtain ⟨⟨a36, e36⟩, h36, r36⟩ := hc 36 _ (by decide) rfl
  obtain ⟨⟨a49, e49⟩, h49, r49⟩ := hc 49 _ (by decide) rfl
  obtain ⟨⟨a34, e34⟩, h34, r34⟩ := hc 34 _ (by decide) rfl
  obtain ⟨cA17, x17, f17, ⟨y17, g17⟩, t17, -⟩ := r17
  dsimp only at f17
  subst f17 g17
  obtain ⟨cA38, x38, f38, ⟨y38, g38⟩, t38, -⟩ := r38
  dsimp only at f38
  subst f38 g38
  obtain ⟨cA40, x40, f40, ⟨y40, g40⟩, t40, -⟩ := r40
  dsimp only at f40
  subst f40 g40
  obtain ⟨cA50, x50, f50, ⟨y50, g50⟩, t50, -⟩ := r50
  dsimp only at f50
  subst f50 g50
  obtain ⟨cA31, x31, f31, ⟨y31, g31⟩, t31, -⟩ := r31
  dsimp only at f31
  subst f31 g31
  obtain ⟨cA51, x51, f51, ⟨y51, g51⟩, t51, -⟩ := r51
  dsimp only at f51
  subst f51 g51
  obtain ⟨cA52, x52, f52, ⟨y52, g52⟩, t52, -⟩ := r52
  dsimp only at f52
  subst f52 g52
  obtain ⟨cA53, x53, f53, ⟨y53, g53⟩, t53, -⟩ := r53
  dsimp only at f53
  subst f53 g53
  obtain ⟨cA54, x54, f54, ⟨y54, g54⟩, t54, -⟩ := r54
  dsimp only at f54
  subst f54 g54
  obtain ⟨cA55, x55, f55, ⟨y55, g55⟩, t55, -⟩ := r55
  dsimp only at f55
  subst f55 g55
  obtain ⟨cA56, x56, f56, ⟨y56, g56⟩, t56, -⟩ := r56
  dsimp only at f56
  subst f56 g56
  obtain ⟨cA33, x33, f33, ⟨y33, g33⟩, t33, -⟩ := r33
  dsimp only at f33
  subst f33 g33
  obtain ⟨cA57, x57, f57, ⟨y57, g57⟩, t57, -⟩ := r57
  dsimp only at f57
  subst f57 g57
  obtain ⟨cA37, x37, f37, ⟨y37, g37⟩, t37, -⟩ := r37
  dsimp only at f37
  subst f37 g37
  obtain ⟨cA58, x58, f58, ⟨y58, g58⟩, t58, -⟩ := r58
  dsimp only at f58
  subst f58 g58
  obtain ⟨cA35, x35, f35, ⟨y35, g35⟩, t35, -⟩ := r35
  dsimp only at f35
  subst f35 g35
  obtain ⟨cA18, x18, f18, ⟨y18, g18⟩, t18, -⟩ := r18
  dsimp only at f18
  subst f18 g18
  obtain ⟨cA59, x59, f59, ⟨y59, g59⟩, t59, -⟩ := r59
  dsimp only at f59
  subst f59 g59
  obtain ⟨cA60, x60, f60, ⟨y60, g60⟩, t60, -⟩ := r60
  dsimp only at f60
  subst f60 g60
  obtain ⟨cA41, x41, f41, ⟨y41, g41⟩, t41, -⟩ := r41
  dsimp only at f41
  subst f41 g41
  obtain ⟨cA30, x30, f30, ⟨y30, g30⟩, t30, -⟩ := r30
  dsimp only at f30
  subst f30 g30
  obtain ⟨cA42, x42, f42, ⟨y42, g42⟩, t42, -⟩ := r42
  dsimp only at f42
  subst f42 g42
  obtain ⟨cA43, x43, f43, ⟨y43, g43⟩, t43, -⟩ := r43
  dsimp only at f43
  subst f43 g43
  obtain ⟨cA44, x44, f44, ⟨y44, g44⟩, t44, -⟩ := r44
  dsimp only at f44
  subst f44 g44
  obtain ⟨cA45, x45, f45, ⟨y45, g45⟩, t45, -⟩ := r45
  dsimp only at f45
  subst f45 g45
  obtain ⟨cA46, x46, f46, ⟨y46, g46⟩, t46, -⟩ := r46
  dsimp only at f46
  subst f46 g46
  obtain ⟨cA47, x47, f47, ⟨y47, g47⟩, t47, -⟩ := r47
  dsimp only at f47
  subst f47 g47
  obtain ⟨cA32, x32, f32, ⟨y32, g32⟩, t32, -⟩ := r32
  dsimp only at f32
  subst f32 g32
  obtain ⟨cA48, x48, f48, ⟨y48, g48⟩, t48, -⟩ := r48
  dsimp only at f48
  subst f48 g48
  obtain ⟨cA36, x36, f36, ⟨y36, g36⟩, t36, -⟩ := r36
  dsimp only at f36
  subst f36 g36
  obtain ⟨cA49, x49, f49, ⟨y49, g49⟩, t49, -⟩ := r49
  dsimp only at f49
  subst f49 g49
  obtain ⟨cA34, x34, f34, ⟨y34, g34⟩, t34, -⟩ := r34
  dsimp only at f34
  subst f34 g34
  obtain ⟨vs10, f10, l10, w10⟩ := r10
  dsimp only at f10
  subst f10
  obtain ⟨u10_0, s10_0, rfl, m10_0⟩ := cu_c l10
  obtain ⟨u10_1, s10_1, rfl, m10_1⟩ := cu_c m10_0
  obtain ⟨u10_2, s10_2, rfl, m10_2⟩ := cu_c m10_1
  obtain ⟨u10_3, s10_3, rfl, m10_3⟩ := cu_c m10_2
  obtain ⟨u10_4, s10_4, rfl, m10_4⟩ := cu_c m10_3
  obtain ⟨u10_5, s10_5, rfl, m10_5⟩ := cu_c m10_4
  obtain ⟨u10_6, s10_6, rfl, m10_6⟩ := cu_c m10_5
  obtain ⟨u10_7, s10_7, rfl, m10_7⟩ := cu_c m10_6
  obtain ⟨u10_8, s10_8, rfl, m10_8⟩ := cu_c m10_7
  obtain ⟨u10_9, s10_9, rfl, m10_9⟩ := cu_c m10_8
  obtain ⟨u10_10, s10_10, rfl, m10_10⟩ := cu_c m10_9
  obtain ⟨u10_11, s10_11, rfl, m10_11⟩ := cu_c m10_10
  obtain ⟨u10_12, s10_12, rfl, m10_12⟩ := cu_c m10_11
  obtain ⟨u10_13, s10_13, rfl, m10_13⟩ := cu_c m10_12
  obtain ⟨u10_14, s10_14, rfl, m10_14⟩ := cu_c m10_13
  obtain ⟨u10_15, s10_15, rfl, m10_15⟩ := cu_c m10_14
  obtain ⟨u10_16, s10_16, rfl, m10_16⟩ := cu_c m10_15
  cases cu_n m10_16
  have q10_0 := cu_R (cu_ad hz h3) (w10 0 _ _ rfl rfl)
  subst q10_0
  have q10_1 := cu_R (cu_ad hz h39) (w10 1 _ _ rfl rfl)
  subst q10_1
  have q10_2 : u10_2 = .ref a12 := by
    obtain ⟨ad, e1, e2⟩ := hl
    have e3 := e1.symm.trans (cu_ad hz h12)
    cases e3
    rw [cu_v_of h10] at e2
    exact e2
  subst q10_2
  have q10_3 : u10_3 = .ref a11 := by
    obtain ⟨ad, e1, e2⟩ := hd
    have e3 := e1.symm.trans (cu_ad hz h11)
    cases e3
    rw [cu_v_of h10] at e2
    exact e2
  subst q10_3
  have q10_4 := cu_R (cu_ad hz h13) (w10 4 _ _ rfl rfl)
  subst q10_4
  obtain ⟨i10_5, q10_5⟩ := cu_Rx (w10 5 _ _ rfl rfl)
  subst q10_5
  have q10_6 := cu_R (cu_ad hz h15) (w10 6 _ _ rfl rfl)
  subst q10_6
  have q10_7 : u10_7 = .ref a8 := by
    obtain ⟨ad, e1, e2⟩ := hs
    have e3 := e1.symm.trans (cu_ad hz h8)
    cases e3
    rw [cu_v_of h10] at e2
    exact e2
  subst q10_7
  obtain ⟨i10_8, q10_8⟩ := cu_Rx (w10 8 _ _ rfl rfl)
  subst q10_8
  obtain ⟨i10_9, q10_9⟩ := cu_Rx (w10 9 _ _ rfl rfl)
  subst q10_9
  obtain ⟨i10_10, q10_10⟩ := cu_Rx (w10 10 _ _ rfl rfl)
  subst q10_10
  obtain ⟨i10_11, q10_11⟩ := cu_Rx (w10 11 _ _ rfl rfl)
  subst q10_11
  obtain ⟨i10_12, q10_12⟩ := cu_Rx (w10 12 _ _ rfl rfl)
  subst q10_12
  obtain ⟨i10_13, q10_13⟩ := cu_Rx (w10 13 _ _ rfl rfl)
  subst q10_13
  obtain ⟨i10_14, q10_14⟩ := cu_I (w10 14 _ _ rfl rfl) rfl
  subst q10_14
  obtain ⟨i10_15, q10_15⟩ := cu_Rx (w10 15 _ _ rfl rfl)
  subst q10_15
  obtain ⟨i10_16, q10_16⟩ := cu_I (w10 16 _ _ rfl rfl) rfl
  subst q10_16
  obtain ⟨vs3, f3, l3, w3⟩ := r3
  dsimp only at f3
  subst f3
  obtain ⟨u3_0, s3_0, rfl, m3_0⟩ := cu_c l3
  obtain ⟨u3_1, s3_1, rfl, m3_1⟩ := cu_c m3_0
  obtain ⟨u3_2, s3_2, rfl, m3_2⟩ := cu_c m3_1
  obtain ⟨u3_3, s3_3, rfl, m3_3⟩ := cu_c m3_2
  obtain ⟨u3_4, s3_4, rfl, m3_4⟩ := cu_c m3_3
  obtain ⟨u3_5, s3_5, rfl, m3_5⟩ := cu_c m3_4
  obtain ⟨u3_6, s3_6, rfl, m3_6⟩ := cu_c m3_5
  obtain ⟨u3_7, s3_7, rfl, m3_7⟩ := cu_c m3_6
  obtain ⟨u3_8, s3_8, rfl, m3_8⟩ := cu_c m3_7
  obtain ⟨u3_9, s3_9, rfl, m3_9⟩ := cu_c m3_8
  obtain ⟨u3_10, s3_10, rfl, m3_10⟩ := cu_c m3_9
  obtain ⟨u3_11, s3_11, rfl, m3_11⟩ := cu_c m3_10
  obtain ⟨u3_12, s3_12, rfl, m3_12⟩ := cu_c m3_11
  obtain ⟨u3_13, s3_13, rfl, m3_13⟩ := cu_c m3_12
  obtain ⟨u3_14, s3_14, rfl, m3_14⟩ := cu_c m3_13
  cases cu_n m3_14
  have q3_0 := cu_R (cu_ad hz h17) (w3 0 _ _ rfl rfl)
  subst q3_0
  obtain ⟨i3_1, q3_1⟩ := cu_I (w3 1 _ _ rfl rfl) rfl
  obtain ⟨i3_2, q3_2⟩ := cu_I (w3 2 _ _ rfl rfl) rfl
  subst q3_2
  obtain ⟨i3_3, q3_3⟩ := cu_I (w3 3 _ _ rfl rfl) rfl
  subst q3_3
  obtain ⟨i3_4, q3_4⟩ := cu_I (w3 4 _ _ rfl rfl) rfl
  subst q3_4
  obtain ⟨i3_5, q3_5⟩ := cu_I (w3 5 _ _ rfl rfl) rfl
  subst q3_5
  obtain ⟨i3_6, q3_6⟩ := cu_L (w3 6 _ _ rfl rfl) rfl
  subst q3_6
  obtain ⟨i3_7, q3_7⟩ := cu_I (w3 7 _ _ rfl rfl) rfl
  subst q3_7
  obtain ⟨i3_8, q3_8⟩ := cu_I (w3 8 _ _ rfl rfl) rfl
  subst q3_8
  obtain ⟨i3_9, q3_9⟩ := cu_I (w3 9 _ _ rfl rfl) rfl
  subst q3_9
  obtain ⟨i3_10, q3_10⟩ := cu_L (w3 10 _ _ rfl rfl) rfl
  subst q3_10
  obtain ⟨i3_11, q3_11⟩ := cu_I (w3 11 _ _ rfl rfl) rfl
  subst q3_11
  obtain ⟨i3_12, q3_12⟩ := cu_I (w3 12 _ _ rfl rfl) rfl
  subst q3_12
  obtain ⟨i3_13, q3_13⟩ := cu_I (w3 13 _ _ rfl rfl) rfl
  subst q3_13
  have q3_14 := cu_R (cu_ad hz h38) (w3 14 _ _ rfl rfl)
  subst q3_14
  obtain ⟨vs39, f39, l39, w39⟩ := r39
  dsimp only at f39
  subst f39
  obtain ⟨u39_0, s39_0, rfl, m39_0⟩ := cu_c l39
  cases cu_n m39_0
  have q39_0 := cu_R (cu_ad hz h40) (w39 0 _ _ rfl rfl)
  subst q39_0
  obtain ⟨vs11, f11, l11, w11⟩ := r11
  dsimp only at f11
  subst f11
  obtain ⟨u11_0, s11_0, rfl, m11_0⟩ := cu_c l11
  obtain ⟨u11_1, s11_1, rfl, m11_1⟩ := cu_c m11_0
  obtain ⟨u11_2, s11_2, rfl, m11_2⟩ := cu_c m11_1
  obtain ⟨u11_3, s11_3, rfl, m11_3⟩ := cu_c m11_2
  obtain ⟨u11_4, s11_4, rfl, m11_4⟩ := cu_c m11_3
  obtain ⟨u11_5, s11_5, rfl, m11_5⟩ := cu_c m11_4
  obtain ⟨u11_6, s11_6, rfl, m11_6⟩ := cu_c m11_5
  obtain ⟨u11_7, s11_7, rfl, m11_7⟩ := cu_c m11_6
  obtain ⟨u11_8, s11_8, rfl, m11_8⟩ := cu_c m11_7
  obtain ⟨u11_9, s11_9, rfl, m11_9⟩ := cu_c m11_8
  obtain ⟨u11_10, s11_10, rfl, m11_10⟩ := cu_c m11_9
  obtain ⟨u11_11, s11_11, rfl, m11_11⟩ := cu_c m11_10
  obtain ⟨u11_12, s11_12, rfl, m11_12⟩ := cu_c m11_11
  obtain ⟨u11_13, s11_13, rfl, m11_13⟩ := cu_c m11_12
  obtain ⟨u11_14, s11_14, rfl, m11_14⟩ := cu_c m11_13
  obtain ⟨u11_15, s11_15, rfl, m11_15⟩ := cu_c m11_14
  cases cu_n m11_15
  obtain ⟨i11_0, q11_0⟩ := cu_I (w11 0 _ _ rfl rfl) rfl
  subst q11_0
  have q11_1 := cu_R (cu_ad hz h50) (w11 1 _ _ rfl rfl)
  subst q11_1
  have q11_2 := cu_R (cu_ad hz h31) (w11 2 _ _ rfl rfl)
  subst q11_2
  have q11_3 := cu_R (cu_ad hz h51) (w11 3 _ _ rfl rfl)
  subst q11_3
  obtain ⟨i11_4, q11_4⟩ := cu_I (w11 4 _ _ rfl rfl) rfl
  subst q11_4
  have q11_5 := cu_R (cu_ad hz h52) (w11 5 _ _ rfl rfl)
  subst q11_5
  have q11_6 := cu_R (cu_ad hz h53) (w11 6 _ _ rfl rfl)
  subst q11_6
  have q11_7 := cu_R (cu_ad hz h54) (w11 7 _ _ rfl rfl)
  subst q11_7
  have q11_8 := cu_R (cu_ad hz h55) (w11 8 _ _ rfl rfl)
  subst q11_8
  obtain ⟨i11_9, q11_9⟩ := cu_I (w11 9 _ _ rfl rfl) rfl
  subst q11_9
  have q11_10 := cu_R (cu_ad hz h56) (w11 10 _ _ rfl rfl)
  subst q11_10
  have q11_11 := cu_R (cu_ad hz h33) (w11 11 _ _ rfl rfl)
  subst q11_11
  have q11_12 := cu_R (cu_ad hz h57) (w11 12 _ _ rfl rfl)
  subst q11_12
  have q11_13 := cu_R (cu_ad hz h37) (w11 13 _ _ rfl rfl)
  subst q11_13
  have q11_14 := cu_R (cu_ad hz h58) (w11 14 _ _ rfl rfl)
  subst q11_14
  have q11_15 := cu_R (cu_ad hz h35) (w11 15 _ _ rfl rfl)
  subst q11_15
  obtain ⟨vs13, f13, l13, w13⟩ := r13
  dsimp only at f13
  subst f13
  obtain ⟨u13_0, s13_0, rfl, m13_0⟩ := cu_c l13
  obtain ⟨u13_1, s13_1, rfl, m13_1⟩ := cu_c m13_0
  obtain ⟨u13_2, s13_2, rfl, m13_2⟩ := cu_c m13_1
  obtain ⟨u13_3, s13_3, rfl, m13_3⟩ := cu_c m13_2
  obtain ⟨u13_4, s13_4, rfl, m13_4⟩ := cu_c m13_3
  obtain ⟨u13_5, s13_5, rfl, m13_5⟩ := cu_c m13_4
  obtain ⟨u13_6, s13_6, rfl, m13_6⟩ := cu_c m13_5
  cases cu_n m13_6
  obtain ⟨i13_0, q13_0⟩ := cu_I (w13 0 _ _ rfl rfl) rfl
  subst q13_0
  obtain ⟨i13_1, q13_1⟩ := cu_I (w13 1 _ _ rfl rfl) rfl
  subst q13_1
  obtain ⟨i13_2, q13_2⟩ := cu_I (w13 2 _ _ rfl rfl) rfl
  subst q13_2
  have q13_3 := cu_R (cu_ad hz h18) (w13 3 _ _ rfl rfl)
  subst q13_3
  have q13_4 := cu_R (cu_ad hz h59) (w13 4 _ _ rfl rfl)
  subst q13_4
  have q13_5 := cu_R (cu_ad hz h60) (w13 5 _ _ rfl rfl)
  subst q13_5
  obtain ⟨i13_6, q13_6⟩ := cu_I (w13 6 _ _ rfl rfl) rfl
  subst q13_6
  obtain ⟨vs8, f8, l8, w8⟩ := r8
  dsimp only at f8
  subst f8
  obtain ⟨u8_0, s8_0, rfl, m8_0⟩ := cu_c l8
  obtain ⟨u8_1, s8_1, rfl, m8_1⟩ := cu_c m8_0
  obtain ⟨u8_2, s8_2, rfl, m8_2⟩ := cu_c m8_1
  obtain ⟨u8_3, s8_3, rfl, m8_3⟩ := cu_c m8_2
  obtain ⟨u8_4, s8_4, rfl, m8_4⟩ := cu_c m8_3
  cases cu_n m8_4
  obtain ⟨i8_0, q8_0⟩ := cu_Rx (w8 0 _ _ rfl rfl)
  subst q8_0
  obtain ⟨i8_1, q8_1⟩ := cu_Rx (w8 1 _ _ rfl rfl)
  subst q8_1
  obtain ⟨i8_2, q8_2⟩ := cu_Rx (w8 2 _ _ rfl rfl)
  subst q8_2
  obtain ⟨i8_3, q8_3⟩ := cu_I (w8 3 _ _ rfl rfl) rfl
  subst q8_3
  obtain ⟨i8_4, q8_4⟩ := cu_I (w8 4 _ _ rfl rfl) rfl
  subst q8_4
  obtain ⟨vs15, f15, l15, w15⟩ := r15
  dsimp only at f15
  subst f15
  obtain ⟨u15_0, s15_0, rfl, m15_0⟩ := cu_c l15
  obtain ⟨u15_1, s15_1, rfl, m15_1⟩ := cu_c m15_0
  cases cu_n m15_1
  obtain ⟨i15_0, q15_0⟩ := cu_Rx (w15 0 _ _ rfl rfl)
  subst q15_0
  obtain ⟨i15_1, q15_1⟩ := cu_I (w15 1 _ _ rfl rfl) rfl
  subst q15_1
  obtain ⟨vs12, f12, l12, w12⟩ := r12
  dsimp only at f12
  subst f12
  obtain ⟨u12_0, s12_0, rfl, m12_0⟩ := cu_c l12
  obtain ⟨u12_1, s12_1, rfl, m12_1⟩ := cu_c m12_0
  obtain ⟨u12_2, s12_2, rfl, m12_2⟩ := cu_c m12_1
  obtain ⟨u12_3, s12_3, rfl, m12_3⟩ := cu_c m12_2
  obtain ⟨u12_4, s12_4, rfl, m12_4⟩ := cu_c m12_3
  obtain ⟨u12_5, s12_5, rfl, m12_5⟩ := cu_c m12_4
  obtain ⟨u12_6, s12_6, rfl, m12_6⟩ := cu_c m12_5
  obtain ⟨u12_7, s12_7, rfl, m12_7⟩ := cu_c m12_6
  obtain ⟨u12_8, s12_8, rfl, m12_8⟩ := cu_c m12_7
  obtain ⟨u12_9, s12_9, rfl, m12_9⟩ := cu_c m12_8
  obtain ⟨u12_10, s12_10, rfl, m12_10⟩ := cu_c m12_9
  obtain ⟨u12_11, s12_11, rfl, m12_11⟩ := cu_c m12_10
  obtain ⟨u12_12, s12_12, rfl, m12_12⟩ := cu_c m12_11
  obtain ⟨u12_13, s12_13, rfl, m12_13⟩ := cu_c m12_12
  obtain ⟨u12_14, s12_14, rfl, m12_14⟩ := cu_c m12_13
  obtain ⟨u12_15, s12_15, rfl, m12_15⟩ := cu_c m12_14
  cases cu_n m12_15
  obtain ⟨i12_0, q12_0⟩ := cu_I (w12 0 _ _ rfl rfl) rfl
  subst q12_0
  have q12_1 := cu_R (cu_ad hz h41) (w12 1 _ _ rfl rfl)
  subst q12_1
  have q12_2 := cu_R (cu_ad hz h30) (w12 2 _ _ rfl rfl)
  subst q12_2
  have q12_3 := cu_R (cu_ad hz h42) (w12 3 _ _ rfl rfl)
  subst q12_3
  obtain ⟨i12_4, q12_4⟩ := cu_I (w12 4 _ _ rfl rfl) rfl
  subst q12_4
  have q12_5 := cu_R (cu_ad hz h43) (w12 5 _ _ rfl rfl)
  subst q12_5
  have q12_6 := cu_R (cu_ad hz h44) (w12 6 _ _ rfl rfl)
  subst q12_6
  have q12_7 := cu_R (cu_ad hz h45) (w12 7 _ _ rfl rfl)
  subst q12_7
  have q12_8 := cu_R (cu_ad hz h46) (w12 8 _ _ rfl rfl)
  subst q12_8
  obtain ⟨i12_9, q12_9⟩ := cu_I (w12 9 _ _ rfl rfl) rfl
  subst q12_9
  have q12_10 := cu_R (cu_ad hz h47) (w12 10 _ _ rfl rfl)
  subst q12_10
  have q12_11 := cu_R (cu_ad hz h32) (w12 11 _ _ rfl rfl)
  subst q12_11
  have q12_12 := cu_R (cu_ad hz h48) (w12 12 _ _ rfl rfl)
  subst q12_12
  have q12_13 := cu_R (cu_ad hz h36) (w12 13 _ _ rfl rfl)
  subst q12_13
  have q12_14 := cu_R (cu_ad hz h49) (w12 14 _ _ rfl rfl)
  subst q12_14
  have q12_15 := cu_R (cu_ad hz h34) (w12 15 _ _ rfl rfl)
  subst q12_15
  have z3 := w3 1 _ _ rfl rfl
  subst q3_1
  refine ⟨((fun j => bif Nat.beq j 0 then i3_1 else bif Nat.beq j 1 then i3_2 else bif Nat.beq j 2 then i3_3 else bif Nat.beq j 3 then i3_4 else bif Nat.beq j 4 then i3_5 else bif Nat.beq j 5 then i3_7 else bif Nat.beq j 6 then i3_8 else bif Nat.beq j 7 then i3_9 else bif Nat.beq j 8 then i3_11 else bif Nat.beq j 9 then i3_12 else bif Nat.beq j 10 then i3_13 else bif Nat.beq j 11 then i11_0 else bif Nat.beq j 12 then i11_4 else bif Nat.beq j 13 then i11_9 else bif Nat.beq j 14 then i10_14 else bif Nat.beq j 15 then i10_16 else bif Nat.beq j 16 then i13_0 else bif Nat.beq j 17 then i13_1 else bif Nat.beq j 18 then i13_2 else bif Nat.beq j 19 then i13_6 else bif Nat.beq j 20 then i8_3 else bif Nat.beq j 21 then i8_4 else bif Nat.beq j 22 then i15_1 else (0 : Int32)), (fun j => bif Nat.beq j 0 then i3_6 else bif Nat.beq j 1 then i3_10 else (0 : Int64)), (fun j => bif Nat.beq j 0 then y17 else bif Nat.beq j 1 then y31 else bif Nat.beq j 2 then y51 else bif Nat.beq j 3 then y52 else bif Nat.beq j 4 then y53 else bif Nat.beq j 5 then y54 else bif Nat.beq j 6 then y55 else bif Nat.beq j 7 then y33 else bif Nat.beq j 8 then y57 else bif Nat.beq j 9 then y37 else bif Nat.beq j 10 then y58 else bif Nat.beq j 11 then y35 else bif Nat.beq j 12 then y40 else bif Nat.beq j 13 then y18 else bif Nat.beq j 14 then y59 else bif Nat.beq j 15 then y60 else (fun _ => (0 : Int32))), (fun j => bif Nat.beq j 0 then y38 else bif Nat.beq j 1 then y50 else bif Nat.beq j 2 then y56 else (fun _ => (0 : Int64)))), ([a10, a3, a17, a38, a39, a40, a11, a50, a31, a51, a52, a53, a54, a55, a56, a33, a57, a37, a58, a35, a13, a18, a59, a60, a8, a15, a12, a41, a30, a42, a43, a44, a45, a46, a47, a32, a48, a36, a49, a34], (fun j => bif Nat.beq j 1 then i10_5 else bif Nat.beq j 2 then i10_8 else bif Nat.beq j 3 then i10_9 else bif Nat.beq j 4 then i10_10 else bif Nat.beq j 5 then i10_11 else bif Nat.beq j 6 then i10_12 else bif Nat.beq j 7 then i10_13 else bif Nat.beq j 8 then i10_15 else bif Nat.beq j 9 then i8_0 else bif Nat.beq j 10 then i8_1 else bif Nat.beq j 11 then i8_2 else bif Nat.beq j 12 then i15_0 else 0)), [(a10, .inr (10, [.ref a3, .ref a39, .ref a12, .ref a11, .ref a13, .ref i10_5, .ref a15, .ref a8, .ref i10_8, .ref i10_9, .ref i10_10, .ref i10_11, .ref i10_12, .ref i10_13, .int i10_14, .ref i10_15, .int i10_16])),
      (a3, .inr (4, [.ref a17, .int i3_1, .int i3_2, .int i3_3, .int i3_4, .int i3_5, .long i3_6, .int i3_7, .int i3_8, .int i3_9, .long i3_10, .int i3_11, .int i3_12, .int i3_13, .ref a38])),
      (a17, .inl (cA17, 940, .inl y17)),
      (a38, .inl (cA38, 22, .inr (.inl y38))),
      (a39, .inr (9, [.ref a40])),
      (a40, .inl (cA40, 3, .inl y40)),
      (a11, .inr (8, [.int i11_0, .ref a50, .ref a31, .ref a51, .int i11_4, .ref a52, .ref a53, .ref a54, .ref a55, .int i11_9, .ref a56, .ref a33, .ref a57, .ref a37, .ref a58, .ref a35])),
      (a50, .inl (cA50, 7, .inr (.inl y50))),
      (a31, .inl (cA31, 7, .inl y31)),
      (a51, .inl (cA51, 7, .inl y51)),
      (a52, .inl (cA52, 12, .inl y52)),
      (a53, .inl (cA53, 12, .inl y53)),
      (a54, .inl (cA54, 12, .inl y54)),
      (a55, .inl (cA55, 12, .inl y55)),
      (a56, .inl (cA56, 8, .inr (.inl y56))),
      (a33, .inl (cA33, 8, .inl y33)),
      (a57, .inl (cA57, 8, .inl y57)),
      (a37, .inl (cA37, 8, .inl y37)),
      (a58, .inl (cA58, 8, .inl y58)),
      (a35, .inl (cA35, 3, .inl y35)),
      (a13, .inr (7, [.int i13_0, .int i13_1, .int i13_2, .ref a18, .ref a59, .ref a60, .int i13_6])),
      (a18, .inl (cA18, 7, .inl y18)),
      (a59, .inl (cA59, 7, .inl y59)),
      (a60, .inl (cA60, 7, .inl y60)),
      (a8, .inr (6, [.ref i8_0, .ref i8_1, .ref i8_2, .int i8_3, .int i8_4])),
      (a15, .inr (1, [.ref i15_0, .int i15_1])),
      (a12, .inr (8, [.int i12_0, .ref a41, .ref a30, .ref a42, .int i12_4, .ref a43, .ref a44, .ref a45, .ref a46, .int i12_9, .ref a47, .ref a32, .ref a48, .ref a36, .ref a49, .ref a34])),
      (a41, .inl (cA41, 7, .inr (.inl y41))),
      (a30, .inl (cA30, 7, .inl y30)),
      (a42, .inl (cA42, 7, .inl y42)),
      (a43, .inl (cA43, 12, .inl y43)),
      (a44, .inl (cA44, 12, .inl y44)),
      (a45, .inl (cA45, 12, .inl y45)),
      (a46, .inl (cA46, 12, .inl y46)),
      (a47, .inl (cA47, 8, .inr (.inl y47))),
      (a32, .inl (cA32, 8, .inl y32)),
      (a48, .inl (cA48, 8, .inl y48)),
      (a36, .inl (cA36, 8, .inl y36)),
      (a49, .inl (cA49, 8, .inl y49)),
      (a34, .inl (cA34, 3, .inl y34))], i12_0, i12_4, i12_9, y41, y47, y30, y42, y43, y44, y45, y46, y32, y48, y36, y49, y34, ?_, ?_, cu_ev1 z3⟩
  · refine ⟨rfl, ⟨rfl, Nat.le_of_ble_eq_true rfl⟩, fun k c hk => ?_⟩
    match k, hk with
    | 0, hk => cases hk; exact ⟨_, rfl, rfl⟩
    | 1, hk => cases hk; exact ⟨_, rfl, rfl⟩
    | 2, hk => cases hk; exact ⟨_, rfl, Nat.le_of_ble_eq_true rfl, Nat.le_of_ble_eq_true rfl, ⟨_, rfl⟩, _, rfl, t17⟩
    | 3, hk => cases hk; exact ⟨_, rfl, Nat.le_of_ble_eq_true rfl, Nat.le_of_ble_eq_true rfl, ⟨_, rfl⟩, _, rfl, t38⟩
    | 4, hk => cases hk; exact ⟨_, rfl, rfl⟩
    | 5, hk => cases hk; exact ⟨_, rfl, Nat.le_of_ble_eq_true rfl, Nat.le_of_ble_eq_true rfl, ⟨_, rfl⟩, _, rfl, t40⟩
    | 6, hk => cases hk; exact ⟨_, rfl, rfl⟩
    | 7, hk => cases hk; exact ⟨_, rfl, Nat.le_of_ble_eq_true rfl, Nat.le_of_ble_eq_true rfl, ⟨_, rfl⟩, _, rfl, t50⟩
    | 8, hk => cases hk; exact ⟨_, rfl, Nat.le_of_ble_eq_true rfl, Nat.le_of_ble_eq_true rfl, ⟨_, rfl⟩, _, rfl, t31⟩
    | 9, hk => cases hk; exact ⟨_, rfl, Nat.le_of_ble_eq_true rfl, Nat.le_of_ble_eq_true rfl, ⟨_, rfl⟩, _, rfl, t51⟩
    | 10, hk => cases hk; exact ⟨_, rfl, Nat.le_of_ble_eq_true rfl, Nat.le_of_ble_eq_true rfl, ⟨_, rfl⟩, _, rfl, t52⟩
    | 11, hk => cases hk; exact ⟨_, rfl, Nat.le_of_ble_eq_true rfl, Nat.le_of_ble_eq_true rfl, ⟨_, rfl⟩, _, rfl, t53⟩
    | 12, hk => cases hk; exact ⟨_, rfl, Nat.le_of_ble_eq_true rfl, Nat.le_of_ble_eq_true rfl, ⟨_, rfl⟩, _, rfl, t54⟩
    | 13, hk => cases hk; exact ⟨_, rfl, Nat.le_of_ble_eq_true rfl, Nat.le_of_ble_eq_true rfl, ⟨_, rfl⟩, _, rfl, t55⟩
    | 14, hk => cases hk; exact ⟨_, rfl, Nat.le_of_ble_eq_true rfl, Nat.le_of_ble_eq_true rfl, ⟨_, rfl⟩, _, rfl, t56⟩
    | 15, hk => cases hk; exact ⟨_, rfl, Nat.le_of_ble_eq_true rfl, Nat.le_of_ble_eq_true rfl, ⟨_, rfl⟩, _, rfl, t33⟩
    | 16, hk => cases hk; exact ⟨_, rfl, Nat.le_of_ble_eq_true rfl, Nat.le_of_ble_eq_true rfl, ⟨_, rfl⟩, _, rfl, t57⟩
    | 17, hk => cases hk; exact ⟨_, rfl, Nat.le_of_ble_eq_true rfl, Nat.le_of_ble_eq_true rfl, ⟨_, rfl⟩, _, rfl, t37⟩
    | 18, hk => cases hk; exact ⟨_, rfl, Nat.le_of_ble_eq_true rfl, Nat.le_of_ble_eq_true rfl, ⟨_, rfl⟩, _, rfl, t58⟩
    | 19, hk => cases hk; exact ⟨_, rfl, Nat.le_of_ble_eq_true rfl, Nat.le_of_ble_eq_true rfl, ⟨_, rfl⟩, _, rfl, t35⟩
    | 20, hk => cases hk; exact ⟨_, rfl, rfl⟩
    | 21, hk => cases hk; exact ⟨_, rfl, Nat.le_of_ble_eq_true rfl, Nat.le_of_ble_eq_true rfl, ⟨_, rfl⟩, _, rfl, t18⟩
    | 22, hk => cases hk; exact ⟨_, rfl, Nat.le_of_ble_eq_true rfl, Nat.le_of_ble_eq_true rfl, ⟨_, rfl⟩, _, rfl, t59⟩
    | 23, hk => cases hk; exact ⟨_, rfl, Nat.le_of_ble_eq_true rfl, Nat.le_of_ble_eq_true rfl, ⟨_, rfl⟩, _, rfl, t60⟩
    | 24, hk => cases hk; exact ⟨_, rfl, rfl⟩
    | 25, hk => cases hk; exact ⟨_, rfl, rfl⟩
    | 26, hk => cases hk; exact ⟨_, rfl, rfl⟩
    | 27, hk => cases hk; exact ⟨_, rfl, Nat.le_of_ble_eq_true rfl, Nat.le_of_ble_eq_true rfl, ⟨_, rfl⟩, _, rfl, t41⟩
    | 28, hk => cases hk; exact ⟨_, rfl, Nat.le_of_ble_eq_true rfl, Nat.le_of_ble_eq_true rfl, ⟨_, rfl⟩, _, rfl, t30⟩
    | 29, hk => cases hk; exact ⟨_, rfl, Nat.le_of_ble_eq_true rfl, Nat.le_of_ble_eq_true rfl, ⟨_, rfl⟩, _, rfl, t42⟩
    | 30, hk => cases hk; exact ⟨_, rfl, Nat.le_of_ble_eq_true rfl, Nat.le_of_ble_eq_true rfl, ⟨_, rfl⟩, _, rfl, t43⟩
    | 31, hk => cases hk; exact ⟨_, rfl, Nat.le_of_ble_eq_true rfl, Nat.le_of_ble_eq_true rfl, ⟨_, rfl⟩, _, rfl, t44⟩
    | 32, hk => cases hk; exact ⟨_, rfl, Nat.le_of_ble_eq_true rfl, Nat.le_of_ble_eq_true rfl, ⟨_, rfl⟩, _, rfl, t45⟩
    | 33, hk => cases hk; exact ⟨_, rfl, Nat.le_of_ble_eq_true rfl, Nat.le_of_ble_eq_true rfl, ⟨_, rfl⟩, _, rfl, t46⟩
    | 34, hk => cases hk; exact ⟨_, rfl, Nat.le_of_ble_eq_true rfl, Nat.le_of_ble_eq_true rfl, ⟨_, rfl⟩, _, rfl, t47⟩
    | 35, hk => cases hk; exact ⟨_, rfl, Nat.le_of_ble_eq_true rfl, Nat.le_of_ble_eq_true rfl, ⟨_, rfl⟩, _, rfl, t32⟩
    | 36, hk => cases hk; exact ⟨_, rfl, Nat.le_of_ble_eq_true rfl, Nat.le_of_ble_eq_true rfl, ⟨_, rfl⟩, _, rfl, t48⟩
    | 37, hk => cases hk; exact ⟨_, rfl, Nat.le_of_ble_eq_true rfl, Nat.le_of_ble_eq_true rfl, ⟨_, rfl⟩, _, rfl, t36⟩
    | 38, hk => cases hk; exact ⟨_, rfl, Nat.le_of_ble_eq_true rfl, Nat.le_of_ble_eq_true rfl, ⟨_, rfl⟩, _, rfl, t49⟩
    | 39, hk => cases hk; exact ⟨_, rfl, Nat.le_of_ble_eq_true rfl, Nat.le_of_ble_eq_true rfl, ⟨_, rfl⟩, _, rfl, t34⟩
    | k + 40, hk => cases hk
  · simp only [List.map_cons, List.map_nil, h10, h3, h17, h38, h39, h40, h11, h50, h31, h51, h52, h53, h54, h55, h56, h33, h57, h37, h58, h35, h13, h18, h59, h60, h8, h15, h12, h41, h30, h42, h43, h44, h45, h46, h47, h32, h48, h36, h49, h34]
set_option maxRecDepth 100000 in
set_option maxHeartbeats 4000000 in
theorem cu_I_12_9 {X : ab_X} {z : ab_Z} {s : State} {ws : va_W} (hc : ∀ (k : Nat) (c : ab_C), k ∈ cu_KI → gl_L[k]? = some c → ∃ q, ws[k]? = some q ∧ ab_cR X z s c q.2) (hz : ws.map Prod.fst = z.2.2) (hl : ∃ ad, z.2.2[12]? = some ad ∧ cu_v ws 10 2 = .ref ad) (hs : ∃ ad, z.2.2[9]? = some ad ∧ cu_v ws 10 7 = .ref ad) : ∃ (g9 : Nat → Option Nat) (σ : ex_S) (A : ex_A) (we : va_W), ex_wR X A s (WI g9 σ) we ∧ ([10, 102, 12, 41, 30, 42, 43, 44, 45, 46, 47, 32, 48, 36, 49, 34, 103, 125, 29, 104, 105, 106, 107, 108, 109, 110, 111, 112, 113, 114, 115, 116, 28, 126, 127, 128, 129, 130, 131, 132, 133, 134, 135, 136, 137, 138, 13, 18, 59, 60, 117, 118, 119, 120, 139, 140, 141, 142, 9, 23, 27, 25, 121, 122, 123, 124, 143, 144, 145, 146, 15, 3] : List Nat).map (fun k => ws[k]?) = we.map some ∧ z.1[1]? = some (σ.1 3001) ∧ (g9 0 = some (A.1.getD 16 0) ∧ g9 1 = some (A.1.getD 17 0)) := by
  obtain ⟨⟨a10, e10⟩, h10, r10⟩ := hc 10 _ (by decide) rfl
  obtain ⟨⟨a102, e102⟩, h102, r102⟩ := hc 102 _ (by decide) rfl
  obtain ⟨⟨a12, e12⟩, h12, r12⟩ := hc 12 _ (by decide) rfl
  obtain ⟨⟨a41, e41⟩, h41, r41⟩ := hc 41 _ (by decide) rfl
  obtain ⟨⟨a30, e30⟩, h30, r30⟩ := hc 30 _ (by decide) rfl
  obtain ⟨⟨a42, e42⟩, h42, r42⟩ := hc 42 _ (by decide) rfl
  obtain ⟨⟨a43, e43⟩, h43, r43⟩ := hc 43 _ (by decide) rfl
  obtain ⟨⟨a44, e44⟩, h44, r44⟩ := hc 44 _ (by decide) rfl
  obtain ⟨⟨a45, e45⟩, h45, r45⟩ := hc 45 _ (by decide) rfl
  obtain ⟨⟨a46, e46⟩, h46, r46⟩ := hc 46 _ (by decide) rfl
  obtain ⟨⟨a47, e47⟩, h47, r47⟩ := hc 47 _ (by decide) rfl
  obtain ⟨⟨a32, e32⟩, h32, r32⟩ := hc 32 _ (by decide) rfl
  obtain ⟨⟨a48, e48⟩, h48, r48⟩ := hc 48 _ (by decide) rfl
  obtain ⟨⟨a36, e36⟩, h36, r36⟩ := hc 36 _ (by decide) rfl
  obtain ⟨⟨a49, e49⟩, h49, r49⟩ := hc 49 _ (by decide) rfl
  obtain ⟨⟨a34, e34⟩, h34, r34⟩ := hc 34 _ (by decide) rfl
  obtain ⟨⟨a103, e103⟩, h103, r103⟩ := hc 103 _ (by decide) rfl
  obtain ⟨⟨a125, e125⟩, h125, r125⟩ := hc 125 _ (by decide) rfl
  obtain ⟨⟨a29, e29⟩, h29, r29⟩ := hc 29 _ (by decide) rfl
  obtain ⟨⟨a104, e104⟩, h104, r104⟩ := hc 104 _ (by decide) rfl
  obtain ⟨⟨a105, e105⟩, h105, r105⟩ := hc 105 _ (by decide) rfl
  obtain ⟨⟨a106, e106⟩, h106, r106⟩ := hc 106 _ (by decide) rfl
  obtain ⟨⟨a107, e107⟩, h107, r107⟩ := hc 107 _ (by decide) rfl
  obtain ⟨⟨a108, e108⟩, h108, r108⟩ := hc 108 _ (by decide) rfl
  obtain ⟨⟨a109, e109⟩, h109, r109⟩ := hc 109 _ (by decide) rfl
  obtain ⟨⟨a110, e110⟩, h110, r110⟩ := hc 110 _ (by decide) rfl
  obtain ⟨⟨a111, e111⟩, h111, r111⟩ := hc 111 _ (by decide) rfl
  obtain ⟨⟨a112, e112⟩, h112, r112⟩ := hc 112 _ (by decide) rfl
  obtain ⟨⟨a113, e113⟩, h113, r113⟩ := hc 113 _ (by decide) rfl
  obtain ⟨⟨a114, e114⟩, h114, r114⟩ := hc 114 _ (by decide) rfl
  obtain ⟨⟨a115, e115⟩, h115, r115⟩ := hc 115 _ (by decide) rfl
  obtain ⟨⟨a116, e116⟩, h116, r116⟩ := hc 116 _ (by decide) rfl
  obtain ⟨⟨a28, e28⟩, h28, r28⟩ := hc 28 _ (by decide) rfl
  obtain ⟨⟨a126, e126⟩, h126, r126⟩ := hc 126 _ (by decide) rfl
  obtain ⟨⟨a127, e127⟩, h127, r127⟩ := hc 127 _ (by decide) rfl
  obtain ⟨⟨a128, e128⟩, h128, r128⟩ := hc 128 _ (by decide) rfl
  obtain ⟨⟨a129, e129⟩, h129, r129⟩ := hc 129 _ (by decide) rfl
  obtain ⟨⟨a130, e130⟩, h130, r130⟩ := hc 130 _ (by decide) rfl
  obtain ⟨⟨a131, e131⟩, h131, r131⟩ := hc 131 _ (by decide) rfl
  obtain ⟨⟨a132, e132⟩, h132, r132⟩ := hc 132 _ (by decide) rfl
  obtain ⟨⟨a133, e133⟩, h133, r133⟩ := hc 133 _ (by decide) rfl
  obtain ⟨⟨a134, e134⟩, h134, r134⟩ := hc 134 _ (by decide) rfl
  obtain ⟨⟨a135, e135⟩, h135, r135⟩ := hc 135 _ (by decide) rfl
  obtain ⟨⟨a136, e136⟩, h136, r136⟩ := hc 136 _ (by decide) rfl
  obtain ⟨⟨a137, e137⟩, h137, r137⟩ := hc 137 _ (by decide) rfl
  obtain ⟨⟨a138, e138⟩, h138, r138⟩ := hc 138 _ (by decide) rfl
  obtain ⟨⟨a13, e13⟩, h13, r13⟩ := hc 13 _ (by decide) rfl
  obtain ⟨⟨a18, e18⟩, h18, r18⟩ := hc 18 _ (by decide) rfl
  obtain ⟨⟨a59, e59⟩, h59, r59⟩ := hc 59 _ (by decide) rfl
  obtain ⟨⟨a60, e60⟩, h60, r60⟩ := hc 60 _ (by decide) rfl
  obtain ⟨⟨a117, e117⟩, h117, r117⟩ := hc 117 _ (by decide) rfl
  obtain ⟨⟨a118, e118⟩, h118, r118⟩ := hc 118 _ (by decide) rfl
  obtain ⟨⟨a119, e119⟩, h119, r119⟩ := hc 119 _ (by decide) rfl
  obtain ⟨⟨a120, e120⟩, h120, r120⟩ := hc 120 _ (by decide) rfl
  obtain ⟨⟨a139, e139⟩, h139, r139⟩ := hc 139 _ (by decide) rfl
  obtain ⟨⟨a140, e140⟩, h140, r140⟩ := hc 140 _ (by decide) rfl
  obtain ⟨⟨a141, e141⟩, h141, r141⟩ := hc 141 _ (by decide) rfl
  obtain ⟨⟨a142, e142⟩, h142, r142⟩ := hc 142 _ (by decide) rfl
  obtain ⟨⟨a9, e9⟩, h9, r9⟩ := hc 9 _ (by decide) rfl
  obtain ⟨⟨a23, e23⟩, h23, r23⟩ := hc 23 _ (by decide) rfl
  obtain ⟨⟨a27, e27⟩, h27, r27⟩ := hc 27 _ (by decide) rfl
  obtain ⟨⟨a25, e25⟩, h25, r25⟩ := hc 25 _ (by decide) rfl
  obtain ⟨⟨a121, e121⟩, h121, r121⟩ := hc 121 _ (by decide) rfl
  obtain ⟨⟨a122, e122⟩, h122, r122⟩ := hc 122 _ (by decide) rfl
  obtain ⟨⟨a123, e123⟩, h123, r123⟩ := hc 123 _ (by decide) rfl
  obtain ⟨⟨a124, e124⟩, h124, r124⟩ := hc 124 _ (by decide) rfl
  obtain ⟨⟨a143, e143⟩, h143, r143⟩ := hc 143 _ (by decide) rfl
  obtain ⟨⟨a144, e144⟩, h144, r144⟩ := hc 144 _ (by decide) rfl
  obtain ⟨⟨a145, e145⟩, h145, r145⟩ := hc 145 _ (by decide) rfl
  obtain ⟨⟨a146, e146⟩, h146, r146⟩ := hc 146 _ (by decide) rfl
  obtain ⟨⟨a15, e15⟩, h15, r15⟩ := hc 15 _ (by decide) rfl
  obtain ⟨⟨a3, e3⟩, h3, r3⟩ := hc 3 _ (by decide) rfl
  obtain ⟨cA102, x102, f102, ⟨y102, g102⟩, t102, o102⟩ := r102
  dsimp only at f102
  subst f102 g102
  obtain ⟨cA41, x41, f41, ⟨y41, g41⟩, t41, -⟩ := r41
  dsimp only at f41
  subst f41 g41
  obtain ⟨cA30, x30, f30, ⟨y30, g30⟩, t30, -⟩ := r30
  dsimp only at f30
  subst f30 g30
  obtain ⟨cA42, x42, f42, ⟨y42, g42⟩, t42, -⟩ := r42
  dsimp only at f42
  subst f42 g42
  obtain ⟨cA43, x43, f43, ⟨y43, g43⟩, t43, -⟩ := r43
  dsimp only at f43
  subst f43 g43
  obtain ⟨cA44, x44, f44, ⟨y44, g44⟩, t44, -⟩ := r44
  dsimp only at f44
  subst f44 g44
  obtain ⟨cA45, x45, f45, ⟨y45, g45⟩, t45, -⟩ := r45
  dsimp only at f45
  subst f45 g45
  obtain ⟨cA46, x46, f46, ⟨y46, g46⟩, t46, -⟩ := r46
  dsimp only at f46
  subst f46 g46
  obtain ⟨cA47, x47, f47, ⟨y47, g47⟩, t47, -⟩ := r47
  dsimp only at f47
  subst f47 g47
  obtain ⟨cA32, x32, f32, ⟨y32, g32⟩, t32, -⟩ := r32
  dsimp only at f32
  subst f32 g32
  obtain ⟨cA48, x48, f48, ⟨y48, g48⟩, t48, -⟩ := r48
  dsimp only at f48
  subst f48 g48
  obtain ⟨cA36, x36, f36, ⟨y36, g36⟩, t36, -⟩ := r36
  dsimp only at f36
  subst f36 g36
  obtain ⟨cA49, x49, f49, ⟨y49, g49⟩, t49, -⟩ := r49
  dsimp only at f49
  subst f49 g49
  obtain ⟨cA34, x34, f34, ⟨y34, g34⟩, t34, -⟩ := r34
  dsimp only at f34
  subst f34 g34
  obtain ⟨cA104, x104, f104, ⟨y104, g104⟩, t104, -⟩ := r104
  dsimp only at f104
  subst f104 g104
  obtain ⟨cA105, x105, f105, ⟨y105, g105⟩, t105, -⟩ := r105
  dsimp only at f105
  subst f105 g105
  obtain ⟨cA106, x106, f106, ⟨y106, g106⟩, t106, -⟩ := r106
  dsimp only at f106
  subst f106 g106
  obtain ⟨cA107, x107, f107, ⟨y107, g107⟩, t107, -⟩ := r107
  dsimp only at f107
  subst f107 g107
  obtain ⟨cA108, x108, f108, ⟨y108, g108⟩, t108, -⟩ := r108
  dsimp only at f108
  subst f108 g108
  obtain ⟨cA109, x109, f109, ⟨y109, g109⟩, t109, -⟩ := r109
  dsimp only at f109
  subst f109 g109
  obtain ⟨cA110, x110, f110, ⟨y110, g110⟩, t110, -⟩ := r110
  dsimp only at f110
  subst f110 g110
  obtain ⟨cA111, x111, f111, ⟨y111, g111⟩, t111, -⟩ := r111
  dsimp only at f111
  subst f111 g111
  obtain ⟨cA112, x112, f112, ⟨y112, g112⟩, t112, -⟩ := r112
  dsimp only at f112
  subst f112 g112
  obtain ⟨cA113, x113, f113, ⟨y113, g113⟩, t113, -⟩ := r113
  dsimp only at f113
  subst f113 g113
  obtain ⟨cA114, x114, f114, ⟨y114, g114⟩, t114, -⟩ := r114
  dsimp only at f114
  subst f114 g114
  obtain ⟨cA115, x115, f115, ⟨y115, g115⟩, t115, -⟩ := r115
  dsimp only at f115
  subst f115 g115
  obtain ⟨cA116, x116, f116, ⟨y116, g116⟩, t116, -⟩ := r116
  dsimp only at f116
  subst f116 g116
  obtain ⟨cA126, x126, f126, ⟨y126, g126⟩, t126, -⟩ := r126
  dsimp only at f126
  subst f126 g126
  obtain ⟨cA127, x127, f127, ⟨y127, g127⟩, t127, -⟩ := r127
  dsimp only at f127
  subst f127 g127
  obtain ⟨cA128, x128, f128, ⟨y128, g128⟩, t128, -⟩ := r128
  dsimp only at f128
  subst f128 g128
  obtain ⟨cA129, x129, f129, ⟨y129, g129⟩, t129, -⟩ := r129
  dsimp only at f129
  subst f129 g129
  obtain ⟨cA130, x130, f130, ⟨y130, g130⟩, t130, -⟩ := r130
  dsimp only at f130
  subst f130 g130
  obtain ⟨cA131, x131, f131, ⟨y131, g131⟩, t131, -⟩ := r131
  dsimp only at f131
  subst f131 g131
  obtain ⟨cA132, x132, f132, ⟨y132, g132⟩, t132, -⟩ := r132
  dsimp only at f132
  subst f132 g132
  obtain ⟨cA133, x133, f133, ⟨y133, g133⟩, t133, -⟩ := r133
  dsimp only at f133
  subst f133 g133
  obtain ⟨cA134, x134, f134, ⟨y134, g134⟩, t134, -⟩ := r134
  dsimp only at f134
  subst f134 g134
  obtain ⟨cA135, x135, f135, ⟨y135, g135⟩, t135, -⟩ := r135
  dsimp only at f135
  subst f135 g135
  obtain ⟨cA136, x136, f136, ⟨y136, g136⟩, t136, -⟩ := r136
  dsimp only at f136
  subst f136 g136
  obtain ⟨cA137, x137, f137, ⟨y137, g137⟩, t137, -⟩ := r137
  dsimp only at f137
  subst f137 g137
  obtain ⟨cA138, x138, f138, ⟨y138, g138⟩, t138, -⟩ := r138
  dsimp only at f138
  subst f138 g138
  obtain ⟨cA18, x18, f18, ⟨y18, g18⟩, t18, -⟩ := r18
  dsimp only at f18
  subst f18 g18
  obtain ⟨cA59, x59, f59, ⟨y59, g59⟩, t59, -⟩ := r59
  dsimp only at f59
  subst f59 g59
  obtain ⟨cA60, x60, f60, ⟨y60, g60⟩, t60, -⟩ := r60
  dsimp only at f60
  subst f60 g60
  obtain ⟨cA118, x118, f118, ⟨y118, g118⟩, t118, -⟩ := r118
  dsimp only at f118
  subst f118 g118
  obtain ⟨cA119, x119, f119, ⟨y119, g119⟩, t119, -⟩ := r119
  dsimp only at f119
  subst f119 g119
  obtain ⟨cA120, x120, f120, ⟨y120, g120⟩, t120, -⟩ := r120
  dsimp only at f120
  subst f120 g120
  obtain ⟨cA140, x140, f140, ⟨y140, g140⟩, t140, -⟩ := r140
  dsimp only at f140
  subst f140 g140
  obtain ⟨cA141, x141, f141, ⟨y141, g141⟩, t141, -⟩ := r141
  dsimp only at f141
  subst f141 g141
  obtain ⟨cA142, x142, f142, ⟨y142, g142⟩, t142, -⟩ := r142
  dsimp only at f142
  subst f142 g142
  obtain ⟨cA23, x23, f23, ⟨y23, g23⟩, t23, -⟩ := r23
  dsimp only at f23
  subst f23 g23
  obtain ⟨cA27, x27, f27, ⟨y27, g27⟩, t27, -⟩ := r27
  dsimp only at f27
  subst f27 g27
  obtain ⟨cA25, x25, f25, ⟨y25, g25⟩, t25, -⟩ := r25
  dsimp only at f25
  subst f25 g25
  obtain ⟨cA122, x122, f122, ⟨y122, g122⟩, t122, -⟩ := r122
  dsimp only at f122
  subst f122 g122
  obtain ⟨cA123, x123, f123, ⟨y123, g123⟩, t123, -⟩ := r123
  dsimp only at f123
  subst f123 g123
  obtain ⟨cA124, x124, f124, ⟨y124, g124⟩, t124, -⟩ := r124
  dsimp only at f124
  subst f124 g124
  obtain ⟨cA144, x144, f144, ⟨y144, g144⟩, t144, -⟩ := r144
  dsimp only at f144
  subst f144 g144
  obtain ⟨cA145, x145, f145, ⟨y145, g145⟩, t145, -⟩ := r145
  dsimp only at f145
  subst f145 g145
  obtain ⟨cA146, x146, f146, ⟨y146, g146⟩, t146, -⟩ := r146
  dsimp only at f146
  subst f146 g146
  obtain ⟨vs10, f10, l10, w10⟩ := r10
  dsimp only at f10
  subst f10
  obtain ⟨u10_0, s10_0, rfl, m10_0⟩ := cu_c l10
  obtain ⟨u10_1, s10_1, rfl, m10_1⟩ := cu_c m10_0
  obtain ⟨u10_2, s10_2, rfl, m10_2⟩ := cu_c m10_1
  obtain ⟨u10_3, s10_3, rfl, m10_3⟩ := cu_c m10_2
  obtain ⟨u10_4, s10_4, rfl, m10_4⟩ := cu_c m10_3
  obtain ⟨u10_5, s10_5, rfl, m10_5⟩ := cu_c m10_4
  obtain ⟨u10_6, s10_6, rfl, m10_6⟩ := cu_c m10_5
  obtain ⟨u10_7, s10_7, rfl, m10_7⟩ := cu_c m10_6
  obtain ⟨u10_8, s10_8, rfl, m10_8⟩ := cu_c m10_7
  obtain ⟨u10_9, s10_9, rfl, m10_9⟩ := cu_c m10_8
  obtain ⟨u10_10, s10_10, rfl, m10_10⟩ := cu_c m10_9
  obtain ⟨u10_11, s10_11, rfl, m10_11⟩ := cu_c m10_10
  obtain ⟨u10_12, s10_12, rfl, m10_12⟩ := cu_c m10_11
  obtain ⟨u10_13, s10_13, rfl, m10_13⟩ := cu_c m10_12
  obtain ⟨u10_14, s10_14, rfl, m10_14⟩ := cu_c m10_13
  obtain ⟨u10_15, s10_15, rfl, m10_15⟩ := cu_c m10_14
  obtain ⟨u10_16, s10_16, rfl, m10_16⟩ := cu_c m10_15
  cases cu_n m10_16
  have q10_0 := cu_R (cu_ad hz h3) (w10 0 _ _ rfl rfl)
  subst q10_0
  obtain ⟨i10_1, q10_1⟩ := cu_Rx (w10 1 _ _ rfl rfl)
  subst q10_1
  have q10_2 : u10_2 = .ref a12 := by
    obtain ⟨ad, e1, e2⟩ := hl
    have e3 := e1.symm.trans (cu_ad hz h12)
    cases e3
    rw [cu_v_of h10] at e2
    exact e2
  subst q10_2
  obtain ⟨i10_3, q10_3⟩ := cu_Rx (w10 3 _ _ rfl rfl)
  subst q10_3
  have q10_4 := cu_R (cu_ad hz h13) (w10 4 _ _ rfl rfl)
  subst q10_4
  obtain ⟨i10_5, q10_5⟩ := cu_Rx (w10 5 _ _ rfl rfl)
  subst q10_5
  have q10_6 := cu_R (cu_ad hz h15) (w10 6 _ _ rfl rfl)
  subst q10_6
  have q10_7 : u10_7 = .ref a9 := by
    obtain ⟨ad, e1, e2⟩ := hs
    have e3 := e1.symm.trans (cu_ad hz h9)
    cases e3
    rw [cu_v_of h10] at e2
    exact e2
  subst q10_7
  obtain ⟨i10_8, q10_8⟩ := cu_Rx (w10 8 _ _ rfl rfl)
  subst q10_8
  obtain ⟨i10_9, q10_9⟩ := cu_Rx (w10 9 _ _ rfl rfl)
  subst q10_9
  obtain ⟨i10_10, q10_10⟩ := cu_Rx (w10 10 _ _ rfl rfl)
  subst q10_10
  obtain ⟨i10_11, q10_11⟩ := cu_Rx (w10 11 _ _ rfl rfl)
  subst q10_11
  have q10_12 := cu_R (cu_ad hz h102) (w10 12 _ _ rfl rfl)
  subst q10_12
  obtain ⟨i10_13, q10_13⟩ := cu_Rx (w10 13 _ _ rfl rfl)
  subst q10_13
  obtain ⟨i10_14, q10_14⟩ := cu_I (w10 14 _ _ rfl rfl) rfl
  subst q10_14
  obtain ⟨i10_15, q10_15⟩ := cu_Rx (w10 15 _ _ rfl rfl)
  subst q10_15
  obtain ⟨i10_16, q10_16⟩ := cu_I (w10 16 _ _ rfl rfl) rfl
  subst q10_16
  obtain ⟨vs12, f12, l12, w12⟩ := r12
  dsimp only at f12
  subst f12
  obtain ⟨u12_0, s12_0, rfl, m12_0⟩ := cu_c l12
  obtain ⟨u12_1, s12_1, rfl, m12_1⟩ := cu_c m12_0
  obtain ⟨u12_2, s12_2, rfl, m12_2⟩ := cu_c m12_1
  obtain ⟨u12_3, s12_3, rfl, m12_3⟩ := cu_c m12_2
  obtain ⟨u12_4, s12_4, rfl, m12_4⟩ := cu_c m12_3
  obtain ⟨u12_5, s12_5, rfl, m12_5⟩ := cu_c m12_4
  obtain ⟨u12_6, s12_6, rfl, m12_6⟩ := cu_c m12_5
  obtain ⟨u12_7, s12_7, rfl, m12_7⟩ := cu_c m12_6
  obtain ⟨u12_8, s12_8, rfl, m12_8⟩ := cu_c m12_7
  obtain ⟨u12_9, s12_9, rfl, m12_9⟩ := cu_c m12_8
  obtain ⟨u12_10, s12_10, rfl, m12_10⟩ := cu_c m12_9
  obtain ⟨u12_11, s12_11, rfl, m12_11⟩ := cu_c m12_10
  obtain ⟨u12_12, s12_12, rfl, m12_12⟩ := cu_c m12_11
  obtain ⟨u12_13, s12_13, rfl, m12_13⟩ := cu_c m12_12
  obtain ⟨u12_14, s12_14, rfl, m12_14⟩ := cu_c m12_13
  obtain ⟨u12_15, s12_15, rfl, m12_15⟩ := cu_c m12_14
  cases cu_n m12_15
  obtain ⟨i12_0, q12_0⟩ := cu_I (w12 0 _ _ rfl rfl) rfl
  subst q12_0
  have q12_1 := cu_R (cu_ad hz h41) (w12 1 _ _ rfl rfl)
  subst q12_1
  have q12_2 := cu_R (cu_ad hz h30) (w12 2 _ _ rfl rfl)
  subst q12_2
  have q12_3 := cu_R (cu_ad hz h42) (w12 3 _ _ rfl rfl)
  subst q12_3
  obtain ⟨i12_4, q12_4⟩ := cu_I (w12 4 _ _ rfl rfl) rfl
  subst q12_4
  have q12_5 := cu_R (cu_ad hz h43) (w12 5 _ _ rfl rfl)
  subst q12_5
  have q12_6 := cu_R (cu_ad hz h44) (w12 6 _ _ rfl rfl)
  subst q12_6
  have q12_7 := cu_R (cu_ad hz h45) (w12 7 _ _ rfl rfl)
  subst q12_7
  have q12_8 := cu_R (cu_ad hz h46) (w12 8 _ _ rfl rfl)
  subst q12_8
  obtain ⟨i12_9, q12_9⟩ := cu_I (w12 9 _ _ rfl rfl) rfl
  subst q12_9
  have q12_10 := cu_R (cu_ad hz h47) (w12 10 _ _ rfl rfl)
  subst q12_10
  have q12_11 := cu_R (cu_ad hz h32) (w12 11 _ _ rfl rfl)
  subst q12_11
  have q12_12 := cu_R (cu_ad hz h48) (w12 12 _ _ rfl rfl)
  subst q12_12
  have q12_13 := cu_R (cu_ad hz h36) (w12 13 _ _ rfl rfl)
  subst q12_13
  have q12_14 := cu_R (cu_ad hz h49) (w12 14 _ _ rfl rfl)
  subst q12_14
  have q12_15 := cu_R (cu_ad hz h34) (w12 15 _ _ rfl rfl)
  subst q12_15
  obtain ⟨vs103, f103, l103, w103⟩ := r103
  dsimp only at f103
  subst f103
  obtain ⟨u103_0, s103_0, rfl, m103_0⟩ := cu_c l103
  obtain ⟨u103_1, s103_1, rfl, m103_1⟩ := cu_c m103_0
  obtain ⟨u103_2, s103_2, rfl, m103_2⟩ := cu_c m103_1
  obtain ⟨u103_3, s103_3, rfl, m103_3⟩ := cu_c m103_2
  cases cu_n m103_3
  have q103_0 := cu_R (cu_ad hz h29) (w103 0 _ _ rfl rfl)
  subst q103_0
  have q103_1 := cu_R (cu_ad hz h117) (w103 1 _ _ rfl rfl)
  subst q103_1
  have q103_2 := cu_R (cu_ad hz h121) (w103 2 _ _ rfl rfl)
  subst q103_2
  obtain ⟨i103_3, q103_3⟩ := cu_I (w103 3 _ _ rfl rfl) rfl
  subst q103_3
  obtain ⟨vs125, f125, l125, w125⟩ := r125
  dsimp only at f125
  subst f125
  obtain ⟨u125_0, s125_0, rfl, m125_0⟩ := cu_c l125
  obtain ⟨u125_1, s125_1, rfl, m125_1⟩ := cu_c m125_0
  obtain ⟨u125_2, s125_2, rfl, m125_2⟩ := cu_c m125_1
  obtain ⟨u125_3, s125_3, rfl, m125_3⟩ := cu_c m125_2
  cases cu_n m125_3
  have q125_0 := cu_R (cu_ad hz h28) (w125 0 _ _ rfl rfl)
  subst q125_0
  have q125_1 := cu_R (cu_ad hz h139) (w125 1 _ _ rfl rfl)
  subst q125_1
  have q125_2 := cu_R (cu_ad hz h143) (w125 2 _ _ rfl rfl)
  subst q125_2
  obtain ⟨i125_3, q125_3⟩ := cu_I (w125 3 _ _ rfl rfl) rfl
  subst q125_3
  obtain ⟨vs29, f29, l29, w29⟩ := r29
  dsimp only at f29
  subst f29
  obtain ⟨u29_0, s29_0, rfl, m29_0⟩ := cu_c l29
  obtain ⟨u29_1, s29_1, rfl, m29_1⟩ := cu_c m29_0
  obtain ⟨u29_2, s29_2, rfl, m29_2⟩ := cu_c m29_1
  obtain ⟨u29_3, s29_3, rfl, m29_3⟩ := cu_c m29_2
  obtain ⟨u29_4, s29_4, rfl, m29_4⟩ := cu_c m29_3
  obtain ⟨u29_5, s29_5, rfl, m29_5⟩ := cu_c m29_4
  obtain ⟨u29_6, s29_6, rfl, m29_6⟩ := cu_c m29_5
  obtain ⟨u29_7, s29_7, rfl, m29_7⟩ := cu_c m29_6
  obtain ⟨u29_8, s29_8, rfl, m29_8⟩ := cu_c m29_7
  obtain ⟨u29_9, s29_9, rfl, m29_9⟩ := cu_c m29_8
  obtain ⟨u29_10, s29_10, rfl, m29_10⟩ := cu_c m29_9
  obtain ⟨u29_11, s29_11, rfl, m29_11⟩ := cu_c m29_10
  obtain ⟨u29_12, s29_12, rfl, m29_12⟩ := cu_c m29_11
  obtain ⟨u29_13, s29_13, rfl, m29_13⟩ := cu_c m29_12
  obtain ⟨u29_14, s29_14, rfl, m29_14⟩ := cu_c m29_13
  obtain ⟨u29_15, s29_15, rfl, m29_15⟩ := cu_c m29_14
  cases cu_n m29_15
  obtain ⟨i29_0, q29_0⟩ := cu_I (w29 0 _ _ rfl rfl) rfl
  subst q29_0
  have q29_1 := cu_R (cu_ad hz h104) (w29 1 _ _ rfl rfl)
  subst q29_1
  have q29_2 := cu_R (cu_ad hz h105) (w29 2 _ _ rfl rfl)
  subst q29_2
  have q29_3 := cu_R (cu_ad hz h106) (w29 3 _ _ rfl rfl)
  subst q29_3
  obtain ⟨i29_4, q29_4⟩ := cu_I (w29 4 _ _ rfl rfl) rfl
  subst q29_4
  have q29_5 := cu_R (cu_ad hz h107) (w29 5 _ _ rfl rfl)
  subst q29_5
  have q29_6 := cu_R (cu_ad hz h108) (w29 6 _ _ rfl rfl)
  subst q29_6
  have q29_7 := cu_R (cu_ad hz h109) (w29 7 _ _ rfl rfl)
  subst q29_7
  have q29_8 := cu_R (cu_ad hz h110) (w29 8 _ _ rfl rfl)
  subst q29_8
  obtain ⟨i29_9, q29_9⟩ := cu_I (w29 9 _ _ rfl rfl) rfl
  subst q29_9
  have q29_10 := cu_R (cu_ad hz h111) (w29 10 _ _ rfl rfl)
  subst q29_10
  have q29_11 := cu_R (cu_ad hz h112) (w29 11 _ _ rfl rfl)
  subst q29_11
  have q29_12 := cu_R (cu_ad hz h113) (w29 12 _ _ rfl rfl)
  subst q29_12
  have q29_13 := cu_R (cu_ad hz h114) (w29 13 _ _ rfl rfl)
  subst q29_13
  have q29_14 := cu_R (cu_ad hz h115) (w29 14 _ _ rfl rfl)
  subst q29_14
  have q29_15 := cu_R (cu_ad hz h116) (w29 15 _ _ rfl rfl)
  subst q29_15
  obtain ⟨vs28, f28, l28, w28⟩ := r28
  dsimp only at f28
  subst f28
  obtain ⟨u28_0, s28_0, rfl, m28_0⟩ := cu_c l28
  obtain ⟨u28_1, s28_1, rfl, m28_1⟩ := cu_c m28_0
  obtain ⟨u28_2, s28_2, rfl, m28_2⟩ := cu_c m28_1
  obtain ⟨u28_3, s28_3, rfl, m28_3⟩ := cu_c m28_2
  obtain ⟨u28_4, s28_4, rfl, m28_4⟩ := cu_c m28_3
  obtain ⟨u28_5, s28_5, rfl, m28_5⟩ := cu_c m28_4
  obtain ⟨u28_6, s28_6, rfl, m28_6⟩ := cu_c m28_5
  obtain ⟨u28_7, s28_7, rfl, m28_7⟩ := cu_c m28_6
  obtain ⟨u28_8, s28_8, rfl, m28_8⟩ := cu_c m28_7
  obtain ⟨u28_9, s28_9, rfl, m28_9⟩ := cu_c m28_8
  obtain ⟨u28_10, s28_10, rfl, m28_10⟩ := cu_c m28_9
  obtain ⟨u28_11, s28_11, rfl, m28_11⟩ := cu_c m28_10
  obtain ⟨u28_12, s28_12, rfl, m28_12⟩ := cu_c m28_11
  obtain ⟨u28_13, s28_13, rfl, m28_13⟩ := cu_c m28_12
  obtain ⟨u28_14, s28_14, rfl, m28_14⟩ := cu_c m28_13
  obtain ⟨u28_15, s28_15, rfl, m28_15⟩ := cu_c m28_14
  cases cu_n m28_15
  obtain ⟨i28_0, q28_0⟩ := cu_I (w28 0 _ _ rfl rfl) rfl
  subst q28_0
  have q28_1 := cu_R (cu_ad hz h126) (w28 1 _ _ rfl rfl)
  subst q28_1
  have q28_2 := cu_R (cu_ad hz h127) (w28 2 _ _ rfl rfl)
  subst q28_2
  have q28_3 := cu_R (cu_ad hz h128) (w28 3 _ _ rfl rfl)
  subst q28_3
  obtain ⟨i28_4, q28_4⟩ := cu_I (w28 4 _ _ rfl rfl) rfl
  subst q28_4
  have q28_5 := cu_R (cu_ad hz h129) (w28 5 _ _ rfl rfl)
  subst q28_5
  have q28_6 := cu_R (cu_ad hz h130) (w28 6 _ _ rfl rfl)
  subst q28_6
  have q28_7 := cu_R (cu_ad hz h131) (w28 7 _ _ rfl rfl)
  subst q28_7
  have q28_8 := cu_R (cu_ad hz h132) (w28 8 _ _ rfl rfl)
  subst q28_8
  obtain ⟨i28_9, q28_9⟩ := cu_I (w28 9 _ _ rfl rfl) rfl
  subst q28_9
  have q28_10 := cu_R (cu_ad hz h133) (w28 10 _ _ rfl rfl)
  subst q28_10
  have q28_11 := cu_R (cu_ad hz h134) (w28 11 _ _ rfl rfl)
  subst q28_11
  have q28_12 := cu_R (cu_ad hz h135) (w28 12 _ _ rfl rfl)
  subst q28_12
  have q28_13 := cu_R (cu_ad hz h136) (w28 13 _ _ rfl rfl)
  subst q28_13
  have q28_14 := cu_R (cu_ad hz h137) (w28 14 _ _ rfl rfl)
  subst q28_14
  have q28_15 := cu_R (cu_ad hz h138) (w28 15 _ _ rfl rfl)
  subst q28_15
  obtain ⟨vs13, f13, l13, w13⟩ := r13
  dsimp only at f13
  subst f13
  obtain ⟨u13_0, s13_0, rfl, m13_0⟩ := cu_c l13
  obtain ⟨u13_1, s13_1, rfl, m13_1⟩ := cu_c m13_0
  obtain ⟨u13_2, s13_2, rfl, m13_2⟩ := cu_c m13_1
  obtain ⟨u13_3, s13_3, rfl, m13_3⟩ := cu_c m13_2
  obtain ⟨u13_4, s13_4, rfl, m13_4⟩ := cu_c m13_3
  obtain ⟨u13_5, s13_5, rfl, m13_5⟩ := cu_c m13_4
  obtain ⟨u13_6, s13_6, rfl, m13_6⟩ := cu_c m13_5
  cases cu_n m13_6
  obtain ⟨i13_0, q13_0⟩ := cu_I (w13 0 _ _ rfl rfl) rfl
  subst q13_0
  obtain ⟨i13_1, q13_1⟩ := cu_I (w13 1 _ _ rfl rfl) rfl
  subst q13_1
  obtain ⟨i13_2, q13_2⟩ := cu_I (w13 2 _ _ rfl rfl) rfl
  subst q13_2
  have q13_3 := cu_R (cu_ad hz h18) (w13 3 _ _ rfl rfl)
  subst q13_3
  have q13_4 := cu_R (cu_ad hz h59) (w13 4 _ _ rfl rfl)
  subst q13_4
  have q13_5 := cu_R (cu_ad hz h60) (w13 5 _ _ rfl rfl)
  subst q13_5
  obtain ⟨i13_6, q13_6⟩ := cu_I (w13 6 _ _ rfl rfl) rfl
  subst q13_6
  obtain ⟨vs117, f117, l117, w117⟩ := r117
  dsimp only at f117
  subst f117
  obtain ⟨u117_0, s117_0, rfl, m117_0⟩ := cu_c l117
  obtain ⟨u117_1, s117_1, rfl, m117_1⟩ := cu_c m117_0
  obtain ⟨u117_2, s117_2, rfl, m117_2⟩ := cu_c m117_1
  obtain ⟨u117_3, s117_3, rfl, m117_3⟩ := cu_c m117_2
  obtain ⟨u117_4, s117_4, rfl, m117_4⟩ := cu_c m117_3
  obtain ⟨u117_5, s117_5, rfl, m117_5⟩ := cu_c m117_4
  obtain ⟨u117_6, s117_6, rfl, m117_6⟩ := cu_c m117_5
  cases cu_n m117_6
  obtain ⟨i117_0, q117_0⟩ := cu_I (w117 0 _ _ rfl rfl) rfl
  subst q117_0
  obtain ⟨i117_1, q117_1⟩ := cu_I (w117 1 _ _ rfl rfl) rfl
  subst q117_1
  obtain ⟨i117_2, q117_2⟩ := cu_I (w117 2 _ _ rfl rfl) rfl
  subst q117_2
  have q117_3 := cu_R (cu_ad hz h118) (w117 3 _ _ rfl rfl)
  subst q117_3
  have q117_4 := cu_R (cu_ad hz h119) (w117 4 _ _ rfl rfl)
  subst q117_4
  have q117_5 := cu_R (cu_ad hz h120) (w117 5 _ _ rfl rfl)
  subst q117_5
  obtain ⟨i117_6, q117_6⟩ := cu_I (w117 6 _ _ rfl rfl) rfl
  subst q117_6
  obtain ⟨vs139, f139, l139, w139⟩ := r139
  dsimp only at f139
  subst f139
  obtain ⟨u139_0, s139_0, rfl, m139_0⟩ := cu_c l139
  obtain ⟨u139_1, s139_1, rfl, m139_1⟩ := cu_c m139_0
  obtain ⟨u139_2, s139_2, rfl, m139_2⟩ := cu_c m139_1
  obtain ⟨u139_3, s139_3, rfl, m139_3⟩ := cu_c m139_2
  obtain ⟨u139_4, s139_4, rfl, m139_4⟩ := cu_c m139_3
  obtain ⟨u139_5, s139_5, rfl, m139_5⟩ := cu_c m139_4
  obtain ⟨u139_6, s139_6, rfl, m139_6⟩ := cu_c m139_5
  cases cu_n m139_6
  obtain ⟨i139_0, q139_0⟩ := cu_I (w139 0 _ _ rfl rfl) rfl
  subst q139_0
  obtain ⟨i139_1, q139_1⟩ := cu_I (w139 1 _ _ rfl rfl) rfl
  subst q139_1
  obtain ⟨i139_2, q139_2⟩ := cu_I (w139 2 _ _ rfl rfl) rfl
  subst q139_2
  have q139_3 := cu_R (cu_ad hz h140) (w139 3 _ _ rfl rfl)
  subst q139_3
  have q139_4 := cu_R (cu_ad hz h141) (w139 4 _ _ rfl rfl)
  subst q139_4
  have q139_5 := cu_R (cu_ad hz h142) (w139 5 _ _ rfl rfl)
  subst q139_5
  obtain ⟨i139_6, q139_6⟩ := cu_I (w139 6 _ _ rfl rfl) rfl
  subst q139_6
  obtain ⟨vs9, f9, l9, w9⟩ := r9
  dsimp only at f9
  subst f9
  obtain ⟨u9_0, s9_0, rfl, m9_0⟩ := cu_c l9
  obtain ⟨u9_1, s9_1, rfl, m9_1⟩ := cu_c m9_0
  obtain ⟨u9_2, s9_2, rfl, m9_2⟩ := cu_c m9_1
  obtain ⟨u9_3, s9_3, rfl, m9_3⟩ := cu_c m9_2
  obtain ⟨u9_4, s9_4, rfl, m9_4⟩ := cu_c m9_3
  cases cu_n m9_4
  have q9_0 := cu_R (cu_ad hz h23) (w9 0 _ _ rfl rfl)
  subst q9_0
  have q9_1 := cu_R (cu_ad hz h27) (w9 1 _ _ rfl rfl)
  subst q9_1
  have q9_2 := cu_R (cu_ad hz h25) (w9 2 _ _ rfl rfl)
  subst q9_2
  obtain ⟨i9_3, q9_3⟩ := cu_I (w9 3 _ _ rfl rfl) rfl
  subst q9_3
  obtain ⟨i9_4, q9_4⟩ := cu_I (w9 4 _ _ rfl rfl) rfl
  subst q9_4
  obtain ⟨vs121, f121, l121, w121⟩ := r121
  dsimp only at f121
  subst f121
  obtain ⟨u121_0, s121_0, rfl, m121_0⟩ := cu_c l121
  obtain ⟨u121_1, s121_1, rfl, m121_1⟩ := cu_c m121_0
  obtain ⟨u121_2, s121_2, rfl, m121_2⟩ := cu_c m121_1
  obtain ⟨u121_3, s121_3, rfl, m121_3⟩ := cu_c m121_2
  obtain ⟨u121_4, s121_4, rfl, m121_4⟩ := cu_c m121_3
  cases cu_n m121_4
  have q121_0 := cu_R (cu_ad hz h122) (w121 0 _ _ rfl rfl)
  subst q121_0
  have q121_1 := cu_R (cu_ad hz h123) (w121 1 _ _ rfl rfl)
  subst q121_1
  have q121_2 := cu_R (cu_ad hz h124) (w121 2 _ _ rfl rfl)
  subst q121_2
  obtain ⟨i121_3, q121_3⟩ := cu_I (w121 3 _ _ rfl rfl) rfl
  subst q121_3
  obtain ⟨i121_4, q121_4⟩ := cu_I (w121 4 _ _ rfl rfl) rfl
  subst q121_4
  obtain ⟨vs143, f143, l143, w143⟩ := r143
  dsimp only at f143
  subst f143
  obtain ⟨u143_0, s143_0, rfl, m143_0⟩ := cu_c l143
  obtain ⟨u143_1, s143_1, rfl, m143_1⟩ := cu_c m143_0
  obtain ⟨u143_2, s143_2, rfl, m143_2⟩ := cu_c m143_1
  obtain ⟨u143_3, s143_3, rfl, m143_3⟩ := cu_c m143_2
  obtain ⟨u143_4, s143_4, rfl, m143_4⟩ := cu_c m143_3
  cases cu_n m143_4
  have q143_0 := cu_R (cu_ad hz h144) (w143 0 _ _ rfl rfl)
  subst q143_0
  have q143_1 := cu_R (cu_ad hz h145) (w143 1 _ _ rfl rfl)
  subst q143_1
  have q143_2 := cu_R (cu_ad hz h146) (w143 2 _ _ rfl rfl)
  subst q143_2
  obtain ⟨i143_3, q143_3⟩ := cu_I (w143 3 _ _ rfl rfl) rfl
  subst q143_3
  obtain ⟨i143_4, q143_4⟩ := cu_I (w143 4 _ _ rfl rfl) rfl
  subst q143_4
  obtain ⟨vs15, f15, l15, w15⟩ := r15
  dsimp only at f15
  subst f15
  obtain ⟨u15_0, s15_0, rfl, m15_0⟩ := cu_c l15
  obtain ⟨u15_1, s15_1, rfl, m15_1⟩ := cu_c m15_0
  cases cu_n m15_1
  obtain ⟨i15_0, q15_0⟩ := cu_Rx (w15 0 _ _ rfl rfl)
  subst q15_0
  obtain ⟨i15_1, q15_1⟩ := cu_I (w15 1 _ _ rfl rfl) rfl
  subst q15_1
  obtain ⟨vs3, f3, l3, w3⟩ := r3
  dsimp only at f3
  subst f3
  obtain ⟨u3_0, s3_0, rfl, m3_0⟩ := cu_c l3
  obtain ⟨u3_1, s3_1, rfl, m3_1⟩ := cu_c m3_0
  obtain ⟨u3_2, s3_2, rfl, m3_2⟩ := cu_c m3_1
  obtain ⟨u3_3, s3_3, rfl, m3_3⟩ := cu_c m3_2
  obtain ⟨u3_4, s3_4, rfl, m3_4⟩ := cu_c m3_3
  obtain ⟨u3_5, s3_5, rfl, m3_5⟩ := cu_c m3_4
  obtain ⟨u3_6, s3_6, rfl, m3_6⟩ := cu_c m3_5
  obtain ⟨u3_7, s3_7, rfl, m3_7⟩ := cu_c m3_6
  obtain ⟨u3_8, s3_8, rfl, m3_8⟩ := cu_c m3_7
  obtain ⟨u3_9, s3_9, rfl, m3_9⟩ := cu_c m3_8
  obtain ⟨u3_10, s3_10, rfl, m3_10⟩ := cu_c m3_9
  obtain ⟨u3_11, s3_11, rfl, m3_11⟩ := cu_c m3_10
  obtain ⟨u3_12, s3_12, rfl, m3_12⟩ := cu_c m3_11
  obtain ⟨u3_13, s3_13, rfl, m3_13⟩ := cu_c m3_12
  obtain ⟨u3_14, s3_14, rfl, m3_14⟩ := cu_c m3_13
  cases cu_n m3_14
  obtain ⟨i3_0, q3_0⟩ := cu_Rx (w3 0 _ _ rfl rfl)
  subst q3_0
  obtain ⟨i3_1, q3_1⟩ := cu_I (w3 1 _ _ rfl rfl) rfl
  obtain ⟨i3_2, q3_2⟩ := cu_I (w3 2 _ _ rfl rfl) rfl
  subst q3_2
  obtain ⟨i3_3, q3_3⟩ := cu_I (w3 3 _ _ rfl rfl) rfl
  subst q3_3
  obtain ⟨i3_4, q3_4⟩ := cu_I (w3 4 _ _ rfl rfl) rfl
  subst q3_4
  obtain ⟨i3_5, q3_5⟩ := cu_I (w3 5 _ _ rfl rfl) rfl
  subst q3_5
  obtain ⟨i3_6, q3_6⟩ := cu_L (w3 6 _ _ rfl rfl) rfl
  subst q3_6
  obtain ⟨i3_7, q3_7⟩ := cu_I (w3 7 _ _ rfl rfl) rfl
  subst q3_7
  obtain ⟨i3_8, q3_8⟩ := cu_I (w3 8 _ _ rfl rfl) rfl
  subst q3_8
  obtain ⟨i3_9, q3_9⟩ := cu_I (w3 9 _ _ rfl rfl) rfl
  subst q3_9
  obtain ⟨i3_10, q3_10⟩ := cu_L (w3 10 _ _ rfl rfl) rfl
  subst q3_10
  obtain ⟨i3_11, q3_11⟩ := cu_I (w3 11 _ _ rfl rfl) rfl
  subst q3_11
  obtain ⟨i3_12, q3_12⟩ := cu_I (w3 12 _ _ rfl rfl) rfl
  subst q3_12
  obtain ⟨i3_13, q3_13⟩ := cu_I (w3 13 _ _ rfl rfl) rfl
  subst q3_13
  obtain ⟨i3_14, q3_14⟩ := cu_Rx (w3 14 _ _ rfl rfl)
  subst q3_14
  have z3 := w3 1 _ _ rfl rfl
  subst q3_1
  refine ⟨y102, ((fun j => bif Nat.beq j 0 then i12_0 else bif Nat.beq j 1 then i12_4 else bif Nat.beq j 2 then i12_9 else bif Nat.beq j 100 then i29_0 else bif Nat.beq j 101 then i29_4 else bif Nat.beq j 102 then i29_9 else bif Nat.beq j 200 then i28_0 else bif Nat.beq j 201 then i28_4 else bif Nat.beq j 202 then i28_9 else bif Nat.beq j 1000 then i13_0 else bif Nat.beq j 1001 then i13_1 else bif Nat.beq j 1002 then i13_2 else bif Nat.beq j 1003 then i13_6 else bif Nat.beq j 1010 then i117_0 else bif Nat.beq j 1011 then i117_1 else bif Nat.beq j 1012 then i117_2 else bif Nat.beq j 1013 then i117_6 else bif Nat.beq j 1020 then i139_0 else bif Nat.beq j 1021 then i139_1 else bif Nat.beq j 1022 then i139_2 else bif Nat.beq j 1023 then i139_6 else bif Nat.beq j 2000 then i9_3 else bif Nat.beq j 2001 then i9_4 else bif Nat.beq j 2010 then i121_3 else bif Nat.beq j 2011 then i121_4 else bif Nat.beq j 2020 then i143_3 else bif Nat.beq j 2021 then i143_4 else bif Nat.beq j 3001 then i3_1 else bif Nat.beq j 3002 then i3_2 else bif Nat.beq j 3003 then i3_3 else bif Nat.beq j 3004 then i3_4 else bif Nat.beq j 3005 then i3_5 else bif Nat.beq j 3007 then i3_7 else bif Nat.beq j 3008 then i3_8 else bif Nat.beq j 3009 then i3_9 else bif Nat.beq j 3011 then i3_11 else bif Nat.beq j 3012 then i3_12 else bif Nat.beq j 3013 then i3_13 else bif Nat.beq j 3100 then i103_3 else bif Nat.beq j 3101 then i125_3 else bif Nat.beq j 3200 then i15_1 else bif Nat.beq j 3300 then i10_14 else bif Nat.beq j 3301 then i10_16 else (0 : Int32)), (fun j => bif Nat.beq j 16 then i3_6 else bif Nat.beq j 20 then i3_10 else (0 : Int64)), (fun j => bif Nat.beq j 0 then y30 else bif Nat.beq j 1 then y42 else bif Nat.beq j 2 then y43 else bif Nat.beq j 3 then y44 else bif Nat.beq j 4 then y45 else bif Nat.beq j 5 then y46 else bif Nat.beq j 6 then y32 else bif Nat.beq j 7 then y48 else bif Nat.beq j 8 then y36 else bif Nat.beq j 9 then y49 else bif Nat.beq j 10 then y34 else bif Nat.beq j 100 then y105 else bif Nat.beq j 101 then y106 else bif Nat.beq j 102 then y107 else bif Nat.beq j 103 then y108 else bif Nat.beq j 104 then y109 else bif Nat.beq j 105 then y110 else bif Nat.beq j 106 then y112 else bif Nat.beq j 107 then y113 else bif Nat.beq j 108 then y114 else bif Nat.beq j 109 then y115 else bif Nat.beq j 110 then y116 else bif Nat.beq j 200 then y127 else bif Nat.beq j 201 then y128 else bif Nat.beq j 202 then y129 else bif Nat.beq j 203 then y130 else bif Nat.beq j 204 then y131 else bif Nat.beq j 205 then y132 else bif Nat.beq j 206 then y134 else bif Nat.beq j 207 then y135 else bif Nat.beq j 208 then y136 else bif Nat.beq j 209 then y137 else bif Nat.beq j 210 then y138 else bif Nat.beq j 1000 then y18 else bif Nat.beq j 1001 then y59 else bif Nat.beq j 1002 then y60 else bif Nat.beq j 1010 then y118 else bif Nat.beq j 1011 then y119 else bif Nat.beq j 1012 then y120 else bif Nat.beq j 1020 then y140 else bif Nat.beq j 1021 then y141 else bif Nat.beq j 1022 then y142 else bif Nat.beq j 2000 then y23 else bif Nat.beq j 2001 then y27 else bif Nat.beq j 2002 then y25 else bif Nat.beq j 2010 then y122 else bif Nat.beq j 2011 then y123 else bif Nat.beq j 2012 then y124 else bif Nat.beq j 2020 then y144 else bif Nat.beq j 2021 then y145 else bif Nat.beq j 2022 then y146 else (fun _ => (0 : Int32))), (fun j => bif Nat.beq j 0 then y41 else bif Nat.beq j 1 then y47 else bif Nat.beq j 100 then y104 else bif Nat.beq j 101 then y111 else bif Nat.beq j 200 then y126 else bif Nat.beq j 201 then y133 else (fun _ => (0 : Int64)))), ([a10, a102, a12, a41, a30, a42, a43, a44, a45, a46, a47, a32, a48, a36, a49, a34, a103, a125, a29, a104, a105, a106, a107, a108, a109, a110, a111, a112, a113, a114, a115, a116, a28, a126, a127, a128, a129, a130, a131, a132, a133, a134, a135, a136, a137, a138, a13, a18, a59, a60, a117, a118, a119, a120, a139, a140, a141, a142, a9, a23, a27, a25, a121, a122, a123, a124, a143, a144, a145, a146, a15, a3], (fun j => bif Nat.beq j 0 then i10_1 else bif Nat.beq j 1 then i10_3 else bif Nat.beq j 2 then i10_5 else bif Nat.beq j 3 then i10_8 else bif Nat.beq j 4 then i10_9 else bif Nat.beq j 5 then i10_10 else bif Nat.beq j 6 then i10_11 else bif Nat.beq j 7 then i10_13 else bif Nat.beq j 8 then i10_15 else bif Nat.beq j 9 then i15_0 else bif Nat.beq j 20 then i3_0 else bif Nat.beq j 34 then i3_14 else 0)), [(a10, .inr (10, [.ref a3, .ref i10_1, .ref a12, .ref i10_3, .ref a13, .ref i10_5, .ref a15, .ref a9, .ref i10_8, .ref i10_9, .ref i10_10, .ref i10_11, .ref a102, .ref i10_13, .int i10_14, .ref i10_15, .int i10_16])),
      (a102, .inl (cA102, 2, .inr (.inr (.inr (.inr y102))))),
      (a12, .inr (8, [.int i12_0, .ref a41, .ref a30, .ref a42, .int i12_4, .ref a43, .ref a44, .ref a45, .ref a46, .int i12_9, .ref a47, .ref a32, .ref a48, .ref a36, .ref a49, .ref a34])),
      (a41, .inl (cA41, 7, .inr (.inl y41))),
      (a30, .inl (cA30, 7, .inl y30)),
      (a42, .inl (cA42, 7, .inl y42)),
      (a43, .inl (cA43, 12, .inl y43)),
      (a44, .inl (cA44, 12, .inl y44)),
      (a45, .inl (cA45, 12, .inl y45)),
      (a46, .inl (cA46, 12, .inl y46)),
      (a47, .inl (cA47, 8, .inr (.inl y47))),
      (a32, .inl (cA32, 8, .inl y32)),
      (a48, .inl (cA48, 8, .inl y48)),
      (a36, .inl (cA36, 8, .inl y36)),
      (a49, .inl (cA49, 8, .inl y49)),
      (a34, .inl (cA34, 3, .inl y34)),
      (a103, .inr (2, [.ref a29, .ref a117, .ref a121, .int i103_3])),
      (a125, .inr (2, [.ref a28, .ref a139, .ref a143, .int i125_3])),
      (a29, .inr (8, [.int i29_0, .ref a104, .ref a105, .ref a106, .int i29_4, .ref a107, .ref a108, .ref a109, .ref a110, .int i29_9, .ref a111, .ref a112, .ref a113, .ref a114, .ref a115, .ref a116])),
      (a104, .inl (cA104, 7, .inr (.inl y104))),
      (a105, .inl (cA105, 7, .inl y105)),
      (a106, .inl (cA106, 7, .inl y106)),
      (a107, .inl (cA107, 12, .inl y107)),
      (a108, .inl (cA108, 12, .inl y108)),
      (a109, .inl (cA109, 12, .inl y109)),
      (a110, .inl (cA110, 12, .inl y110)),
      (a111, .inl (cA111, 8, .inr (.inl y111))),
      (a112, .inl (cA112, 8, .inl y112)),
      (a113, .inl (cA113, 8, .inl y113)),
      (a114, .inl (cA114, 8, .inl y114)),
      (a115, .inl (cA115, 8, .inl y115)),
      (a116, .inl (cA116, 3, .inl y116)),
      (a28, .inr (8, [.int i28_0, .ref a126, .ref a127, .ref a128, .int i28_4, .ref a129, .ref a130, .ref a131, .ref a132, .int i28_9, .ref a133, .ref a134, .ref a135, .ref a136, .ref a137, .ref a138])),
      (a126, .inl (cA126, 7, .inr (.inl y126))),
      (a127, .inl (cA127, 7, .inl y127)),
      (a128, .inl (cA128, 7, .inl y128)),
      (a129, .inl (cA129, 12, .inl y129)),
      (a130, .inl (cA130, 12, .inl y130)),
      (a131, .inl (cA131, 12, .inl y131)),
      (a132, .inl (cA132, 12, .inl y132)),
      (a133, .inl (cA133, 8, .inr (.inl y133))),
      (a134, .inl (cA134, 8, .inl y134)),
      (a135, .inl (cA135, 8, .inl y135)),
      (a136, .inl (cA136, 8, .inl y136)),
      (a137, .inl (cA137, 8, .inl y137)),
      (a138, .inl (cA138, 3, .inl y138)),
      (a13, .inr (7, [.int i13_0, .int i13_1, .int i13_2, .ref a18, .ref a59, .ref a60, .int i13_6])),
      (a18, .inl (cA18, 7, .inl y18)),
      (a59, .inl (cA59, 7, .inl y59)),
      (a60, .inl (cA60, 7, .inl y60)),
      (a117, .inr (7, [.int i117_0, .int i117_1, .int i117_2, .ref a118, .ref a119, .ref a120, .int i117_6])),
      (a118, .inl (cA118, 7, .inl y118)),
      (a119, .inl (cA119, 7, .inl y119)),
      (a120, .inl (cA120, 7, .inl y120)),
      (a139, .inr (7, [.int i139_0, .int i139_1, .int i139_2, .ref a140, .ref a141, .ref a142, .int i139_6])),
      (a140, .inl (cA140, 7, .inl y140)),
      (a141, .inl (cA141, 7, .inl y141)),
      (a142, .inl (cA142, 7, .inl y142)),
      (a9, .inr (6, [.ref a23, .ref a27, .ref a25, .int i9_3, .int i9_4])),
      (a23, .inl (cA23, 40, .inl y23)),
      (a27, .inl (cA27, 40, .inl y27)),
      (a25, .inl (cA25, 40, .inl y25)),
      (a121, .inr (6, [.ref a122, .ref a123, .ref a124, .int i121_3, .int i121_4])),
      (a122, .inl (cA122, 40, .inl y122)),
      (a123, .inl (cA123, 40, .inl y123)),
      (a124, .inl (cA124, 40, .inl y124)),
      (a143, .inr (6, [.ref a144, .ref a145, .ref a146, .int i143_3, .int i143_4])),
      (a144, .inl (cA144, 40, .inl y144)),
      (a145, .inl (cA145, 40, .inl y145)),
      (a146, .inl (cA146, 40, .inl y146)),
      (a15, .inr (1, [.ref i15_0, .int i15_1])),
      (a3, .inr (4, [.ref i3_0, .int i3_1, .int i3_2, .int i3_3, .int i3_4, .int i3_5, .long i3_6, .int i3_7, .int i3_8, .int i3_9, .long i3_10, .int i3_11, .int i3_12, .int i3_13, .ref i3_14]))], ?_, ?_, cu_ev1 z3, ⟨cu_Q (cu_ad hz h103) (o102 0 (by decide)), cu_Q (cu_ad hz h125) (o102 1 (by decide))⟩⟩
  · refine ⟨rfl, ⟨rfl, Nat.le_of_ble_eq_true rfl⟩, fun k c hk => ?_⟩
    match k, hk with
    | 0, hk => cases hk; exact ⟨_, rfl, rfl⟩
    | 1, hk => cases hk; exact ⟨_, rfl, Nat.le_of_ble_eq_true rfl, Nat.le_of_ble_eq_true rfl, ⟨_, rfl⟩, _, rfl, t102⟩
    | 2, hk => cases hk; exact ⟨_, rfl, rfl⟩
    | 3, hk => cases hk; exact ⟨_, rfl, Nat.le_of_ble_eq_true rfl, Nat.le_of_ble_eq_true rfl, ⟨_, rfl⟩, _, rfl, t41⟩
    | 4, hk => cases hk; exact ⟨_, rfl, Nat.le_of_ble_eq_true rfl, Nat.le_of_ble_eq_true rfl, ⟨_, rfl⟩, _, rfl, t30⟩
    | 5, hk => cases hk; exact ⟨_, rfl, Nat.le_of_ble_eq_true rfl, Nat.le_of_ble_eq_true rfl, ⟨_, rfl⟩, _, rfl, t42⟩
    | 6, hk => cases hk; exact ⟨_, rfl, Nat.le_of_ble_eq_true rfl, Nat.le_of_ble_eq_true rfl, ⟨_, rfl⟩, _, rfl, t43⟩
    | 7, hk => cases hk; exact ⟨_, rfl, Nat.le_of_ble_eq_true rfl, Nat.le_of_ble_eq_true rfl, ⟨_, rfl⟩, _, rfl, t44⟩
    | 8, hk => cases hk; exact ⟨_, rfl, Nat.le_of_ble_eq_true rfl, Nat.le_of_ble_eq_true rfl, ⟨_, rfl⟩, _, rfl, t45⟩
    | 9, hk => cases hk; exact ⟨_, rfl, Nat.le_of_ble_eq_true rfl, Nat.le_of_ble_eq_true rfl, ⟨_, rfl⟩, _, rfl, t46⟩
    | 10, hk => cases hk; exact ⟨_, rfl, Nat.le_of_ble_eq_true rfl, Nat.le_of_ble_eq_true rfl, ⟨_, rfl⟩, _, rfl, t47⟩
    | 11, hk => cases hk; exact ⟨_, rfl, Nat.le_of_ble_eq_true rfl, Nat.le_of_ble_eq_true rfl, ⟨_, rfl⟩, _, rfl, t32⟩
    | 12, hk => cases hk; exact ⟨_, rfl, Nat.le_of_ble_eq_true rfl, Nat.le_of_ble_eq_true rfl, ⟨_, rfl⟩, _, rfl, t48⟩
    | 13, hk => cases hk; exact ⟨_, rfl, Nat.le_of_ble_eq_true rfl, Nat.le_of_ble_eq_true rfl, ⟨_, rfl⟩, _, rfl, t36⟩
    | 14, hk => cases hk; exact ⟨_, rfl, Nat.le_of_ble_eq_true rfl, Nat.le_of_ble_eq_true rfl, ⟨_, rfl⟩, _, rfl, t49⟩
    | 15, hk => cases hk; exact ⟨_, rfl, Nat.le_of_ble_eq_true rfl, Nat.le_of_ble_eq_true rfl, ⟨_, rfl⟩, _, rfl, t34⟩
    | 16, hk => cases hk; exact ⟨_, rfl, rfl⟩
    | 17, hk => cases hk; exact ⟨_, rfl, rfl⟩
    | 18, hk => cases hk; exact ⟨_, rfl, rfl⟩
    | 19, hk => cases hk; exact ⟨_, rfl, Nat.le_of_ble_eq_true rfl, Nat.le_of_ble_eq_true rfl, ⟨_, rfl⟩, _, rfl, t104⟩
    | 20, hk => cases hk; exact ⟨_, rfl, Nat.le_of_ble_eq_true rfl, Nat.le_of_ble_eq_true rfl, ⟨_, rfl⟩, _, rfl, t105⟩
    | 21, hk => cases hk; exact ⟨_, rfl, Nat.le_of_ble_eq_true rfl, Nat.le_of_ble_eq_true rfl, ⟨_, rfl⟩, _, rfl, t106⟩
    | 22, hk => cases hk; exact ⟨_, rfl, Nat.le_of_ble_eq_true rfl, Nat.le_of_ble_eq_true rfl, ⟨_, rfl⟩, _, rfl, t107⟩
    | 23, hk => cases hk; exact ⟨_, rfl, Nat.le_of_ble_eq_true rfl, Nat.le_of_ble_eq_true rfl, ⟨_, rfl⟩, _, rfl, t108⟩
    | 24, hk => cases hk; exact ⟨_, rfl, Nat.le_of_ble_eq_true rfl, Nat.le_of_ble_eq_true rfl, ⟨_, rfl⟩, _, rfl, t109⟩
    | 25, hk => cases hk; exact ⟨_, rfl, Nat.le_of_ble_eq_true rfl, Nat.le_of_ble_eq_true rfl, ⟨_, rfl⟩, _, rfl, t110⟩
    | 26, hk => cases hk; exact ⟨_, rfl, Nat.le_of_ble_eq_true rfl, Nat.le_of_ble_eq_true rfl, ⟨_, rfl⟩, _, rfl, t111⟩
    | 27, hk => cases hk; exact ⟨_, rfl, Nat.le_of_ble_eq_true rfl, Nat.le_of_ble_eq_true rfl, ⟨_, rfl⟩, _, rfl, t112⟩
    | 28, hk => cases hk; exact ⟨_, rfl, Nat.le_of_ble_eq_true rfl, Nat.le_of_ble_eq_true rfl, ⟨_, rfl⟩, _, rfl, t113⟩
    | 29, hk => cases hk; exact ⟨_, rfl, Nat.le_of_ble_eq_true rfl, Nat.le_of_ble_eq_true rfl, ⟨_, rfl⟩, _, rfl, t114⟩
    | 30, hk => cases hk; exact ⟨_, rfl, Nat.le_of_ble_eq_true rfl, Nat.le_of_ble_eq_true rfl, ⟨_, rfl⟩, _, rfl, t115⟩
    | 31, hk => cases hk; exact ⟨_, rfl, Nat.le_of_ble_eq_true rfl, Nat.le_of_ble_eq_true rfl, ⟨_, rfl⟩, _, rfl, t116⟩
    | 32, hk => cases hk; exact ⟨_, rfl, rfl⟩
    | 33, hk => cases hk; exact ⟨_, rfl, Nat.le_of_ble_eq_true rfl, Nat.le_of_ble_eq_true rfl, ⟨_, rfl⟩, _, rfl, t126⟩
    | 34, hk => cases hk; exact ⟨_, rfl, Nat.le_of_ble_eq_true rfl, Nat.le_of_ble_eq_true rfl, ⟨_, rfl⟩, _, rfl, t127⟩
    | 35, hk => cases hk; exact ⟨_, rfl, Nat.le_of_ble_eq_true rfl, Nat.le_of_ble_eq_true rfl, ⟨_, rfl⟩, _, rfl, t128⟩
    | 36, hk => cases hk; exact ⟨_, rfl, Nat.le_of_ble_eq_true rfl, Nat.le_of_ble_eq_true rfl, ⟨_, rfl⟩, _, rfl, t129⟩
    | 37, hk => cases hk; exact ⟨_, rfl, Nat.le_of_ble_eq_true rfl, Nat.le_of_ble_eq_true rfl, ⟨_, rfl⟩, _, rfl, t130⟩
    | 38, hk => cases hk; exact ⟨_, rfl, Nat.le_of_ble_eq_true rfl, Nat.le_of_ble_eq_true rfl, ⟨_, rfl⟩, _, rfl, t131⟩
    | 39, hk => cases hk; exact ⟨_, rfl, Nat.le_of_ble_eq_true rfl, Nat.le_of_ble_eq_true rfl, ⟨_, rfl⟩, _, rfl, t132⟩
    | 40, hk => cases hk; exact ⟨_, rfl, Nat.le_of_ble_eq_true rfl, Nat.le_of_ble_eq_true rfl, ⟨_, rfl⟩, _, rfl, t133⟩
    | 41, hk => cases hk; exact ⟨_, rfl, Nat.le_of_ble_eq_true rfl, Nat.le_of_ble_eq_true rfl, ⟨_, rfl⟩, _, rfl, t134⟩
    | 42, hk => cases hk; exact ⟨_, rfl, Nat.le_of_ble_eq_true rfl, Nat.le_of_ble_eq_true rfl, ⟨_, rfl⟩, _, rfl, t135⟩
    | 43, hk => cases hk; exact ⟨_, rfl, Nat.le_of_ble_eq_true rfl, Nat.le_of_ble_eq_true rfl, ⟨_, rfl⟩, _, rfl, t136⟩
    | 44, hk => cases hk; exact ⟨_, rfl, Nat.le_of_ble_eq_true rfl, Nat.le_of_ble_eq_true rfl, ⟨_, rfl⟩, _, rfl, t137⟩
    | 45, hk => cases hk; exact ⟨_, rfl, Nat.le_of_ble_eq_true rfl, Nat.le_of_ble_eq_true rfl, ⟨_, rfl⟩, _, rfl, t138⟩
    | 46, hk => cases hk; exact ⟨_, rfl, rfl⟩
    | 47, hk => cases hk; exact ⟨_, rfl, Nat.le_of_ble_eq_true rfl, Nat.le_of_ble_eq_true rfl, ⟨_, rfl⟩, _, rfl, t18⟩
    | 48, hk => cases hk; exact ⟨_, rfl, Nat.le_of_ble_eq_true rfl, Nat.le_of_ble_eq_true rfl, ⟨_, rfl⟩, _, rfl, t59⟩
    | 49, hk => cases hk; exact ⟨_, rfl, Nat.le_of_ble_eq_true rfl, Nat.le_of_ble_eq_true rfl, ⟨_, rfl⟩, _, rfl, t60⟩
    | 50, hk => cases hk; exact ⟨_, rfl, rfl⟩
    | 51, hk => cases hk; exact ⟨_, rfl, Nat.le_of_ble_eq_true rfl, Nat.le_of_ble_eq_true rfl, ⟨_, rfl⟩, _, rfl, t118⟩
    | 52, hk => cases hk; exact ⟨_, rfl, Nat.le_of_ble_eq_true rfl, Nat.le_of_ble_eq_true rfl, ⟨_, rfl⟩, _, rfl, t119⟩
    | 53, hk => cases hk; exact ⟨_, rfl, Nat.le_of_ble_eq_true rfl, Nat.le_of_ble_eq_true rfl, ⟨_, rfl⟩, _, rfl, t120⟩
    | 54, hk => cases hk; exact ⟨_, rfl, rfl⟩
    | 55, hk => cases hk; exact ⟨_, rfl, Nat.le_of_ble_eq_true rfl, Nat.le_of_ble_eq_true rfl, ⟨_, rfl⟩, _, rfl, t140⟩
    | 56, hk => cases hk; exact ⟨_, rfl, Nat.le_of_ble_eq_true rfl, Nat.le_of_ble_eq_true rfl, ⟨_, rfl⟩, _, rfl, t141⟩
    | 57, hk => cases hk; exact ⟨_, rfl, Nat.le_of_ble_eq_true rfl, Nat.le_of_ble_eq_true rfl, ⟨_, rfl⟩, _, rfl, t142⟩
    | 58, hk => cases hk; exact ⟨_, rfl, rfl⟩
    | 59, hk => cases hk; exact ⟨_, rfl, Nat.le_of_ble_eq_true rfl, Nat.le_of_ble_eq_true rfl, ⟨_, rfl⟩, _, rfl, t23⟩
    | 60, hk => cases hk; exact ⟨_, rfl, Nat.le_of_ble_eq_true rfl, Nat.le_of_ble_eq_true rfl, ⟨_, rfl⟩, _, rfl, t27⟩
    | 61, hk => cases hk; exact ⟨_, rfl, Nat.le_of_ble_eq_true rfl, Nat.le_of_ble_eq_true rfl, ⟨_, rfl⟩, _, rfl, t25⟩
    | 62, hk => cases hk; exact ⟨_, rfl, rfl⟩
    | 63, hk => cases hk; exact ⟨_, rfl, Nat.le_of_ble_eq_true rfl, Nat.le_of_ble_eq_true rfl, ⟨_, rfl⟩, _, rfl, t122⟩
    | 64, hk => cases hk; exact ⟨_, rfl, Nat.le_of_ble_eq_true rfl, Nat.le_of_ble_eq_true rfl, ⟨_, rfl⟩, _, rfl, t123⟩
    | 65, hk => cases hk; exact ⟨_, rfl, Nat.le_of_ble_eq_true rfl, Nat.le_of_ble_eq_true rfl, ⟨_, rfl⟩, _, rfl, t124⟩
    | 66, hk => cases hk; exact ⟨_, rfl, rfl⟩
    | 67, hk => cases hk; exact ⟨_, rfl, Nat.le_of_ble_eq_true rfl, Nat.le_of_ble_eq_true rfl, ⟨_, rfl⟩, _, rfl, t144⟩
    | 68, hk => cases hk; exact ⟨_, rfl, Nat.le_of_ble_eq_true rfl, Nat.le_of_ble_eq_true rfl, ⟨_, rfl⟩, _, rfl, t145⟩
    | 69, hk => cases hk; exact ⟨_, rfl, Nat.le_of_ble_eq_true rfl, Nat.le_of_ble_eq_true rfl, ⟨_, rfl⟩, _, rfl, t146⟩
    | 70, hk => cases hk; exact ⟨_, rfl, rfl⟩
    | 71, hk => cases hk; exact ⟨_, rfl, rfl⟩
    | k + 72, hk => cases hk
  · simp only [List.map_cons, List.map_nil, h10, h102, h12, h41, h30, h42, h43, h44, h45, h46, h47, h32, h48, h36, h49, h34, h103, h125, h29, h104, h105, h106, h107, h108, h109, h110, h111, h112, h113, h114, h115, h116, h28, h126, h127, h128, h129, h130, h131, h132, h133, h134, h135, h136, h137, h138, h13, h18, h59, h60, h117, h118, h119, h120, h139, h140, h141, h142, h9, h23, h27, h25, h121, h122, h123, h124, h143, h144, h145, h146, h15, h3]
set_option maxRecDepth 100000 in
set_option maxHeartbeats 4000000 in
theorem cu_I_12_8 {X : ab_X} {z : ab_Z} {s : State} {ws : va_W} (hc : ∀ (k : Nat) (c : ab_C), k ∈ cu_KI → gl_L[k]? = some c → ∃ q, ws[k]? = some q ∧ ab_cR X z s c q.2) (hz : ws.map Prod.fst = z.2.2) (hl : ∃ ad, z.2.2[12]? = some ad ∧ cu_v ws 10 2 = .ref ad) (hs : ∃ ad, z.2.2[8]? = some ad ∧ cu_v ws 10 7 = .ref ad) : ∃ (g9 : Nat → Option Nat) (σ : ex_S) (A : ex_A) (we : va_W), ex_wR X A s (WI g9 σ) we ∧ ([10, 102, 12, 41, 30, 42, 43, 44, 45, 46, 47, 32, 48, 36, 49, 34, 103, 125, 29, 104, 105, 106, 107, 108, 109, 110, 111, 112, 113, 114, 115, 116, 28, 126, 127, 128, 129, 130, 131, 132, 133, 134, 135, 136, 137, 138, 13, 18, 59, 60, 117, 118, 119, 120, 139, 140, 141, 142, 8, 22, 26, 24, 121, 122, 123, 124, 143, 144, 145, 146, 15, 3] : List Nat).map (fun k => ws[k]?) = we.map some ∧ z.1[1]? = some (σ.1 3001) ∧ (g9 0 = some (A.1.getD 16 0) ∧ g9 1 = some (A.1.getD 17 0)) := by
  obtain ⟨⟨a10, e10⟩, h10, r10⟩ := hc 10 _ (by decide) rfl
  obtain ⟨⟨a102, e102⟩, h102, r102⟩ := hc 102 _ (by decide) rfl
  obtain ⟨⟨a12, e12⟩, h12, r12⟩ := hc 12 _ (by decide) rfl
  obtain ⟨⟨a41, e41⟩, h41, r41⟩ := hc 41 _ (by decide) rfl
  obtain ⟨⟨a30, e30⟩, h30, r30⟩ := hc 30 _ (by decide) rfl
  obtain ⟨⟨a42, e42⟩, h42, r42⟩ := hc 42 _ (by decide) rfl
  obtain ⟨⟨a43, e43⟩, h43, r43⟩ := hc 43 _ (by decide) rfl
  obtain ⟨⟨a44, e44⟩, h44, r44⟩ := hc 44 _ (by decide) rfl
  obtain ⟨⟨a45, e45⟩, h45, r45⟩ := hc 45 _ (by decide) rfl
  obtain ⟨⟨a46, e46⟩, h46, r46⟩ := hc 46 _ (by decide) rfl
  obtain ⟨⟨a47, e47⟩, h47, r47⟩ := hc 47 _ (by decide) rfl
  obtain ⟨⟨a32, e32⟩, h32, r32⟩ := hc 32 _ (by decide) rfl
  obtain ⟨⟨a48, e48⟩, h48, r48⟩ := hc 48 _ (by decide) rfl
  obtain ⟨⟨a36, e36⟩, h36, r36⟩ := hc 36 _ (by decide) rfl
  obtain ⟨⟨a49, e49⟩, h49, r49⟩ := hc 49 _ (by decide) rfl
  obtain ⟨⟨a34, e34⟩, h34, r34⟩ := hc 34 _ (by decide) rfl
  obtain ⟨⟨a103, e103⟩, h103, r103⟩ := hc 103 _ (by decide) rfl
  obtain ⟨⟨a125, e125⟩, h125, r125⟩ := hc 125 _ (by decide) rfl
  obtain ⟨⟨a29, e29⟩, h29, r29⟩ := hc 29 _ (by decide) rfl
  obtain ⟨⟨a104, e104⟩, h104, r104⟩ := hc 104 _ (by decide) rfl
  obtain ⟨⟨a105, e105⟩, h105, r105⟩ := hc 105 _ (by decide) rfl
  obtain ⟨⟨a106, e106⟩, h106, r106⟩ := hc 106 _ (by decide) rfl
  obtain ⟨⟨a107, e107⟩, h107, r107⟩ := hc 107 _ (by decide) rfl
  obtain ⟨⟨a108, e108⟩, h108, r108⟩ := hc 108 _ (by decide) rfl
  obtain ⟨⟨a109, e109⟩, h109, r109⟩ := hc 109 _ (by decide) rfl
  obtain ⟨⟨a110, e110⟩, h110, r110⟩ := hc 110 _ (by decide) rfl
  obtain ⟨⟨a111, e111⟩, h111, r111⟩ := hc 111 _ (by decide) rfl
  obtain ⟨⟨a112, e112⟩, h112, r112⟩ := hc 112 _ (by decide) rfl
  obtain ⟨⟨a113, e113⟩, h113, r113⟩ := hc 113 _ (by decide) rfl
  obtain ⟨⟨a114, e114⟩, h114, r114⟩ := hc 114 _ (by decide) rfl
  obtain ⟨⟨a115, e115⟩, h115, r115⟩ := hc 115 _ (by decide) rfl
  obtain ⟨⟨a116, e116⟩, h116, r116⟩ := hc 116 _ (by decide) rfl
  obtain ⟨⟨a28, e28⟩, h28, r28⟩ := hc 28 _ (by decide) rfl
  obtain ⟨⟨a126, e126⟩, h126, r126⟩ := hc 126 _ (by decide) rfl
  obtain ⟨⟨a127, e127⟩, h127, r127⟩ := hc 127 _ (by decide) rfl
  obtain ⟨⟨a128, e128⟩, h128, r128⟩ := hc 128 _ (by decide) rfl
  obtain ⟨⟨a129, e129⟩, h129, r129⟩ := hc 129 _ (by decide) rfl
  obtain ⟨⟨a130, e130⟩, h130, r130⟩ := hc 130 _ (by decide) rfl
  obtain ⟨⟨a131, e131⟩, h131, r131⟩ := hc 131 _ (by decide) rfl
  obtain ⟨⟨a132, e132⟩, h132, r132⟩ := hc 132 _ (by decide) rfl
  obtain ⟨⟨a133, e133⟩, h133, r133⟩ := hc 133 _ (by decide) rfl
  obtain ⟨⟨a134, e134⟩, h134, r134⟩ := hc 134 _ (by decide) rfl
  obtain ⟨⟨a135, e135⟩, h135, r135⟩ := hc 135 _ (by decide) rfl
  obtain ⟨⟨a136, e136⟩, h136, r136⟩ := hc 136 _ (by decide) rfl
  obtain ⟨⟨a137, e137⟩, h137, r137⟩ := hc 137 _ (by decide) rfl
  obtain ⟨⟨a138, e138⟩, h138, r138⟩ := hc 138 _ (by decide) rfl
  obtain ⟨⟨a13, e13⟩, h13, r13⟩ := hc 13 _ (by decide) rfl
  obtain ⟨⟨a18, e18⟩, h18, r18⟩ := hc 18 _ (by decide) rfl
  obtain ⟨⟨a59, e59⟩, h59, r59⟩ := hc 59 _ (by decide) rfl
  obtain ⟨⟨a60, e60⟩, h60, r60⟩ := hc 60 _ (by decide) rfl
  obtain ⟨⟨a117, e117⟩, h117, r117⟩ := hc 117 _ (by decide) rfl
  obtain ⟨⟨a118, e118⟩, h118, r118⟩ := hc 118 _ (by decide) rfl
  obtain ⟨⟨a119, e119⟩, h119, r119⟩ := hc 119 _ (by decide) rfl
  obtain ⟨⟨a120, e120⟩, h120, r120⟩ := hc 120 _ (by decide) rfl
  obtain ⟨⟨a139, e139⟩, h139, r139⟩ := hc 139 _ (by decide) rfl
  obtain ⟨⟨a140, e140⟩, h140, r140⟩ := hc 140 _ (by decide) rfl
  obtain ⟨⟨a141, e141⟩, h141, r141⟩ := hc 141 _ (by decide) rfl
  obtain ⟨⟨a142, e142⟩, h142, r142⟩ := hc 142 _ (by decide) rfl
  obtain ⟨⟨a8, e8⟩, h8, r8⟩ := hc 8 _ (by decide) rfl
  obtain ⟨⟨a22, e22⟩, h22, r22⟩ := hc 22 _ (by decide) rfl
  obtain ⟨⟨a26, e26⟩, h26, r26⟩ := hc 26 _ (by decide) rfl
  obtain ⟨⟨a24, e24⟩, h24, r24⟩ := hc 24 _ (by decide) rfl
  obtain ⟨⟨a121, e121⟩, h121, r121⟩ := hc 121 _ (by decide) rfl
  obtain ⟨⟨a122, e122⟩, h122, r122⟩ := hc 122 _ (by decide) rfl
  obtain ⟨⟨a123, e123⟩, h123, r123⟩ := hc 123 _ (by decide) rfl
  obtain ⟨⟨a124, e124⟩, h124, r124⟩ := hc 124 _ (by decide) rfl
  obtain ⟨⟨a143, e143⟩, h143, r143⟩ := hc 143 _ (by decide) rfl
  obtain ⟨⟨a144, e144⟩, h144, r144⟩ := hc 144 _ (by decide) rfl
  obtain ⟨⟨a145, e145⟩, h145, r145⟩ := hc 145 _ (by decide) rfl
  obtain ⟨⟨a146, e146⟩, h146, r146⟩ := hc 146 _ (by decide) rfl
  obtain ⟨⟨a15, e15⟩, h15, r15⟩ := hc 15 _ (by decide) rfl
  obtain ⟨⟨a3, e3⟩, h3, r3⟩ := hc 3 _ (by decide) rfl
  obtain ⟨cA102, x102, f102, ⟨y102, g102⟩, t102, o102⟩ := r102
  dsimp only at f102
  subst f102 g102
  obtain ⟨cA41, x41, f41, ⟨y41, g41⟩, t41, -⟩ := r41
  dsimp only at f41
  subst f41 g41
  obtain ⟨cA30, x30, f30, ⟨y30, g30⟩, t30, -⟩ := r30
  dsimp only at f30
  subst f30 g30
  obtain ⟨cA42, x42, f42, ⟨y42, g42⟩, t42, -⟩ := r42
  dsimp only at f42
  subst f42 g42
  obtain ⟨cA43, x43, f43, ⟨y43, g43⟩, t43, -⟩ := r43
  dsimp only at f43
  subst f43 g43
  obtain ⟨cA44, x44, f44, ⟨y44, g44⟩, t44, -⟩ := r44
  dsimp only at f44
  subst f44 g44
  obtain ⟨cA45, x45, f45, ⟨y45, g45⟩, t45, -⟩ := r45
  dsimp only at f45
  subst f45 g45
  obtain ⟨cA46, x46, f46, ⟨y46, g46⟩, t46, -⟩ := r46
  dsimp only at f46
  subst f46 g46
  obtain ⟨cA47, x47, f47, ⟨y47, g47⟩, t47, -⟩ := r47
  dsimp only at f47
  subst f47 g47
  obtain ⟨cA32, x32, f32, ⟨y32, g32⟩, t32, -⟩ := r32
  dsimp only at f32
  subst f32 g32
  obtain ⟨cA48, x48, f48, ⟨y48, g48⟩, t48, -⟩ := r48
  dsimp only at f48
  subst f48 g48
  obtain ⟨cA36, x36, f36, ⟨y36, g36⟩, t36, -⟩ := r36
  dsimp only at f36
  subst f36 g36
  obtain ⟨cA49, x49, f49, ⟨y49, g49⟩, t49, -⟩ := r49
  dsimp only at f49
  subst f49 g49
  obtain ⟨cA34, x34, f34, ⟨y34, g34⟩, t34, -⟩ := r34
  dsimp only at f34
  subst f34 g34
  obtain ⟨cA104, x104, f104, ⟨y104, g104⟩, t104, -⟩ := r104
  dsimp only at f104
  subst f104 g104
  obtain ⟨cA105, x105, f105, ⟨y105, g105⟩, t105, -⟩ := r105
  dsimp only at f105
  subst f105 g105
  obtain ⟨cA106, x106, f106, ⟨y106, g106⟩, t106, -⟩ := r106
  dsimp only at f106
  subst f106 g106
  obtain ⟨cA107, x107, f107, ⟨y107, g107⟩, t107, -⟩ := r107
  dsimp only at f107
  subst f107 g107
  obtain ⟨cA108, x108, f108, ⟨y108, g108⟩, t108, -⟩ := r108
  dsimp only at f108
  subst f108 g108
  obtain ⟨cA109, x109, f109, ⟨y109, g109⟩, t109, -⟩ := r109
  dsimp only at f109
  subst f109 g109
  obtain ⟨cA110, x110, f110, ⟨y110, g110⟩, t110, -⟩ := r110
  dsimp only at f110
  subst f110 g110
  obtain ⟨cA111, x111, f111, ⟨y111, g111⟩, t111, -⟩ := r111
  dsimp only at f111
  subst f111 g111
  obtain ⟨cA112, x112, f112, ⟨y112, g112⟩, t112, -⟩ := r112
  dsimp only at f112
  subst f112 g112
  obtain ⟨cA113, x113, f113, ⟨y113, g113⟩, t113, -⟩ := r113
  dsimp only at f113
  subst f113 g113
  obtain ⟨cA114, x114, f114, ⟨y114, g114⟩, t114, -⟩ := r114
  dsimp only at f114
  subst f114 g114
  obtain ⟨cA115, x115, f115, ⟨y115, g115⟩, t115, -⟩ := r115
  dsimp only at f115
  subst f115 g115
  obtain ⟨cA116, x116, f116, ⟨y116, g116⟩, t116, -⟩ := r116
  dsimp only at f116
  subst f116 g116
  obtain ⟨cA126, x126, f126, ⟨y126, g126⟩, t126, -⟩ := r126
  dsimp only at f126
  subst f126 g126
  obtain ⟨cA127, x127, f127, ⟨y127, g127⟩, t127, -⟩ := r127
  dsimp only at f127
  subst f127 g127
  obtain ⟨cA128, x128, f128, ⟨y128, g128⟩, t128, -⟩ := r128
  dsimp only at f128
  subst f128 g128
  obtain ⟨cA129, x129, f129, ⟨y129, g129⟩, t129, -⟩ := r129
  dsimp only at f129
  subst f129 g129
  obtain ⟨cA130, x130, f130, ⟨y130, g130⟩, t130, -⟩ := r130
  dsimp only at f130
  subst f130 g130
  obtain ⟨cA131, x131, f131, ⟨y131, g131⟩, t131, -⟩ := r131
  dsimp only at f131
  subst f131 g131
  obtain ⟨cA132, x132, f132, ⟨y132, g132⟩, t132, -⟩ := r132
  dsimp only at f132
  subst f132 g132
  obtain ⟨cA133, x133, f133, ⟨y133, g133⟩, t133, -⟩ := r133
  dsimp only at f133
  subst f133 g133
  obtain ⟨cA134, x134, f134, ⟨y134, g134⟩, t134, -⟩ := r134
  dsimp only at f134
  subst f134 g134
  obtain ⟨cA135, x135, f135, ⟨y135, g135⟩, t135, -⟩ := r135
  dsimp only at f135
  subst f135 g135
  obtain ⟨cA136, x136, f136, ⟨y136, g136⟩, t136, -⟩ := r136
  dsimp only at f136
  subst f136 g136
  obtain ⟨cA137, x137, f137, ⟨y137, g137⟩, t137, -⟩ := r137
  dsimp only at f137
  subst f137 g137
  obtain ⟨cA138, x138, f138, ⟨y138, g138⟩, t138, -⟩ := r138
  dsimp only at f138
  subst f138 g138
  obtain ⟨cA18, x18, f18, ⟨y18, g18⟩, t18, -⟩ := r18
  dsimp only at f18
  subst f18 g18
  obtain ⟨cA59, x59, f59, ⟨y59, g59⟩, t59, -⟩ := r59
  dsimp only at f59
  subst f59 g59
  obtain ⟨cA60, x60, f60, ⟨y60, g60⟩, t60, -⟩ := r60
  dsimp only at f60
  subst f60 g60
  obtain ⟨cA118, x118, f118, ⟨y118, g118⟩, t118, -⟩ := r118
  dsimp only at f118
  subst f118 g118
  obtain ⟨cA119, x119, f119, ⟨y119, g119⟩, t119, -⟩ := r119
  dsimp only at f119
  subst f119 g119
  obtain ⟨cA120, x120, f120, ⟨y120, g120⟩, t120, -⟩ := r120
  dsimp only at f120
  subst f120 g120
  obtain ⟨cA140, x140, f140, ⟨y140, g140⟩, t140, -⟩ := r140
  dsimp only at f140
  subst f140 g140
  obtain ⟨cA141, x141, f141, ⟨y141, g141⟩, t141, -⟩ := r141
  dsimp only at f141
  subst f141 g141
  obtain ⟨cA142, x142, f142, ⟨y142, g142⟩, t142, -⟩ := r142
  dsimp only at f142
  subst f142 g142
  obtain ⟨cA22, x22, f22, ⟨y22, g22⟩, t22, -⟩ := r22
  dsimp only at f22
  subst f22 g22
  obtain ⟨cA26, x26, f26, ⟨y26, g26⟩, t26, -⟩ := r26
  dsimp only at f26
  subst f26 g26
  obtain ⟨cA24, x24, f24, ⟨y24, g24⟩, t24, -⟩ := r24
  dsimp only at f24
  subst f24 g24
  obtain ⟨cA122, x122, f122, ⟨y122, g122⟩, t122, -⟩ := r122
  dsimp only at f122
  subst f122 g122
  obtain ⟨cA123, x123, f123, ⟨y123, g123⟩, t123, -⟩ := r123
  dsimp only at f123
  subst f123 g123
  obtain ⟨cA124, x124, f124, ⟨y124, g124⟩, t124, -⟩ := r124
  dsimp only at f124
  subst f124 g124
  obtain ⟨cA144, x144, f144, ⟨y144, g144⟩, t144, -⟩ := r144
  dsimp only at f144
  subst f144 g144
  obtain ⟨cA145, x145, f145, ⟨y145, g145⟩, t145, -⟩ := r145
  dsimp only at f145
  subst f145 g145
  obtain ⟨cA146, x146, f146, ⟨y146, g146⟩, t146, -⟩ := r146
  dsimp only at f146
  subst f146 g146
  obtain ⟨vs10, f10, l10, w10⟩ := r10
  dsimp only at f10
  subst f10
  obtain ⟨u10_0, s10_0, rfl, m10_0⟩ := cu_c l10
  obtain ⟨u10_1, s10_1, rfl, m10_1⟩ := cu_c m10_0
  obtain ⟨u10_2, s10_2, rfl, m10_2⟩ := cu_c m10_1
  obtain ⟨u10_3, s10_3, rfl, m10_3⟩ := cu_c m10_2
  obtain ⟨u10_4, s10_4, rfl, m10_4⟩ := cu_c m10_3
  obtain ⟨u10_5, s10_5, rfl, m10_5⟩ := cu_c m10_4
  obtain ⟨u10_6, s10_6, rfl, m10_6⟩ := cu_c m10_5
  obtain ⟨u10_7, s10_7, rfl, m10_7⟩ := cu_c m10_6
  obtain ⟨u10_8, s10_8, rfl, m10_8⟩ := cu_c m10_7
  obtain ⟨u10_9, s10_9, rfl, m10_9⟩ := cu_c m10_8
  obtain ⟨u10_10, s10_10, rfl, m10_10⟩ := cu_c m10_9
  obtain ⟨u10_11, s10_11, rfl, m10_11⟩ := cu_c m10_10
  obtain ⟨u10_12, s10_12, rfl, m10_12⟩ := cu_c m10_11
  obtain ⟨u10_13, s10_13, rfl, m10_13⟩ := cu_c m10_12
  obtain ⟨u10_14, s10_14, rfl, m10_14⟩ := cu_c m10_13
  obtain ⟨u10_15, s10_15, rfl, m10_15⟩ := cu_c m10_14
  obtain ⟨u10_16, s10_16, rfl, m10_16⟩ := cu_c m10_15
  cases cu_n m10_16
  have q10_0 := cu_R (cu_ad hz h3) (w10 0 _ _ rfl rfl)
  subst q10_0
  obtain ⟨i10_1, q10_1⟩ := cu_Rx (w10 1 _ _ rfl rfl)
  subst q10_1
  have q10_2 : u10_2 = .ref a12 := by
    obtain ⟨ad, e1, e2⟩ := hl
    have e3 := e1.symm.trans (cu_ad hz h12)
    cases e3
    rw [cu_v_of h10] at e2
    exact e2
  subst q10_2
  obtain ⟨i10_3, q10_3⟩ := cu_Rx (w10 3 _ _ rfl rfl)
  subst q10_3
  have q10_4 := cu_R (cu_ad hz h13) (w10 4 _ _ rfl rfl)
  subst q10_4
  obtain ⟨i10_5, q10_5⟩ := cu_Rx (w10 5 _ _ rfl rfl)
  subst q10_5
  have q10_6 := cu_R (cu_ad hz h15) (w10 6 _ _ rfl rfl)
  subst q10_6
  have q10_7 : u10_7 = .ref a8 := by
    obtain ⟨ad, e1, e2⟩ := hs
    have e3 := e1.symm.trans (cu_ad hz h8)
    cases e3
    rw [cu_v_of h10] at e2
    exact e2
  subst q10_7
  obtain ⟨i10_8, q10_8⟩ := cu_Rx (w10 8 _ _ rfl rfl)
  subst q10_8
  obtain ⟨i10_9, q10_9⟩ := cu_Rx (w10 9 _ _ rfl rfl)
  subst q10_9
  obtain ⟨i10_10, q10_10⟩ := cu_Rx (w10 10 _ _ rfl rfl)
  subst q10_10
  obtain ⟨i10_11, q10_11⟩ := cu_Rx (w10 11 _ _ rfl rfl)
  subst q10_11
  have q10_12 := cu_R (cu_ad hz h102) (w10 12 _ _ rfl rfl)
  subst q10_12
  obtain ⟨i10_13, q10_13⟩ := cu_Rx (w10 13 _ _ rfl rfl)
  subst q10_13
  obtain ⟨i10_14, q10_14⟩ := cu_I (w10 14 _ _ rfl rfl) rfl
  subst q10_14
  obtain ⟨i10_15, q10_15⟩ := cu_Rx (w10 15 _ _ rfl rfl)
  subst q10_15
  obtain ⟨i10_16, q10_16⟩ := cu_I (w10 16 _ _ rfl rfl) rfl
  subst q10_16
  obtain ⟨vs12, f12, l12, w12⟩ := r12
  dsimp only at f12
  subst f12
  obtain ⟨u12_0, s12_0, rfl, m12_0⟩ := cu_c l12
  obtain ⟨u12_1, s12_1, rfl, m12_1⟩ := cu_c m12_0
  obtain ⟨u12_2, s12_2, rfl, m12_2⟩ := cu_c m12_1
  obtain ⟨u12_3, s12_3, rfl, m12_3⟩ := cu_c m12_2
  obtain ⟨u12_4, s12_4, rfl, m12_4⟩ := cu_c m12_3
  obtain ⟨u12_5, s12_5, rfl, m12_5⟩ := cu_c m12_4
  obtain ⟨u12_6, s12_6, rfl, m12_6⟩ := cu_c m12_5
  obtain ⟨u12_7, s12_7, rfl, m12_7⟩ := cu_c m12_6
  obtain ⟨u12_8, s12_8, rfl, m12_8⟩ := cu_c m12_7
  obtain ⟨u12_9, s12_9, rfl, m12_9⟩ := cu_c m12_8
  obtain ⟨u12_10, s12_10, rfl, m12_10⟩ := cu_c m12_9
  obtain ⟨u12_11, s12_11, rfl, m12_11⟩ := cu_c m12_10
  obtain ⟨u12_12, s12_12, rfl, m12_12⟩ := cu_c m12_11
  obtain ⟨u12_13, s12_13, rfl, m12_13⟩ := cu_c m12_12
  obtain ⟨u12_14, s12_14, rfl, m12_14⟩ := cu_c m12_13
  obtain ⟨u12_15, s12_15, rfl, m12_15⟩ := cu_c m12_14
  cases cu_n m12_15
  obtain ⟨i12_0, q12_0⟩ := cu_I (w12 0 _ _ rfl rfl) rfl
  subst q12_0
  have q12_1 := cu_R (cu_ad hz h41) (w12 1 _ _ rfl rfl)
  subst q12_1
  have q12_2 := cu_R (cu_ad hz h30) (w12 2 _ _ rfl rfl)
  subst q12_2
  have q12_3 := cu_R (cu_ad hz h42) (w12 3 _ _ rfl rfl)
  subst q12_3
  obtain ⟨i12_4, q12_4⟩ := cu_I (w12 4 _ _ rfl rfl) rfl
  subst q12_4
  have q12_5 := cu_R (cu_ad hz h43) (w12 5 _ _ rfl rfl)
  subst q12_5
  have q12_6 := cu_R (cu_ad hz h44) (w12 6 _ _ rfl rfl)
  subst q12_6
  have q12_7 := cu_R (cu_ad hz h45) (w12 7 _ _ rfl rfl)
  subst q12_7
  have q12_8 := cu_R (cu_ad hz h46) (w12 8 _ _ rfl rfl)
  subst q12_8
  obtain ⟨i12_9, q12_9⟩ := cu_I (w12 9 _ _ rfl rfl) rfl
  subst q12_9
  have q12_10 := cu_R (cu_ad hz h47) (w12 10 _ _ rfl rfl)
  subst q12_10
  have q12_11 := cu_R (cu_ad hz h32) (w12 11 _ _ rfl rfl)
  subst q12_11
  have q12_12 := cu_R (cu_ad hz h48) (w12 12 _ _ rfl rfl)
  subst q12_12
  have q12_13 := cu_R (cu_ad hz h36) (w12 13 _ _ rfl rfl)
  subst q12_13
  have q12_14 := cu_R (cu_ad hz h49) (w12 14 _ _ rfl rfl)
  subst q12_14
  have q12_15 := cu_R (cu_ad hz h34) (w12 15 _ _ rfl rfl)
  subst q12_15
  obtain ⟨vs103, f103, l103, w103⟩ := r103
  dsimp only at f103
  subst f103
  obtain ⟨u103_0, s103_0, rfl, m103_0⟩ := cu_c l103
  obtain ⟨u103_1, s103_1, rfl, m103_1⟩ := cu_c m103_0
  obtain ⟨u103_2, s103_2, rfl, m103_2⟩ := cu_c m103_1
  obtain ⟨u103_3, s103_3, rfl, m103_3⟩ := cu_c m103_2
  cases cu_n m103_3
  have q103_0 := cu_R (cu_ad hz h29) (w103 0 _ _ rfl rfl)
  subst q103_0
  have q103_1 := cu_R (cu_ad hz h117) (w103 1 _ _ rfl rfl)
  subst q103_1
  have q103_2 := cu_R (cu_ad hz h121) (w103 2 _ _ rfl rfl)
  subst q103_2
  obtain ⟨i103_3, q103_3⟩ := cu_I (w103 3 _ _ rfl rfl) rfl
  subst q103_3
  obtain ⟨vs125, f125, l125, w125⟩ := r125
  dsimp only at f125
  subst f125
  obtain ⟨u125_0, s125_0, rfl, m125_0⟩ := cu_c l125
  obtain ⟨u125_1, s125_1, rfl, m125_1⟩ := cu_c m125_0
  obtain ⟨u125_2, s125_2, rfl, m125_2⟩ := cu_c m125_1
  obtain ⟨u125_3, s125_3, rfl, m125_3⟩ := cu_c m125_2
  cases cu_n m125_3
  have q125_0 := cu_R (cu_ad hz h28) (w125 0 _ _ rfl rfl)
  subst q125_0
  have q125_1 := cu_R (cu_ad hz h139) (w125 1 _ _ rfl rfl)
  subst q125_1
  have q125_2 := cu_R (cu_ad hz h143) (w125 2 _ _ rfl rfl)
  subst q125_2
  obtain ⟨i125_3, q125_3⟩ := cu_I (w125 3 _ _ rfl rfl) rfl
  subst q125_3
  obtain ⟨vs29, f29, l29, w29⟩ := r29
  dsimp only at f29
  subst f29
  obtain ⟨u29_0, s29_0, rfl, m29_0⟩ := cu_c l29
  obtain ⟨u29_1, s29_1, rfl, m29_1⟩ := cu_c m29_0
  obtain ⟨u29_2, s29_2, rfl, m29_2⟩ := cu_c m29_1
  obtain ⟨u29_3, s29_3, rfl, m29_3⟩ := cu_c m29_2
  obtain ⟨u29_4, s29_4, rfl, m29_4⟩ := cu_c m29_3
  obtain ⟨u29_5, s29_5, rfl, m29_5⟩ := cu_c m29_4
  obtain ⟨u29_6, s29_6, rfl, m29_6⟩ := cu_c m29_5
  obtain ⟨u29_7, s29_7, rfl, m29_7⟩ := cu_c m29_6
  obtain ⟨u29_8, s29_8, rfl, m29_8⟩ := cu_c m29_7
  obtain ⟨u29_9, s29_9, rfl, m29_9⟩ := cu_c m29_8
  obtain ⟨u29_10, s29_10, rfl, m29_10⟩ := cu_c m29_9
  obtain ⟨u29_11, s29_11, rfl, m29_11⟩ := cu_c m29_10
  obtain ⟨u29_12, s29_12, rfl, m29_12⟩ := cu_c m29_11
  obtain ⟨u29_13, s29_13, rfl, m29_13⟩ := cu_c m29_12
  obtain ⟨u29_14, s29_14, rfl, m29_14⟩ := cu_c m29_13
  obtain ⟨u29_15, s29_15, rfl, m29_15⟩ := cu_c m29_14
  cases cu_n m29_15
  obtain ⟨i29_0, q29_0⟩ := cu_I (w29 0 _ _ rfl rfl) rfl
  subst q29_0
  have q29_1 := cu_R (cu_ad hz h104) (w29 1 _ _ rfl rfl)
  subst q29_1
  have q29_2 := cu_R (cu_ad hz h105) (w29 2 _ _ rfl rfl)
  subst q29_2
  have q29_3 := cu_R (cu_ad hz h106) (w29 3 _ _ rfl rfl)
  subst q29_3
  obtain ⟨i29_4, q29_4⟩ := cu_I (w29 4 _ _ rfl rfl) rfl
  subst q29_4
  have q29_5 := cu_R (cu_ad hz h107) (w29 5 _ _ rfl rfl)
  subst q29_5
  have q29_6 := cu_R (cu_ad hz h108) (w29 6 _ _ rfl rfl)
  subst q29_6
  have q29_7 := cu_R (cu_ad hz h109) (w29 7 _ _ rfl rfl)
  subst q29_7
  have q29_8 := cu_R (cu_ad hz h110) (w29 8 _ _ rfl rfl)
  subst q29_8
  obtain ⟨i29_9, q29_9⟩ := cu_I (w29 9 _ _ rfl rfl) rfl
  subst q29_9
  have q29_10 := cu_R (cu_ad hz h111) (w29 10 _ _ rfl rfl)
  subst q29_10
  have q29_11 := cu_R (cu_ad hz h112) (w29 11 _ _ rfl rfl)
  subst q29_11
  have q29_12 := cu_R (cu_ad hz h113) (w29 12 _ _ rfl rfl)
  subst q29_12
  have q29_13 := cu_R (cu_ad hz h114) (w29 13 _ _ rfl rfl)
  subst q29_13
  have q29_14 := cu_R (cu_ad hz h115) (w29 14 _ _ rfl rfl)
  subst q29_14
  have q29_15 := cu_R (cu_ad hz h116) (w29 15 _ _ rfl rfl)
  subst q29_15
  obtain ⟨vs28, f28, l28, w28⟩ := r28
  dsimp only at f28
  subst f28
  obtain ⟨u28_0, s28_0, rfl, m28_0⟩ := cu_c l28
  obtain ⟨u28_1, s28_1, rfl, m28_1⟩ := cu_c m28_0
  obtain ⟨u28_2, s28_2, rfl, m28_2⟩ := cu_c m28_1
  obtain ⟨u28_3, s28_3, rfl, m28_3⟩ := cu_c m28_2
  obtain ⟨u28_4, s28_4, rfl, m28_4⟩ := cu_c m28_3
  obtain ⟨u28_5, s28_5, rfl, m28_5⟩ := cu_c m28_4
  obtain ⟨u28_6, s28_6, rfl, m28_6⟩ := cu_c m28_5
  obtain ⟨u28_7, s28_7, rfl, m28_7⟩ := cu_c m28_6
  obtain ⟨u28_8, s28_8, rfl, m28_8⟩ := cu_c m28_7
  obtain ⟨u28_9, s28_9, rfl, m28_9⟩ := cu_c m28_8
  obtain ⟨u28_10, s28_10, rfl, m28_10⟩ := cu_c m28_9
  obtain ⟨u28_11, s28_11, rfl, m28_11⟩ := cu_c m28_10
  obtain ⟨u28_12, s28_12, rfl, m28_12⟩ := cu_c m28_11
  obtain ⟨u28_13, s28_13, rfl, m28_13⟩ := cu_c m28_12
  obtain ⟨u28_14, s28_14, rfl, m28_14⟩ := cu_c m28_13
  obtain ⟨u28_15, s28_15, rfl, m28_15⟩ := cu_c m28_14
  cases cu_n m28_15
  obtain ⟨i28_0, q28_0⟩ := cu_I (w28 0 _ _ rfl rfl) rfl
  subst q28_0
  have q28_1 := cu_R (cu_ad hz h126) (w28 1 _ _ rfl rfl)
  subst q28_1
  have q28_2 := cu_R (cu_ad hz h127) (w28 2 _ _ rfl rfl)
  subst q28_2
  have q28_3 := cu_R (cu_ad hz h128) (w28 3 _ _ rfl rfl)
  subst q28_3
  obtain ⟨i28_4, q28_4⟩ := cu_I (w28 4 _ _ rfl rfl) rfl
  subst q28_4
  have q28_5 := cu_R (cu_ad hz h129) (w28 5 _ _ rfl rfl)
  subst q28_5
  have q28_6 := cu_R (cu_ad hz h130) (w28 6 _ _ rfl rfl)
  subst q28_6
  have q28_7 := cu_R (cu_ad hz h131) (w28 7 _ _ rfl rfl)
  subst q28_7
  have q28_8 := cu_R (cu_ad hz h132) (w28 8 _ _ rfl rfl)
  subst q28_8
  obtain ⟨i28_9, q28_9⟩ := cu_I (w28 9 _ _ rfl rfl) rfl
  subst q28_9
  have q28_10 := cu_R (cu_ad hz h133) (w28 10 _ _ rfl rfl)
  subst q28_10
  have q28_11 := cu_R (cu_ad hz h134) (w28 11 _ _ rfl rfl)
  subst q28_11
  have q28_12 := cu_R (cu_ad hz h135) (w28 12 _ _ rfl rfl)
  subst q28_12
  have q28_13 := cu_R (cu_ad hz h136) (w28 13 _ _ rfl rfl)
  subst q28_13
  have q28_14 := cu_R (cu_ad hz h137) (w28 14 _ _ rfl rfl)
  subst q28_14
  have q28_15 := cu_R (cu_ad hz h138) (w28 15 _ _ rfl rfl)
  subst q28_15
  obtain ⟨vs13, f13, l13, w13⟩ := r13
  dsimp only at f13
  subst f13
  obtain ⟨u13_0, s13_0, rfl, m13_0⟩ := cu_c l13
  obtain ⟨u13_1, s13_1, rfl, m13_1⟩ := cu_c m13_0
  obtain ⟨u13_2, s13_2, rfl, m13_2⟩ := cu_c m13_1
  obtain ⟨u13_3, s13_3, rfl, m13_3⟩ := cu_c m13_2
  obtain ⟨u13_4, s13_4, rfl, m13_4⟩ := cu_c m13_3
  obtain ⟨u13_5, s13_5, rfl, m13_5⟩ := cu_c m13_4
  obtain ⟨u13_6, s13_6, rfl, m13_6⟩ := cu_c m13_5
  cases cu_n m13_6
  obtain ⟨i13_0, q13_0⟩ := cu_I (w13 0 _ _ rfl rfl) rfl
  subst q13_0
  obtain ⟨i13_1, q13_1⟩ := cu_I (w13 1 _ _ rfl rfl) rfl
  subst q13_1
  obtain ⟨i13_2, q13_2⟩ := cu_I (w13 2 _ _ rfl rfl) rfl
  subst q13_2
  have q13_3 := cu_R (cu_ad hz h18) (w13 3 _ _ rfl rfl)
  subst q13_3
  have q13_4 := cu_R (cu_ad hz h59) (w13 4 _ _ rfl rfl)
  subst q13_4
  have q13_5 := cu_R (cu_ad hz h60) (w13 5 _ _ rfl rfl)
  subst q13_5
  obtain ⟨i13_6, q13_6⟩ := cu_I (w13 6 _ _ rfl rfl) rfl
  subst q13_6
  obtain ⟨vs117, f117, l117, w117⟩ := r117
  dsimp only at f117
  subst f117
  obtain ⟨u117_0, s117_0, rfl, m117_0⟩ := cu_c l117
  obtain ⟨u117_1, s117_1, rfl, m117_1⟩ := cu_c m117_0
  obtain ⟨u117_2, s117_2, rfl, m117_2⟩ := cu_c m117_1
  obtain ⟨u117_3, s117_3, rfl, m117_3⟩ := cu_c m117_2
  obtain ⟨u117_4, s117_4, rfl, m117_4⟩ := cu_c m117_3
  obtain ⟨u117_5, s117_5, rfl, m117_5⟩ := cu_c m117_4
  obtain ⟨u117_6, s117_6, rfl, m117_6⟩ := cu_c m117_5
  cases cu_n m117_6
  obtain ⟨i117_0, q117_0⟩ := cu_I (w117 0 _ _ rfl rfl) rfl
  subst q117_0
  obtain ⟨i117_1, q117_1⟩ := cu_I (w117 1 _ _ rfl rfl) rfl
  subst q117_1
  obtain ⟨i117_2, q117_2⟩ := cu_I (w117 2 _ _ rfl rfl) rfl
  subst q117_2
  have q117_3 := cu_R (cu_ad hz h118) (w117 3 _ _ rfl rfl)
  subst q117_3
  have q117_4 := cu_R (cu_ad hz h119) (w117 4 _ _ rfl rfl)
  subst q117_4
  have q117_5 := cu_R (cu_ad hz h120) (w117 5 _ _ rfl rfl)
  subst q117_5
  obtain ⟨i117_6, q117_6⟩ := cu_I (w117 6 _ _ rfl rfl) rfl
  subst q117_6
  obtain ⟨vs139, f139, l139, w139⟩ := r139
  dsimp only at f139
  subst f139
  obtain ⟨u139_0, s139_0, rfl, m139_0⟩ := cu_c l139
  obtain ⟨u139_1, s139_1, rfl, m139_1⟩ := cu_c m139_0
  obtain ⟨u139_2, s139_2, rfl, m139_2⟩ := cu_c m139_1
  obtain ⟨u139_3, s139_3, rfl, m139_3⟩ := cu_c m139_2
  obtain ⟨u139_4, s139_4, rfl, m139_4⟩ := cu_c m139_3
  obtain ⟨u139_5, s139_5, rfl, m139_5⟩ := cu_c m139_4
  obtain ⟨u139_6, s139_6, rfl, m139_6⟩ := cu_c m139_5
  cases cu_n m139_6
  obtain ⟨i139_0, q139_0⟩ := cu_I (w139 0 _ _ rfl rfl) rfl
  subst q139_0
  obtain ⟨i139_1, q139_1⟩ := cu_I (w139 1 _ _ rfl rfl) rfl
  subst q139_1
  obtain ⟨i139_2, q139_2⟩ := cu_I (w139 2 _ _ rfl rfl) rfl
  subst q139_2
  have q139_3 := cu_R (cu_ad hz h140) (w139 3 _ _ rfl rfl)
  subst q139_3
  have q139_4 := cu_R (cu_ad hz h141) (w139 4 _ _ rfl rfl)
  subst q139_4
  have q139_5 := cu_R (cu_ad hz h142) (w139 5 _ _ rfl rfl)
  subst q139_5
  obtain ⟨i139_6, q139_6⟩ := cu_I (w139 6 _ _ rfl rfl) rfl
  subst q139_6
  obtain ⟨vs8, f8, l8, w8⟩ := r8
  dsimp only at f8
  subst f8
  obtain ⟨u8_0, s8_0, rfl, m8_0⟩ := cu_c l8
  obtain ⟨u8_1, s8_1, rfl, m8_1⟩ := cu_c m8_0
  obtain ⟨u8_2, s8_2, rfl, m8_2⟩ := cu_c m8_1
  obtain ⟨u8_3, s8_3, rfl, m8_3⟩ := cu_c m8_2
  obtain ⟨u8_4, s8_4, rfl, m8_4⟩ := cu_c m8_3
  cases cu_n m8_4
  have q8_0 := cu_R (cu_ad hz h22) (w8 0 _ _ rfl rfl)
  subst q8_0
  have q8_1 := cu_R (cu_ad hz h26) (w8 1 _ _ rfl rfl)
  subst q8_1
  have q8_2 := cu_R (cu_ad hz h24) (w8 2 _ _ rfl rfl)
  subst q8_2
  obtain ⟨i8_3, q8_3⟩ := cu_I (w8 3 _ _ rfl rfl) rfl
  subst q8_3
  obtain ⟨i8_4, q8_4⟩ := cu_I (w8 4 _ _ rfl rfl) rfl
  subst q8_4
  obtain ⟨vs121, f121, l121, w121⟩ := r121
  dsimp only at f121
  subst f121
  obtain ⟨u121_0, s121_0, rfl, m121_0⟩ := cu_c l121
  obtain ⟨u121_1, s121_1, rfl, m121_1⟩ := cu_c m121_0
  obtain ⟨u121_2, s121_2, rfl, m121_2⟩ := cu_c m121_1
  obtain ⟨u121_3, s121_3, rfl, m121_3⟩ := cu_c m121_2
  obtain ⟨u121_4, s121_4, rfl, m121_4⟩ := cu_c m121_3
  cases cu_n m121_4
  have q121_0 := cu_R (cu_ad hz h122) (w121 0 _ _ rfl rfl)
  subst q121_0
  have q121_1 := cu_R (cu_ad hz h123) (w121 1 _ _ rfl rfl)
  subst q121_1
  have q121_2 := cu_R (cu_ad hz h124) (w121 2 _ _ rfl rfl)
  subst q121_2
  obtain ⟨i121_3, q121_3⟩ := cu_I (w121 3 _ _ rfl rfl) rfl
  subst q121_3
  obtain ⟨i121_4, q121_4⟩ := cu_I (w121 4 _ _ rfl rfl) rfl
  subst q121_4
  obtain ⟨vs143, f143, l143, w143⟩ := r143
  dsimp only at f143
  subst f143
  obtain ⟨u143_0, s143_0, rfl, m143_0⟩ := cu_c l143
  obtain ⟨u143_1, s143_1, rfl, m143_1⟩ := cu_c m143_0
  obtain ⟨u143_2, s143_2, rfl, m143_2⟩ := cu_c m143_1
  obtain ⟨u143_3, s143_3, rfl, m143_3⟩ := cu_c m143_2
  obtain ⟨u143_4, s143_4, rfl, m143_4⟩ := cu_c m143_3
  cases cu_n m143_4
  have q143_0 := cu_R (cu_ad hz h144) (w143 0 _ _ rfl rfl)
  subst q143_0
  have q143_1 := cu_R (cu_ad hz h145) (w143 1 _ _ rfl rfl)
  subst q143_1
  have q143_2 := cu_R (cu_ad hz h146) (w143 2 _ _ rfl rfl)
  subst q143_2
  obtain ⟨i143_3, q143_3⟩ := cu_I (w143 3 _ _ rfl rfl) rfl
  subst q143_3
  obtain ⟨i143_4, q143_4⟩ := cu_I (w143 4 _ _ rfl rfl) rfl
  subst q143_4
  obtain ⟨vs15, f15, l15, w15⟩ := r15
  dsimp only at f15
  subst f15
  obtain ⟨u15_0, s15_0, rfl, m15_0⟩ := cu_c l15
  obtain ⟨u15_1, s15_1, rfl, m15_1⟩ := cu_c m15_0
  cases cu_n m15_1
  obtain ⟨i15_0, q15_0⟩ := cu_Rx (w15 0 _ _ rfl rfl)
  subst q15_0
  obtain ⟨i15_1, q15_1⟩ := cu_I (w15 1 _ _ rfl rfl) rfl
  subst q15_1
  obtain ⟨vs3, f3, l3, w3⟩ := r3
  dsimp only at f3
  subst f3
  obtain ⟨u3_0, s3_0, rfl, m3_0⟩ := cu_c l3
  obtain ⟨u3_1, s3_1, rfl, m3_1⟩ := cu_c m3_0
  obtain ⟨u3_2, s3_2, rfl, m3_2⟩ := cu_c m3_1
  obtain ⟨u3_3, s3_3, rfl, m3_3⟩ := cu_c m3_2
  obtain ⟨u3_4, s3_4, rfl, m3_4⟩ := cu_c m3_3
  obtain ⟨u3_5, s3_5, rfl, m3_5⟩ := cu_c m3_4
  obtain ⟨u3_6, s3_6, rfl, m3_6⟩ := cu_c m3_5
  obtain ⟨u3_7, s3_7, rfl, m3_7⟩ := cu_c m3_6
  obtain ⟨u3_8, s3_8, rfl, m3_8⟩ := cu_c m3_7
  obtain ⟨u3_9, s3_9, rfl, m3_9⟩ := cu_c m3_8
  obtain ⟨u3_10, s3_10, rfl, m3_10⟩ := cu_c m3_9
  obtain ⟨u3_11, s3_11, rfl, m3_11⟩ := cu_c m3_10
  obtain ⟨u3_12, s3_12, rfl, m3_12⟩ := cu_c m3_11
  obtain ⟨u3_13, s3_13, rfl, m3_13⟩ := cu_c m3_12
  obtain ⟨u3_14, s3_14, rfl, m3_14⟩ := cu_c m3_13
  cases cu_n m3_14
  obtain ⟨i3_0, q3_0⟩ := cu_Rx (w3 0 _ _ rfl rfl)
  subst q3_0
  obtain ⟨i3_1, q3_1⟩ := cu_I (w3 1 _ _ rfl rfl) rfl
  obtain ⟨i3_2, q3_2⟩ := cu_I (w3 2 _ _ rfl rfl) rfl
  subst q3_2
  obtain ⟨i3_3, q3_3⟩ := cu_I (w3 3 _ _ rfl rfl) rfl
  subst q3_3
  obtain ⟨i3_4, q3_4⟩ := cu_I (w3 4 _ _ rfl rfl) rfl
  subst q3_4
  obtain ⟨i3_5, q3_5⟩ := cu_I (w3 5 _ _ rfl rfl) rfl
  subst q3_5
  obtain ⟨i3_6, q3_6⟩ := cu_L (w3 6 _ _ rfl rfl) rfl
  subst q3_6
  obtain ⟨i3_7, q3_7⟩ := cu_I (w3 7 _ _ rfl rfl) rfl
  subst q3_7
  obtain ⟨i3_8, q3_8⟩ := cu_I (w3 8 _ _ rfl rfl) rfl
  subst q3_8
  obtain ⟨i3_9, q3_9⟩ := cu_I (w3 9 _ _ rfl rfl) rfl
  subst q3_9
  obtain ⟨i3_10, q3_10⟩ := cu_L (w3 10 _ _ rfl rfl) rfl
  subst q3_10
  obtain ⟨i3_11, q3_11⟩ := cu_I (w3 11 _ _ rfl rfl) rfl
  subst q3_11
  obtain ⟨i3_12, q3_12⟩ := cu_I (w3 12 _ _ rfl rfl) rfl
  subst q3_12
  obtain ⟨i3_13, q3_13⟩ := cu_I (w3 13 _ _ rfl rfl) rfl
  subst q3_13
  obtain ⟨i3_14, q3_14⟩ := cu_Rx (w3 14 _ _ rfl rfl)
  subst q3_14
  have z3 := w3 1 _ _ rfl rfl
  subst q3_1
  refine ⟨y102, ((fun j => bif Nat.beq j 0 then i12_0 else bif Nat.beq j 1 then i12_4 else bif Nat.beq j 2 then i12_9 else bif Nat.beq j 100 then i29_0 else bif Nat.beq j 101 then i29_4 else bif Nat.beq j 102 then i29_9 else bif Nat.beq j 200 then i28_0 else bif Nat.beq j 201 then i28_4 else bif Nat.beq j 202 then i28_9 else bif Nat.beq j 1000 then i13_0 else bif Nat.beq j 1001 then i13_1 else bif Nat.beq j 1002 then i13_2 else bif Nat.beq j 1003 then i13_6 else bif Nat.beq j 1010 then i117_0 else bif Nat.beq j 1011 then i117_1 else bif Nat.beq j 1012 then i117_2 else bif Nat.beq j 1013 then i117_6 else bif Nat.beq j 1020 then i139_0 else bif Nat.beq j 1021 then i139_1 else bif Nat.beq j 1022 then i139_2 else bif Nat.beq j 1023 then i139_6 else bif Nat.beq j 2000 then i8_3 else bif Nat.beq j 2001 then i8_4 else bif Nat.beq j 2010 then i121_3 else bif Nat.beq j 2011 then i121_4 else bif Nat.beq j 2020 then i143_3 else bif Nat.beq j 2021 then i143_4 else bif Nat.beq j 3001 then i3_1 else bif Nat.beq j 3002 then i3_2 else bif Nat.beq j 3003 then i3_3 else bif Nat.beq j 3004 then i3_4 else bif Nat.beq j 3005 then i3_5 else bif Nat.beq j 3007 then i3_7 else bif Nat.beq j 3008 then i3_8 else bif Nat.beq j 3009 then i3_9 else bif Nat.beq j 3011 then i3_11 else bif Nat.beq j 3012 then i3_12 else bif Nat.beq j 3013 then i3_13 else bif Nat.beq j 3100 then i103_3 else bif Nat.beq j 3101 then i125_3 else bif Nat.beq j 3200 then i15_1 else bif Nat.beq j 3300 then i10_14 else bif Nat.beq j 3301 then i10_16 else (0 : Int32)), (fun j => bif Nat.beq j 16 then i3_6 else bif Nat.beq j 20 then i3_10 else (0 : Int64)), (fun j => bif Nat.beq j 0 then y30 else bif Nat.beq j 1 then y42 else bif Nat.beq j 2 then y43 else bif Nat.beq j 3 then y44 else bif Nat.beq j 4 then y45 else bif Nat.beq j 5 then y46 else bif Nat.beq j 6 then y32 else bif Nat.beq j 7 then y48 else bif Nat.beq j 8 then y36 else bif Nat.beq j 9 then y49 else bif Nat.beq j 10 then y34 else bif Nat.beq j 100 then y105 else bif Nat.beq j 101 then y106 else bif Nat.beq j 102 then y107 else bif Nat.beq j 103 then y108 else bif Nat.beq j 104 then y109 else bif Nat.beq j 105 then y110 else bif Nat.beq j 106 then y112 else bif Nat.beq j 107 then y113 else bif Nat.beq j 108 then y114 else bif Nat.beq j 109 then y115 else bif Nat.beq j 110 then y116 else bif Nat.beq j 200 then y127 else bif Nat.beq j 201 then y128 else bif Nat.beq j 202 then y129 else bif Nat.beq j 203 then y130 else bif Nat.beq j 204 then y131 else bif Nat.beq j 205 then y132 else bif Nat.beq j 206 then y134 else bif Nat.beq j 207 then y135 else bif Nat.beq j 208 then y136 else bif Nat.beq j 209 then y137 else bif Nat.beq j 210 then y138 else bif Nat.beq j 1000 then y18 else bif Nat.beq j 1001 then y59 else bif Nat.beq j 1002 then y60 else bif Nat.beq j 1010 then y118 else bif Nat.beq j 1011 then y119 else bif Nat.beq j 1012 then y120 else bif Nat.beq j 1020 then y140 else bif Nat.beq j 1021 then y141 else bif Nat.beq j 1022 then y142 else bif Nat.beq j 2000 then y22 else bif Nat.beq j 2001 then y26 else bif Nat.beq j 2002 then y24 else bif Nat.beq j 2010 then y122 else bif Nat.beq j 2011 then y123 else bif Nat.beq j 2012 then y124 else bif Nat.beq j 2020 then y144 else bif Nat.beq j 2021 then y145 else bif Nat.beq j 2022 then y146 else (fun _ => (0 : Int32))), (fun j => bif Nat.beq j 0 then y41 else bif Nat.beq j 1 then y47 else bif Nat.beq j 100 then y104 else bif Nat.beq j 101 then y111 else bif Nat.beq j 200 then y126 else bif Nat.beq j 201 then y133 else (fun _ => (0 : Int64)))), ([a10, a102, a12, a41, a30, a42, a43, a44, a45, a46, a47, a32, a48, a36, a49, a34, a103, a125, a29, a104, a105, a106, a107, a108, a109, a110, a111, a112, a113, a114, a115, a116, a28, a126, a127, a128, a129, a130, a131, a132, a133, a134, a135, a136, a137, a138, a13, a18, a59, a60, a117, a118, a119, a120, a139, a140, a141, a142, a8, a22, a26, a24, a121, a122, a123, a124, a143, a144, a145, a146, a15, a3], (fun j => bif Nat.beq j 0 then i10_1 else bif Nat.beq j 1 then i10_3 else bif Nat.beq j 2 then i10_5 else bif Nat.beq j 3 then i10_8 else bif Nat.beq j 4 then i10_9 else bif Nat.beq j 5 then i10_10 else bif Nat.beq j 6 then i10_11 else bif Nat.beq j 7 then i10_13 else bif Nat.beq j 8 then i10_15 else bif Nat.beq j 9 then i15_0 else bif Nat.beq j 20 then i3_0 else bif Nat.beq j 34 then i3_14 else 0)), [(a10, .inr (10, [.ref a3, .ref i10_1, .ref a12, .ref i10_3, .ref a13, .ref i10_5, .ref a15, .ref a8, .ref i10_8, .ref i10_9, .ref i10_10, .ref i10_11, .ref a102, .ref i10_13, .int i10_14, .ref i10_15, .int i10_16])),
      (a102, .inl (cA102, 2, .inr (.inr (.inr (.inr y102))))),
      (a12, .inr (8, [.int i12_0, .ref a41, .ref a30, .ref a42, .int i12_4, .ref a43, .ref a44, .ref a45, .ref a46, .int i12_9, .ref a47, .ref a32, .ref a48, .ref a36, .ref a49, .ref a34])),
      (a41, .inl (cA41, 7, .inr (.inl y41))),
      (a30, .inl (cA30, 7, .inl y30)),
      (a42, .inl (cA42, 7, .inl y42)),
      (a43, .inl (cA43, 12, .inl y43)),
      (a44, .inl (cA44, 12, .inl y44)),
      (a45, .inl (cA45, 12, .inl y45)),
      (a46, .inl (cA46, 12, .inl y46)),
      (a47, .inl (cA47, 8, .inr (.inl y47))),
      (a32, .inl (cA32, 8, .inl y32)),
      (a48, .inl (cA48, 8, .inl y48)),
      (a36, .inl (cA36, 8, .inl y36)),
      (a49, .inl (cA49, 8, .inl y49)),
      (a34, .inl (cA34, 3, .inl y34)),
      (a103, .inr (2, [.ref a29, .ref a117, .ref a121, .int i103_3])),
      (a125, .inr (2, [.ref a28, .ref a139, .ref a143, .int i125_3])),
      (a29, .inr (8, [.int i29_0, .ref a104, .ref a105, .ref a106, .int i29_4, .ref a107, .ref a108, .ref a109, .ref a110, .int i29_9, .ref a111, .ref a112, .ref a113, .ref a114, .ref a115, .ref a116])),
      (a104, .inl (cA104, 7, .inr (.inl y104))),
      (a105, .inl (cA105, 7, .inl y105)),
      (a106, .inl (cA106, 7, .inl y106)),
      (a107, .inl (cA107, 12, .inl y107)),
      (a108, .inl (cA108, 12, .inl y108)),
      (a109, .inl (cA109, 12, .inl y109)),
      (a110, .inl (cA110, 12, .inl y110)),
      (a111, .inl (cA111, 8, .inr (.inl y111))),
      (a112, .inl (cA112, 8, .inl y112)),
      (a113, .inl (cA113, 8, .inl y113)),
      (a114, .inl (cA114, 8, .inl y114)),
      (a115, .inl (cA115, 8, .inl y115)),
      (a116, .inl (cA116, 3, .inl y116)),
      (a28, .inr (8, [.int i28_0, .ref a126, .ref a127, .ref a128, .int i28_4, .ref a129, .ref a130, .ref a131, .ref a132, .int i28_9, .ref a133, .ref a134, .ref a135, .ref a136, .ref a137, .ref a138])),
      (a126, .inl (cA126, 7, .inr (.inl y126))),
      (a127, .inl (cA127, 7, .inl y127)),
      (a128, .inl (cA128, 7, .inl y128)),
      (a129, .inl (cA129, 12, .inl y129)),
      (a130, .inl (cA130, 12, .inl y130)),
      (a131, .inl (cA131, 12, .inl y131)),
      (a132, .inl (cA132, 12, .inl y132)),
      (a133, .inl (cA133, 8, .inr (.inl y133))),
      (a134, .inl (cA134, 8, .inl y134)),
      (a135, .inl (cA135, 8, .inl y135)),
      (a136, .inl (cA136, 8, .inl y136)),
      (a137, .inl (cA137, 8, .inl y137)),
      (a138, .inl (cA138, 3, .inl y138)),
      (a13, .inr (7, [.int i13_0, .int i13_1, .int i13_2, .ref a18, .ref a59, .ref a60, .int i13_6])),
      (a18, .inl (cA18, 7, .inl y18)),
      (a59, .inl (cA59, 7, .inl y59)),
      (a60, .inl (cA60, 7, .inl y60)),
      (a117, .inr (7, [.int i117_0, .int i117_1, .int i117_2, .ref a118, .ref a119, .ref a120, .int i117_6])),
      (a118, .inl (cA118, 7, .inl y118)),
      (a119, .inl (cA119, 7, .inl y119)),
      (a120, .inl (cA120, 7, .inl y120)),
      (a139, .inr (7, [.int i139_0, .int i139_1, .int i139_2, .ref a140, .ref a141, .ref a142, .int i139_6])),
      (a140, .inl (cA140, 7, .inl y140)),
      (a141, .inl (cA141, 7, .inl y141)),
      (a142, .inl (cA142, 7, .inl y142)),
      (a8, .inr (6, [.ref a22, .ref a26, .ref a24, .int i8_3, .int i8_4])),
      (a22, .inl (cA22, 40, .inl y22)),
      (a26, .inl (cA26, 40, .inl y26)),
      (a24, .inl (cA24, 40, .inl y24)),
      (a121, .inr (6, [.ref a122, .ref a123, .ref a124, .int i121_3, .int i121_4])),
      (a122, .inl (cA122, 40, .inl y122)),
      (a123, .inl (cA123, 40, .inl y123)),
      (a124, .inl (cA124, 40, .inl y124)),
      (a143, .inr (6, [.ref a144, .ref a145, .ref a146, .int i143_3, .int i143_4])),
      (a144, .inl (cA144, 40, .inl y144)),
      (a145, .inl (cA145, 40, .inl y145)),
      (a146, .inl (cA146, 40, .inl y146)),
      (a15, .inr (1, [.ref i15_0, .int i15_1])),
      (a3, .inr (4, [.ref i3_0, .int i3_1, .int i3_2, .int i3_3, .int i3_4, .int i3_5, .long i3_6, .int i3_7, .int i3_8, .int i3_9, .long i3_10, .int i3_11, .int i3_12, .int i3_13, .ref i3_14]))], ?_, ?_, cu_ev1 z3, ⟨cu_Q (cu_ad hz h103) (o102 0 (by decide)), cu_Q (cu_ad hz h125) (o102 1 (by decide))⟩⟩
  · refine ⟨rfl, ⟨rfl, Nat.le_of_ble_eq_true rfl⟩, fun k c hk => ?_⟩
    match k, hk with
    | 0, hk => cases hk; exact ⟨_, rfl, rfl⟩
    | 1, hk => cases hk; exact ⟨_, rfl, Nat.le_of_ble_eq_true rfl, Nat.le_of_ble_eq_true rfl, ⟨_, rfl⟩, _, rfl, t102⟩
    | 2, hk => cases hk; exact ⟨_, rfl, rfl⟩
    | 3, hk => cases hk; exact ⟨_, rfl, Nat.le_of_ble_eq_true rfl, Nat.le_of_ble_eq_true rfl, ⟨_, rfl⟩, _, rfl, t41⟩
    | 4, hk => cases hk; exact ⟨_, rfl, Nat.le_of_ble_eq_true rfl, Nat.le_of_ble_eq_true rfl, ⟨_, rfl⟩, _, rfl, t30⟩
    | 5, hk => cases hk; exact ⟨_, rfl, Nat.le_of_ble_eq_true rfl, Nat.le_of_ble_eq_true rfl, ⟨_, rfl⟩, _, rfl, t42⟩
    | 6, hk => cases hk; exact ⟨_, rfl, Nat.le_of_ble_eq_true rfl, Nat.le_of_ble_eq_true rfl, ⟨_, rfl⟩, _, rfl, t43⟩
    | 7, hk => cases hk; exact ⟨_, rfl, Nat.le_of_ble_eq_true rfl, Nat.le_of_ble_eq_true rfl, ⟨_, rfl⟩, _, rfl, t44⟩
    | 8, hk => cases hk; exact ⟨_, rfl, Nat.le_of_ble_eq_true rfl, Nat.le_of_ble_eq_true rfl, ⟨_, rfl⟩, _, rfl, t45⟩
    | 9, hk => cases hk; exact ⟨_, rfl, Nat.le_of_ble_eq_true rfl, Nat.le_of_ble_eq_true rfl, ⟨_, rfl⟩, _, rfl, t46⟩
    | 10, hk => cases hk; exact ⟨_, rfl, Nat.le_of_ble_eq_true rfl, Nat.le_of_ble_eq_true rfl, ⟨_, rfl⟩, _, rfl, t47⟩
    | 11, hk => cases hk; exact ⟨_, rfl, Nat.le_of_ble_eq_true rfl, Nat.le_of_ble_eq_true rfl, ⟨_, rfl⟩, _, rfl, t32⟩
    | 12, hk => cases hk; exact ⟨_, rfl, Nat.le_of_ble_eq_true rfl, Nat.le_of_ble_eq_true rfl, ⟨_, rfl⟩, _, rfl, t48⟩
    | 13, hk => cases hk; exact ⟨_, rfl, Nat.le_of_ble_eq_true rfl, Nat.le_of_ble_eq_true rfl, ⟨_, rfl⟩, _, rfl, t36⟩
    | 14, hk => cases hk; exact ⟨_, rfl, Nat.le_of_ble_eq_true rfl, Nat.le_of_ble_eq_true rfl, ⟨_, rfl⟩, _, rfl, t49⟩
    | 15, hk => cases hk; exact ⟨_, rfl, Nat.le_of_ble_eq_true rfl, Nat.le_of_ble_eq_true rfl, ⟨_, rfl⟩, _, rfl, t34⟩
    | 16, hk => cases hk; exact ⟨_, rfl, rfl⟩
    | 17, hk => cases hk; exact ⟨_, rfl, rfl⟩
    | 18, hk => cases hk; exact ⟨_, rfl, rfl⟩
    | 19, hk => cases hk; exact ⟨_, rfl, Nat.le_of_ble_eq_true rfl, Nat.le_of_ble_eq_true rfl, ⟨_, rfl⟩, _, rfl, t104⟩
    | 20, hk => cases hk; exact ⟨_, rfl, Nat.le_of_ble_eq_true rfl, Nat.le_of_ble_eq_true rfl, ⟨_, rfl⟩, _, rfl, t105⟩
    | 21, hk => cases hk; exact ⟨_, rfl, Nat.le_of_ble_eq_true rfl, Nat.le_of_ble_eq_true rfl, ⟨_, rfl⟩, _, rfl, t106⟩
    | 22, hk => cases hk; exact ⟨_, rfl, Nat.le_of_ble_eq_true rfl, Nat.le_of_ble_eq_true rfl, ⟨_, rfl⟩, _, rfl, t107⟩
    | 23, hk => cases hk; exact ⟨_, rfl, Nat.le_of_ble_eq_true rfl, Nat.le_of_ble_eq_true rfl, ⟨_, rfl⟩, _, rfl, t108⟩
    | 24, hk => cases hk; exact ⟨_, rfl, Nat.le_of_ble_eq_true rfl, Nat.le_of_ble_eq_true rfl, ⟨_, rfl⟩, _, rfl, t109⟩
    | 25, hk => cases hk; exact ⟨_, rfl, Nat.le_of_ble_eq_true rfl, Nat.le_of_ble_eq_true rfl, ⟨_, rfl⟩, _, rfl, t110⟩
    | 26, hk => cases hk; exact ⟨_, rfl, Nat.le_of_ble_eq_true rfl, Nat.le_of_ble_eq_true rfl, ⟨_, rfl⟩, _, rfl, t111⟩
    | 27, hk => cases hk; exact ⟨_, rfl, Nat.le_of_ble_eq_true rfl, Nat.le_of_ble_eq_true rfl, ⟨_, rfl⟩, _, rfl, t112⟩
    | 28, hk => cases hk; exact ⟨_, rfl, Nat.le_of_ble_eq_true rfl, Nat.le_of_ble_eq_true rfl, ⟨_, rfl⟩, _, rfl, t113⟩
    | 29, hk => cases hk; exact ⟨_, rfl, Nat.le_of_ble_eq_true rfl, Nat.le_of_ble_eq_true rfl, ⟨_, rfl⟩, _, rfl, t114⟩
    | 30, hk => cases hk; exact ⟨_, rfl, Nat.le_of_ble_eq_true rfl, Nat.le_of_ble_eq_true rfl, ⟨_, rfl⟩, _, rfl, t115⟩
    | 31, hk => cases hk; exact ⟨_, rfl, Nat.le_of_ble_eq_true rfl, Nat.le_of_ble_eq_true rfl, ⟨_, rfl⟩, _, rfl, t116⟩
    | 32, hk => cases hk; exact ⟨_, rfl, rfl⟩
    | 33, hk => cases hk; exact ⟨_, rfl, Nat.le_of_ble_eq_true rfl, Nat.le_of_ble_eq_true rfl, ⟨_, rfl⟩, _, rfl, t126⟩
    | 34, hk => cases hk; exact ⟨_, rfl, Nat.le_of_ble_eq_true rfl, Nat.le_of_ble_eq_true rfl, ⟨_, rfl⟩, _, rfl, t127⟩
    | 35, hk => cases hk; exact ⟨_, rfl, Nat.le_of_ble_eq_true rfl, Nat.le_of_ble_eq_true rfl, ⟨_, rfl⟩, _, rfl, t128⟩
    | 36, hk => cases hk; exact ⟨_, rfl, Nat.le_of_ble_eq_true rfl, Nat.le_of_ble_eq_true rfl, ⟨_, rfl⟩, _, rfl, t129⟩
    | 37, hk => cases hk; exact ⟨_, rfl, Nat.le_of_ble_eq_true rfl, Nat.le_of_ble_eq_true rfl, ⟨_, rfl⟩, _, rfl, t130⟩
    | 38, hk => cases hk; exact ⟨_, rfl, Nat.le_of_ble_eq_true rfl, Nat.le_of_ble_eq_true rfl, ⟨_, rfl⟩, _, rfl, t131⟩
    | 39, hk => cases hk; exact ⟨_, rfl, Nat.le_of_ble_eq_true rfl, Nat.le_of_ble_eq_true rfl, ⟨_, rfl⟩, _, rfl, t132⟩
    | 40, hk => cases hk; exact ⟨_, rfl, Nat.le_of_ble_eq_true rfl, Nat.le_of_ble_eq_true rfl, ⟨_, rfl⟩, _, rfl, t133⟩
    | 41, hk => cases hk; exact ⟨_, rfl, Nat.le_of_ble_eq_true rfl, Nat.le_of_ble_eq_true rfl, ⟨_, rfl⟩, _, rfl, t134⟩
    | 42, hk => cases hk; exact ⟨_, rfl, Nat.le_of_ble_eq_true rfl, Nat.le_of_ble_eq_true rfl, ⟨_, rfl⟩, _, rfl, t135⟩
    | 43, hk => cases hk; exact ⟨_, rfl, Nat.le_of_ble_eq_true rfl, Nat.le_of_ble_eq_true rfl, ⟨_, rfl⟩, _, rfl, t136⟩
    | 44, hk => cases hk; exact ⟨_, rfl, Nat.le_of_ble_eq_true rfl, Nat.le_of_ble_eq_true rfl, ⟨_, rfl⟩, _, rfl, t137⟩
    | 45, hk => cases hk; exact ⟨_, rfl, Nat.le_of_ble_eq_true rfl, Nat.le_of_ble_eq_true rfl, ⟨_, rfl⟩, _, rfl, t138⟩
    | 46, hk => cases hk; exact ⟨_, rfl, rfl⟩
    | 47, hk => cases hk; exact ⟨_, rfl, Nat.le_of_ble_eq_true rfl, Nat.le_of_ble_eq_true rfl, ⟨_, rfl⟩, _, rfl, t18⟩
    | 48, hk => cases hk; exact ⟨_, rfl, Nat.le_of_ble_eq_true rfl, Nat.le_of_ble_eq_true rfl, ⟨_, rfl⟩, _, rfl, t59⟩
    | 49, hk => cases hk; exact ⟨_, rfl, Nat.le_of_ble_eq_true rfl, Nat.le_of_ble_eq_true rfl, ⟨_, rfl⟩, _, rfl, t60⟩
    | 50, hk => cases hk; exact ⟨_, rfl, rfl⟩
    | 51, hk => cases hk; exact ⟨_, rfl, Nat.le_of_ble_eq_true rfl, Nat.le_of_ble_eq_true rfl, ⟨_, rfl⟩, _, rfl, t118⟩
    | 52, hk => cases hk; exact ⟨_, rfl, Nat.le_of_ble_eq_true rfl, Nat.le_of_ble_eq_true rfl, ⟨_, rfl⟩, _, rfl, t119⟩
    | 53, hk => cases hk; exact ⟨_, rfl, Nat.le_of_ble_eq_true rfl, Nat.le_of_ble_eq_true rfl, ⟨_, rfl⟩, _, rfl, t120⟩
    | 54, hk => cases hk; exact ⟨_, rfl, rfl⟩
    | 55, hk => cases hk; exact ⟨_, rfl, Nat.le_of_ble_eq_true rfl, Nat.le_of_ble_eq_true rfl, ⟨_, rfl⟩, _, rfl, t140⟩
    | 56, hk => cases hk; exact ⟨_, rfl, Nat.le_of_ble_eq_true rfl, Nat.le_of_ble_eq_true rfl, ⟨_, rfl⟩, _, rfl, t141⟩
    | 57, hk => cases hk; exact ⟨_, rfl, Nat.le_of_ble_eq_true rfl, Nat.le_of_ble_eq_true rfl, ⟨_, rfl⟩, _, rfl, t142⟩
    | 58, hk => cases hk; exact ⟨_, rfl, rfl⟩
    | 59, hk => cases hk; exact ⟨_, rfl, Nat.le_of_ble_eq_true rfl, Nat.le_of_ble_eq_true rfl, ⟨_, rfl⟩, _, rfl, t22⟩
    | 60, hk => cases hk; exact ⟨_, rfl, Nat.le_of_ble_eq_true rfl, Nat.le_of_ble_eq_true rfl, ⟨_, rfl⟩, _, rfl, t26⟩
    | 61, hk => cases hk; exact ⟨_, rfl, Nat.le_of_ble_eq_true rfl, Nat.le_of_ble_eq_true rfl, ⟨_, rfl⟩, _, rfl, t24⟩
    | 62, hk => cases hk; exact ⟨_, rfl, rfl⟩
    | 63, hk => cases hk; exact ⟨_, rfl, Nat.le_of_ble_eq_true rfl, Nat.le_of_ble_eq_true rfl, ⟨_, rfl⟩, _, rfl, t122⟩
    | 64, hk => cases hk; exact ⟨_, rfl, Nat.le_of_ble_eq_true rfl, Nat.le_of_ble_eq_true rfl, ⟨_, rfl⟩, _, rfl, t123⟩
    | 65, hk => cases hk; exact ⟨_, rfl, Nat.le_of_ble_eq_true rfl, Nat.le_of_ble_eq_true rfl, ⟨_, rfl⟩, _, rfl, t124⟩
    | 66, hk => cases hk; exact ⟨_, rfl, rfl⟩
    | 67, hk => cases hk; exact ⟨_, rfl, Nat.le_of_ble_eq_true rfl, Nat.le_of_ble_eq_true rfl, ⟨_, rfl⟩, _, rfl, t144⟩
    | 68, hk => cases hk; exact ⟨_, rfl, Nat.le_of_ble_eq_true rfl, Nat.le_of_ble_eq_true rfl, ⟨_, rfl⟩, _, rfl, t145⟩
    | 69, hk => cases hk; exact ⟨_, rfl, Nat.le_of_ble_eq_true rfl, Nat.le_of_ble_eq_true rfl, ⟨_, rfl⟩, _, rfl, t146⟩
    | 70, hk => cases hk; exact ⟨_, rfl, rfl⟩
    | 71, hk => cases hk; exact ⟨_, rfl, rfl⟩
    | k + 72, hk => cases hk
  · simp only [List.map_cons, List.map_nil, h10, h102, h12, h41, h30, h42, h43, h44, h45, h46, h47, h32, h48, h36, h49, h34, h103, h125, h29, h104, h105, h106, h107, h108, h109, h110, h111, h112, h113, h114, h115, h116, h28, h126, h127, h128, h129, h130, h131, h132, h133, h134, h135, h136, h137, h138, h13, h18, h59, h60, h117, h118, h119, h120, h139, h140, h141, h142, h8, h22, h26, h24, h121, h122, h123, h124, h143, h144, h145, h146, h15, h3]
set_option maxRecDepth 100000 in
set_option maxHeartbeats 4000000 in
theorem cu_I_11_9 {X : ab_X} {z : ab_Z} {s : State} {ws : va_W} (hc : ∀ (k : Nat) (c : ab_C), k ∈ cu_KI → gl_L[k]? = some c → ∃ q, ws[k]? = some q ∧ ab_cR X z s c q.2) (hz : ws.map Prod.fst = z.2.2) (hl : ∃ ad, z.2.2[11]? = some ad ∧ cu_v ws 10 2 = .ref ad) (hs : ∃ ad, z.2.2[9]? = some ad ∧ cu_v ws 10 7 = .ref ad) : ∃ (g9 : Nat → Option Nat) (σ : ex_S) (A : ex_A) (we : va_W), ex_wR X A s (WI g9 σ) we ∧ ([10, 102, 11, 50, 31, 51, 52, 53, 54, 55, 56, 33, 57, 37, 58, 35, 103, 125, 29, 104, 105, 106, 107, 108, 109, 110, 111, 112, 113, 114, 115, 116, 28, 126, 127, 128, 129, 130, 131, 132, 133, 134, 135, 136, 137, 138, 13, 18, 59, 60, 117, 118, 119, 120, 139, 140, 141, 142, 9, 23, 27, 25, 121, 122, 123, 124, 143, 144, 145, 146, 15, 3] : List Nat).map (fun k => ws[k]?) = we.map some ∧ z.1[1]? = some (σ.1 3001) ∧ (g9 0 = some (A.1.getD 16 0) ∧ g9 1 = some (A.1.getD 17 0)) := by
  obtain ⟨⟨a10, e10⟩, h10, r10⟩ := hc 10 _ (by decide) rfl
  obtain ⟨⟨a102, e102⟩, h102, r102⟩ := hc 102 _ (by decide) rfl
  obtain ⟨⟨a11, e11⟩, h11, r11⟩ := hc 11 _ (by decide) rfl
  obtain ⟨⟨a50, e50⟩, h50, r50⟩ := hc 50 _ (by decide) rfl
  obtain ⟨⟨a31, e31⟩, h31, r31⟩ := hc 31 _ (by decide) rfl
  obtain ⟨⟨a51, e51⟩, h51, r51⟩ := hc 51 _ (by decide) rfl
  obtain ⟨⟨a52, e52⟩, h52, r52⟩ := hc 52 _ (by decide) rfl
  obtain ⟨⟨a53, e53⟩, h53, r53⟩ := hc 53 _ (by decide) rfl
  obtain ⟨⟨a54, e54⟩, h54, r54⟩ := hc 54 _ (by decide) rfl
  obtain ⟨⟨a55, e55⟩, h55, r55⟩ := hc 55 _ (by decide) rfl
  obtain ⟨⟨a56, e56⟩, h56, r56⟩ := hc 56 _ (by decide) rfl
  obtain ⟨⟨a33, e33⟩, h33, r33⟩ := hc 33 _ (by decide) rfl
  obtain ⟨⟨a57, e57⟩, h57, r57⟩ := hc 57 _ (by decide) rfl
  obtain ⟨⟨a37, e37⟩, h37, r37⟩ := hc 37 _ (by decide) rfl
  obtain ⟨⟨a58, e58⟩, h58, r58⟩ := hc 58 _ (by decide) rfl
  obtain ⟨⟨a35, e35⟩, h35, r35⟩ := hc 35 _ (by decide) rfl
  obtain ⟨⟨a103, e103⟩, h103, r103⟩ := hc 103 _ (by decide) rfl
  obtain ⟨⟨a125, e125⟩, h125, r125⟩ := hc 125 _ (by decide) rfl
  obtain ⟨⟨a29, e29⟩, h29, r29⟩ := hc 29 _ (by decide) rfl
  obtain ⟨⟨a104, e104⟩, h104, r104⟩ := hc 104 _ (by decide) rfl
  obtain ⟨⟨a105, e105⟩, h105, r105⟩ := hc 105 _ (by decide) rfl
  obtain ⟨⟨a106, e106⟩, h106, r106⟩ := hc 106 _ (by decide) rfl
  obtain ⟨⟨a107, e107⟩, h107, r107⟩ := hc 107 _ (by decide) rfl
  obtain ⟨⟨a108, e108⟩, h108, r108⟩ := hc 108 _ (by decide) rfl
  obtain ⟨⟨a109, e109⟩, h109, r109⟩ := hc 109 _ (by decide) rfl
  obtain ⟨⟨a110, e110⟩, h110, r110⟩ := hc 110 _ (by decide) rfl
  obtain ⟨⟨a111, e111⟩, h111, r111⟩ := hc 111 _ (by decide) rfl
  obtain ⟨⟨a112, e112⟩, h112, r112⟩ := hc 112 _ (by decide) rfl
  obtain ⟨⟨a113, e113⟩, h113, r113⟩ := hc 113 _ (by decide) rfl
  obtain ⟨⟨a114, e114⟩, h114, r114⟩ := hc 114 _ (by decide) rfl
  obtain ⟨⟨a115, e115⟩, h115, r115⟩ := hc 115 _ (by decide) rfl
  obtain ⟨⟨a116, e116⟩, h116, r116⟩ := hc 116 _ (by decide) rfl
  obtain ⟨⟨a28, e28⟩, h28, r28⟩ := hc 28 _ (by decide) rfl
  obtain ⟨⟨a126, e126⟩, h126, r126⟩ := hc 126 _ (by decide) rfl
  obtain ⟨⟨a127, e127⟩, h127, r127⟩ := hc 127 _ (by decide) rfl
  obtain ⟨⟨a128, e128⟩, h128, r128⟩ := hc 128 _ (by decide) rfl
  obtain ⟨⟨a129, e129⟩, h129, r129⟩ := hc 129 _ (by decide) rfl
  obtain ⟨⟨a130, e130⟩, h130, r130⟩ := hc 130 _ (by decide) rfl
  obtain ⟨⟨a131, e131⟩, h131, r131⟩ := hc 131 _ (by decide) rfl
  obtain ⟨⟨a132, e132⟩, h132, r132⟩ := hc 132 _ (by decide) rfl
  obtain ⟨⟨a133, e133⟩, h133, r133⟩ := hc 133 _ (by decide) rfl
  obtain ⟨⟨a134, e134⟩, h134, r134⟩ := hc 134 _ (by decide) rfl
  obtain ⟨⟨a135, e135⟩, h135, r135⟩ := hc 135 _ (by decide) rfl
  obtain ⟨⟨a136, e136⟩, h136, r136⟩ := hc 136 _ (by decide) rfl
  obtain ⟨⟨a137, e137⟩, h137, r137⟩ := hc 137 _ (by decide) rfl
  obtain ⟨⟨a138, e138⟩, h138, r138⟩ := hc 138 _ (by decide) rfl
  obtain ⟨⟨a13, e13⟩, h13, r13⟩ := hc 13 _ (by decide) rfl
  obtain ⟨⟨a18, e18⟩, h18, r18⟩ := hc 18 _ (by decide) rfl
  obtain ⟨⟨a59, e59⟩, h59, r59⟩ := hc 59 _ (by decide) rfl
  obtain ⟨⟨a60, e60⟩, h60, r60⟩ := hc 60 _ (by decide) rfl
  obtain ⟨⟨a117, e117⟩, h117, r117⟩ := hc 117 _ (by decide) rfl
  obtain ⟨⟨a118, e118⟩, h118, r118⟩ := hc 118 _ (by decide) rfl
  obtain ⟨⟨a119, e119⟩, h119, r119⟩ := hc 119 _ (by decide) rfl
  obtain ⟨⟨a120, e120⟩, h120, r120⟩ := hc 120 _ (by decide) rfl
  obtain ⟨⟨a139, e139⟩, h139, r139⟩ := hc 139 _ (by decide) rfl
  obtain ⟨⟨a140, e140⟩, h140, r140⟩ := hc 140 _ (by decide) rfl
  obtain ⟨⟨a141, e141⟩, h141, r141⟩ := hc 141 _ (by decide) rfl
  obtain ⟨⟨a142, e142⟩, h142, r142⟩ := hc 142 _ (by decide) rfl
  obtain ⟨⟨a9, e9⟩, h9, r9⟩ := hc 9 _ (by decide) rfl
  obtain ⟨⟨a23, e23⟩, h23, r23⟩ := hc 23 _ (by decide) rfl
  obtain ⟨⟨a27, e27⟩, h27, r27⟩ := hc 27 _ (by decide) rfl
  obtain ⟨⟨a25, e25⟩, h25, r25⟩ := hc 25 _ (by decide) rfl
  obtain ⟨⟨a121, e121⟩, h121, r121⟩ := hc 121 _ (by decide) rfl
  obtain ⟨⟨a122, e122⟩, h122, r122⟩ := hc 122 _ (by decide) rfl
  obtain ⟨⟨a123, e123⟩, h123, r123⟩ := hc 123 _ (by decide) rfl
  obtain ⟨⟨a124, e124⟩, h124, r124⟩ := hc 124 _ (by decide) rfl
  obtain ⟨⟨a143, e143⟩, h143, r143⟩ := hc 143 _ (by decide) rfl
  obtain ⟨⟨a144, e144⟩, h144, r144⟩ := hc 144 _ (by decide) rfl
  obtain ⟨⟨a145, e145⟩, h145, r145⟩ := hc 145 _ (by decide) rfl
  obtain ⟨⟨a146, e146⟩, h146, r146⟩ := hc 146 _ (by decide) rfl
  obtain ⟨⟨a15, e15⟩, h15, r15⟩ := hc 15 _ (by decide) rfl
  obtain ⟨⟨a3, e3⟩, h3, r3⟩ := hc 3 _ (by decide) rfl
  obtain ⟨cA102, x102, f102, ⟨y102, g102⟩, t102, o102⟩ := r102
  dsimp only at f102
  subst f102 g102
  obtain ⟨cA50, x50, f50, ⟨y50, g50⟩, t50, -⟩ := r50
  dsimp only at f50
  subst f50 g50
  obtain ⟨cA31, x31, f31, ⟨y31, g31⟩, t31, -⟩ := r31
  dsimp only at f31
  subst f31 g31
  obtain ⟨cA51, x51, f51, ⟨y51, g51⟩, t51, -⟩ := r51
  dsimp only at f51
  subst f51 g51
  obtain ⟨cA52, x52, f52, ⟨y52, g52⟩, t52, -⟩ := r52
  dsimp only at f52
  subst f52 g52
  obtain ⟨cA53, x53, f53, ⟨y53, g53⟩, t53, -⟩ := r53
  dsimp only at f53
  subst f53 g53
  obtain ⟨cA54, x54, f54, ⟨y54, g54⟩, t54, -⟩ := r54
  dsimp only at f54
  subst f54 g54
  obtain ⟨cA55, x55, f55, ⟨y55, g55⟩, t55, -⟩ := r55
  dsimp only at f55
  subst f55 g55
  obtain ⟨cA56, x56, f56, ⟨y56, g56⟩, t56, -⟩ := r56
  dsimp only at f56
  subst f56 g56
  obtain ⟨cA33, x33, f33, ⟨y33, g33⟩, t33, -⟩ := r33
  dsimp only at f33
  subst f33 g33
  obtain ⟨cA57, x57, f57, ⟨y57, g57⟩, t57, -⟩ := r57
  dsimp only at f57
  subst f57 g57
  obtain ⟨cA37, x37, f37, ⟨y37, g37⟩, t37, -⟩ := r37
  dsimp only at f37
  subst f37 g37
  obtain ⟨cA58, x58, f58, ⟨y58, g58⟩, t58, -⟩ := r58
  dsimp only at f58
  subst f58 g58
  obtain ⟨cA35, x35, f35, ⟨y35, g35⟩, t35, -⟩ := r35
  dsimp only at f35
  subst f35 g35
  obtain ⟨cA104, x104, f104, ⟨y104, g104⟩, t104, -⟩ := r104
  dsimp only at f104
  subst f104 g104
  obtain ⟨cA105, x105, f105, ⟨y105, g105⟩, t105, -⟩ := r105
  dsimp only at f105
  subst f105 g105
  obtain ⟨cA106, x106, f106, ⟨y106, g106⟩, t106, -⟩ := r106
  dsimp only at f106
  subst f106 g106
  obtain ⟨cA107, x107, f107, ⟨y107, g107⟩, t107, -⟩ := r107
  dsimp only at f107
  subst f107 g107
  obtain ⟨cA108, x108, f108, ⟨y108, g108⟩, t108, -⟩ := r108
  dsimp only at f108
  subst f108 g108
  obtain ⟨cA109, x109, f109, ⟨y109, g109⟩, t109, -⟩ := r109
  dsimp only at f109
  subst f109 g109
  obtain ⟨cA110, x110, f110, ⟨y110, g110⟩, t110, -⟩ := r110
  dsimp only at f110
  subst f110 g110
  obtain ⟨cA111, x111, f111, ⟨y111, g111⟩, t111, -⟩ := r111
  dsimp only at f111
  subst f111 g111
  obtain ⟨cA112, x112, f112, ⟨y112, g112⟩, t112, -⟩ := r112
  dsimp only at f112
  subst f112 g112
  obtain ⟨cA113, x113, f113, ⟨y113, g113⟩, t113, -⟩ := r113
  dsimp only at f113
  subst f113 g113
  obtain ⟨cA114, x114, f114, ⟨y114, g114⟩, t114, -⟩ := r114
  dsimp only at f114
  subst f114 g114
  obtain ⟨cA115, x115, f115, ⟨y115, g115⟩, t115, -⟩ := r115
  dsimp only at f115
  subst f115 g115
  obtain ⟨cA116, x116, f116, ⟨y116, g116⟩, t116, -⟩ := r116
  dsimp only at f116
  subst f116 g116
  obtain ⟨cA126, x126, f126, ⟨y126, g126⟩, t126, -⟩ := r126
  dsimp only at f126
  subst f126 g126
  obtain ⟨cA127, x127, f127, ⟨y127, g127⟩, t127, -⟩ := r127
  dsimp only at f127
  subst f127 g127
  obtain ⟨cA128, x128, f128, ⟨y128, g128⟩, t128, -⟩ := r128
  dsimp only at f128
  subst f128 g128
  obtain ⟨cA129, x129, f129, ⟨y129, g129⟩, t129, -⟩ := r129
  dsimp only at f129
  subst f129 g129
  obtain ⟨cA130, x130, f130, ⟨y130, g130⟩, t130, -⟩ := r130
  dsimp only at f130
  subst f130 g130
  obtain ⟨cA131, x131, f131, ⟨y131, g131⟩, t131, -⟩ := r131
  dsimp only at f131
  subst f131 g131
  obtain ⟨cA132, x132, f132, ⟨y132, g132⟩, t132, -⟩ := r132
  dsimp only at f132
  subst f132 g132
  obtain ⟨cA133, x133, f133, ⟨y133, g133⟩, t133, -⟩ := r133
  dsimp only at f133
  subst f133 g133
  obtain ⟨cA134, x134, f134, ⟨y134, g134⟩, t134, -⟩ := r134
  dsimp only at f134
  subst f134 g134
  obtain ⟨cA135, x135, f135, ⟨y135, g135⟩, t135, -⟩ := r135
  dsimp only at f135
  subst f135 g135
  obtain ⟨cA136, x136, f136, ⟨y136, g136⟩, t136, -⟩ := r136
  dsimp only at f136
  subst f136 g136
  obtain ⟨cA137, x137, f137, ⟨y137, g137⟩, t137, -⟩ := r137
  dsimp only at f137
  subst f137 g137
  obtain ⟨cA138, x138, f138, ⟨y138, g138⟩, t138, -⟩ := r138
  dsimp only at f138
  subst f138 g138
  obtain ⟨cA18, x18, f18, ⟨y18, g18⟩, t18, -⟩ := r18
  dsimp only at f18
  subst f18 g18
  obtain ⟨cA59, x59, f59, ⟨y59, g59⟩, t59, -⟩ := r59
  dsimp only at f59
  subst f59 g59
  obtain ⟨cA60, x60, f60, ⟨y60, g60⟩, t60, -⟩ := r60
  dsimp only at f60
  subst f60 g60
  obtain ⟨cA118, x118, f118, ⟨y118, g118⟩, t118, -⟩ := r118
  dsimp only at f118
  subst f118 g118
  obtain ⟨cA119, x119, f119, ⟨y119, g119⟩, t119, -⟩ := r119
  dsimp only at f119
  subst f119 g119
  obtain ⟨cA120, x120, f120, ⟨y120, g120⟩, t120, -⟩ := r120
  dsimp only at f120
  subst f120 g120
  obtain ⟨cA140, x140, f140, ⟨y140, g140⟩, t140, -⟩ := r140
  dsimp only at f140
  subst f140 g140
  obtain ⟨cA141, x141, f141, ⟨y141, g141⟩, t141, -⟩ := r141
  dsimp only at f141
  subst f141 g141
  obtain ⟨cA142, x142, f142, ⟨y142, g142⟩, t142, -⟩ := r142
  dsimp only at f142
  subst f142 g142
  obtain ⟨cA23, x23, f23, ⟨y23, g23⟩, t23, -⟩ := r23
  dsimp only at f23
  subst f23 g23
  obtain ⟨cA27, x27, f27, ⟨y27, g27⟩, t27, -⟩ := r27
  dsimp only at f27
  subst f27 g27
  obtain ⟨cA25, x25, f25, ⟨y25, g25⟩, t25, -⟩ := r25
  dsimp only at f25
  subst f25 g25
  obtain ⟨cA122, x122, f122, ⟨y122, g122⟩, t122, -⟩ := r122
  dsimp only at f122
  subst f122 g122
  obtain ⟨cA123, x123, f123, ⟨y123, g123⟩, t123, -⟩ := r123
  dsimp only at f123
  subst f123 g123
  obtain ⟨cA124, x124, f124, ⟨y124, g124⟩, t124, -⟩ := r124
  dsimp only at f124
  subst f124 g124
  obtain ⟨cA144, x144, f144, ⟨y144, g144⟩, t144, -⟩ := r144
  dsimp only at f144
  subst f144 g144
  obtain ⟨cA145, x145, f145, ⟨y145, g145⟩, t145, -⟩ := r145
  dsimp only at f145
  subst f145 g145
  obtain ⟨cA146, x146, f146, ⟨y146, g146⟩, t146, -⟩ := r146
  dsimp only at f146
  subst f146 g146
  obtain ⟨vs10, f10, l10, w10⟩ := r10
  dsimp only at f10
  subst f10
  obtain ⟨u10_0, s10_0, rfl, m10_0⟩ := cu_c l10
  obtain ⟨u10_1, s10_1, rfl, m10_1⟩ := cu_c m10_0
  obtain ⟨u10_2, s10_2, rfl, m10_2⟩ := cu_c m10_1
  obtain ⟨u10_3, s10_3, rfl, m10_3⟩ := cu_c m10_2
  obtain ⟨u10_4, s10_4, rfl, m10_4⟩ := cu_c m10_3
  obtain ⟨u10_5, s10_5, rfl, m10_5⟩ := cu_c m10_4
  obtain ⟨u10_6, s10_6, rfl, m10_6⟩ := cu_c m10_5
  obtain ⟨u10_7, s10_7, rfl, m10_7⟩ := cu_c m10_6
  obtain ⟨u10_8, s10_8, rfl, m10_8⟩ := cu_c m10_7
  obtain ⟨u10_9, s10_9, rfl, m10_9⟩ := cu_c m10_8
  obtain ⟨u10_10, s10_10, rfl, m10_10⟩ := cu_c m10_9
  obtain ⟨u10_11, s10_11, rfl, m10_11⟩ := cu_c m10_10
  obtain ⟨u10_12, s10_12, rfl, m10_12⟩ := cu_c m10_11
  obtain ⟨u10_13, s10_13, rfl, m10_13⟩ := cu_c m10_12
  obtain ⟨u10_14, s10_14, rfl, m10_14⟩ := cu_c m10_13
  obtain ⟨u10_15, s10_15, rfl, m10_15⟩ := cu_c m10_14
  obtain ⟨u10_16, s10_16, rfl, m10_16⟩ := cu_c m10_15
  cases cu_n m10_16
  have q10_0 := cu_R (cu_ad hz h3) (w10 0 _ _ rfl rfl)
  subst q10_0
  obtain ⟨i10_1, q10_1⟩ := cu_Rx (w10 1 _ _ rfl rfl)
  subst q10_1
  have q10_2 : u10_2 = .ref a11 := by
    obtain ⟨ad, e1, e2⟩ := hl
    have e3 := e1.symm.trans (cu_ad hz h11)
    cases e3
    rw [cu_v_of h10] at e2
    exact e2
  subst q10_2
  obtain ⟨i10_3, q10_3⟩ := cu_Rx (w10 3 _ _ rfl rfl)
  subst q10_3
  have q10_4 := cu_R (cu_ad hz h13) (w10 4 _ _ rfl rfl)
  subst q10_4
  obtain ⟨i10_5, q10_5⟩ := cu_Rx (w10 5 _ _ rfl rfl)
  subst q10_5
  have q10_6 := cu_R (cu_ad hz h15) (w10 6 _ _ rfl rfl)
  subst q10_6
  have q10_7 : u10_7 = .ref a9 := by
    obtain ⟨ad, e1, e2⟩ := hs
    have e3 := e1.symm.trans (cu_ad hz h9)
    cases e3
    rw [cu_v_of h10] at e2
    exact e2
  subst q10_7
  obtain ⟨i10_8, q10_8⟩ := cu_Rx (w10 8 _ _ rfl rfl)
  subst q10_8
  obtain ⟨i10_9, q10_9⟩ := cu_Rx (w10 9 _ _ rfl rfl)
  subst q10_9
  obtain ⟨i10_10, q10_10⟩ := cu_Rx (w10 10 _ _ rfl rfl)
  subst q10_10
  obtain ⟨i10_11, q10_11⟩ := cu_Rx (w10 11 _ _ rfl rfl)
  subst q10_11
  have q10_12 := cu_R (cu_ad hz h102) (w10 12 _ _ rfl rfl)
  subst q10_12
  obtain ⟨i10_13, q10_13⟩ := cu_Rx (w10 13 _ _ rfl rfl)
  subst q10_13
  obtain ⟨i10_14, q10_14⟩ := cu_I (w10 14 _ _ rfl rfl) rfl
  subst q10_14
  obtain ⟨i10_15, q10_15⟩ := cu_Rx (w10 15 _ _ rfl rfl)
  subst q10_15
  obtain ⟨i10_16, q10_16⟩ := cu_I (w10 16 _ _ rfl rfl) rfl
  subst q10_16
  obtain ⟨vs11, f11, l11, w11⟩ := r11
  dsimp only at f11
  subst f11
  obtain ⟨u11_0, s11_0, rfl, m11_0⟩ := cu_c l11
  obtain ⟨u11_1, s11_1, rfl, m11_1⟩ := cu_c m11_0
  obtain ⟨u11_2, s11_2, rfl, m11_2⟩ := cu_c m11_1
  obtain ⟨u11_3, s11_3, rfl, m11_3⟩ := cu_c m11_2
  obtain ⟨u11_4, s11_4, rfl, m11_4⟩ := cu_c m11_3
  obtain ⟨u11_5, s11_5, rfl, m11_5⟩ := cu_c m11_4
  obtain ⟨u11_6, s11_6, rfl, m11_6⟩ := cu_c m11_5
  obtain ⟨u11_7, s11_7, rfl, m11_7⟩ := cu_c m11_6
  obtain ⟨u11_8, s11_8, rfl, m11_8⟩ := cu_c m11_7
  obtain ⟨u11_9, s11_9, rfl, m11_9⟩ := cu_c m11_8
  obtain ⟨u11_10, s11_10, rfl, m11_10⟩ := cu_c m11_9
  obtain ⟨u11_11, s11_11, rfl, m11_11⟩ := cu_c m11_10
  obtain ⟨u11_12, s11_12, rfl, m11_12⟩ := cu_c m11_11
  obtain ⟨u11_13, s11_13, rfl, m11_13⟩ := cu_c m11_12
  obtain ⟨u11_14, s11_14, rfl, m11_14⟩ := cu_c m11_13
  obtain ⟨u11_15, s11_15, rfl, m11_15⟩ := cu_c m11_14
  cases cu_n m11_15
  obtain ⟨i11_0, q11_0⟩ := cu_I (w11 0 _ _ rfl rfl) rfl
  subst q11_0
  have q11_1 := cu_R (cu_ad hz h50) (w11 1 _ _ rfl rfl)
  subst q11_1
  have q11_2 := cu_R (cu_ad hz h31) (w11 2 _ _ rfl rfl)
  subst q11_2
  have q11_3 := cu_R (cu_ad hz h51) (w11 3 _ _ rfl rfl)
  subst q11_3
  obtain ⟨i11_4, q11_4⟩ := cu_I (w11 4 _ _ rfl rfl) rfl
  subst q11_4
  have q11_5 := cu_R (cu_ad hz h52) (w11 5 _ _ rfl rfl)
  subst q11_5
  have q11_6 := cu_R (cu_ad hz h53) (w11 6 _ _ rfl rfl)
  subst q11_6
  have q11_7 := cu_R (cu_ad hz h54) (w11 7 _ _ rfl rfl)
  subst q11_7
  have q11_8 := cu_R (cu_ad hz h55) (w11 8 _ _ rfl rfl)
  subst q11_8
  obtain ⟨i11_9, q11_9⟩ := cu_I (w11 9 _ _ rfl rfl) rfl
  subst q11_9
  have q11_10 := cu_R (cu_ad hz h56) (w11 10 _ _ rfl rfl)
  subst q11_10
  have q11_11 := cu_R (cu_ad hz h33) (w11 11 _ _ rfl rfl)
  subst q11_11
  have q11_12 := cu_R (cu_ad hz h57) (w11 12 _ _ rfl rfl)
  subst q11_12
  have q11_13 := cu_R (cu_ad hz h37) (w11 13 _ _ rfl rfl)
  subst q11_13
  have q11_14 := cu_R (cu_ad hz h58) (w11 14 _ _ rfl rfl)
  subst q11_14
  have q11_15 := cu_R (cu_ad hz h35) (w11 15 _ _ rfl rfl)
  subst q11_15
  obtain ⟨vs103, f103, l103, w103⟩ := r103
  dsimp only at f103
  subst f103
  obtain ⟨u103_0, s103_0, rfl, m103_0⟩ := cu_c l103
  obtain ⟨u103_1, s103_1, rfl, m103_1⟩ := cu_c m103_0
  obtain ⟨u103_2, s103_2, rfl, m103_2⟩ := cu_c m103_1
  obtain ⟨u103_3, s103_3, rfl, m103_3⟩ := cu_c m103_2
  cases cu_n m103_3
  have q103_0 := cu_R (cu_ad hz h29) (w103 0 _ _ rfl rfl)
  subst q103_0
  have q103_1 := cu_R (cu_ad hz h117) (w103 1 _ _ rfl rfl)
  subst q103_1
  have q103_2 := cu_R (cu_ad hz h121) (w103 2 _ _ rfl rfl)
  subst q103_2
  obtain ⟨i103_3, q103_3⟩ := cu_I (w103 3 _ _ rfl rfl) rfl
  subst q103_3
  obtain ⟨vs125, f125, l125, w125⟩ := r125
  dsimp only at f125
  subst f125
  obtain ⟨u125_0, s125_0, rfl, m125_0⟩ := cu_c l125
  obtain ⟨u125_1, s125_1, rfl, m125_1⟩ := cu_c m125_0
  obtain ⟨u125_2, s125_2, rfl, m125_2⟩ := cu_c m125_1
  obtain ⟨u125_3, s125_3, rfl, m125_3⟩ := cu_c m125_2
  cases cu_n m125_3
  have q125_0 := cu_R (cu_ad hz h28) (w125 0 _ _ rfl rfl)
  subst q125_0
  have q125_1 := cu_R (cu_ad hz h139) (w125 1 _ _ rfl rfl)
  subst q125_1
  have q125_2 := cu_R (cu_ad hz h143) (w125 2 _ _ rfl rfl)
  subst q125_2
  obtain ⟨i125_3, q125_3⟩ := cu_I (w125 3 _ _ rfl rfl) rfl
  subst q125_3
  obtain ⟨vs29, f29, l29, w29⟩ := r29
  dsimp only at f29
  subst f29
  obtain ⟨u29_0, s29_0, rfl, m29_0⟩ := cu_c l29
  obtain ⟨u29_1, s29_1, rfl, m29_1⟩ := cu_c m29_0
  obtain ⟨u29_2, s29_2, rfl, m29_2⟩ := cu_c m29_1
  obtain ⟨u29_3, s29_3, rfl, m29_3⟩ := cu_c m29_2
  obtain ⟨u29_4, s29_4, rfl, m29_4⟩ := cu_c m29_3
  obtain ⟨u29_5, s29_5, rfl, m29_5⟩ := cu_c m29_4
  obtain ⟨u29_6, s29_6, rfl, m29_6⟩ := cu_c m29_5
  obtain ⟨u29_7, s29_7, rfl, m29_7⟩ := cu_c m29_6
  obtain ⟨u29_8, s29_8, rfl, m29_8⟩ := cu_c m29_7
  obtain ⟨u29_9, s29_9, rfl, m29_9⟩ := cu_c m29_8
  obtain ⟨u29_10, s29_10, rfl, m29_10⟩ := cu_c m29_9
  obtain ⟨u29_11, s29_11, rfl, m29_11⟩ := cu_c m29_10
  obtain ⟨u29_12, s29_12, rfl, m29_12⟩ := cu_c m29_11
  obtain ⟨u29_13, s29_13, rfl, m29_13⟩ := cu_c m29_12
  obtain ⟨u29_14, s29_14, rfl, m29_14⟩ := cu_c m29_13
  obtain ⟨u29_15, s29_15, rfl, m29_15⟩ := cu_c m29_14
  cases cu_n m29_15
  obtain ⟨i29_0, q29_0⟩ := cu_I (w29 0 _ _ rfl rfl) rfl
  subst q29_0
  have q29_1 := cu_R (cu_ad hz h104) (w29 1 _ _ rfl rfl)
  subst q29_1
  have q29_2 := cu_R (cu_ad hz h105) (w29 2 _ _ rfl rfl)
  subst q29_2
  have q29_3 := cu_R (cu_ad hz h106) (w29 3 _ _ rfl rfl)
  subst q29_3
  obtain ⟨i29_4, q29_4⟩ := cu_I (w29 4 _ _ rfl rfl) rfl
  subst q29_4
  have q29_5 := cu_R (cu_ad hz h107) (w29 5 _ _ rfl rfl)
  subst q29_5
  have q29_6 := cu_R (cu_ad hz h108) (w29 6 _ _ rfl rfl)
  subst q29_6
  have q29_7 := cu_R (cu_ad hz h109) (w29 7 _ _ rfl rfl)
  subst q29_7
  have q29_8 := cu_R (cu_ad hz h110) (w29 8 _ _ rfl rfl)
  subst q29_8
  obtain ⟨i29_9, q29_9⟩ := cu_I (w29 9 _ _ rfl rfl) rfl
  subst q29_9
  have q29_10 := cu_R (cu_ad hz h111) (w29 10 _ _ rfl rfl)
  subst q29_10
  have q29_11 := cu_R (cu_ad hz h112) (w29 11 _ _ rfl rfl)
  subst q29_11
  have q29_12 := cu_R (cu_ad hz h113) (w29 12 _ _ rfl rfl)
  subst q29_12
  have q29_13 := cu_R (cu_ad hz h114) (w29 13 _ _ rfl rfl)
  subst q29_13
  have q29_14 := cu_R (cu_ad hz h115) (w29 14 _ _ rfl rfl)
  subst q29_14
  have q29_15 := cu_R (cu_ad hz h116) (w29 15 _ _ rfl rfl)
  subst q29_15
  obtain ⟨vs28, f28, l28, w28⟩ := r28
  dsimp only at f28
  subst f28
  obtain ⟨u28_0, s28_0, rfl, m28_0⟩ := cu_c l28
  obtain ⟨u28_1, s28_1, rfl, m28_1⟩ := cu_c m28_0
  obtain ⟨u28_2, s28_2, rfl, m28_2⟩ := cu_c m28_1
  obtain ⟨u28_3, s28_3, rfl, m28_3⟩ := cu_c m28_2
  obtain ⟨u28_4, s28_4, rfl, m28_4⟩ := cu_c m28_3
  obtain ⟨u28_5, s28_5, rfl, m28_5⟩ := cu_c m28_4
  obtain ⟨u28_6, s28_6, rfl, m28_6⟩ := cu_c m28_5
  obtain ⟨u28_7, s28_7, rfl, m28_7⟩ := cu_c m28_6
  obtain ⟨u28_8, s28_8, rfl, m28_8⟩ := cu_c m28_7
  obtain ⟨u28_9, s28_9, rfl, m28_9⟩ := cu_c m28_8
  obtain ⟨u28_10, s28_10, rfl, m28_10⟩ := cu_c m28_9
  obtain ⟨u28_11, s28_11, rfl, m28_11⟩ := cu_c m28_10
  obtain ⟨u28_12, s28_12, rfl, m28_12⟩ := cu_c m28_11
  obtain ⟨u28_13, s28_13, rfl, m28_13⟩ := cu_c m28_12
  obtain ⟨u28_14, s28_14, rfl, m28_14⟩ := cu_c m28_13
  obtain ⟨u28_15, s28_15, rfl, m28_15⟩ := cu_c m28_14
  cases cu_n m28_15
  obtain ⟨i28_0, q28_0⟩ := cu_I (w28 0 _ _ rfl rfl) rfl
  subst q28_0
  have q28_1 := cu_R (cu_ad hz h126) (w28 1 _ _ rfl rfl)
  subst q28_1
  have q28_2 := cu_R (cu_ad hz h127) (w28 2 _ _ rfl rfl)
  subst q28_2
  have q28_3 := cu_R (cu_ad hz h128) (w28 3 _ _ rfl rfl)
  subst q28_3
  obtain ⟨i28_4, q28_4⟩ := cu_I (w28 4 _ _ rfl rfl) rfl
  subst q28_4
  have q28_5 := cu_R (cu_ad hz h129) (w28 5 _ _ rfl rfl)
  subst q28_5
  have q28_6 := cu_R (cu_ad hz h130) (w28 6 _ _ rfl rfl)
  subst q28_6
  have q28_7 := cu_R (cu_ad hz h131) (w28 7 _ _ rfl rfl)
  subst q28_7
  have q28_8 := cu_R (cu_ad hz h132) (w28 8 _ _ rfl rfl)
  subst q28_8
  obtain ⟨i28_9, q28_9⟩ := cu_I (w28 9 _ _ rfl rfl) rfl
  subst q28_9
  have q28_10 := cu_R (cu_ad hz h133) (w28 10 _ _ rfl rfl)
  subst q28_10
  have q28_11 := cu_R (cu_ad hz h134) (w28 11 _ _ rfl rfl)
  subst q28_11
  have q28_12 := cu_R (cu_ad hz h135) (w28 12 _ _ rfl rfl)
  subst q28_12
  have q28_13 := cu_R (cu_ad hz h136) (w28 13 _ _ rfl rfl)
  subst q28_13
  have q28_14 := cu_R (cu_ad hz h137) (w28 14 _ _ rfl rfl)
  subst q28_14
  have q28_15 := cu_R (cu_ad hz h138) (w28 15 _ _ rfl rfl)
  subst q28_15
  obtain ⟨vs13, f13, l13, w13⟩ := r13
  dsimp only at f13
  subst f13
  obtain ⟨u13_0, s13_0, rfl, m13_0⟩ := cu_c l13
  obtain ⟨u13_1, s13_1, rfl, m13_1⟩ := cu_c m13_0
  obtain ⟨u13_2, s13_2, rfl, m13_2⟩ := cu_c m13_1
  obtain ⟨u13_3, s13_3, rfl, m13_3⟩ := cu_c m13_2
  obtain ⟨u13_4, s13_4, rfl, m13_4⟩ := cu_c m13_3
  obtain ⟨u13_5, s13_5, rfl, m13_5⟩ := cu_c m13_4
  obtain ⟨u13_6, s13_6, rfl, m13_6⟩ := cu_c m13_5
  cases cu_n m13_6
  obtain ⟨i13_0, q13_0⟩ := cu_I (w13 0 _ _ rfl rfl) rfl
  subst q13_0
  obtain ⟨i13_1, q13_1⟩ := cu_I (w13 1 _ _ rfl rfl) rfl
  subst q13_1
  obtain ⟨i13_2, q13_2⟩ := cu_I (w13 2 _ _ rfl rfl) rfl
  subst q13_2
  have q13_3 := cu_R (cu_ad hz h18) (w13 3 _ _ rfl rfl)
  subst q13_3
  have q13_4 := cu_R (cu_ad hz h59) (w13 4 _ _ rfl rfl)
  subst q13_4
  have q13_5 := cu_R (cu_ad hz h60) (w13 5 _ _ rfl rfl)
  subst q13_5
  obtain ⟨i13_6, q13_6⟩ := cu_I (w13 6 _ _ rfl rfl) rfl
  subst q13_6
  obtain ⟨vs117, f117, l117, w117⟩ := r117
  dsimp only at f117
  subst f117
  obtain ⟨u117_0, s117_0, rfl, m117_0⟩ := cu_c l117
  obtain ⟨u117_1, s117_1, rfl, m117_1⟩ := cu_c m117_0
  obtain ⟨u117_2, s117_2, rfl, m117_2⟩ := cu_c m117_1
  obtain ⟨u117_3, s117_3, rfl, m117_3⟩ := cu_c m117_2
  obtain ⟨u117_4, s117_4, rfl, m117_4⟩ := cu_c m117_3
  obtain ⟨u117_5, s117_5, rfl, m117_5⟩ := cu_c m117_4
  obtain ⟨u117_6, s117_6, rfl, m117_6⟩ := cu_c m117_5
  cases cu_n m117_6
  obtain ⟨i117_0, q117_0⟩ := cu_I (w117 0 _ _ rfl rfl) rfl
  subst q117_0
  obtain ⟨i117_1, q117_1⟩ := cu_I (w117 1 _ _ rfl rfl) rfl
  subst q117_1
  obtain ⟨i117_2, q117_2⟩ := cu_I (w117 2 _ _ rfl rfl) rfl
  subst q117_2
  have q117_3 := cu_R (cu_ad hz h118) (w117 3 _ _ rfl rfl)
  subst q117_3
  have q117_4 := cu_R (cu_ad hz h119) (w117 4 _ _ rfl rfl)
  subst q117_4
  have q117_5 := cu_R (cu_ad hz h120) (w117 5 _ _ rfl rfl)
  subst q117_5
  obtain ⟨i117_6, q117_6⟩ := cu_I (w117 6 _ _ rfl rfl) rfl
  subst q117_6
  obtain ⟨vs139, f139, l139, w139⟩ := r139
  dsimp only at f139
  subst f139
  obtain ⟨u139_0, s139_0, rfl, m139_0⟩ := cu_c l139
  obtain ⟨u139_1, s139_1, rfl, m139_1⟩ := cu_c m139_0
  obtain ⟨u139_2, s139_2, rfl, m139_2⟩ := cu_c m139_1
  obtain ⟨u139_3, s139_3, rfl, m139_3⟩ := cu_c m139_2
  obtain ⟨u139_4, s139_4, rfl, m139_4⟩ := cu_c m139_3
  obtain ⟨u139_5, s139_5, rfl, m139_5⟩ := cu_c m139_4
  obtain ⟨u139_6, s139_6, rfl, m139_6⟩ := cu_c m139_5
  cases cu_n m139_6
  obtain ⟨i139_0, q139_0⟩ := cu_I (w139 0 _ _ rfl rfl) rfl
  subst q139_0
  obtain ⟨i139_1, q139_1⟩ := cu_I (w139 1 _ _ rfl rfl) rfl
  subst q139_1
  obtain ⟨i139_2, q139_2⟩ := cu_I (w139 2 _ _ rfl rfl) rfl
  subst q139_2
  have q139_3 := cu_R (cu_ad hz h140) (w139 3 _ _ rfl rfl)
  subst q139_3
  have q139_4 := cu_R (cu_ad hz h141) (w139 4 _ _ rfl rfl)
  subst q139_4
  have q139_5 := cu_R (cu_ad hz h142) (w139 5 _ _ rfl rfl)
  subst q139_5
  obtain ⟨i139_6, q139_6⟩ := cu_I (w139 6 _ _ rfl rfl) rfl
  subst q139_6
  obtain ⟨vs9, f9, l9, w9⟩ := r9
  dsimp only at f9
  subst f9
  obtain ⟨u9_0, s9_0, rfl, m9_0⟩ := cu_c l9
  obtain ⟨u9_1, s9_1, rfl, m9_1⟩ := cu_c m9_0
  obtain ⟨u9_2, s9_2, rfl, m9_2⟩ := cu_c m9_1
  obtain ⟨u9_3, s9_3, rfl, m9_3⟩ := cu_c m9_2
  obtain ⟨u9_4, s9_4, rfl, m9_4⟩ := cu_c m9_3
  cases cu_n m9_4
  have q9_0 := cu_R (cu_ad hz h23) (w9 0 _ _ rfl rfl)
  subst q9_0
  have q9_1 := cu_R (cu_ad hz h27) (w9 1 _ _ rfl rfl)
  subst q9_1
  have q9_2 := cu_R (cu_ad hz h25) (w9 2 _ _ rfl rfl)
  subst q9_2
  obtain ⟨i9_3, q9_3⟩ := cu_I (w9 3 _ _ rfl rfl) rfl
  subst q9_3
  obtain ⟨i9_4, q9_4⟩ := cu_I (w9 4 _ _ rfl rfl) rfl
  subst q9_4
  obtain ⟨vs121, f121, l121, w121⟩ := r121
  dsimp only at f121
  subst f121
  obtain ⟨u121_0, s121_0, rfl, m121_0⟩ := cu_c l121
  obtain ⟨u121_1, s121_1, rfl, m121_1⟩ := cu_c m121_0
  obtain ⟨u121_2, s121_2, rfl, m121_2⟩ := cu_c m121_1
  obtain ⟨u121_3, s121_3, rfl, m121_3⟩ := cu_c m121_2
  obtain ⟨u121_4, s121_4, rfl, m121_4⟩ := cu_c m121_3
  cases cu_n m121_4
  have q121_0 := cu_R (cu_ad hz h122) (w121 0 _ _ rfl rfl)
  subst q121_0
  have q121_1 := cu_R (cu_ad hz h123) (w121 1 _ _ rfl rfl)
  subst q121_1
  have q121_2 := cu_R (cu_ad hz h124) (w121 2 _ _ rfl rfl)
  subst q121_2
  obtain ⟨i121_3, q121_3⟩ := cu_I (w121 3 _ _ rfl rfl) rfl
  subst q121_3
  obtain ⟨i121_4, q121_4⟩ := cu_I (w121 4 _ _ rfl rfl) rfl
  subst q121_4
  obtain ⟨vs143, f143, l143, w143⟩ := r143
  dsimp only at f143
  subst f143
  obtain ⟨u143_0, s143_0, rfl, m143_0⟩ := cu_c l143
  obtain ⟨u143_1, s143_1, rfl, m143_1⟩ := cu_c m143_0
  obtain ⟨u143_2, s143_2, rfl, m143_2⟩ := cu_c m143_1
  obtain ⟨u143_3, s143_3, rfl, m143_3⟩ := cu_c m143_2
  obtain ⟨u143_4, s143_4, rfl, m143_4⟩ := cu_c m143_3
  cases cu_n m143_4
  have q143_0 := cu_R (cu_ad hz h144) (w143 0 _ _ rfl rfl)
  subst q143_0
  have q143_1 := cu_R (cu_ad hz h145) (w143 1 _ _ rfl rfl)
  subst q143_1
  have q143_2 := cu_R (cu_ad hz h146) (w143 2 _ _ rfl rfl)
  subst q143_2
  obtain ⟨i143_3, q143_3⟩ := cu_I (w143 3 _ _ rfl rfl) rfl
  subst q143_3
  obtain ⟨i143_4, q143_4⟩ := cu_I (w143 4 _ _ rfl rfl) rfl
  subst q143_4
  obtain ⟨vs15, f15, l15, w15⟩ := r15
  dsimp only at f15
  subst f15
  obtain ⟨u15_0, s15_0, rfl, m15_0⟩ := cu_c l15
  obtain ⟨u15_1, s15_1, rfl, m15_1⟩ := cu_c m15_0
  cases cu_n m15_1
  obtain ⟨i15_0, q15_0⟩ := cu_Rx (w15 0 _ _ rfl rfl)
  subst q15_0
  obtain ⟨i15_1, q15_1⟩ := cu_I (w15 1 _ _ rfl rfl) rfl
  subst q15_1
  obtain ⟨vs3, f3, l3, w3⟩ := r3
  dsimp only at f3
  subst f3
  obtain ⟨u3_0, s3_0, rfl, m3_0⟩ := cu_c l3
  obtain ⟨u3_1, s3_1, rfl, m3_1⟩ := cu_c m3_0
  obtain ⟨u3_2, s3_2, rfl, m3_2⟩ := cu_c m3_1
  obtain ⟨u3_3, s3_3, rfl, m3_3⟩ := cu_c m3_2
  obtain ⟨u3_4, s3_4, rfl, m3_4⟩ := cu_c m3_3
  obtain ⟨u3_5, s3_5, rfl, m3_5⟩ := cu_c m3_4
  obtain ⟨u3_6, s3_6, rfl, m3_6⟩ := cu_c m3_5
  obtain ⟨u3_7, s3_7, rfl, m3_7⟩ := cu_c m3_6
  obtain ⟨u3_8, s3_8, rfl, m3_8⟩ := cu_c m3_7
  obtain ⟨u3_9, s3_9, rfl, m3_9⟩ := cu_c m3_8
  obtain ⟨u3_10, s3_10, rfl, m3_10⟩ := cu_c m3_9
  obtain ⟨u3_11, s3_11, rfl, m3_11⟩ := cu_c m3_10
  obtain ⟨u3_12, s3_12, rfl, m3_12⟩ := cu_c m3_11
  obtain ⟨u3_13, s3_13, rfl, m3_13⟩ := cu_c m3_12
  obtain ⟨u3_14, s3_14, rfl, m3_14⟩ := cu_c m3_13
  cases cu_n m3_14
  obtain ⟨i3_0, q3_0⟩ := cu_Rx (w3 0 _ _ rfl rfl)
  subst q3_0
  obtain ⟨i3_1, q3_1⟩ := cu_I (w3 1 _ _ rfl rfl) rfl
  obtain ⟨i3_2, q3_2⟩ := cu_I (w3 2 _ _ rfl rfl) rfl
  subst q3_2
  obtain ⟨i3_3, q3_3⟩ := cu_I (w3 3 _ _ rfl rfl) rfl
  subst q3_3
  obtain ⟨i3_4, q3_4⟩ := cu_I (w3 4 _ _ rfl rfl) rfl
  subst q3_4
  obtain ⟨i3_5, q3_5⟩ := cu_I (w3 5 _ _ rfl rfl) rfl
  subst q3_5
  obtain ⟨i3_6, q3_6⟩ := cu_L (w3 6 _ _ rfl rfl) rfl
  subst q3_6
  obtain ⟨i3_7, q3_7⟩ := cu_I (w3 7 _ _ rfl rfl) rfl
  subst q3_7
  obtain ⟨i3_8, q3_8⟩ := cu_I (w3 8 _ _ rfl rfl) rfl
  subst q3_8
  obtain ⟨i3_9, q3_9⟩ := cu_I (w3 9 _ _ rfl rfl) rfl
  subst q3_9
  obtain ⟨i3_10, q3_10⟩ := cu_L (w3 10 _ _ rfl rfl) rfl
  subst q3_10
  obtain ⟨i3_11, q3_11⟩ := cu_I (w3 11 _ _ rfl rfl) rfl
  subst q3_11
  obtain ⟨i3_12, q3_12⟩ := cu_I (w3 12 _ _ rfl rfl) rfl
  subst q3_12
  obtain ⟨i3_13, q3_13⟩ := cu_I (w3 13 _ _ rfl rfl) rfl
  subst q3_13
  obtain ⟨i3_14, q3_14⟩ := cu_Rx (w3 14 _ _ rfl rfl)
  subst q3_14
  have z3 := w3 1 _ _ rfl rfl
  subst q3_1
  refine ⟨y102, ((fun j => bif Nat.beq j 0 then i11_0 else bif Nat.beq j 1 then i11_4 else bif Nat.beq j 2 then i11_9 else bif Nat.beq j 100 then i29_0 else bif Nat.beq j 101 then i29_4 else bif Nat.beq j 102 then i29_9 else bif Nat.beq j 200 then i28_0 else bif Nat.beq j 201 then i28_4 else bif Nat.beq j 202 then i28_9 else bif Nat.beq j 1000 then i13_0 else bif Nat.beq j 1001 then i13_1 else bif Nat.beq j 1002 then i13_2 else bif Nat.beq j 1003 then i13_6 else bif Nat.beq j 1010 then i117_0 else bif Nat.beq j 1011 then i117_1 else bif Nat.beq j 1012 then i117_2 else bif Nat.beq j 1013 then i117_6 else bif Nat.beq j 1020 then i139_0 else bif Nat.beq j 1021 then i139_1 else bif Nat.beq j 1022 then i139_2 else bif Nat.beq j 1023 then i139_6 else bif Nat.beq j 2000 then i9_3 else bif Nat.beq j 2001 then i9_4 else bif Nat.beq j 2010 then i121_3 else bif Nat.beq j 2011 then i121_4 else bif Nat.beq j 2020 then i143_3 else bif Nat.beq j 2021 then i143_4 else bif Nat.beq j 3001 then i3_1 else bif Nat.beq j 3002 then i3_2 else bif Nat.beq j 3003 then i3_3 else bif Nat.beq j 3004 then i3_4 else bif Nat.beq j 3005 then i3_5 else bif Nat.beq j 3007 then i3_7 else bif Nat.beq j 3008 then i3_8 else bif Nat.beq j 3009 then i3_9 else bif Nat.beq j 3011 then i3_11 else bif Nat.beq j 3012 then i3_12 else bif Nat.beq j 3013 then i3_13 else bif Nat.beq j 3100 then i103_3 else bif Nat.beq j 3101 then i125_3 else bif Nat.beq j 3200 then i15_1 else bif Nat.beq j 3300 then i10_14 else bif Nat.beq j 3301 then i10_16 else (0 : Int32)), (fun j => bif Nat.beq j 16 then i3_6 else bif Nat.beq j 20 then i3_10 else (0 : Int64)), (fun j => bif Nat.beq j 0 then y31 else bif Nat.beq j 1 then y51 else bif Nat.beq j 2 then y52 else bif Nat.beq j 3 then y53 else bif Nat.beq j 4 then y54 else bif Nat.beq j 5 then y55 else bif Nat.beq j 6 then y33 else bif Nat.beq j 7 then y57 else bif Nat.beq j 8 then y37 else bif Nat.beq j 9 then y58 else bif Nat.beq j 10 then y35 else bif Nat.beq j 100 then y105 else bif Nat.beq j 101 then y106 else bif Nat.beq j 102 then y107 else bif Nat.beq j 103 then y108 else bif Nat.beq j 104 then y109 else bif Nat.beq j 105 then y110 else bif Nat.beq j 106 then y112 else bif Nat.beq j 107 then y113 else bif Nat.beq j 108 then y114 else bif Nat.beq j 109 then y115 else bif Nat.beq j 110 then y116 else bif Nat.beq j 200 then y127 else bif Nat.beq j 201 then y128 else bif Nat.beq j 202 then y129 else bif Nat.beq j 203 then y130 else bif Nat.beq j 204 then y131 else bif Nat.beq j 205 then y132 else bif Nat.beq j 206 then y134 else bif Nat.beq j 207 then y135 else bif Nat.beq j 208 then y136 else bif Nat.beq j 209 then y137 else bif Nat.beq j 210 then y138 else bif Nat.beq j 1000 then y18 else bif Nat.beq j 1001 then y59 else bif Nat.beq j 1002 then y60 else bif Nat.beq j 1010 then y118 else bif Nat.beq j 1011 then y119 else bif Nat.beq j 1012 then y120 else bif Nat.beq j 1020 then y140 else bif Nat.beq j 1021 then y141 else bif Nat.beq j 1022 then y142 else bif Nat.beq j 2000 then y23 else bif Nat.beq j 2001 then y27 else bif Nat.beq j 2002 then y25 else bif Nat.beq j 2010 then y122 else bif Nat.beq j 2011 then y123 else bif Nat.beq j 2012 then y124 else bif Nat.beq j 2020 then y144 else bif Nat.beq j 2021 then y145 else bif Nat.beq j 2022 then y146 else (fun _ => (0 : Int32))), (fun j => bif Nat.beq j 0 then y50 else bif Nat.beq j 1 then y56 else bif Nat.beq j 100 then y104 else bif Nat.beq j 101 then y111 else bif Nat.beq j 200 then y126 else bif Nat.beq j 201 then y133 else (fun _ => (0 : Int64)))), ([a10, a102, a11, a50, a31, a51, a52, a53, a54, a55, a56, a33, a57, a37, a58, a35, a103, a125, a29, a104, a105, a106, a107, a108, a109, a110, a111, a112, a113, a114, a115, a116, a28, a126, a127, a128, a129, a130, a131, a132, a133, a134, a135, a136, a137, a138, a13, a18, a59, a60, a117, a118, a119, a120, a139, a140, a141, a142, a9, a23, a27, a25, a121, a122, a123, a124, a143, a144, a145, a146, a15, a3], (fun j => bif Nat.beq j 0 then i10_1 else bif Nat.beq j 1 then i10_3 else bif Nat.beq j 2 then i10_5 else bif Nat.beq j 3 then i10_8 else bif Nat.beq j 4 then i10_9 else bif Nat.beq j 5 then i10_10 else bif Nat.beq j 6 then i10_11 else bif Nat.beq j 7 then i10_13 else bif Nat.beq j 8 then i10_15 else bif Nat.beq j 9 then i15_0 else bif Nat.beq j 20 then i3_0 else bif Nat.beq j 34 then i3_14 else 0)), [(a10, .inr (10, [.ref a3, .ref i10_1, .ref a11, .ref i10_3, .ref a13, .ref i10_5, .ref a15, .ref a9, .ref i10_8, .ref i10_9, .ref i10_10, .ref i10_11, .ref a102, .ref i10_13, .int i10_14, .ref i10_15, .int i10_16])),
      (a102, .inl (cA102, 2, .inr (.inr (.inr (.inr y102))))),
      (a11, .inr (8, [.int i11_0, .ref a50, .ref a31, .ref a51, .int i11_4, .ref a52, .ref a53, .ref a54, .ref a55, .int i11_9, .ref a56, .ref a33, .ref a57, .ref a37, .ref a58, .ref a35])),
      (a50, .inl (cA50, 7, .inr (.inl y50))),
      (a31, .inl (cA31, 7, .inl y31)),
      (a51, .inl (cA51, 7, .inl y51)),
      (a52, .inl (cA52, 12, .inl y52)),
      (a53, .inl (cA53, 12, .inl y53)),
      (a54, .inl (cA54, 12, .inl y54)),
      (a55, .inl (cA55, 12, .inl y55)),
      (a56, .inl (cA56, 8, .inr (.inl y56))),
      (a33, .inl (cA33, 8, .inl y33)),
      (a57, .inl (cA57, 8, .inl y57)),
      (a37, .inl (cA37, 8, .inl y37)),
      (a58, .inl (cA58, 8, .inl y58)),
      (a35, .inl (cA35, 3, .inl y35)),
      (a103, .inr (2, [.ref a29, .ref a117, .ref a121, .int i103_3])),
      (a125, .inr (2, [.ref a28, .ref a139, .ref a143, .int i125_3])),
      (a29, .inr (8, [.int i29_0, .ref a104, .ref a105, .ref a106, .int i29_4, .ref a107, .ref a108, .ref a109, .ref a110, .int i29_9, .ref a111, .ref a112, .ref a113, .ref a114, .ref a115, .ref a116])),
      (a104, .inl (cA104, 7, .inr (.inl y104))),
      (a105, .inl (cA105, 7, .inl y105)),
      (a106, .inl (cA106, 7, .inl y106)),
      (a107, .inl (cA107, 12, .inl y107)),
      (a108, .inl (cA108, 12, .inl y108)),
      (a109, .inl (cA109, 12, .inl y109)),
      (a110, .inl (cA110, 12, .inl y110)),
      (a111, .inl (cA111, 8, .inr (.inl y111))),
      (a112, .inl (cA112, 8, .inl y112)),
      (a113, .inl (cA113, 8, .inl y113)),
      (a114, .inl (cA114, 8, .inl y114)),
      (a115, .inl (cA115, 8, .inl y115)),
      (a116, .inl (cA116, 3, .inl y116)),
      (a28, .inr (8, [.int i28_0, .ref a126, .ref a127, .ref a128, .int i28_4, .ref a129, .ref a130, .ref a131, .ref a132, .int i28_9, .ref a133, .ref a134, .ref a135, .ref a136, .ref a137, .ref a138])),
      (a126, .inl (cA126, 7, .inr (.inl y126))),
      (a127, .inl (cA127, 7, .inl y127)),
      (a128, .inl (cA128, 7, .inl y128)),
      (a129, .inl (cA129, 12, .inl y129)),
      (a130, .inl (cA130, 12, .inl y130)),
      (a131, .inl (cA131, 12, .inl y131)),
      (a132, .inl (cA132, 12, .inl y132)),
      (a133, .inl (cA133, 8, .inr (.inl y133))),
      (a134, .inl (cA134, 8, .inl y134)),
      (a135, .inl (cA135, 8, .inl y135)),
      (a136, .inl (cA136, 8, .inl y136)),
      (a137, .inl (cA137, 8, .inl y137)),
      (a138, .inl (cA138, 3, .inl y138)),
      (a13, .inr (7, [.int i13_0, .int i13_1, .int i13_2, .ref a18, .ref a59, .ref a60, .int i13_6])),
      (a18, .inl (cA18, 7, .inl y18)),
      (a59, .inl (cA59, 7, .inl y59)),
      (a60, .inl (cA60, 7, .inl y60)),
      (a117, .inr (7, [.int i117_0, .int i117_1, .int i117_2, .ref a118, .ref a119, .ref a120, .int i117_6])),
      (a118, .inl (cA118, 7, .inl y118)),
      (a119, .inl (cA119, 7, .inl y119)),
      (a120, .inl (cA120, 7, .inl y120)),
      (a139, .inr (7, [.int i139_0, .int i139_1, .int i139_2, .ref a140, .ref a141, .ref a142, .int i139_6])),
      (a140, .inl (cA140, 7, .inl y140)),
      (a141, .inl (cA141, 7, .inl y141)),
      (a142, .inl (cA142, 7, .inl y142)),
      (a9, .inr (6, [.ref a23, .ref a27, .ref a25, .int i9_3, .int i9_4])),
      (a23, .inl (cA23, 40, .inl y23)),
      (a27, .inl (cA27, 40, .inl y27)),
      (a25, .inl (cA25, 40, .inl y25)),
      (a121, .inr (6, [.ref a122, .ref a123, .ref a124, .int i121_3, .int i121_4])),
      (a122, .inl (cA122, 40, .inl y122)),
      (a123, .inl (cA123, 40, .inl y123)),
      (a124, .inl (cA124, 40, .inl y124)),
      (a143, .inr (6, [.ref a144, .ref a145, .ref a146, .int i143_3, .int i143_4])),
      (a144, .inl (cA144, 40, .inl y144)),
      (a145, .inl (cA145, 40, .inl y145)),
      (a146, .inl (cA146, 40, .inl y146)),
      (a15, .inr (1, [.ref i15_0, .int i15_1])),
      (a3, .inr (4, [.ref i3_0, .int i3_1, .int i3_2, .int i3_3, .int i3_4, .int i3_5, .long i3_6, .int i3_7, .int i3_8, .int i3_9, .long i3_10, .int i3_11, .int i3_12, .int i3_13, .ref i3_14]))], ?_, ?_, cu_ev1 z3, ⟨cu_Q (cu_ad hz h103) (o102 0 (by decide)), cu_Q (cu_ad hz h125) (o102 1 (by decide))⟩⟩
  · refine ⟨rfl, ⟨rfl, Nat.le_of_ble_eq_true rfl⟩, fun k c hk => ?_⟩
    match k, hk with
    | 0, hk => cases hk; exact ⟨_, rfl, rfl⟩
    | 1, hk => cases hk; exact ⟨_, rfl, Nat.le_of_ble_eq_true rfl, Nat.le_of_ble_eq_true rfl, ⟨_, rfl⟩, _, rfl, t102⟩
    | 2, hk => cases hk; exact ⟨_, rfl, rfl⟩
    | 3, hk => cases hk; exact ⟨_, rfl, Nat.le_of_ble_eq_true rfl, Nat.le_of_ble_eq_true rfl, ⟨_, rfl⟩, _, rfl, t50⟩
    | 4, hk => cases hk; exact ⟨_, rfl, Nat.le_of_ble_eq_true rfl, Nat.le_of_ble_eq_true rfl, ⟨_, rfl⟩, _, rfl, t31⟩
    | 5, hk => cases hk; exact ⟨_, rfl, Nat.le_of_ble_eq_true rfl, Nat.le_of_ble_eq_true rfl, ⟨_, rfl⟩, _, rfl, t51⟩
    | 6, hk => cases hk; exact ⟨_, rfl, Nat.le_of_ble_eq_true rfl, Nat.le_of_ble_eq_true rfl, ⟨_, rfl⟩, _, rfl, t52⟩
    | 7, hk => cases hk; exact ⟨_, rfl, Nat.le_of_ble_eq_true rfl, Nat.le_of_ble_eq_true rfl, ⟨_, rfl⟩, _, rfl, t53⟩
    | 8, hk => cases hk; exact ⟨_, rfl, Nat.le_of_ble_eq_true rfl, Nat.le_of_ble_eq_true rfl, ⟨_, rfl⟩, _, rfl, t54⟩
    | 9, hk => cases hk; exact ⟨_, rfl, Nat.le_of_ble_eq_true rfl, Nat.le_of_ble_eq_true rfl, ⟨_, rfl⟩, _, rfl, t55⟩
    | 10, hk => cases hk; exact ⟨_, rfl, Nat.le_of_ble_eq_true rfl, Nat.le_of_ble_eq_true rfl, ⟨_, rfl⟩, _, rfl, t56⟩
    | 11, hk => cases hk; exact ⟨_, rfl, Nat.le_of_ble_eq_true rfl, Nat.le_of_ble_eq_true rfl, ⟨_, rfl⟩, _, rfl, t33⟩
    | 12, hk => cases hk; exact ⟨_, rfl, Nat.le_of_ble_eq_true rfl, Nat.le_of_ble_eq_true rfl, ⟨_, rfl⟩, _, rfl, t57⟩
    | 13, hk => cases hk; exact ⟨_, rfl, Nat.le_of_ble_eq_true rfl, Nat.le_of_ble_eq_true rfl, ⟨_, rfl⟩, _, rfl, t37⟩
    | 14, hk => cases hk; exact ⟨_, rfl, Nat.le_of_ble_eq_true rfl, Nat.le_of_ble_eq_true rfl, ⟨_, rfl⟩, _, rfl, t58⟩
    | 15, hk => cases hk; exact ⟨_, rfl, Nat.le_of_ble_eq_true rfl, Nat.le_of_ble_eq_true rfl, ⟨_, rfl⟩, _, rfl, t35⟩
    | 16, hk => cases hk; exact ⟨_, rfl, rfl⟩
    | 17, hk => cases hk; exact ⟨_, rfl, rfl⟩
    | 18, hk => cases hk; exact ⟨_, rfl, rfl⟩
    | 19, hk => cases hk; exact ⟨_, rfl, Nat.le_of_ble_eq_true rfl, Nat.le_of_ble_eq_true rfl, ⟨_, rfl⟩, _, rfl, t104⟩
    | 20, hk => cases hk; exact ⟨_, rfl, Nat.le_of_ble_eq_true rfl, Nat.le_of_ble_eq_true rfl, ⟨_, rfl⟩, _, rfl, t105⟩
    | 21, hk => cases hk; exact ⟨_, rfl, Nat.le_of_ble_eq_true rfl, Nat.le_of_ble_eq_true rfl, ⟨_, rfl⟩, _, rfl, t106⟩
    | 22, hk => cases hk; exact ⟨_, rfl, Nat.le_of_ble_eq_true rfl, Nat.le_of_ble_eq_true rfl, ⟨_, rfl⟩, _, rfl, t107⟩
    | 23, hk => cases hk; exact ⟨_, rfl, Nat.le_of_ble_eq_true rfl, Nat.le_of_ble_eq_true rfl, ⟨_, rfl⟩, _, rfl, t108⟩
    | 24, hk => cases hk; exact ⟨_, rfl, Nat.le_of_ble_eq_true rfl, Nat.le_of_ble_eq_true rfl, ⟨_, rfl⟩, _, rfl, t109⟩
    | 25, hk => cases hk; exact ⟨_, rfl, Nat.le_of_ble_eq_true rfl, Nat.le_of_ble_eq_true rfl, ⟨_, rfl⟩, _, rfl, t110⟩
    | 26, hk => cases hk; exact ⟨_, rfl, Nat.le_of_ble_eq_true rfl, Nat.le_of_ble_eq_true rfl, ⟨_, rfl⟩, _, rfl, t111⟩
    | 27, hk => cases hk; exact ⟨_, rfl, Nat.le_of_ble_eq_true rfl, Nat.le_of_ble_eq_true rfl, ⟨_, rfl⟩, _, rfl, t112⟩
    | 28, hk => cases hk; exact ⟨_, rfl, Nat.le_of_ble_eq_true rfl, Nat.le_of_ble_eq_true rfl, ⟨_, rfl⟩, _, rfl, t113⟩
    | 29, hk => cases hk; exact ⟨_, rfl, Nat.le_of_ble_eq_true rfl, Nat.le_of_ble_eq_true rfl, ⟨_, rfl⟩, _, rfl, t114⟩
    | 30, hk => cases hk; exact ⟨_, rfl, Nat.le_of_ble_eq_true rfl, Nat.le_of_ble_eq_true rfl, ⟨_, rfl⟩, _, rfl, t115⟩
    | 31, hk => cases hk; exact ⟨_, rfl, Nat.le_of_ble_eq_true rfl, Nat.le_of_ble_eq_true rfl, ⟨_, rfl⟩, _, rfl, t116⟩
    | 32, hk => cases hk; exact ⟨_, rfl, rfl⟩
    | 33, hk => cases hk; exact ⟨_, rfl, Nat.le_of_ble_eq_true rfl, Nat.le_of_ble_eq_true rfl, ⟨_, rfl⟩, _, rfl, t126⟩
    | 34, hk => cases hk; exact ⟨_, rfl, Nat.le_of_ble_eq_true rfl, Nat.le_of_ble_eq_true rfl, ⟨_, rfl⟩, _, rfl, t127⟩
    | 35, hk => cases hk; exact ⟨_, rfl, Nat.le_of_ble_eq_true rfl, Nat.le_of_ble_eq_true rfl, ⟨_, rfl⟩, _, rfl, t128⟩
    | 36, hk => cases hk; exact ⟨_, rfl, Nat.le_of_ble_eq_true rfl, Nat.le_of_ble_eq_true rfl, ⟨_, rfl⟩, _, rfl, t129⟩
    | 37, hk => cases hk; exact ⟨_, rfl, Nat.le_of_ble_eq_true rfl, Nat.le_of_ble_eq_true rfl, ⟨_, rfl⟩, _, rfl, t130⟩
    | 38, hk => cases hk; exact ⟨_, rfl, Nat.le_of_ble_eq_true rfl, Nat.le_of_ble_eq_true rfl, ⟨_, rfl⟩, _, rfl, t131⟩
    | 39, hk => cases hk; exact ⟨_, rfl, Nat.le_of_ble_eq_true rfl, Nat.le_of_ble_eq_true rfl, ⟨_, rfl⟩, _, rfl, t132⟩
    | 40, hk => cases hk; exact ⟨_, rfl, Nat.le_of_ble_eq_true rfl, Nat.le_of_ble_eq_true rfl, ⟨_, rfl⟩, _, rfl, t133⟩
    | 41, hk => cases hk; exact ⟨_, rfl, Nat.le_of_ble_eq_true rfl, Nat.le_of_ble_eq_true rfl, ⟨_, rfl⟩, _, rfl, t134⟩
    | 42, hk => cases hk; exact ⟨_, rfl, Nat.le_of_ble_eq_true rfl, Nat.le_of_ble_eq_true rfl, ⟨_, rfl⟩, _, rfl, t135⟩
    | 43, hk => cases hk; exact ⟨_, rfl, Nat.le_of_ble_eq_true rfl, Nat.le_of_ble_eq_true rfl, ⟨_, rfl⟩, _, rfl, t136⟩
    | 44, hk => cases hk; exact ⟨_, rfl, Nat.le_of_ble_eq_true rfl, Nat.le_of_ble_eq_true rfl, ⟨_, rfl⟩, _, rfl, t137⟩
    | 45, hk => cases hk; exact ⟨_, rfl, Nat.le_of_ble_eq_true rfl, Nat.le_of_ble_eq_true rfl, ⟨_, rfl⟩, _, rfl, t138⟩
    | 46, hk => cases hk; exact ⟨_, rfl, rfl⟩
    | 47, hk => cases hk; exact ⟨_, rfl, Nat.le_of_ble_eq_true rfl, Nat.le_of_ble_eq_true rfl, ⟨_, rfl⟩, _, rfl, t18⟩
    | 48, hk => cases hk; exact ⟨_, rfl, Nat.le_of_ble_eq_true rfl, Nat.le_of_ble_eq_true rfl, ⟨_, rfl⟩, _, rfl, t59⟩
    | 49, hk => cases hk; exact ⟨_, rfl, Nat.le_of_ble_eq_true rfl, Nat.le_of_ble_eq_true rfl, ⟨_, rfl⟩, _, rfl, t60⟩
    | 50, hk => cases hk; exact ⟨_, rfl, rfl⟩
    | 51, hk => cases hk; exact ⟨_, rfl, Nat.le_of_ble_eq_true rfl, Nat.le_of_ble_eq_true rfl, ⟨_, rfl⟩, _, rfl, t118⟩
    | 52, hk => cases hk; exact ⟨_, rfl, Nat.le_of_ble_eq_true rfl, Nat.le_of_ble_eq_true rfl, ⟨_, rfl⟩, _, rfl, t119⟩
    | 53, hk => cases hk; exact ⟨_, rfl, Nat.le_of_ble_eq_true rfl, Nat.le_of_ble_eq_true rfl, ⟨_, rfl⟩, _, rfl, t120⟩
    | 54, hk => cases hk; exact ⟨_, rfl, rfl⟩
    | 55, hk => cases hk; exact ⟨_, rfl, Nat.le_of_ble_eq_true rfl, Nat.le_of_ble_eq_true rfl, ⟨_, rfl⟩, _, rfl, t140⟩
    | 56, hk => cases hk; exact ⟨_, rfl, Nat.le_of_ble_eq_true rfl, Nat.le_of_ble_eq_true rfl, ⟨_, rfl⟩, _, rfl, t141⟩
    | 57, hk => cases hk; exact ⟨_, rfl, Nat.le_of_ble_eq_true rfl, Nat.le_of_ble_eq_true rfl, ⟨_, rfl⟩, _, rfl, t142⟩
    | 58, hk => cases hk; exact ⟨_, rfl, rfl⟩
    | 59, hk => cases hk; exact ⟨_, rfl, Nat.le_of_ble_eq_true rfl, Nat.le_of_ble_eq_true rfl, ⟨_, rfl⟩, _, rfl, t23⟩
    | 60, hk => cases hk; exact ⟨_, rfl, Nat.le_of_ble_eq_true rfl, Nat.le_of_ble_eq_true rfl, ⟨_, rfl⟩, _, rfl, t27⟩
    | 61, hk => cases hk; exact ⟨_, rfl, Nat.le_of_ble_eq_true rfl, Nat.le_of_ble_eq_true rfl, ⟨_, rfl⟩, _, rfl, t25⟩
    | 62, hk => cases hk; exact ⟨_, rfl, rfl⟩
    | 63, hk => cases hk; exact ⟨_, rfl, Nat.le_of_ble_eq_true rfl, Nat.le_of_ble_eq_true rfl, ⟨_, rfl⟩, _, rfl, t122⟩
    | 64, hk => cases hk; exact ⟨_, rfl, Nat.le_of_ble_eq_true rfl, Nat.le_of_ble_eq_true rfl, ⟨_, rfl⟩, _, rfl, t123⟩
    | 65, hk => cases hk; exact ⟨_, rfl, Nat.le_of_ble_eq_true rfl, Nat.le_of_ble_eq_true rfl, ⟨_, rfl⟩, _, rfl, t124⟩
    | 66, hk => cases hk; exact ⟨_, rfl, rfl⟩
    | 67, hk => cases hk; exact ⟨_, rfl, Nat.le_of_ble_eq_true rfl, Nat.le_of_ble_eq_true rfl, ⟨_, rfl⟩, _, rfl, t144⟩
    | 68, hk => cases hk; exact ⟨_, rfl, Nat.le_of_ble_eq_true rfl, Nat.le_of_ble_eq_true rfl, ⟨_, rfl⟩, _, rfl, t145⟩
    | 69, hk => cases hk; exact ⟨_, rfl, Nat.le_of_ble_eq_true rfl, Nat.le_of_ble_eq_true rfl, ⟨_, rfl⟩, _, rfl, t146⟩
    | 70, hk => cases hk; exact ⟨_, rfl, rfl⟩
    | 71, hk => cases hk; exact ⟨_, rfl, rfl⟩
    | k + 72, hk => cases hk
  · simp only [List.map_cons, List.map_nil, h10, h102, h11, h50, h31, h51, h52, h53, h54, h55, h56, h33, h57, h37, h58, h35, h103, h125, h29, h104, h105, h106, h107, h108, h109, h110, h111, h112, h113, h114, h115, h116, h28, h126, h127, h128, h129, h130, h131, h132, h133, h134, h135, h136, h137, h138, h13, h18, h59, h60, h117, h118, h119, h120, h139, h140, h141, h142, h9, h23, h27, h25, h121, h122, h123, h124, h143, h144, h145, h146, h15, h3]
set_option maxRecDepth 100000 in
set_option maxHeartbeats 4000000 in
theorem cu_I_11_8 {X : ab_X} {z : ab_Z} {s : State} {ws : va_W} (hc : ∀ (k : Nat) (c : ab_C), k ∈ cu_KI → gl_L[k]? = some c → ∃ q, ws[k]? = some q ∧ ab_cR X z s c q.2) (hz : ws.map Prod.fst = z.2.2) (hl : ∃ ad, z.2.2[11]? = some ad ∧ cu_v ws 10 2 = .ref ad) (hs : ∃ ad, z.2.2[8]? = some ad ∧ cu_v ws 10 7 = .ref ad) : ∃ (g9 : Nat → Option Nat) (σ : ex_S) (A : ex_A) (we : va_W), ex_wR X A s (WI g9 σ) we ∧ ([10, 102, 11, 50, 31, 51, 52, 53, 54, 55, 56, 33, 57, 37, 58, 35, 103, 125, 29, 104, 105, 106, 107, 108, 109, 110, 111, 112, 113, 114, 115, 116, 28, 126, 127, 128, 129, 130, 131, 132, 133, 134, 135, 136, 137, 138, 13, 18, 59, 60, 117, 118, 119, 120, 139, 140, 141, 142, 8, 22, 26, 24, 121, 122, 123, 124, 143, 144, 145, 146, 15, 3] : List Nat).map (fun k => ws[k]?) = we.map some ∧ z.1[1]? = some (σ.1 3001) ∧ (g9 0 = some (A.1.getD 16 0) ∧ g9 1 = some (A.1.getD 17 0)) := by
  obtain ⟨⟨a10, e10⟩, h10, r10⟩ := hc 10 _ (by decide) rfl
  obtain ⟨⟨a102, e102⟩, h102, r102⟩ := hc 102 _ (by decide) rfl
  obtain ⟨⟨a11, e11⟩, h11, r11⟩ := hc 11 _ (by decide) rfl
  obtain ⟨⟨a50, e50⟩, h50, r50⟩ := hc 50 _ (by decide) rfl
  obtain ⟨⟨a31, e31⟩, h31, r31⟩ := hc 31 _ (by decide) rfl
  obtain ⟨⟨a51, e51⟩, h51, r51⟩ := hc 51 _ (by decide) rfl
  obtain ⟨⟨a52, e52⟩, h52, r52⟩ := hc 52 _ (by decide) rfl
  obtain ⟨⟨a53, e53⟩, h53, r53⟩ := hc 53 _ (by decide) rfl
  obtain ⟨⟨a54, e54⟩, h54, r54⟩ := hc 54 _ (by decide) rfl
  obtain ⟨⟨a55, e55⟩, h55, r55⟩ := hc 55 _ (by decide) rfl
  obtain ⟨⟨a56, e56⟩, h56, r56⟩ := hc 56 _ (by decide) rfl
  obtain ⟨⟨a33, e33⟩, h33, r33⟩ := hc 33 _ (by decide) rfl
  obtain ⟨⟨a57, e57⟩, h57, r57⟩ := hc 57 _ (by decide) rfl
  obtain ⟨⟨a37, e37⟩, h37, r37⟩ := hc 37 _ (by decide) rfl
  obtain ⟨⟨a58, e58⟩, h58, r58⟩ := hc 58 _ (by decide) rfl
  obtain ⟨⟨a35, e35⟩, h35, r35⟩ := hc 35 _ (by decide) rfl
  obtain ⟨⟨a103, e103⟩, h103, r103⟩ := hc 103 _ (by decide) rfl
  obtain ⟨⟨a125, e125⟩, h125, r125⟩ := hc 125 _ (by decide) rfl
  obtain ⟨⟨a29, e29⟩, h29, r29⟩ := hc 29 _ (by decide) rfl
  obtain ⟨⟨a104, e104⟩, h104, r104⟩ := hc 104 _ (by decide) rfl
  obtain ⟨⟨a105, e105⟩, h105, r105⟩ := hc 105 _ (by decide) rfl
  obtain ⟨⟨a106, e106⟩, h106, r106⟩ := hc 106 _ (by decide) rfl
  obtain ⟨⟨a107, e107⟩, h107, r107⟩ := hc 107 _ (by decide) rfl
  obtain ⟨⟨a108, e108⟩, h108, r108⟩ := hc 108 _ (by decide) rfl
  obtain ⟨⟨a109, e109⟩, h109, r109⟩ := hc 109 _ (by decide) rfl
  obtain ⟨⟨a110, e110⟩, h110, r110⟩ := hc 110 _ (by decide) rfl
  obtain ⟨⟨a111, e111⟩, h111, r111⟩ := hc 111 _ (by decide) rfl
  obtain ⟨⟨a112, e112⟩, h112, r112⟩ := hc 112 _ (by decide) rfl
  obtain ⟨⟨a113, e113⟩, h113, r113⟩ := hc 113 _ (by decide) rfl
  obtain ⟨⟨a114, e114⟩, h114, r114⟩ := hc 114 _ (by decide) rfl
  obtain ⟨⟨a115, e115⟩, h115, r115⟩ := hc 115 _ (by decide) rfl
  obtain ⟨⟨a116, e116⟩, h116, r116⟩ := hc 116 _ (by decide) rfl
  obtain ⟨⟨a28, e28⟩, h28, r28⟩ := hc 28 _ (by decide) rfl
  obtain ⟨⟨a126, e126⟩, h126, r126⟩ := hc 126 _ (by decide) rfl
  obtain ⟨⟨a127, e127⟩, h127, r127⟩ := hc 127 _ (by decide) rfl
  obtain ⟨⟨a128, e128⟩, h128, r128⟩ := hc 128 _ (by decide) rfl
  obtain ⟨⟨a129, e129⟩, h129, r129⟩ := hc 129 _ (by decide) rfl
  obtain ⟨⟨a130, e130⟩, h130, r130⟩ := hc 130 _ (by decide) rfl
  obtain ⟨⟨a131, e131⟩, h131, r131⟩ := hc 131 _ (by decide) rfl
  obtain ⟨⟨a132, e132⟩, h132, r132⟩ := hc 132 _ (by decide) rfl
  obtain ⟨⟨a133, e133⟩, h133, r133⟩ := hc 133 _ (by decide) rfl
  obtain ⟨⟨a134, e134⟩, h134, r134⟩ := hc 134 _ (by decide) rfl
  obtain ⟨⟨a135, e135⟩, h135, r135⟩ := hc 135 _ (by decide) rfl
  obtain ⟨⟨a136, e136⟩, h136, r136⟩ := hc 136 _ (by decide) rfl
  obtain ⟨⟨a137, e137⟩, h137, r137⟩ := hc 137 _ (by decide) rfl
  obtain ⟨⟨a138, e138⟩, h138, r138⟩ := hc 138 _ (by decide) rfl
  obtain ⟨⟨a13, e13⟩, h13, r13⟩ := hc 13 _ (by decide) rfl
  obtain ⟨⟨a18, e18⟩, h18, r18⟩ := hc 18 _ (by decide) rfl
  obtain ⟨⟨a59, e59⟩, h59, r59⟩ := hc 59 _ (by decide) rfl
  obtain ⟨⟨a60, e60⟩, h60, r60⟩ := hc 60 _ (by decide) rfl
  obtain ⟨⟨a117, e117⟩, h117, r117⟩ := hc 117 _ (by decide) rfl
  obtain ⟨⟨a118, e118⟩, h118, r118⟩ := hc 118 _ (by decide) rfl
  obtain ⟨⟨a119, e119⟩, h119, r119⟩ := hc 119 _ (by decide) rfl
  obtain ⟨⟨a120, e120⟩, h120, r120⟩ := hc 120 _ (by decide) rfl
  obtain ⟨⟨a139, e139⟩, h139, r139⟩ := hc 139 _ (by decide) rfl
  obtain ⟨⟨a140, e140⟩, h140, r140⟩ := hc 140 _ (by decide) rfl
  obtain ⟨⟨a141, e141⟩, h141, r141⟩ := hc 141 _ (by decide) rfl
  obtain ⟨⟨a142, e142⟩, h142, r142⟩ := hc 142 _ (by decide) rfl
  obtain ⟨⟨a8, e8⟩, h8, r8⟩ := hc 8 _ (by decide) rfl
  obtain ⟨⟨a22, e22⟩, h22, r22⟩ := hc 22 _ (by decide) rfl
  obtain ⟨⟨a26, e26⟩, h26, r26⟩ := hc 26 _ (by decide) rfl
  obtain ⟨⟨a24, e24⟩, h24, r24⟩ := hc 24 _ (by decide) rfl
  obtain ⟨⟨a121, e121⟩, h121, r121⟩ := hc 121 _ (by decide) rfl
  obtain ⟨⟨a122, e122⟩, h122, r122⟩ := hc 122 _ (by decide) rfl
  obtain ⟨⟨a123, e123⟩, h123, r123⟩ := hc 123 _ (by decide) rfl
  obtain ⟨⟨a124, e124⟩, h124, r124⟩ := hc 124 _ (by decide) rfl
  obtain ⟨⟨a143, e143⟩, h143, r143⟩ := hc 143 _ (by decide) rfl
  obtain ⟨⟨a144, e144⟩, h144, r144⟩ := hc 144 _ (by decide) rfl
  obtain ⟨⟨a145, e145⟩, h145, r145⟩ := hc 145 _ (by decide) rfl
  obtain ⟨⟨a146, e146⟩, h146, r146⟩ := hc 146 _ (by decide) rfl
  obtain ⟨⟨a15, e15⟩, h15, r15⟩ := hc 15 _ (by decide) rfl
  obtain ⟨⟨a3, e3⟩, h3, r3⟩ := hc 3 _ (by decide) rfl
  obtain ⟨cA102, x102, f102, ⟨y102, g102⟩, t102, o102⟩ := r102
  dsimp only at f102
  subst f102 g102
  obtain ⟨cA50, x50, f50, ⟨y50, g50⟩, t50, -⟩ := r50
  dsimp only at f50
  subst f50 g50
  obtain ⟨cA31, x31, f31, ⟨y31, g31⟩, t31, -⟩ := r31
  dsimp only at f31
  subst f31 g31
  obtain ⟨cA51, x51, f51, ⟨y51, g51⟩, t51, -⟩ := r51
  dsimp only at f51
  subst f51 g51
  obtain ⟨cA52, x52, f52, ⟨y52, g52⟩, t52, -⟩ := r52
  dsimp only at f52
  subst f52 g52
  obtain ⟨cA53, x53, f53, ⟨y53, g53⟩, t53, -⟩ := r53
  dsimp only at f53
  subst f53 g53
  obtain ⟨cA54, x54, f54, ⟨y54, g54⟩, t54, -⟩ := r54
  dsimp only at f54
  subst f54 g54
  obtain ⟨cA55, x55, f55, ⟨y55, g55⟩, t55, -⟩ := r55
  dsimp only at f55
  subst f55 g55
  obtain ⟨cA56, x56, f56, ⟨y56, g56⟩, t56, -⟩ := r56
  dsimp only at f56
  subst f56 g56
  obtain ⟨cA33, x33, f33, ⟨y33, g33⟩, t33, -⟩ := r33
  dsimp only at f33
  subst f33 g33
  obtain ⟨cA57, x57, f57, ⟨y57, g57⟩, t57, -⟩ := r57
  dsimp only at f57
  subst f57 g57
  obtain ⟨cA37, x37, f37, ⟨y37, g37⟩, t37, -⟩ := r37
  dsimp only at f37
  subst f37 g37
  obtain ⟨cA58, x58, f58, ⟨y58, g58⟩, t58, -⟩ := r58
  dsimp only at f58
  subst f58 g58
  obtain ⟨cA35, x35, f35, ⟨y35, g35⟩, t35, -⟩ := r35
  dsimp only at f35
  subst f35 g35
  obtain ⟨cA104, x104, f104, ⟨y104, g104⟩, t104, -⟩ := r104
  dsimp only at f104
  subst f104 g104
  obtain ⟨cA105, x105, f105, ⟨y105, g105⟩, t105, -⟩ := r105
  dsimp only at f105
  subst f105 g105
  obtain ⟨cA106, x106, f106, ⟨y106, g106⟩, t106, -⟩ := r106
  dsimp only at f106
  subst f106 g106
  obtain ⟨cA107, x107, f107, ⟨y107, g107⟩, t107, -⟩ := r107
  dsimp only at f107
  subst f107 g107
  obtain ⟨cA108, x108, f108, ⟨y108, g108⟩, t108, -⟩ := r108
  dsimp only at f108
  subst f108 g108
  obtain ⟨cA109, x109, f109, ⟨y109, g109⟩, t109, -⟩ := r109
  dsimp only at f109
  subst f109 g109
  obtain ⟨cA110, x110, f110, ⟨y110, g110⟩, t110, -⟩ := r110
  dsimp only at f110
  subst f110 g110
  obtain ⟨cA111, x111, f111, ⟨y111, g111⟩, t111, -⟩ := r111
  dsimp only at f111
  subst f111 g111
  obtain ⟨cA112, x112, f112, ⟨y112, g112⟩, t112, -⟩ := r112
  dsimp only at f112
  subst f112 g112
  obtain ⟨cA113, x113, f113, ⟨y113, g113⟩, t113, -⟩ := r113
  dsimp only at f113
  subst f113 g113
  obtain ⟨cA114, x114, f114, ⟨y114, g114⟩, t114, -⟩ := r114
  dsimp only at f114
  subst f114 g114
  obtain ⟨cA115, x115, f115, ⟨y115, g115⟩, t115, -⟩ := r115
  dsimp only at f115
  subst f115 g115
  obtain ⟨cA116, x116, f116, ⟨y116, g116⟩, t116, -⟩ := r116
  dsimp only at f116
  subst f116 g116
  obtain ⟨cA126, x126, f126, ⟨y126, g126⟩, t126, -⟩ := r126
  dsimp only at f126
  subst f126 g126
  obtain ⟨cA127, x127, f127, ⟨y127, g127⟩, t127, -⟩ := r127
  dsimp only at f127
  subst f127 g127
  obtain ⟨cA128, x128, f128, ⟨y128, g128⟩, t128, -⟩ := r128
  dsimp only at f128
  subst f128 g128
  obtain ⟨cA129, x129, f129, ⟨y129, g129⟩, t129, -⟩ := r129
  dsimp only at f129
  subst f129 g129
  obtain ⟨cA130, x130, f130, ⟨y130, g130⟩, t130, -⟩ := r130
  dsimp only at f130
  subst f130 g130
  obtain ⟨cA131, x131, f131, ⟨y131, g131⟩, t131, -⟩ := r131
  dsimp only at f131
  subst f131 g131
  obtain ⟨cA132, x132, f132, ⟨y132, g132⟩, t132, -⟩ := r132
  dsimp only at f132
  subst f132 g132
  obtain ⟨cA133, x133, f133, ⟨y133, g133⟩, t133, -⟩ := r133
  dsimp only at f133
  subst f133 g133
  obtain ⟨cA134, x134, f134, ⟨y134, g134⟩, t134, -⟩ := r134
  dsimp only at f134
  subst f134 g134
  obtain ⟨cA135, x135, f135, ⟨y135, g135⟩, t135, -⟩ := r135
  dsimp only at f135
  subst f135 g135
  obtain ⟨cA136, x136, f136, ⟨y136, g136⟩, t136, -⟩ := r136
  dsimp only at f136
  subst f136 g136
  obtain ⟨cA137, x137, f137, ⟨y137, g137⟩, t137, -⟩ := r137
  dsimp only at f137
  subst f137 g137
  obtain ⟨cA138, x138, f138, ⟨y138, g138⟩, t138, -⟩ := r138
  dsimp only at f138
  subst f138 g138
  obtain ⟨cA18, x18, f18, ⟨y18, g18⟩, t18, -⟩ := r18
  dsimp only at f18
  subst f18 g18
  obtain ⟨cA59, x59, f59, ⟨y59, g59⟩, t59, -⟩ := r59
  dsimp only at f59
  subst f59 g59
  obtain ⟨cA60, x60, f60, ⟨y60, g60⟩, t60, -⟩ := r60
  dsimp only at f60
  subst f60 g60
  obtain ⟨cA118, x118, f118, ⟨y118, g118⟩, t118, -⟩ := r118
  dsimp only at f118
  subst f118 g118
  obtain ⟨cA119, x119, f119, ⟨y119, g119⟩, t119, -⟩ := r119
  dsimp only at f119
  subst f119 g119
  obtain ⟨cA120, x120, f120, ⟨y120, g120⟩, t120, -⟩ := r120
  dsimp only at f120
  subst f120 g120
  obtain ⟨cA140, x140, f140, ⟨y140, g140⟩, t140, -⟩ := r140
  dsimp only at f140
  subst f140 g140
  obtain ⟨cA141, x141, f141, ⟨y141, g141⟩, t141, -⟩ := r141
  dsimp only at f141
  subst f141 g141
  obtain ⟨cA142, x142, f142, ⟨y142, g142⟩, t142, -⟩ := r142
  dsimp only at f142
  subst f142 g142
  obtain ⟨cA22, x22, f22, ⟨y22, g22⟩, t22, -⟩ := r22
  dsimp only at f22
  subst f22 g22
  obtain ⟨cA26, x26, f26, ⟨y26, g26⟩, t26, -⟩ := r26
  dsimp only at f26
  subst f26 g26
  obtain ⟨cA24, x24, f24, ⟨y24, g24⟩, t24, -⟩ := r24
  dsimp only at f24
  subst f24 g24
  obtain ⟨cA122, x122, f122, ⟨y122, g122⟩, t122, -⟩ := r122
  dsimp only at f122
  subst f122 g122
  obtain ⟨cA123, x123, f123, ⟨y123, g123⟩, t123, -⟩ := r123
  dsimp only at f123
  subst f123 g123
  obtain ⟨cA124, x124, f124, ⟨y124, g124⟩, t124, -⟩ := r124
  dsimp only at f124
  subst f124 g124
  obtain ⟨cA144, x144, f144, ⟨y144, g144⟩, t144, -⟩ := r144
  dsimp only at f144
  subst f144 g144
  obtain ⟨cA145, x145, f145, ⟨y145, g145⟩, t145, -⟩ := r145
  dsimp only at f145
  subst f145 g145
  obtain ⟨cA146, x146, f146, ⟨y146, g146⟩, t146, -⟩ := r146
  dsimp only at f146
  subst f146 g146
  obtain ⟨vs10, f10, l10, w10⟩ := r10
  dsimp only at f10
  subst f10
  obtain ⟨u10_0, s10_0, rfl, m10_0⟩ := cu_c l10
  obtain ⟨u10_1, s10_1, rfl, m10_1⟩ := cu_c m10_0
  obtain ⟨u10_2, s10_2, rfl, m10_2⟩ := cu_c m10_1
  obtain ⟨u10_3, s10_3, rfl, m10_3⟩ := cu_c m10_2
  obtain ⟨u10_4, s10_4, rfl, m10_4⟩ := cu_c m10_3
  obtain ⟨u10_5, s10_5, rfl, m10_5⟩ := cu_c m10_4
  obtain ⟨u10_6, s10_6, rfl, m10_6⟩ := cu_c m10_5
  obtain ⟨u10_7, s10_7, rfl, m10_7⟩ := cu_c m10_6
  obtain ⟨u10_8, s10_8, rfl, m10_8⟩ := cu_c m10_7
  obtain ⟨u10_9, s10_9, rfl, m10_9⟩ := cu_c m10_8
  obtain ⟨u10_10, s10_10, rfl, m10_10⟩ := cu_c m10_9
  obtain ⟨u10_11, s10_11, rfl, m10_11⟩ := cu_c m10_10
  obtain ⟨u10_12, s10_12, rfl, m10_12⟩ := cu_c m10_11
  obtain ⟨u10_13, s10_13, rfl, m10_13⟩ := cu_c m10_12
  obtain ⟨u10_14, s10_14, rfl, m10_14⟩ := cu_c m10_13
  obtain ⟨u10_15, s10_15, rfl, m10_15⟩ := cu_c m10_14
  obtain ⟨u10_16, s10_16, rfl, m10_16⟩ := cu_c m10_15
  cases cu_n m10_16
  have q10_0 := cu_R (cu_ad hz h3) (w10 0 _ _ rfl rfl)
  subst q10_0
  obtain ⟨i10_1, q10_1⟩ := cu_Rx (w10 1 _ _ rfl rfl)
  subst q10_1
  have q10_2 : u10_2 = .ref a11 := by
    obtain ⟨ad, e1, e2⟩ := hl
    have e3 := e1.symm.trans (cu_ad hz h11)
    cases e3
    rw [cu_v_of h10] at e2
    exact e2
  subst q10_2
  obtain ⟨i10_3, q10_3⟩ := cu_Rx (w10 3 _ _ rfl rfl)
  subst q10_3
  have q10_4 := cu_R (cu_ad hz h13) (w10 4 _ _ rfl rfl)
  subst q10_4
  obtain ⟨i10_5, q10_5⟩ := cu_Rx (w10 5 _ _ rfl rfl)
  subst q10_5
  have q10_6 := cu_R (cu_ad hz h15) (w10 6 _ _ rfl rfl)
  subst q10_6
  have q10_7 : u10_7 = .ref a8 := by
    obtain ⟨ad, e1, e2⟩ := hs
    have e3 := e1.symm.trans (cu_ad hz h8)
    cases e3
    rw [cu_v_of h10] at e2
    exact e2
  subst q10_7
  obtain ⟨i10_8, q10_8⟩ := cu_Rx (w10 8 _ _ rfl rfl)
  subst q10_8
  obtain ⟨i10_9, q10_9⟩ := cu_Rx (w10 9 _ _ rfl rfl)
  subst q10_9
  obtain ⟨i10_10, q10_10⟩ := cu_Rx (w10 10 _ _ rfl rfl)
  subst q10_10
  obtain ⟨i10_11, q10_11⟩ := cu_Rx (w10 11 _ _ rfl rfl)
  subst q10_11
  have q10_12 := cu_R (cu_ad hz h102) (w10 12 _ _ rfl rfl)
  subst q10_12
  obtain ⟨i10_13, q10_13⟩ := cu_Rx (w10 13 _ _ rfl rfl)
  subst q10_13
  obtain ⟨i10_14, q10_14⟩ := cu_I (w10 14 _ _ rfl rfl) rfl
  subst q10_14
  obtain ⟨i10_15, q10_15⟩ := cu_Rx (w10 15 _ _ rfl rfl)
  subst q10_15
  obtain ⟨i10_16, q10_16⟩ := cu_I (w10 16 _ _ rfl rfl) rfl
  subst q10_16
  obtain ⟨vs11, f11, l11, w11⟩ := r11
  dsimp only at f11
  subst f11
  obtain ⟨u11_0, s11_0, rfl, m11_0⟩ := cu_c l11
  obtain ⟨u11_1, s11_1, rfl, m11_1⟩ := cu_c m11_0
  obtain ⟨u11_2, s11_2, rfl, m11_2⟩ := cu_c m11_1
  obtain ⟨u11_3, s11_3, rfl, m11_3⟩ := cu_c m11_2
  obtain ⟨u11_4, s11_4, rfl, m11_4⟩ := cu_c m11_3
  obtain ⟨u11_5, s11_5, rfl, m11_5⟩ := cu_c m11_4
  obtain ⟨u11_6, s11_6, rfl, m11_6⟩ := cu_c m11_5
  obtain ⟨u11_7, s11_7, rfl, m11_7⟩ := cu_c m11_6
  obtain ⟨u11_8, s11_8, rfl, m11_8⟩ := cu_c m11_7
  obtain ⟨u11_9, s11_9, rfl, m11_9⟩ := cu_c m11_8
  obtain ⟨u11_10, s11_10, rfl, m11_10⟩ := cu_c m11_9
  obtain ⟨u11_11, s11_11, rfl, m11_11⟩ := cu_c m11_10
  obtain ⟨u11_12, s11_12, rfl, m11_12⟩ := cu_c m11_11
  obtain ⟨u11_13, s11_13, rfl, m11_13⟩ := cu_c m11_12
  obtain ⟨u11_14, s11_14, rfl, m11_14⟩ := cu_c m11_13
  obtain ⟨u11_15, s11_15, rfl, m11_15⟩ := cu_c m11_14
  cases cu_n m11_15
  obtain ⟨i11_0, q11_0⟩ := cu_I (w11 0 _ _ rfl rfl) rfl
  subst q11_0
  have q11_1 := cu_R (cu_ad hz h50) (w11 1 _ _ rfl rfl)
  subst q11_1
  have q11_2 := cu_R (cu_ad hz h31) (w11 2 _ _ rfl rfl)
  subst q11_2
  have q11_3 := cu_R (cu_ad hz h51) (w11 3 _ _ rfl rfl)
  subst q11_3
  obtain ⟨i11_4, q11_4⟩ := cu_I (w11 4 _ _ rfl rfl) rfl
  subst q11_4
  have q11_5 := cu_R (cu_ad hz h52) (w11 5 _ _ rfl rfl)
  subst q11_5
  have q11_6 := cu_R (cu_ad hz h53) (w11 6 _ _ rfl rfl)
  subst q11_6
  have q11_7 := cu_R (cu_ad hz h54) (w11 7 _ _ rfl rfl)
  subst q11_7
  have q11_8 := cu_R (cu_ad hz h55) (w11 8 _ _ rfl rfl)
  subst q11_8
  obtain ⟨i11_9, q11_9⟩ := cu_I (w11 9 _ _ rfl rfl) rfl
  subst q11_9
  have q11_10 := cu_R (cu_ad hz h56) (w11 10 _ _ rfl rfl)
  subst q11_10
  have q11_11 := cu_R (cu_ad hz h33) (w11 11 _ _ rfl rfl)
  subst q11_11
  have q11_12 := cu_R (cu_ad hz h57) (w11 12 _ _ rfl rfl)
  subst q11_12
  have q11_13 := cu_R (cu_ad hz h37) (w11 13 _ _ rfl rfl)
  subst q11_13
  have q11_14 := cu_R (cu_ad hz h58) (w11 14 _ _ rfl rfl)
  subst q11_14
  have q11_15 := cu_R (cu_ad hz h35) (w11 15 _ _ rfl rfl)
  subst q11_15
  obtain ⟨vs103, f103, l103, w103⟩ := r103
  dsimp only at f103
  subst f103
  obtain ⟨u103_0, s103_0, rfl, m103_0⟩ := cu_c l103
  obtain ⟨u103_1, s103_1, rfl, m103_1⟩ := cu_c m103_0
  obtain ⟨u103_2, s103_2, rfl, m103_2⟩ := cu_c m103_1
  obtain ⟨u103_3, s103_3, rfl, m103_3⟩ := cu_c m103_2
  cases cu_n m103_3
  have q103_0 := cu_R (cu_ad hz h29) (w103 0 _ _ rfl rfl)
  subst q103_0
  have q103_1 := cu_R (cu_ad hz h117) (w103 1 _ _ rfl rfl)
  subst q103_1
  have q103_2 := cu_R (cu_ad hz h121) (w103 2 _ _ rfl rfl)
  subst q103_2
  obtain ⟨i103_3, q103_3⟩ := cu_I (w103 3 _ _ rfl rfl) rfl
  subst q103_3
  obtain ⟨vs125, f125, l125, w125⟩ := r125
  dsimp only at f125
  subst f125
  obtain ⟨u125_0, s125_0, rfl, m125_0⟩ := cu_c l125
  obtain ⟨u125_1, s125_1, rfl, m125_1⟩ := cu_c m125_0
  obtain ⟨u125_2, s125_2, rfl, m125_2⟩ := cu_c m125_1
  obtain ⟨u125_3, s125_3, rfl, m125_3⟩ := cu_c m125_2
  cases cu_n m125_3
  have q125_0 := cu_R (cu_ad hz h28) (w125 0 _ _ rfl rfl)
  subst q125_0
  have q125_1 := cu_R (cu_ad hz h139) (w125 1 _ _ rfl rfl)
  subst q125_1
  have q125_2 := cu_R (cu_ad hz h143) (w125 2 _ _ rfl rfl)
  subst q125_2
  obtain ⟨i125_3, q125_3⟩ := cu_I (w125 3 _ _ rfl rfl) rfl
  subst q125_3
  obtain ⟨vs29, f29, l29, w29⟩ := r29
  dsimp only at f29
  subst f29
  obtain ⟨u29_0, s29_0, rfl, m29_0⟩ := cu_c l29
  obtain ⟨u29_1, s29_1, rfl, m29_1⟩ := cu_c m29_0
  obtain ⟨u29_2, s29_2, rfl, m29_2⟩ := cu_c m29_1
  obtain ⟨u29_3, s29_3, rfl, m29_3⟩ := cu_c m29_2
  obtain ⟨u29_4, s29_4, rfl, m29_4⟩ := cu_c m29_3
  obtain ⟨u29_5, s29_5, rfl, m29_5⟩ := cu_c m29_4
  obtain ⟨u29_6, s29_6, rfl, m29_6⟩ := cu_c m29_5
  obtain ⟨u29_7, s29_7, rfl, m29_7⟩ := cu_c m29_6
  obtain ⟨u29_8, s29_8, rfl, m29_8⟩ := cu_c m29_7
  obtain ⟨u29_9, s29_9, rfl, m29_9⟩ := cu_c m29_8
  obtain ⟨u29_10, s29_10, rfl, m29_10⟩ := cu_c m29_9
  obtain ⟨u29_11, s29_11, rfl, m29_11⟩ := cu_c m29_10
  obtain ⟨u29_12, s29_12, rfl, m29_12⟩ := cu_c m29_11
  obtain ⟨u29_13, s29_13, rfl, m29_13⟩ := cu_c m29_12
  obtain ⟨u29_14, s29_14, rfl, m29_14⟩ := cu_c m29_13
  obtain ⟨u29_15, s29_15, rfl, m29_15⟩ := cu_c m29_14
  cases cu_n m29_15
  obtain ⟨i29_0, q29_0⟩ := cu_I (w29 0 _ _ rfl rfl) rfl
  subst q29_0
  have q29_1 := cu_R (cu_ad hz h104) (w29 1 _ _ rfl rfl)
  subst q29_1
  have q29_2 := cu_R (cu_ad hz h105) (w29 2 _ _ rfl rfl)
  subst q29_2
  have q29_3 := cu_R (cu_ad hz h106) (w29 3 _ _ rfl rfl)
  subst q29_3
  obtain ⟨i29_4, q29_4⟩ := cu_I (w29 4 _ _ rfl rfl) rfl
  subst q29_4
  have q29_5 := cu_R (cu_ad hz h107) (w29 5 _ _ rfl rfl)
  subst q29_5
  have q29_6 := cu_R (cu_ad hz h108) (w29 6 _ _ rfl rfl)
  subst q29_6
  have q29_7 := cu_R (cu_ad hz h109) (w29 7 _ _ rfl rfl)
  subst q29_7
  have q29_8 := cu_R (cu_ad hz h110) (w29 8 _ _ rfl rfl)
  subst q29_8
  obtain ⟨i29_9, q29_9⟩ := cu_I (w29 9 _ _ rfl rfl) rfl
  subst q29_9
  have q29_10 := cu_R (cu_ad hz h111) (w29 10 _ _ rfl rfl)
  subst q29_10
  have q29_11 := cu_R (cu_ad hz h112) (w29 11 _ _ rfl rfl)
  subst q29_11
  have q29_12 := cu_R (cu_ad hz h113) (w29 12 _ _ rfl rfl)
  subst q29_12
  have q29_13 := cu_R (cu_ad hz h114) (w29 13 _ _ rfl rfl)
  subst q29_13
  have q29_14 := cu_R (cu_ad hz h115) (w29 14 _ _ rfl rfl)
  subst q29_14
  have q29_15 := cu_R (cu_ad hz h116) (w29 15 _ _ rfl rfl)
  subst q29_15
  obtain ⟨vs28, f28, l28, w28⟩ := r28
  dsimp only at f28
  subst f28
  obtain ⟨u28_0, s28_0, rfl, m28_0⟩ := cu_c l28
  obtain ⟨u28_1, s28_1, rfl, m28_1⟩ := cu_c m28_0
  obtain ⟨u28_2, s28_2, rfl, m28_2⟩ := cu_c m28_1
  obtain ⟨u28_3, s28_3, rfl, m28_3⟩ := cu_c m28_2
  obtain ⟨u28_4, s28_4, rfl, m28_4⟩ := cu_c m28_3
  obtain ⟨u28_5, s28_5, rfl, m28_5⟩ := cu_c m28_4
  obtain ⟨u28_6, s28_6, rfl, m28_6⟩ := cu_c m28_5
  obtain ⟨u28_7, s28_7, rfl, m28_7⟩ := cu_c m28_6
  obtain ⟨u28_8, s28_8, rfl, m28_8⟩ := cu_c m28_7
  obtain ⟨u28_9, s28_9, rfl, m28_9⟩ := cu_c m28_8
  obtain ⟨u28_10, s28_10, rfl, m28_10⟩ := cu_c m28_9
  obtain ⟨u28_11, s28_11, rfl, m28_11⟩ := cu_c m28_10
  obtain ⟨u28_12, s28_12, rfl, m28_12⟩ := cu_c m28_11
  obtain ⟨u28_13, s28_13, rfl, m28_13⟩ := cu_c m28_12
  obtain ⟨u28_14, s28_14, rfl, m28_14⟩ := cu_c m28_13
  obtain ⟨u28_15, s28_15, rfl, m28_15⟩ := cu_c m28_14
  cases cu_n m28_15
  obtain ⟨i28_0, q28_0⟩ := cu_I (w28 0 _ _ rfl rfl) rfl
  subst q28_0
  have q28_1 := cu_R (cu_ad hz h126) (w28 1 _ _ rfl rfl)
  subst q28_1
  have q28_2 := cu_R (cu_ad hz h127) (w28 2 _ _ rfl rfl)
  subst q28_2
  have q28_3 := cu_R (cu_ad hz h128) (w28 3 _ _ rfl rfl)
  subst q28_3
  obtain ⟨i28_4, q28_4⟩ := cu_I (w28 4 _ _ rfl rfl) rfl
  subst q28_4
  have q28_5 := cu_R (cu_ad hz h129) (w28 5 _ _ rfl rfl)
  subst q28_5
  have q28_6 := cu_R (cu_ad hz h130) (w28 6 _ _ rfl rfl)
  subst q28_6
  have q28_7 := cu_R (cu_ad hz h131) (w28 7 _ _ rfl rfl)
  subst q28_7
  have q28_8 := cu_R (cu_ad hz h132) (w28 8 _ _ rfl rfl)
  subst q28_8
  obtain ⟨i28_9, q28_9⟩ := cu_I (w28 9 _ _ rfl rfl) rfl
  subst q28_9
  have q28_10 := cu_R (cu_ad hz h133) (w28 10 _ _ rfl rfl)
  subst q28_10
  have q28_11 := cu_R (cu_ad hz h134) (w28 11 _ _ rfl rfl)
  subst q28_11
  have q28_12 := cu_R (cu_ad hz h135) (w28 12 _ _ rfl rfl)
  subst q28_12
  have q28_13 := cu_R (cu_ad hz h136) (w28 13 _ _ rfl rfl)
  subst q28_13
  have q28_14 := cu_R (cu_ad hz h137) (w28 14 _ _ rfl rfl)
  subst q28_14
  have q28_15 := cu_R (cu_ad hz h138) (w28 15 _ _ rfl rfl)
  subst q28_15
  obtain ⟨vs13, f13, l13, w13⟩ := r13
  dsimp only at f13
  subst f13
  obtain ⟨u13_0, s13_0, rfl, m13_0⟩ := cu_c l13
  obtain ⟨u13_1, s13_1, rfl, m13_1⟩ := cu_c m13_0
  obtain ⟨u13_2, s13_2, rfl, m13_2⟩ := cu_c m13_1
  obtain ⟨u13_3, s13_3, rfl, m13_3⟩ := cu_c m13_2
  obtain ⟨u13_4, s13_4, rfl, m13_4⟩ := cu_c m13_3
  obtain ⟨u13_5, s13_5, rfl, m13_5⟩ := cu_c m13_4
  obtain ⟨u13_6, s13_6, rfl, m13_6⟩ := cu_c m13_5
  cases cu_n m13_6
  obtain ⟨i13_0, q13_0⟩ := cu_I (w13 0 _ _ rfl rfl) rfl
  subst q13_0
  obtain ⟨i13_1, q13_1⟩ := cu_I (w13 1 _ _ rfl rfl) rfl
  subst q13_1
  obtain ⟨i13_2, q13_2⟩ := cu_I (w13 2 _ _ rfl rfl) rfl
  subst q13_2
  have q13_3 := cu_R (cu_ad hz h18) (w13 3 _ _ rfl rfl)
  subst q13_3
  have q13_4 := cu_R (cu_ad hz h59) (w13 4 _ _ rfl rfl)
  subst q13_4
  have q13_5 := cu_R (cu_ad hz h60) (w13 5 _ _ rfl rfl)
  subst q13_5
  obtain ⟨i13_6, q13_6⟩ := cu_I (w13 6 _ _ rfl rfl) rfl
  subst q13_6
  obtain ⟨vs117, f117, l117, w117⟩ := r117
  dsimp only at f117
  subst f117
  obtain ⟨u117_0, s117_0, rfl, m117_0⟩ := cu_c l117
  obtain ⟨u117_1, s117_1, rfl, m117_1⟩ := cu_c m117_0
  obtain ⟨u117_2, s117_2, rfl, m117_2⟩ := cu_c m117_1
  obtain ⟨u117_3, s117_3, rfl, m117_3⟩ := cu_c m117_2
  obtain ⟨u117_4, s117_4, rfl, m117_4⟩ := cu_c m117_3
  obtain ⟨u117_5, s117_5, rfl, m117_5⟩ := cu_c m117_4
  obtain ⟨u117_6, s117_6, rfl, m117_6⟩ := cu_c m117_5
  cases cu_n m117_6
  obtain ⟨i117_0, q117_0⟩ := cu_I (w117 0 _ _ rfl rfl) rfl
  subst q117_0
  obtain ⟨i117_1, q117_1⟩ := cu_I (w117 1 _ _ rfl rfl) rfl
  subst q117_1
  obtain ⟨i117_2, q117_2⟩ := cu_I (w117 2 _ _ rfl rfl) rfl
  subst q117_2
  have q117_3 := cu_R (cu_ad hz h118) (w117 3 _ _ rfl rfl)
  subst q117_3
  have q117_4 := cu_R (cu_ad hz h119) (w117 4 _ _ rfl rfl)
  subst q117_4
  have q117_5 := cu_R (cu_ad hz h120) (w117 5 _ _ rfl rfl)
  subst q117_5
  obtain ⟨i117_6, q117_6⟩ := cu_I (w117 6 _ _ rfl rfl) rfl
  subst q117_6
  obtain ⟨vs139, f139, l139, w139⟩ := r139
  dsimp only at f139
  subst f139
  obtain ⟨u139_0, s139_0, rfl, m139_0⟩ := cu_c l139
  obtain ⟨u139_1, s139_1, rfl, m139_1⟩ := cu_c m139_0
  obtain ⟨u139_2, s139_2, rfl, m139_2⟩ := cu_c m139_1
  obtain ⟨u139_3, s139_3, rfl, m139_3⟩ := cu_c m139_2
  obtain ⟨u139_4, s139_4, rfl, m139_4⟩ := cu_c m139_3
  obtain ⟨u139_5, s139_5, rfl, m139_5⟩ := cu_c m139_4
  obtain ⟨u139_6, s139_6, rfl, m139_6⟩ := cu_c m139_5
  cases cu_n m139_6
  obtain ⟨i139_0, q139_0⟩ := cu_I (w139 0 _ _ rfl rfl) rfl
  subst q139_0
  obtain ⟨i139_1, q139_1⟩ := cu_I (w139 1 _ _ rfl rfl) rfl
  subst q139_1
  obtain ⟨i139_2, q139_2⟩ := cu_I (w139 2 _ _ rfl rfl) rfl
  subst q139_2
  have q139_3 := cu_R (cu_ad hz h140) (w139 3 _ _ rfl rfl)
  subst q139_3
  have q139_4 := cu_R (cu_ad hz h141) (w139 4 _ _ rfl rfl)
  subst q139_4
  have q139_5 := cu_R (cu_ad hz h142) (w139 5 _ _ rfl rfl)
  subst q139_5
  obtain ⟨i139_6, q139_6⟩ := cu_I (w139 6 _ _ rfl rfl) rfl
  subst q139_6
  obtain ⟨vs8, f8, l8, w8⟩ := r8
  dsimp only at f8
  subst f8
  obtain ⟨u8_0, s8_0, rfl, m8_0⟩ := cu_c l8
  obtain ⟨u8_1, s8_1, rfl, m8_1⟩ := cu_c m8_0
  obtain ⟨u8_2, s8_2, rfl, m8_2⟩ := cu_c m8_1
  obtain ⟨u8_3, s8_3, rfl, m8_3⟩ := cu_c m8_2
  obtain ⟨u8_4, s8_4, rfl, m8_4⟩ := cu_c m8_3
  cases cu_n m8_4
  have q8_0 := cu_R (cu_ad hz h22) (w8 0 _ _ rfl rfl)
  subst q8_0
  have q8_1 := cu_R (cu_ad hz h26) (w8 1 _ _ rfl rfl)
  subst q8_1
  have q8_2 := cu_R (cu_ad hz h24) (w8 2 _ _ rfl rfl)
  subst q8_2
  obtain ⟨i8_3, q8_3⟩ := cu_I (w8 3 _ _ rfl rfl) rfl
  subst q8_3
  obtain ⟨i8_4, q8_4⟩ := cu_I (w8 4 _ _ rfl rfl) rfl
  subst q8_4
  obtain ⟨vs121, f121, l121, w121⟩ := r121
  dsimp only at f121
  subst f121
  obtain ⟨u121_0, s121_0, rfl, m121_0⟩ := cu_c l121
  obtain ⟨u121_1, s121_1, rfl, m121_1⟩ := cu_c m121_0
  obtain ⟨u121_2, s121_2, rfl, m121_2⟩ := cu_c m121_1
  obtain ⟨u121_3, s121_3, rfl, m121_3⟩ := cu_c m121_2
  obtain ⟨u121_4, s121_4, rfl, m121_4⟩ := cu_c m121_3
  cases cu_n m121_4
  have q121_0 := cu_R (cu_ad hz h122) (w121 0 _ _ rfl rfl)
  subst q121_0
  have q121_1 := cu_R (cu_ad hz h123) (w121 1 _ _ rfl rfl)
  subst q121_1
  have q121_2 := cu_R (cu_ad hz h124) (w121 2 _ _ rfl rfl)
  subst q121_2
  obtain ⟨i121_3, q121_3⟩ := cu_I (w121 3 _ _ rfl rfl) rfl
  subst q121_3
  obtain ⟨i121_4, q121_4⟩ := cu_I (w121 4 _ _ rfl rfl) rfl
  subst q121_4
  obtain ⟨vs143, f143, l143, w143⟩ := r143
  dsimp only at f143
  subst f143
  obtain ⟨u143_0, s143_0, rfl, m143_0⟩ := cu_c l143
  obtain ⟨u143_1, s143_1, rfl, m143_1⟩ := cu_c m143_0
  obtain ⟨u143_2, s143_2, rfl, m143_2⟩ := cu_c m143_1
  obtain ⟨u143_3, s143_3, rfl, m143_3⟩ := cu_c m143_2
  obtain ⟨u143_4, s143_4, rfl, m143_4⟩ := cu_c m143_3
  cases cu_n m143_4
  have q143_0 := cu_R (cu_ad hz h144) (w143 0 _ _ rfl rfl)
  subst q143_0
  have q143_1 := cu_R (cu_ad hz h145) (w143 1 _ _ rfl rfl)
  subst q143_1
  have q143_2 := cu_R (cu_ad hz h146) (w143 2 _ _ rfl rfl)
  subst q143_2
  obtain ⟨i143_3, q143_3⟩ := cu_I (w143 3 _ _ rfl rfl) rfl
  subst q143_3
  obtain ⟨i143_4, q143_4⟩ := cu_I (w143 4 _ _ rfl rfl) rfl
  subst q143_4
  obtain ⟨vs15, f15, l15, w15⟩ := r15
  dsimp only at f15
  subst f15
  obtain ⟨u15_0, s15_0, rfl, m15_0⟩ := cu_c l15
  obtain ⟨u15_1, s15_1, rfl, m15_1⟩ := cu_c m15_0
  cases cu_n m15_1
  obtain ⟨i15_0, q15_0⟩ := cu_Rx (w15 0 _ _ rfl rfl)
  subst q15_0
  obtain ⟨i15_1, q15_1⟩ := cu_I (w15 1 _ _ rfl rfl) rfl
  subst q15_1
  obtain ⟨vs3, f3, l3, w3⟩ := r3
  dsimp only at f3
  subst f3
  obtain ⟨u3_0, s3_0, rfl, m3_0⟩ := cu_c l3
  obtain ⟨u3_1, s3_1, rfl, m3_1⟩ := cu_c m3_0
  obtain ⟨u3_2, s3_2, rfl, m3_2⟩ := cu_c m3_1
  obtain ⟨u3_3, s3_3, rfl, m3_3⟩ := cu_c m3_2
  obtain ⟨u3_4, s3_4, rfl, m3_4⟩ := cu_c m3_3
  obtain ⟨u3_5, s3_5, rfl, m3_5⟩ := cu_c m3_4
  obtain ⟨u3_6, s3_6, rfl, m3_6⟩ := cu_c m3_5
  obtain ⟨u3_7, s3_7, rfl, m3_7⟩ := cu_c m3_6
  obtain ⟨u3_8, s3_8, rfl, m3_8⟩ := cu_c m3_7
  obtain ⟨u3_9, s3_9, rfl, m3_9⟩ := cu_c m3_8
  obtain ⟨u3_10, s3_10, rfl, m3_10⟩ := cu_c m3_9
  obtain ⟨u3_11, s3_11, rfl, m3_11⟩ := cu_c m3_10
  obtain ⟨u3_12, s3_12, rfl, m3_12⟩ := cu_c m3_11
  obtain ⟨u3_13, s3_13, rfl, m3_13⟩ := cu_c m3_12
  obtain ⟨u3_14, s3_14, rfl, m3_14⟩ := cu_c m3_13
  cases cu_n m3_14
  obtain ⟨i3_0, q3_0⟩ := cu_Rx (w3 0 _ _ rfl rfl)
  subst q3_0
  obtain ⟨i3_1, q3_1⟩ := cu_I (w3 1 _ _ rfl rfl) rfl
  obtain ⟨i3_2, q3_2⟩ := cu_I (w3 2 _ _ rfl rfl) rfl
  subst q3_2
  obtain ⟨i3_3, q3_3⟩ := cu_I (w3 3 _ _ rfl rfl) rfl
  subst q3_3
  obtain ⟨i3_4, q3_4⟩ := cu_I (w3 4 _ _ rfl rfl) rfl
  subst q3_4
  obtain ⟨i3_5, q3_5⟩ := cu_I (w3 5 _ _ rfl rfl) rfl
  subst q3_5
  obtain ⟨i3_6, q3_6⟩ := cu_L (w3 6 _ _ rfl rfl) rfl
  subst q3_6
  obtain ⟨i3_7, q3_7⟩ := cu_I (w3 7 _ _ rfl rfl) rfl
  subst q3_7
  obtain ⟨i3_8, q3_8⟩ := cu_I (w3 8 _ _ rfl rfl) rfl
  subst q3_8
  obtain ⟨i3_9, q3_9⟩ := cu_I (w3 9 _ _ rfl rfl) rfl
  subst q3_9
  obtain ⟨i3_10, q3_10⟩ := cu_L (w3 10 _ _ rfl rfl) rfl
  subst q3_10
  obtain ⟨i3_11, q3_11⟩ := cu_I (w3 11 _ _ rfl rfl) rfl
  subst q3_11
  obtain ⟨i3_12, q3_12⟩ := cu_I (w3 12 _ _ rfl rfl) rfl
  subst q3_12
  obtain ⟨i3_13, q3_13⟩ := cu_I (w3 13 _ _ rfl rfl) rfl
  subst q3_13
  obtain ⟨i3_14, q3_14⟩ := cu_Rx (w3 14 _ _ rfl rfl)
  subst q3_14
  have z3 := w3 1 _ _ rfl rfl
  subst q3_1
  refine ⟨y102, ((fun j => bif Nat.beq j 0 then i11_0 else bif Nat.beq j 1 then i11_4 else bif Nat.beq j 2 then i11_9 else bif Nat.beq j 100 then i29_0 else bif Nat.beq j 101 then i29_4 else bif Nat.beq j 102 then i29_9 else bif Nat.beq j 200 then i28_0 else bif Nat.beq j 201 then i28_4 else bif Nat.beq j 202 then i28_9 else bif Nat.beq j 1000 then i13_0 else bif Nat.beq j 1001 then i13_1 else bif Nat.beq j 1002 then i13_2 else bif Nat.beq j 1003 then i13_6 else bif Nat.beq j 1010 then i117_0 else bif Nat.beq j 1011 then i117_1 else bif Nat.beq j 1012 then i117_2 else bif Nat.beq j 1013 then i117_6 else bif Nat.beq j 1020 then i139_0 else bif Nat.beq j 1021 then i139_1 else bif Nat.beq j 1022 then i139_2 else bif Nat.beq j 1023 then i139_6 else bif Nat.beq j 2000 then i8_3 else bif Nat.beq j 2001 then i8_4 else bif Nat.beq j 2010 then i121_3 else bif Nat.beq j 2011 then i121_4 else bif Nat.beq j 2020 then i143_3 else bif Nat.beq j 2021 then i143_4 else bif Nat.beq j 3001 then i3_1 else bif Nat.beq j 3002 then i3_2 else bif Nat.beq j 3003 then i3_3 else bif Nat.beq j 3004 then i3_4 else bif Nat.beq j 3005 then i3_5 else bif Nat.beq j 3007 then i3_7 else bif Nat.beq j 3008 then i3_8 else bif Nat.beq j 3009 then i3_9 else bif Nat.beq j 3011 then i3_11 else bif Nat.beq j 3012 then i3_12 else bif Nat.beq j 3013 then i3_13 else bif Nat.beq j 3100 then i103_3 else bif Nat.beq j 3101 then i125_3 else bif Nat.beq j 3200 then i15_1 else bif Nat.beq j 3300 then i10_14 else bif Nat.beq j 3301 then i10_16 else (0 : Int32)), (fun j => bif Nat.beq j 16 then i3_6 else bif Nat.beq j 20 then i3_10 else (0 : Int64)), (fun j => bif Nat.beq j 0 then y31 else bif Nat.beq j 1 then y51 else bif Nat.beq j 2 then y52 else bif Nat.beq j 3 then y53 else bif Nat.beq j 4 then y54 else bif Nat.beq j 5 then y55 else bif Nat.beq j 6 then y33 else bif Nat.beq j 7 then y57 else bif Nat.beq j 8 then y37 else bif Nat.beq j 9 then y58 else bif Nat.beq j 10 then y35 else bif Nat.beq j 100 then y105 else bif Nat.beq j 101 then y106 else bif Nat.beq j 102 then y107 else bif Nat.beq j 103 then y108 else bif Nat.beq j 104 then y109 else bif Nat.beq j 105 then y110 else bif Nat.beq j 106 then y112 else bif Nat.beq j 107 then y113 else bif Nat.beq j 108 then y114 else bif Nat.beq j 109 then y115 else bif Nat.beq j 110 then y116 else bif Nat.beq j 200 then y127 else bif Nat.beq j 201 then y128 else bif Nat.beq j 202 then y129 else bif Nat.beq j 203 then y130 else bif Nat.beq j 204 then y131 else bif Nat.beq j 205 then y132 else bif Nat.beq j 206 then y134 else bif Nat.beq j 207 then y135 else bif Nat.beq j 208 then y136 else bif Nat.beq j 209 then y137 else bif Nat.beq j 210 then y138 else bif Nat.beq j 1000 then y18 else bif Nat.beq j 1001 then y59 else bif Nat.beq j 1002 then y60 else bif Nat.beq j 1010 then y118 else bif Nat.beq j 1011 then y119 else bif Nat.beq j 1012 then y120 else bif Nat.beq j 1020 then y140 else bif Nat.beq j 1021 then y141 else bif Nat.beq j 1022 then y142 else bif Nat.beq j 2000 then y22 else bif Nat.beq j 2001 then y26 else bif Nat.beq j 2002 then y24 else bif Nat.beq j 2010 then y122 else bif Nat.beq j 2011 then y123 else bif Nat.beq j 2012 then y124 else bif Nat.beq j 2020 then y144 else bif Nat.beq j 2021 then y145 else bif Nat.beq j 2022 then y146 else (fun _ => (0 : Int32))), (fun j => bif Nat.beq j 0 then y50 else bif Nat.beq j 1 then y56 else bif Nat.beq j 100 then y104 else bif Nat.beq j 101 then y111 else bif Nat.beq j 200 then y126 else bif Nat.beq j 201 then y133 else (fun _ => (0 : Int64)))), ([a10, a102, a11, a50, a31, a51, a52, a53, a54, a55, a56, a33, a57, a37, a58, a35, a103, a125, a29, a104, a105, a106, a107, a108, a109, a110, a111, a112, a113, a114, a115, a116, a28, a126, a127, a128, a129, a130, a131, a132, a133, a134, a135, a136, a137, a138, a13, a18, a59, a60, a117, a118, a119, a120, a139, a140, a141, a142, a8, a22, a26, a24, a121, a122, a123, a124, a143, a144, a145, a146, a15, a3], (fun j => bif Nat.beq j 0 then i10_1 else bif Nat.beq j 1 then i10_3 else bif Nat.beq j 2 then i10_5 else bif Nat.beq j 3 then i10_8 else bif Nat.beq j 4 then i10_9 else bif Nat.beq j 5 then i10_10 else bif Nat.beq j 6 then i10_11 else bif Nat.beq j 7 then i10_13 else bif Nat.beq j 8 then i10_15 else bif Nat.beq j 9 then i15_0 else bif Nat.beq j 20 then i3_0 else bif Nat.beq j 34 then i3_14 else 0)), [(a10, .inr (10, [.ref a3, .ref i10_1, .ref a11, .ref i10_3, .ref a13, .ref i10_5, .ref a15, .ref a8, .ref i10_8, .ref i10_9, .ref i10_10, .ref i10_11, .ref a102, .ref i10_13, .int i10_14, .ref i10_15, .int i10_16])),
      (a102, .inl (cA102, 2, .inr (.inr (.inr (.inr y102))))),
      (a11, .inr (8, [.int i11_0, .ref a50, .ref a31, .ref a51, .int i11_4, .ref a52, .ref a53, .ref a54, .ref a55, .int i11_9, .ref a56, .ref a33, .ref a57, .ref a37, .ref a58, .ref a35])),
      (a50, .inl (cA50, 7, .inr (.inl y50))),
      (a31, .inl (cA31, 7, .inl y31)),
      (a51, .inl (cA51, 7, .inl y51)),
      (a52, .inl (cA52, 12, .inl y52)),
      (a53, .inl (cA53, 12, .inl y53)),
      (a54, .inl (cA54, 12, .inl y54)),
      (a55, .inl (cA55, 12, .inl y55)),
      (a56, .inl (cA56, 8, .inr (.inl y56))),
      (a33, .inl (cA33, 8, .inl y33)),
      (a57, .inl (cA57, 8, .inl y57)),
      (a37, .inl (cA37, 8, .inl y37)),
      (a58, .inl (cA58, 8, .inl y58)),
      (a35, .inl (cA35, 3, .inl y35)),
      (a103, .inr (2, [.ref a29, .ref a117, .ref a121, .int i103_3])),
      (a125, .inr (2, [.ref a28, .ref a139, .ref a143, .int i125_3])),
      (a29, .inr (8, [.int i29_0, .ref a104, .ref a105, .ref a106, .int i29_4, .ref a107, .ref a108, .ref a109, .ref a110, .int i29_9, .ref a111, .ref a112, .ref a113, .ref a114, .ref a115, .ref a116])),
      (a104, .inl (cA104, 7, .inr (.inl y104))),
      (a105, .inl (cA105, 7, .inl y105)),
      (a106, .inl (cA106, 7, .inl y106)),
      (a107, .inl (cA107, 12, .inl y107)),
      (a108, .inl (cA108, 12, .inl y108)),
      (a109, .inl (cA109, 12, .inl y109)),
      (a110, .inl (cA110, 12, .inl y110)),
      (a111, .inl (cA111, 8, .inr (.inl y111))),
      (a112, .inl (cA112, 8, .inl y112)),
      (a113, .inl (cA113, 8, .inl y113)),
      (a114, .inl (cA114, 8, .inl y114)),
      (a115, .inl (cA115, 8, .inl y115)),
      (a116, .inl (cA116, 3, .inl y116)),
      (a28, .inr (8, [.int i28_0, .ref a126, .ref a127, .ref a128, .int i28_4, .ref a129, .ref a130, .ref a131, .ref a132, .int i28_9, .ref a133, .ref a134, .ref a135, .ref a136, .ref a137, .ref a138])),
      (a126, .inl (cA126, 7, .inr (.inl y126))),
      (a127, .inl (cA127, 7, .inl y127)),
      (a128, .inl (cA128, 7, .inl y128)),
      (a129, .inl (cA129, 12, .inl y129)),
      (a130, .inl (cA130, 12, .inl y130)),
      (a131, .inl (cA131, 12, .inl y131)),
      (a132, .inl (cA132, 12, .inl y132)),
      (a133, .inl (cA133, 8, .inr (.inl y133))),
      (a134, .inl (cA134, 8, .inl y134)),
      (a135, .inl (cA135, 8, .inl y135)),
      (a136, .inl (cA136, 8, .inl y136)),
      (a137, .inl (cA137, 8, .inl y137)),
      (a138, .inl (cA138, 3, .inl y138)),
      (a13, .inr (7, [.int i13_0, .int i13_1, .int i13_2, .ref a18, .ref a59, .ref a60, .int i13_6])),
      (a18, .inl (cA18, 7, .inl y18)),
      (a59, .inl (cA59, 7, .inl y59)),
      (a60, .inl (cA60, 7, .inl y60)),
      (a117, .inr (7, [.int i117_0, .int i117_1, .int i117_2, .ref a118, .ref a119, .ref a120, .int i117_6])),
      (a118, .inl (cA118, 7, .inl y118)),
      (a119, .inl (cA119, 7, .inl y119)),
      (a120, .inl (cA120, 7, .inl y120)),
      (a139, .inr (7, [.int i139_0, .int i139_1, .int i139_2, .ref a140, .ref a141, .ref a142, .int i139_6])),
      (a140, .inl (cA140, 7, .inl y140)),
      (a141, .inl (cA141, 7, .inl y141)),
      (a142, .inl (cA142, 7, .inl y142)),
      (a8, .inr (6, [.ref a22, .ref a26, .ref a24, .int i8_3, .int i8_4])),
      (a22, .inl (cA22, 40, .inl y22)),
      (a26, .inl (cA26, 40, .inl y26)),
      (a24, .inl (cA24, 40, .inl y24)),
      (a121, .inr (6, [.ref a122, .ref a123, .ref a124, .int i121_3, .int i121_4])),
      (a122, .inl (cA122, 40, .inl y122)),
      (a123, .inl (cA123, 40, .inl y123)),
      (a124, .inl (cA124, 40, .inl y124)),
      (a143, .inr (6, [.ref a144, .ref a145, .ref a146, .int i143_3, .int i143_4])),
      (a144, .inl (cA144, 40, .inl y144)),
      (a145, .inl (cA145, 40, .inl y145)),
      (a146, .inl (cA146, 40, .inl y146)),
      (a15, .inr (1, [.ref i15_0, .int i15_1])),
      (a3, .inr (4, [.ref i3_0, .int i3_1, .int i3_2, .int i3_3, .int i3_4, .int i3_5, .long i3_6, .int i3_7, .int i3_8, .int i3_9, .long i3_10, .int i3_11, .int i3_12, .int i3_13, .ref i3_14]))], ?_, ?_, cu_ev1 z3, ⟨cu_Q (cu_ad hz h103) (o102 0 (by decide)), cu_Q (cu_ad hz h125) (o102 1 (by decide))⟩⟩
  · refine ⟨rfl, ⟨rfl, Nat.le_of_ble_eq_true rfl⟩, fun k c hk => ?_⟩
    match k, hk with
    | 0, hk => cases hk; exact ⟨_, rfl, rfl⟩
    | 1, hk => cases hk; exact ⟨_, rfl, Nat.le_of_ble_eq_true rfl, Nat.le_of_ble_eq_true rfl, ⟨_, rfl⟩, _, rfl, t102⟩
    | 2, hk => cases hk; exact ⟨_, rfl, rfl⟩
    | 3, hk => cases hk; exact ⟨_, rfl, Nat.le_of_ble_eq_true rfl, Nat.le_of_ble_eq_true rfl, ⟨_, rfl⟩, _, rfl, t50⟩
    | 4, hk => cases hk; exact ⟨_, rfl, Nat.le_of_ble_eq_true rfl, Nat.le_of_ble_eq_true rfl, ⟨_, rfl⟩, _, rfl, t31⟩
    | 5, hk => cases hk; exact ⟨_, rfl, Nat.le_of_ble_eq_true rfl, Nat.le_of_ble_eq_true rfl, ⟨_, rfl⟩, _, rfl, t51⟩
    | 6, hk => cases hk; exact ⟨_, rfl, Nat.le_of_ble_eq_true rfl, Nat.le_of_ble_eq_true rfl, ⟨_, rfl⟩, _, rfl, t52⟩
    | 7, hk => cases hk; exact ⟨_, rfl, Nat.le_of_ble_eq_true rfl, Nat.le_of_ble_eq_true rfl, ⟨_, rfl⟩, _, rfl, t53⟩
    | 8, hk => cases hk; exact ⟨_, rfl, Nat.le_of_ble_eq_true rfl, Nat.le_of_ble_eq_true rfl, ⟨_, rfl⟩, _, rfl, t54⟩
    | 9, hk => cases hk; exact ⟨_, rfl, Nat.le_of_ble_eq_true rfl, Nat.le_of_ble_eq_true rfl, ⟨_, rfl⟩, _, rfl, t55⟩
    | 10, hk => cases hk; exact ⟨_, rfl, Nat.le_of_ble_eq_true rfl, Nat.le_of_ble_eq_true rfl, ⟨_, rfl⟩, _, rfl, t56⟩
    | 11, hk => cases hk; exact ⟨_, rfl, Nat.le_of_ble_eq_true rfl, Nat.le_of_ble_eq_true rfl, ⟨_, rfl⟩, _, rfl, t33⟩
    | 12, hk => cases hk; exact ⟨_, rfl, Nat.le_of_ble_eq_true rfl, Nat.le_of_ble_eq_true rfl, ⟨_, rfl⟩, _, rfl, t57⟩
    | 13, hk => cases hk; exact ⟨_, rfl, Nat.le_of_ble_eq_true rfl, Nat.le_of_ble_eq_true rfl, ⟨_, rfl⟩, _, rfl, t37⟩
    | 14, hk => cases hk; exact ⟨_, rfl, Nat.le_of_ble_eq_true rfl, Nat.le_of_ble_eq_true rfl, ⟨_, rfl⟩, _, rfl, t58⟩
    | 15, hk => cases hk; exact ⟨_, rfl, Nat.le_of_ble_eq_true rfl, Nat.le_of_ble_eq_true rfl, ⟨_, rfl⟩, _, rfl, t35⟩
    | 16, hk => cases hk; exact ⟨_, rfl, rfl⟩
    | 17, hk => cases hk; exact ⟨_, rfl, rfl⟩
    | 18, hk => cases hk; exact ⟨_, rfl, rfl⟩
    | 19, hk => cases hk; exact ⟨_, rfl, Nat.le_of_ble_eq_true rfl, Nat.le_of_ble_eq_true rfl, ⟨_, rfl⟩, _, rfl, t104⟩
    | 20, hk => cases hk; exact ⟨_, rfl, Nat.le_of_ble_eq_true rfl, Nat.le_of_ble_eq_true rfl, ⟨_, rfl⟩, _, rfl, t105⟩
    | 21, hk => cases hk; exact ⟨_, rfl, Nat.le_of_ble_eq_true rfl, Nat.le_of_ble_eq_true rfl, ⟨_, rfl⟩, _, rfl, t106⟩
    | 22, hk => cases hk; exact ⟨_, rfl, Nat.le_of_ble_eq_true rfl, Nat.le_of_ble_eq_true rfl, ⟨_, rfl⟩, _, rfl, t107⟩
    | 23, hk => cases hk; exact ⟨_, rfl, Nat.le_of_ble_eq_true rfl, Nat.le_of_ble_eq_true rfl, ⟨_, rfl⟩, _, rfl, t108⟩
    | 24, hk => cases hk; exact ⟨_, rfl, Nat.le_of_ble_eq_true rfl, Nat.le_of_ble_eq_true rfl, ⟨_, rfl⟩, _, rfl, t109⟩
    | 25, hk => cases hk; exact ⟨_, rfl, Nat.le_of_ble_eq_true rfl, Nat.le_of_ble_eq_true rfl, ⟨_, rfl⟩, _, rfl, t110⟩
    | 26, hk => cases hk; exact ⟨_, rfl, Nat.le_of_ble_eq_true rfl, Nat.le_of_ble_eq_true rfl, ⟨_, rfl⟩, _, rfl, t111⟩
    | 27, hk => cases hk; exact ⟨_, rfl, Nat.le_of_ble_eq_true rfl, Nat.le_of_ble_eq_true rfl, ⟨_, rfl⟩, _, rfl, t112⟩
    | 28, hk => cases hk; exact ⟨_, rfl, Nat.le_of_ble_eq_true rfl, Nat.le_of_ble_eq_true rfl, ⟨_, rfl⟩, _, rfl, t113⟩
    | 29, hk => cases hk; exact ⟨_, rfl, Nat.le_of_ble_eq_true rfl, Nat.le_of_ble_eq_true rfl, ⟨_, rfl⟩, _, rfl, t114⟩
    | 30, hk => cases hk; exact ⟨_, rfl, Nat.le_of_ble_eq_true rfl, Nat.le_of_ble_eq_true rfl, ⟨_, rfl⟩, _, rfl, t115⟩
    | 31, hk => cases hk; exact ⟨_, rfl, Nat.le_of_ble_eq_true rfl, Nat.le_of_ble_eq_true rfl, ⟨_, rfl⟩, _, rfl, t116⟩
    | 32, hk => cases hk; exact ⟨_, rfl, rfl⟩
    | 33, hk => cases hk; exact ⟨_, rfl, Nat.le_of_ble_eq_true rfl, Nat.le_of_ble_eq_true rfl, ⟨_, rfl⟩, _, rfl, t126⟩
    | 34, hk => cases hk; exact ⟨_, rfl, Nat.le_of_ble_eq_true rfl, Nat.le_of_ble_eq_true rfl, ⟨_, rfl⟩, _, rfl, t127⟩
    | 35, hk => cases hk; exact ⟨_, rfl, Nat.le_of_ble_eq_true rfl, Nat.le_of_ble_eq_true rfl, ⟨_, rfl⟩, _, rfl, t128⟩
    | 36, hk => cases hk; exact ⟨_, rfl, Nat.le_of_ble_eq_true rfl, Nat.le_of_ble_eq_true rfl, ⟨_, rfl⟩, _, rfl, t129⟩
    | 37, hk => cases hk; exact ⟨_, rfl, Nat.le_of_ble_eq_true rfl, Nat.le_of_ble_eq_true rfl, ⟨_, rfl⟩, _, rfl, t130⟩
    | 38, hk => cases hk; exact ⟨_, rfl, Nat.le_of_ble_eq_true rfl, Nat.le_of_ble_eq_true rfl, ⟨_, rfl⟩, _, rfl, t131⟩
    | 39, hk => cases hk; exact ⟨_, rfl, Nat.le_of_ble_eq_true rfl, Nat.le_of_ble_eq_true rfl, ⟨_, rfl⟩, _, rfl, t132⟩
    | 40, hk => cases hk; exact ⟨_, rfl, Nat.le_of_ble_eq_true rfl, Nat.le_of_ble_eq_true rfl, ⟨_, rfl⟩, _, rfl, t133⟩
    | 41, hk => cases hk; exact ⟨_, rfl, Nat.le_of_ble_eq_true rfl, Nat.le_of_ble_eq_true rfl, ⟨_, rfl⟩, _, rfl, t134⟩
    | 42, hk => cases hk; exact ⟨_, rfl, Nat.le_of_ble_eq_true rfl, Nat.le_of_ble_eq_true rfl, ⟨_, rfl⟩, _, rfl, t135⟩
    | 43, hk => cases hk; exact ⟨_, rfl, Nat.le_of_ble_eq_true rfl, Nat.le_of_ble_eq_true rfl, ⟨_, rfl⟩, _, rfl, t136⟩
    | 44, hk => cases hk; exact ⟨_, rfl, Nat.le_of_ble_eq_true rfl, Nat.le_of_ble_eq_true rfl, ⟨_, rfl⟩, _, rfl, t137⟩
    | 45, hk => cases hk; exact ⟨_, rfl, Nat.le_of_ble_eq_true rfl, Nat.le_of_ble_eq_true rfl, ⟨_, rfl⟩, _, rfl, t138⟩
    | 46, hk => cases hk; exact ⟨_, rfl, rfl⟩
    | 47, hk => cases hk; exact ⟨_, rfl, Nat.le_of_ble_eq_true rfl, Nat.le_of_ble_eq_true rfl, ⟨_, rfl⟩, _, rfl, t18⟩
    | 48, hk => cases hk; exact ⟨_, rfl, Nat.le_of_ble_eq_true rfl, Nat.le_of_ble_eq_true rfl, ⟨_, rfl⟩, _, rfl, t59⟩
    | 49, hk => cases hk; exact ⟨_, rfl, Nat.le_of_ble_eq_true rfl, Nat.le_of_ble_eq_true rfl, ⟨_, rfl⟩, _, rfl, t60⟩
    | 50, hk => cases hk; exact ⟨_, rfl, rfl⟩
    | 51, hk => cases hk; exact ⟨_, rfl, Nat.le_of_ble_eq_true rfl, Nat.le_of_ble_eq_true rfl, ⟨_, rfl⟩, _, rfl, t118⟩
    | 52, hk => cases hk; exact ⟨_, rfl, Nat.le_of_ble_eq_true rfl, Nat.le_of_ble_eq_true rfl, ⟨_, rfl⟩, _, rfl, t119⟩
    | 53, hk => cases hk; exact ⟨_, rfl, Nat.le_of_ble_eq_true rfl, Nat.le_of_ble_eq_true rfl, ⟨_, rfl⟩, _, rfl, t120⟩
    | 54, hk => cases hk; exact ⟨_, rfl, rfl⟩
    | 55, hk => cases hk; exact ⟨_, rfl, Nat.le_of_ble_eq_true rfl, Nat.le_of_ble_eq_true rfl, ⟨_, rfl⟩, _, rfl, t140⟩
    | 56, hk => cases hk; exact ⟨_, rfl, Nat.le_of_ble_eq_true rfl, Nat.le_of_ble_eq_true rfl, ⟨_, rfl⟩, _, rfl, t141⟩
    | 57, hk => cases hk; exact ⟨_, rfl, Nat.le_of_ble_eq_true rfl, Nat.le_of_ble_eq_true rfl, ⟨_, rfl⟩, _, rfl, t142⟩
    | 58, hk => cases hk; exact ⟨_, rfl, rfl⟩
    | 59, hk => cases hk; exact ⟨_, rfl, Nat.le_of_ble_eq_true rfl, Nat.le_of_ble_eq_true rfl, ⟨_, rfl⟩, _, rfl, t22⟩
    | 60, hk => cases hk; exact ⟨_, rfl, Nat.le_of_ble_eq_true rfl, Nat.le_of_ble_eq_true rfl, ⟨_, rfl⟩, _, rfl, t26⟩
    | 61, hk => cases hk; exact ⟨_, rfl, Nat.le_of_ble_eq_true rfl, Nat.le_of_ble_eq_true rfl, ⟨_, rfl⟩, _, rfl, t24⟩
    | 62, hk => cases hk; exact ⟨_, rfl, rfl⟩
    | 63, hk => cases hk; exact ⟨_, rfl, Nat.le_of_ble_eq_true rfl, Nat.le_of_ble_eq_true rfl, ⟨_, rfl⟩, _, rfl, t122⟩
    | 64, hk => cases hk; exact ⟨_, rfl, Nat.le_of_ble_eq_true rfl, Nat.le_of_ble_eq_true rfl, ⟨_, rfl⟩, _, rfl, t123⟩
    | 65, hk => cases hk; exact ⟨_, rfl, Nat.le_of_ble_eq_true rfl, Nat.le_of_ble_eq_true rfl, ⟨_, rfl⟩, _, rfl, t124⟩
    | 66, hk => cases hk; exact ⟨_, rfl, rfl⟩
    | 67, hk => cases hk; exact ⟨_, rfl, Nat.le_of_ble_eq_true rfl, Nat.le_of_ble_eq_true rfl, ⟨_, rfl⟩, _, rfl, t144⟩
    | 68, hk => cases hk; exact ⟨_, rfl, Nat.le_of_ble_eq_true rfl, Nat.le_of_ble_eq_true rfl, ⟨_, rfl⟩, _, rfl, t145⟩
    | 69, hk => cases hk; exact ⟨_, rfl, Nat.le_of_ble_eq_true rfl, Nat.le_of_ble_eq_true rfl, ⟨_, rfl⟩, _, rfl, t146⟩
    | 70, hk => cases hk; exact ⟨_, rfl, rfl⟩
    | 71, hk => cases hk; exact ⟨_, rfl, rfl⟩
    | k + 72, hk => cases hk
  · simp only [List.map_cons, List.map_nil, h10, h102, h11, h50, h31, h51, h52, h53, h54, h55, h56, h33, h57, h37, h58, h35, h103, h125, h29, h104, h105, h106, h107, h108, h109, h110, h111, h112, h113, h114, h115, h116, h28, h126, h127, h128, h129, h130, h131, h132, h133, h134, h135, h136, h137, h138, h13, h18, h59, h60, h117, h118, h119, h120, h139, h140, h141, h142, h8, h22, h26, h24, h121, h122, h123, h124, h143, h144, h145, h146, h15, h3]
set_option maxRecDepth 100000 in
set_option maxHeartbeats 4000000 in
theorem cu_B {X : ab_X} {z : ab_Z} {s : State} {ws : va_W} (hc : ∀ (k : Nat) (c : ab_C), k ∈ cu_KB → gl_L[k]? = some c → ∃ q, ws[k]? = some q ∧ ab_cR X z s c q.2) (hz : ws.map Prod.fst = z.2.2) : ∃ (σ : ex_S) (A : ex_A) (we : va_W), ex_wR X A s (WB σ) we ∧ ([0, 4, 1, 2, 6, 149, 150] : List Nat).map (fun k => ws[k]?) = we.map some ∧ z.1[2]? = some (σ.1 1) := by
  obtain ⟨⟨a0, e0⟩, h0, r0⟩ := hc 0 _ (by decide) rfl
  obtain ⟨⟨a4, e4⟩, h4, r4⟩ := hc 4 _ (by decide) rfl
  obtain ⟨⟨a1, e1⟩, h1, r1⟩ := hc 1 _ (by decide) rfl
  obtain ⟨⟨a2, e2⟩, h2, r2⟩ := hc 2 _ (by decide) rfl
  obtain ⟨⟨a6, e6⟩, h6, r6⟩ := hc 6 _ (by decide) rfl
  obtain ⟨⟨a149, e149⟩, h149, r149⟩ := hc 149 _ (by decide) rfl
  obtain ⟨⟨a150, e150⟩, h150, r150⟩ := hc 150 _ (by decide) rfl
  obtain ⟨cA4, x4, f4, ⟨y4, g4⟩, t4, -⟩ := r4
  dsimp only at f4
  subst f4 g4
  obtain ⟨cA1, x1, f1, ⟨y1, g1⟩, t1, -⟩ := r1
  dsimp only at f1
  subst f1 g1
  obtain ⟨cA2, x2, f2, ⟨y2, g2⟩, t2, -⟩ := r2
  dsimp only at f2
  subst f2 g2
  obtain ⟨cA6, x6, f6, ⟨y6, g6⟩, t6, -⟩ := r6
  dsimp only at f6
  subst f6 g6
  obtain ⟨cA149, x149, f149, ⟨y149, g149⟩, t149, -⟩ := r149
  dsimp only at f149
  subst f149 g149
  obtain ⟨cA150, x150, f150, ⟨y150, g150⟩, t150, -⟩ := r150
  dsimp only at f150
  subst f150 g150
  obtain ⟨vs0, f0, l0, w0⟩ := r0
  dsimp only at f0
  subst f0
  obtain ⟨u0_0, s0_0, rfl, m0_0⟩ := cu_c l0
  obtain ⟨u0_1, s0_1, rfl, m0_1⟩ := cu_c m0_0
  obtain ⟨u0_2, s0_2, rfl, m0_2⟩ := cu_c m0_1
  obtain ⟨u0_3, s0_3, rfl, m0_3⟩ := cu_c m0_2
  obtain ⟨u0_4, s0_4, rfl, m0_4⟩ := cu_c m0_3
  obtain ⟨u0_5, s0_5, rfl, m0_5⟩ := cu_c m0_4
  obtain ⟨u0_6, s0_6, rfl, m0_6⟩ := cu_c m0_5
  obtain ⟨u0_7, s0_7, rfl, m0_7⟩ := cu_c m0_6
  obtain ⟨u0_8, s0_8, rfl, m0_8⟩ := cu_c m0_7
  obtain ⟨u0_9, s0_9, rfl, m0_9⟩ := cu_c m0_8
  obtain ⟨u0_10, s0_10, rfl, m0_10⟩ := cu_c m0_9
  obtain ⟨u0_11, s0_11, rfl, m0_11⟩ := cu_c m0_10
  obtain ⟨u0_12, s0_12, rfl, m0_12⟩ := cu_c m0_11
  obtain ⟨u0_13, s0_13, rfl, m0_13⟩ := cu_c m0_12
  obtain ⟨u0_14, s0_14, rfl, m0_14⟩ := cu_c m0_13
  obtain ⟨u0_15, s0_15, rfl, m0_15⟩ := cu_c m0_14
  obtain ⟨u0_16, s0_16, rfl, m0_16⟩ := cu_c m0_15
  obtain ⟨u0_17, s0_17, rfl, m0_17⟩ := cu_c m0_16
  obtain ⟨u0_18, s0_18, rfl, m0_18⟩ := cu_c m0_17
  obtain ⟨u0_19, s0_19, rfl, m0_19⟩ := cu_c m0_18
  obtain ⟨u0_20, s0_20, rfl, m0_20⟩ := cu_c m0_19
  obtain ⟨u0_21, s0_21, rfl, m0_21⟩ := cu_c m0_20
  obtain ⟨u0_22, s0_22, rfl, m0_22⟩ := cu_c m0_21
  obtain ⟨u0_23, s0_23, rfl, m0_23⟩ := cu_c m0_22
  obtain ⟨u0_24, s0_24, rfl, m0_24⟩ := cu_c m0_23
  obtain ⟨u0_25, s0_25, rfl, m0_25⟩ := cu_c m0_24
  obtain ⟨u0_26, s0_26, rfl, m0_26⟩ := cu_c m0_25
  obtain ⟨u0_27, s0_27, rfl, m0_27⟩ := cu_c m0_26
  obtain ⟨u0_28, s0_28, rfl, m0_28⟩ := cu_c m0_27
  obtain ⟨u0_29, s0_29, rfl, m0_29⟩ := cu_c m0_28
  obtain ⟨u0_30, s0_30, rfl, m0_30⟩ := cu_c m0_29
  obtain ⟨u0_31, s0_31, rfl, m0_31⟩ := cu_c m0_30
  obtain ⟨u0_32, s0_32, rfl, m0_32⟩ := cu_c m0_31
  obtain ⟨u0_33, s0_33, rfl, m0_33⟩ := cu_c m0_32
  obtain ⟨u0_34, s0_34, rfl, m0_34⟩ := cu_c m0_33
  obtain ⟨u0_35, s0_35, rfl, m0_35⟩ := cu_c m0_34
  obtain ⟨u0_36, s0_36, rfl, m0_36⟩ := cu_c m0_35
  obtain ⟨u0_37, s0_37, rfl, m0_37⟩ := cu_c m0_36
  obtain ⟨u0_38, s0_38, rfl, m0_38⟩ := cu_c m0_37
  obtain ⟨u0_39, s0_39, rfl, m0_39⟩ := cu_c m0_38
  obtain ⟨u0_40, s0_40, rfl, m0_40⟩ := cu_c m0_39
  obtain ⟨u0_41, s0_41, rfl, m0_41⟩ := cu_c m0_40
  obtain ⟨u0_42, s0_42, rfl, m0_42⟩ := cu_c m0_41
  obtain ⟨u0_43, s0_43, rfl, m0_43⟩ := cu_c m0_42
  obtain ⟨u0_44, s0_44, rfl, m0_44⟩ := cu_c m0_43
  obtain ⟨u0_45, s0_45, rfl, m0_45⟩ := cu_c m0_44
  obtain ⟨u0_46, s0_46, rfl, m0_46⟩ := cu_c m0_45
  obtain ⟨u0_47, s0_47, rfl, m0_47⟩ := cu_c m0_46
  obtain ⟨u0_48, s0_48, rfl, m0_48⟩ := cu_c m0_47
  obtain ⟨u0_49, s0_49, rfl, m0_49⟩ := cu_c m0_48
  obtain ⟨u0_50, s0_50, rfl, m0_50⟩ := cu_c m0_49
  cases cu_n m0_50
  obtain ⟨i0_0, q0_0⟩ := cu_I (w0 0 _ _ rfl rfl) rfl
  subst q0_0
  have q0_1 := cu_R (cu_ad hz h4) (w0 1 _ _ rfl rfl)
  subst q0_1
  obtain ⟨i0_2, q0_2⟩ := cu_I (w0 2 _ _ rfl rfl) rfl
  obtain ⟨i0_3, q0_3⟩ := cu_I (w0 3 _ _ rfl rfl) rfl
  subst q0_3
  obtain ⟨i0_4, q0_4⟩ := cu_I (w0 4 _ _ rfl rfl) rfl
  subst q0_4
  obtain ⟨i0_5, q0_5⟩ := cu_I (w0 5 _ _ rfl rfl) rfl
  subst q0_5
  have q0_6 := cu_R (cu_ad hz h1) (w0 6 _ _ rfl rfl)
  subst q0_6
  have q0_7 := cu_R (cu_ad hz h2) (w0 7 _ _ rfl rfl)
  subst q0_7
  have q0_8 := cu_R (cu_ad hz h6) (w0 8 _ _ rfl rfl)
  subst q0_8
  have q0_9 := cu_R (cu_ad hz h149) (w0 9 _ _ rfl rfl)
  subst q0_9
  have q0_10 := cu_R (cu_ad hz h150) (w0 10 _ _ rfl rfl)
  subst q0_10
  obtain ⟨i0_11, q0_11⟩ := cu_I (w0 11 _ _ rfl rfl) rfl
  subst q0_11
  obtain ⟨i0_12, q0_12⟩ := cu_I (w0 12 _ _ rfl rfl) rfl
  subst q0_12
  obtain ⟨i0_13, q0_13⟩ := cu_I (w0 13 _ _ rfl rfl) rfl
  subst q0_13
  obtain ⟨i0_14, q0_14⟩ := cu_I (w0 14 _ _ rfl rfl) rfl
  subst q0_14
  obtain ⟨i0_15, q0_15⟩ := cu_I (w0 15 _ _ rfl rfl) rfl
  subst q0_15
  obtain ⟨i0_16, q0_16⟩ := cu_I (w0 16 _ _ rfl rfl) rfl
  subst q0_16
  obtain ⟨i0_17, q0_17⟩ := cu_L (w0 17 _ _ rfl rfl) rfl
  subst q0_17
  obtain ⟨i0_18, q0_18⟩ := cu_I (w0 18 _ _ rfl rfl) rfl
  subst q0_18
  obtain ⟨i0_19, q0_19⟩ := cu_I (w0 19 _ _ rfl rfl) rfl
  subst q0_19
  obtain ⟨i0_20, q0_20⟩ := cu_I (w0 20 _ _ rfl rfl) rfl
  subst q0_20
  obtain ⟨i0_21, q0_21⟩ := cu_Rx (w0 21 _ _ rfl rfl)
  subst q0_21
  obtain ⟨i0_22, q0_22⟩ := cu_Rx (w0 22 _ _ rfl rfl)
  subst q0_22
  obtain ⟨i0_23, q0_23⟩ := cu_I (w0 23 _ _ rfl rfl) rfl
  subst q0_23
  obtain ⟨i0_24, q0_24⟩ := cu_Rx (w0 24 _ _ rfl rfl)
  subst q0_24
  obtain ⟨i0_25, q0_25⟩ := cu_Rx (w0 25 _ _ rfl rfl)
  subst q0_25
  obtain ⟨i0_26, q0_26⟩ := cu_Rx (w0 26 _ _ rfl rfl)
  subst q0_26
  obtain ⟨i0_27, q0_27⟩ := cu_I (w0 27 _ _ rfl rfl) rfl
  subst q0_27
  obtain ⟨i0_28, q0_28⟩ := cu_I (w0 28 _ _ rfl rfl) rfl
  subst q0_28
  obtain ⟨i0_29, q0_29⟩ := cu_Rx (w0 29 _ _ rfl rfl)
  subst q0_29
  obtain ⟨i0_30, q0_30⟩ := cu_Rx (w0 30 _ _ rfl rfl)
  subst q0_30
  obtain ⟨i0_31, q0_31⟩ := cu_Rx (w0 31 _ _ rfl rfl)
  subst q0_31
  obtain ⟨i0_32, q0_32⟩ := cu_Rx (w0 32 _ _ rfl rfl)
  subst q0_32
  obtain ⟨i0_33, q0_33⟩ := cu_Rx (w0 33 _ _ rfl rfl)
  subst q0_33
  obtain ⟨i0_34, q0_34⟩ := cu_I (w0 34 _ _ rfl rfl) rfl
  subst q0_34
  obtain ⟨i0_35, q0_35⟩ := cu_Rx (w0 35 _ _ rfl rfl)
  subst q0_35
  obtain ⟨i0_36, q0_36⟩ := cu_I (w0 36 _ _ rfl rfl) rfl
  subst q0_36
  obtain ⟨i0_37, q0_37⟩ := cu_I (w0 37 _ _ rfl rfl) rfl
  subst q0_37
  obtain ⟨i0_38, q0_38⟩ := cu_I (w0 38 _ _ rfl rfl) rfl
  subst q0_38
  obtain ⟨i0_39, q0_39⟩ := cu_Rx (w0 39 _ _ rfl rfl)
  subst q0_39
  obtain ⟨i0_40, q0_40⟩ := cu_I (w0 40 _ _ rfl rfl) rfl
  subst q0_40
  obtain ⟨i0_41, q0_41⟩ := cu_Rx (w0 41 _ _ rfl rfl)
  subst q0_41
  obtain ⟨i0_42, q0_42⟩ := cu_I (w0 42 _ _ rfl rfl) rfl
  subst q0_42
  obtain ⟨i0_43, q0_43⟩ := cu_I (w0 43 _ _ rfl rfl) rfl
  subst q0_43
  obtain ⟨i0_44, q0_44⟩ := cu_I (w0 44 _ _ rfl rfl) rfl
  subst q0_44
  obtain ⟨i0_45, q0_45⟩ := cu_I (w0 45 _ _ rfl rfl) rfl
  subst q0_45
  obtain ⟨i0_46, q0_46⟩ := cu_I (w0 46 _ _ rfl rfl) rfl
  subst q0_46
  obtain ⟨i0_47, q0_47⟩ := cu_Rx (w0 47 _ _ rfl rfl)
  subst q0_47
  obtain ⟨i0_48, q0_48⟩ := cu_Rx (w0 48 _ _ rfl rfl)
  subst q0_48
  obtain ⟨i0_49, q0_49⟩ := cu_Rx (w0 49 _ _ rfl rfl)
  subst q0_49
  obtain ⟨i0_50, q0_50⟩ := cu_Rx (w0 50 _ _ rfl rfl)
  subst q0_50
  have z0 := w0 2 _ _ rfl rfl
  subst q0_2
  refine ⟨((fun j => bif Nat.beq j 0 then i0_0 else bif Nat.beq j 1 then i0_2 else bif Nat.beq j 2 then i0_3 else bif Nat.beq j 3 then i0_4 else bif Nat.beq j 4 then i0_5 else bif Nat.beq j 5 then i0_11 else bif Nat.beq j 6 then i0_12 else bif Nat.beq j 7 then i0_13 else bif Nat.beq j 8 then i0_14 else bif Nat.beq j 9 then i0_15 else bif Nat.beq j 10 then i0_16 else bif Nat.beq j 11 then i0_18 else bif Nat.beq j 12 then i0_19 else bif Nat.beq j 13 then i0_20 else bif Nat.beq j 14 then i0_23 else bif Nat.beq j 15 then i0_27 else bif Nat.beq j 16 then i0_28 else bif Nat.beq j 17 then i0_34 else bif Nat.beq j 18 then i0_36 else bif Nat.beq j 19 then i0_37 else bif Nat.beq j 20 then i0_38 else bif Nat.beq j 21 then i0_40 else bif Nat.beq j 22 then i0_42 else bif Nat.beq j 23 then i0_43 else bif Nat.beq j 24 then i0_44 else bif Nat.beq j 25 then i0_45 else bif Nat.beq j 26 then i0_46 else (0 : Int32)), (fun j => bif Nat.beq j 0 then i0_17 else (0 : Int64)), (fun j => bif Nat.beq j 0 then y4 else bif Nat.beq j 1 then y1 else bif Nat.beq j 2 then y2 else bif Nat.beq j 3 then y6 else (fun _ => (0 : Int32))), (fun j => bif Nat.beq j 0 then y149 else bif Nat.beq j 1 then y150 else (fun _ => (0 : Int64)))), ([a0, a4, a1, a2, a6, a149, a150], (fun j => bif Nat.beq j 0 then i0_21 else bif Nat.beq j 1 then i0_22 else bif Nat.beq j 2 then i0_24 else bif Nat.beq j 3 then i0_25 else bif Nat.beq j 4 then i0_26 else bif Nat.beq j 5 then i0_29 else bif Nat.beq j 6 then i0_30 else bif Nat.beq j 7 then i0_31 else bif Nat.beq j 8 then i0_32 else bif Nat.beq j 9 then i0_33 else bif Nat.beq j 10 then i0_35 else bif Nat.beq j 11 then i0_39 else bif Nat.beq j 12 then i0_41 else bif Nat.beq j 13 then i0_47 else bif Nat.beq j 14 then i0_48 else bif Nat.beq j 15 then i0_49 else bif Nat.beq j 16 then i0_50 else 0)), [(a0, .inr (11, [.int i0_0, .ref a4, .int i0_2, .int i0_3, .int i0_4, .int i0_5, .ref a1, .ref a2, .ref a6, .ref a149, .ref a150, .int i0_11, .int i0_12, .int i0_13, .int i0_14, .int i0_15, .int i0_16, .long i0_17, .int i0_18, .int i0_19, .int i0_20, .ref i0_21, .ref i0_22, .int i0_23, .ref i0_24, .ref i0_25, .ref i0_26, .int i0_27, .int i0_28, .ref i0_29, .ref i0_30, .ref i0_31, .ref i0_32, .ref i0_33, .int i0_34, .ref i0_35, .int i0_36, .int i0_37, .int i0_38, .ref i0_39, .int i0_40, .ref i0_41, .int i0_42, .int i0_43, .int i0_44, .int i0_45, .int i0_46, .ref i0_47, .ref i0_48, .ref i0_49, .ref i0_50])),
      (a4, .inl (cA4, 940, .inl y4)),
      (a1, .inl (cA1, 305, .inl y1)),
      (a2, .inl (cA2, 100, .inl y2)),
      (a6, .inl (cA6, 135, .inl y6)),
      (a149, .inl (cA149, 30, .inr (.inl y149))),
      (a150, .inl (cA150, 22, .inr (.inl y150)))], ?_, ?_, cu_ev1 z0⟩
  · refine ⟨rfl, ⟨rfl, Nat.le_of_ble_eq_true rfl⟩, fun k c hk => ?_⟩
    match k, hk with
    | 0, hk => cases hk; exact ⟨_, rfl, rfl⟩
    | 1, hk => cases hk; exact ⟨_, rfl, Nat.le_of_ble_eq_true rfl, Nat.le_of_ble_eq_true rfl, ⟨_, rfl⟩, _, rfl, t4⟩
    | 2, hk => cases hk; exact ⟨_, rfl, Nat.le_of_ble_eq_true rfl, Nat.le_of_ble_eq_true rfl, ⟨_, rfl⟩, _, rfl, t1⟩
    | 3, hk => cases hk; exact ⟨_, rfl, Nat.le_of_ble_eq_true rfl, Nat.le_of_ble_eq_true rfl, ⟨_, rfl⟩, _, rfl, t2⟩
    | 4, hk => cases hk; exact ⟨_, rfl, Nat.le_of_ble_eq_true rfl, Nat.le_of_ble_eq_true rfl, ⟨_, rfl⟩, _, rfl, t6⟩
    | 5, hk => cases hk; exact ⟨_, rfl, Nat.le_of_ble_eq_true rfl, Nat.le_of_ble_eq_true rfl, ⟨_, rfl⟩, _, rfl, t149⟩
    | 6, hk => cases hk; exact ⟨_, rfl, Nat.le_of_ble_eq_true rfl, Nat.le_of_ble_eq_true rfl, ⟨_, rfl⟩, _, rfl, t150⟩
    | k + 7, hk => cases hk
  · simp only [List.map_cons, List.map_nil, h0, h4, h1, h2, h6, h149, h150]
set_option maxRecDepth 100000 in
set_option maxHeartbeats 4000000 in
theorem cu_J {X : ab_X} {z : ab_Z} {s : State} {ws : va_W} (hc : ∀ (k : Nat) (c : ab_C), k ∈ cu_KJ → gl_L[k]? = some c → ∃ q, ws[k]? = some q ∧ ab_cR X z s c q.2) (hz : ws.map Prod.fst = z.2.2) : ∃ (σ : ex_S) (A : ex_A) (we : va_W), ex_wR X A s (WJ σ) we ∧ ([0, 1, 149, 7, 164, 165] : List Nat).map (fun k => ws[k]?) = we.map some ∧ z.1[2]? = some (σ.1 1) := by
  obtain ⟨⟨a0, e0⟩, h0, r0⟩ := hc 0 _ (by decide) rfl
  obtain ⟨⟨a1, e1⟩, h1, r1⟩ := hc 1 _ (by decide) rfl
  obtain ⟨⟨a149, e149⟩, h149, r149⟩ := hc 149 _ (by decide) rfl
  obtain ⟨⟨a7, e7⟩, h7, r7⟩ := hc 7 _ (by decide) rfl
  obtain ⟨⟨a164, e164⟩, h164, r164⟩ := hc 164 _ (by decide) rfl
  obtain ⟨⟨a165, e165⟩, h165, r165⟩ := hc 165 _ (by decide) rfl
  obtain ⟨cA1, x1, f1, ⟨y1, g1⟩, t1, -⟩ := r1
  dsimp only at f1
  subst f1 g1
  obtain ⟨cA149, x149, f149, ⟨y149, g149⟩, t149, -⟩ := r149
  dsimp only at f149
  subst f149 g149
  obtain ⟨cA7, x7, f7, ⟨y7, g7⟩, t7, -⟩ := r7
  dsimp only at f7
  subst f7 g7
  obtain ⟨cA164, x164, f164, ⟨y164, g164⟩, t164, -⟩ := r164
  dsimp only at f164
  subst f164 g164
  obtain ⟨cA165, x165, f165, ⟨y165, g165⟩, t165, -⟩ := r165
  dsimp only at f165
  subst f165 g165
  obtain ⟨vs0, f0, l0, w0⟩ := r0
  dsimp only at f0
  subst f0
  obtain ⟨u0_0, s0_0, rfl, m0_0⟩ := cu_c l0
  obtain ⟨u0_1, s0_1, rfl, m0_1⟩ := cu_c m0_0
  obtain ⟨u0_2, s0_2, rfl, m0_2⟩ := cu_c m0_1
  obtain ⟨u0_3, s0_3, rfl, m0_3⟩ := cu_c m0_2
  obtain ⟨u0_4, s0_4, rfl, m0_4⟩ := cu_c m0_3
  obtain ⟨u0_5, s0_5, rfl, m0_5⟩ := cu_c m0_4
  obtain ⟨u0_6, s0_6, rfl, m0_6⟩ := cu_c m0_5
  obtain ⟨u0_7, s0_7, rfl, m0_7⟩ := cu_c m0_6
  obtain ⟨u0_8, s0_8, rfl, m0_8⟩ := cu_c m0_7
  obtain ⟨u0_9, s0_9, rfl, m0_9⟩ := cu_c m0_8
  obtain ⟨u0_10, s0_10, rfl, m0_10⟩ := cu_c m0_9
  obtain ⟨u0_11, s0_11, rfl, m0_11⟩ := cu_c m0_10
  obtain ⟨u0_12, s0_12, rfl, m0_12⟩ := cu_c m0_11
  obtain ⟨u0_13, s0_13, rfl, m0_13⟩ := cu_c m0_12
  obtain ⟨u0_14, s0_14, rfl, m0_14⟩ := cu_c m0_13
  obtain ⟨u0_15, s0_15, rfl, m0_15⟩ := cu_c m0_14
  obtain ⟨u0_16, s0_16, rfl, m0_16⟩ := cu_c m0_15
  obtain ⟨u0_17, s0_17, rfl, m0_17⟩ := cu_c m0_16
  obtain ⟨u0_18, s0_18, rfl, m0_18⟩ := cu_c m0_17
  obtain ⟨u0_19, s0_19, rfl, m0_19⟩ := cu_c m0_18
  obtain ⟨u0_20, s0_20, rfl, m0_20⟩ := cu_c m0_19
  obtain ⟨u0_21, s0_21, rfl, m0_21⟩ := cu_c m0_20
  obtain ⟨u0_22, s0_22, rfl, m0_22⟩ := cu_c m0_21
  obtain ⟨u0_23, s0_23, rfl, m0_23⟩ := cu_c m0_22
  obtain ⟨u0_24, s0_24, rfl, m0_24⟩ := cu_c m0_23
  obtain ⟨u0_25, s0_25, rfl, m0_25⟩ := cu_c m0_24
  obtain ⟨u0_26, s0_26, rfl, m0_26⟩ := cu_c m0_25
  obtain ⟨u0_27, s0_27, rfl, m0_27⟩ := cu_c m0_26
  obtain ⟨u0_28, s0_28, rfl, m0_28⟩ := cu_c m0_27
  obtain ⟨u0_29, s0_29, rfl, m0_29⟩ := cu_c m0_28
  obtain ⟨u0_30, s0_30, rfl, m0_30⟩ := cu_c m0_29
  obtain ⟨u0_31, s0_31, rfl, m0_31⟩ := cu_c m0_30
  obtain ⟨u0_32, s0_32, rfl, m0_32⟩ := cu_c m0_31
  obtain ⟨u0_33, s0_33, rfl, m0_33⟩ := cu_c m0_32
  obtain ⟨u0_34, s0_34, rfl, m0_34⟩ := cu_c m0_33
  obtain ⟨u0_35, s0_35, rfl, m0_35⟩ := cu_c m0_34
  obtain ⟨u0_36, s0_36, rfl, m0_36⟩ := cu_c m0_35
  obtain ⟨u0_37, s0_37, rfl, m0_37⟩ := cu_c m0_36
  obtain ⟨u0_38, s0_38, rfl, m0_38⟩ := cu_c m0_37
  obtain ⟨u0_39, s0_39, rfl, m0_39⟩ := cu_c m0_38
  obtain ⟨u0_40, s0_40, rfl, m0_40⟩ := cu_c m0_39
  obtain ⟨u0_41, s0_41, rfl, m0_41⟩ := cu_c m0_40
  obtain ⟨u0_42, s0_42, rfl, m0_42⟩ := cu_c m0_41
  obtain ⟨u0_43, s0_43, rfl, m0_43⟩ := cu_c m0_42
  obtain ⟨u0_44, s0_44, rfl, m0_44⟩ := cu_c m0_43
  obtain ⟨u0_45, s0_45, rfl, m0_45⟩ := cu_c m0_44
  obtain ⟨u0_46, s0_46, rfl, m0_46⟩ := cu_c m0_45
  obtain ⟨u0_47, s0_47, rfl, m0_47⟩ := cu_c m0_46
  obtain ⟨u0_48, s0_48, rfl, m0_48⟩ := cu_c m0_47
  obtain ⟨u0_49, s0_49, rfl, m0_49⟩ := cu_c m0_48
  obtain ⟨u0_50, s0_50, rfl, m0_50⟩ := cu_c m0_49
  cases cu_n m0_50
  obtain ⟨i0_0, q0_0⟩ := cu_I (w0 0 _ _ rfl rfl) rfl
  subst q0_0
  obtain ⟨i0_1, q0_1⟩ := cu_Rx (w0 1 _ _ rfl rfl)
  subst q0_1
  obtain ⟨i0_2, q0_2⟩ := cu_I (w0 2 _ _ rfl rfl) rfl
  obtain ⟨i0_3, q0_3⟩ := cu_I (w0 3 _ _ rfl rfl) rfl
  subst q0_3
  obtain ⟨i0_4, q0_4⟩ := cu_I (w0 4 _ _ rfl rfl) rfl
  subst q0_4
  obtain ⟨i0_5, q0_5⟩ := cu_I (w0 5 _ _ rfl rfl) rfl
  subst q0_5
  have q0_6 := cu_R (cu_ad hz h1) (w0 6 _ _ rfl rfl)
  subst q0_6
  obtain ⟨i0_7, q0_7⟩ := cu_Rx (w0 7 _ _ rfl rfl)
  subst q0_7
  obtain ⟨i0_8, q0_8⟩ := cu_Rx (w0 8 _ _ rfl rfl)
  subst q0_8
  have q0_9 := cu_R (cu_ad hz h149) (w0 9 _ _ rfl rfl)
  subst q0_9
  obtain ⟨i0_10, q0_10⟩ := cu_Rx (w0 10 _ _ rfl rfl)
  subst q0_10
  obtain ⟨i0_11, q0_11⟩ := cu_I (w0 11 _ _ rfl rfl) rfl
  subst q0_11
  obtain ⟨i0_12, q0_12⟩ := cu_I (w0 12 _ _ rfl rfl) rfl
  subst q0_12
  obtain ⟨i0_13, q0_13⟩ := cu_I (w0 13 _ _ rfl rfl) rfl
  subst q0_13
  obtain ⟨i0_14, q0_14⟩ := cu_I (w0 14 _ _ rfl rfl) rfl
  subst q0_14
  obtain ⟨i0_15, q0_15⟩ := cu_I (w0 15 _ _ rfl rfl) rfl
  subst q0_15
  obtain ⟨i0_16, q0_16⟩ := cu_I (w0 16 _ _ rfl rfl) rfl
  subst q0_16
  obtain ⟨i0_17, q0_17⟩ := cu_L (w0 17 _ _ rfl rfl) rfl
  subst q0_17
  obtain ⟨i0_18, q0_18⟩ := cu_I (w0 18 _ _ rfl rfl) rfl
  subst q0_18
  obtain ⟨i0_19, q0_19⟩ := cu_I (w0 19 _ _ rfl rfl) rfl
  subst q0_19
  obtain ⟨i0_20, q0_20⟩ := cu_I (w0 20 _ _ rfl rfl) rfl
  subst q0_20
  obtain ⟨i0_21, q0_21⟩ := cu_Rx (w0 21 _ _ rfl rfl)
  subst q0_21
  obtain ⟨i0_22, q0_22⟩ := cu_Rx (w0 22 _ _ rfl rfl)
  subst q0_22
  obtain ⟨i0_23, q0_23⟩ := cu_I (w0 23 _ _ rfl rfl) rfl
  subst q0_23
  obtain ⟨i0_24, q0_24⟩ := cu_Rx (w0 24 _ _ rfl rfl)
  subst q0_24
  obtain ⟨i0_25, q0_25⟩ := cu_Rx (w0 25 _ _ rfl rfl)
  subst q0_25
  obtain ⟨i0_26, q0_26⟩ := cu_Rx (w0 26 _ _ rfl rfl)
  subst q0_26
  obtain ⟨i0_27, q0_27⟩ := cu_I (w0 27 _ _ rfl rfl) rfl
  subst q0_27
  obtain ⟨i0_28, q0_28⟩ := cu_I (w0 28 _ _ rfl rfl) rfl
  subst q0_28
  obtain ⟨i0_29, q0_29⟩ := cu_Rx (w0 29 _ _ rfl rfl)
  subst q0_29
  obtain ⟨i0_30, q0_30⟩ := cu_Rx (w0 30 _ _ rfl rfl)
  subst q0_30
  obtain ⟨i0_31, q0_31⟩ := cu_Rx (w0 31 _ _ rfl rfl)
  subst q0_31
  obtain ⟨i0_32, q0_32⟩ := cu_Rx (w0 32 _ _ rfl rfl)
  subst q0_32
  obtain ⟨i0_33, q0_33⟩ := cu_Rx (w0 33 _ _ rfl rfl)
  subst q0_33
  obtain ⟨i0_34, q0_34⟩ := cu_I (w0 34 _ _ rfl rfl) rfl
  subst q0_34
  obtain ⟨i0_35, q0_35⟩ := cu_Rx (w0 35 _ _ rfl rfl)
  subst q0_35
  obtain ⟨i0_36, q0_36⟩ := cu_I (w0 36 _ _ rfl rfl) rfl
  subst q0_36
  obtain ⟨i0_37, q0_37⟩ := cu_I (w0 37 _ _ rfl rfl) rfl
  subst q0_37
  obtain ⟨i0_38, q0_38⟩ := cu_I (w0 38 _ _ rfl rfl) rfl
  subst q0_38
  obtain ⟨i0_39, q0_39⟩ := cu_Rx (w0 39 _ _ rfl rfl)
  subst q0_39
  obtain ⟨i0_40, q0_40⟩ := cu_I (w0 40 _ _ rfl rfl) rfl
  subst q0_40
  obtain ⟨i0_41, q0_41⟩ := cu_Rx (w0 41 _ _ rfl rfl)
  subst q0_41
  obtain ⟨i0_42, q0_42⟩ := cu_I (w0 42 _ _ rfl rfl) rfl
  subst q0_42
  obtain ⟨i0_43, q0_43⟩ := cu_I (w0 43 _ _ rfl rfl) rfl
  subst q0_43
  obtain ⟨i0_44, q0_44⟩ := cu_I (w0 44 _ _ rfl rfl) rfl
  subst q0_44
  obtain ⟨i0_45, q0_45⟩ := cu_I (w0 45 _ _ rfl rfl) rfl
  subst q0_45
  obtain ⟨i0_46, q0_46⟩ := cu_I (w0 46 _ _ rfl rfl) rfl
  subst q0_46
  obtain ⟨i0_47, q0_47⟩ := cu_Rx (w0 47 _ _ rfl rfl)
  subst q0_47
  have q0_48 := cu_R (cu_ad hz h7) (w0 48 _ _ rfl rfl)
  subst q0_48
  have q0_49 := cu_R (cu_ad hz h164) (w0 49 _ _ rfl rfl)
  subst q0_49
  have q0_50 := cu_R (cu_ad hz h165) (w0 50 _ _ rfl rfl)
  subst q0_50
  have z0 := w0 2 _ _ rfl rfl
  subst q0_2
  refine ⟨((fun j => bif Nat.beq j 0 then i0_0 else bif Nat.beq j 1 then i0_2 else bif Nat.beq j 2 then i0_3 else bif Nat.beq j 3 then i0_4 else bif Nat.beq j 4 then i0_5 else bif Nat.beq j 5 then i0_11 else bif Nat.beq j 6 then i0_12 else bif Nat.beq j 7 then i0_13 else bif Nat.beq j 8 then i0_14 else bif Nat.beq j 9 then i0_15 else bif Nat.beq j 10 then i0_16 else bif Nat.beq j 11 then i0_18 else bif Nat.beq j 12 then i0_19 else bif Nat.beq j 13 then i0_20 else bif Nat.beq j 14 then i0_23 else bif Nat.beq j 15 then i0_27 else bif Nat.beq j 16 then i0_28 else bif Nat.beq j 17 then i0_34 else bif Nat.beq j 18 then i0_36 else bif Nat.beq j 19 then i0_37 else bif Nat.beq j 20 then i0_38 else bif Nat.beq j 21 then i0_40 else bif Nat.beq j 22 then i0_42 else bif Nat.beq j 23 then i0_43 else bif Nat.beq j 24 then i0_44 else bif Nat.beq j 25 then i0_45 else bif Nat.beq j 26 then i0_46 else (0 : Int32)), (fun j => bif Nat.beq j 0 then i0_17 else (0 : Int64)), (fun j => bif Nat.beq j 0 then y1 else bif Nat.beq j 1 then y7 else bif Nat.beq j 2 then y165 else (fun _ => (0 : Int32))), (fun j => bif Nat.beq j 0 then y149 else bif Nat.beq j 1 then y164 else (fun _ => (0 : Int64)))), ([a0, a1, a149, a7, a164, a165], (fun j => bif Nat.beq j 0 then i0_1 else bif Nat.beq j 1 then i0_7 else bif Nat.beq j 2 then i0_8 else bif Nat.beq j 3 then i0_10 else bif Nat.beq j 4 then i0_21 else bif Nat.beq j 5 then i0_22 else bif Nat.beq j 6 then i0_24 else bif Nat.beq j 7 then i0_25 else bif Nat.beq j 8 then i0_26 else bif Nat.beq j 9 then i0_29 else bif Nat.beq j 10 then i0_30 else bif Nat.beq j 11 then i0_31 else bif Nat.beq j 12 then i0_32 else bif Nat.beq j 13 then i0_33 else bif Nat.beq j 14 then i0_35 else bif Nat.beq j 15 then i0_39 else bif Nat.beq j 16 then i0_41 else bif Nat.beq j 17 then i0_47 else 0)), [(a0, .inr (11, [.int i0_0, .ref i0_1, .int i0_2, .int i0_3, .int i0_4, .int i0_5, .ref a1, .ref i0_7, .ref i0_8, .ref a149, .ref i0_10, .int i0_11, .int i0_12, .int i0_13, .int i0_14, .int i0_15, .int i0_16, .long i0_17, .int i0_18, .int i0_19, .int i0_20, .ref i0_21, .ref i0_22, .int i0_23, .ref i0_24, .ref i0_25, .ref i0_26, .int i0_27, .int i0_28, .ref i0_29, .ref i0_30, .ref i0_31, .ref i0_32, .ref i0_33, .int i0_34, .ref i0_35, .int i0_36, .int i0_37, .int i0_38, .ref i0_39, .int i0_40, .ref i0_41, .int i0_42, .int i0_43, .int i0_44, .int i0_45, .int i0_46, .ref i0_47, .ref a7, .ref a164, .ref a165])),
      (a1, .inl (cA1, 305, .inl y1)),
      (a149, .inl (cA149, 30, .inr (.inl y149))),
      (a7, .inl (cA7, 610, .inl y7)),
      (a164, .inl (cA164, 30, .inr (.inl y164))),
      (a165, .inl (cA165, 2, .inl y165))], ?_, ?_, cu_ev1 z0⟩
  · refine ⟨rfl, ⟨rfl, Nat.le_of_ble_eq_true rfl⟩, fun k c hk => ?_⟩
    match k, hk with
    | 0, hk => cases hk; exact ⟨_, rfl, rfl⟩
    | 1, hk => cases hk; exact ⟨_, rfl, Nat.le_of_ble_eq_true rfl, Nat.le_of_ble_eq_true rfl, ⟨_, rfl⟩, _, rfl, t1⟩
    | 2, hk => cases hk; exact ⟨_, rfl, Nat.le_of_ble_eq_true rfl, Nat.le_of_ble_eq_true rfl, ⟨_, rfl⟩, _, rfl, t149⟩
    | 3, hk => cases hk; exact ⟨_, rfl, Nat.le_of_ble_eq_true rfl, Nat.le_of_ble_eq_true rfl, ⟨_, rfl⟩, _, rfl, t7⟩
    | 4, hk => cases hk; exact ⟨_, rfl, Nat.le_of_ble_eq_true rfl, Nat.le_of_ble_eq_true rfl, ⟨_, rfl⟩, _, rfl, t164⟩
    | 5, hk => cases hk; exact ⟨_, rfl, Nat.le_of_ble_eq_true rfl, Nat.le_of_ble_eq_true rfl, ⟨_, rfl⟩, _, rfl, t165⟩
    | k + 6, hk => cases hk
  · simp only [List.map_cons, List.map_nil, h0, h1, h149, h7, h164, h165]
abbrev lw_VT : Type := Nat × Nat
noncomputable def lw_VA : lw_VT := (12, 41)
noncomputable def lw_VB : lw_VT := (11, 50)
noncomputable def lw_V0 : lw_VT := (29, 104)
noncomputable def lw_V1 : lw_VT := (28, 126)
noncomputable def lw_pI : List (lw_VT × List Nat) := [(lw_VA, [10, 102, 12, 41, 30, 42, 43, 44, 45, 46, 47, 32, 48, 36, 49, 34, 103, 125, 29, 104, 105, 106, 107, 108, 109, 110, 111, 112, 113, 114, 115, 116, 28, 126, 127, 128, 129, 130, 131, 132, 133, 134, 135, 136, 137, 138, 13, 18, 59, 60, 117, 118, 119, 120, 139, 140, 141, 142, 9, 23, 27, 25, 121, 122, 123, 124, 143, 144, 145, 146, 15, 3]), (lw_VA, [10, 102, 12, 41, 30, 42, 43, 44, 45, 46, 47, 32, 48, 36, 49, 34, 103, 125, 29, 104, 105, 106, 107, 108, 109, 110, 111, 112, 113, 114, 115, 116, 28, 126, 127, 128, 129, 130, 131, 132, 133, 134, 135, 136, 137, 138, 13, 18, 59, 60, 117, 118, 119, 120, 139, 140, 141, 142, 8, 22, 26, 24, 121, 122, 123, 124, 143, 144, 145, 146, 15, 3]), (lw_VB, [10, 102, 11, 50, 31, 51, 52, 53, 54, 55, 56, 33, 57, 37, 58, 35, 103, 125, 29, 104, 105, 106, 107, 108, 109, 110, 111, 112, 113, 114, 115, 116, 28, 126, 127, 128, 129, 130, 131, 132, 133, 134, 135, 136, 137, 138, 13, 18, 59, 60, 117, 118, 119, 120, 139, 140, 141, 142, 9, 23, 27, 25, 121, 122, 123, 124, 143, 144, 145, 146, 15, 3]), (lw_VB, [10, 102, 11, 50, 31, 51, 52, 53, 54, 55, 56, 33, 57, 37, 58, 35, 103, 125, 29, 104, 105, 106, 107, 108, 109, 110, 111, 112, 113, 114, 115, 116, 28, 126, 127, 128, 129, 130, 131, 132, 133, 134, 135, 136, 137, 138, 13, 18, 59, 60, 117, 118, 119, 120, 139, 140, 141, 142, 8, 22, 26, 24, 121, 122, 123, 124, 143, 144, 145, 146, 15, 3])]
noncomputable def lw_pA : List (List Nat) := [[10, 3, 17, 38, 39, 40, 12, 41, 30, 42, 43, 44, 45, 46, 47, 32, 48, 36, 49, 34, 13, 18, 59, 60, 9, 15], [10, 3, 17, 38, 39, 40, 12, 41, 30, 42, 43, 44, 45, 46, 47, 32, 48, 36, 49, 34, 13, 18, 59, 60, 8, 15], [10, 3, 17, 38, 39, 40, 11, 50, 31, 51, 52, 53, 54, 55, 56, 33, 57, 37, 58, 35, 13, 18, 59, 60, 9, 15], [10, 3, 17, 38, 39, 40, 11, 50, 31, 51, 52, 53, 54, 55, 56, 33, 57, 37, 58, 35, 13, 18, 59, 60, 8, 15]]
/-- draft, land -/
noncomputable def lw_pV : List (lw_VT × lw_VT × List Nat) := [(lw_VA, lw_VB, [10, 3, 17, 38, 39, 40, 12, 41, 30, 42, 43, 44, 45, 46, 47, 32, 48, 36, 49, 34, 13, 18, 59, 60, 9, 15, 11, 50, 31, 51, 52, 53, 54, 55, 56, 33, 57, 37, 58, 35]), (lw_VA, lw_VB, [10, 3, 17, 38, 39, 40, 12, 41, 30, 42, 43, 44, 45, 46, 47, 32, 48, 36, 49, 34, 13, 18, 59, 60, 8, 15, 11, 50, 31, 51, 52, 53, 54, 55, 56, 33, 57, 37, 58, 35]), (lw_VB, lw_VA, [10, 3, 17, 38, 39, 40, 11, 50, 31, 51, 52, 53, 54, 55, 56, 33, 57, 37, 58, 35, 13, 18, 59, 60, 9, 15, 12, 41, 30, 42, 43, 44, 45, 46, 47, 32, 48, 36, 49, 34]), (lw_VB, lw_VA, [10, 3, 17, 38, 39, 40, 11, 50, 31, 51, 52, 53, 54, 55, 56, 33, 57, 37, 58, 35, 13, 18, 59, 60, 8, 15, 12, 41, 30, 42, 43, 44, 45, 46, 47, 32, 48, 36, 49, 34])]
noncomputable def lw_pB : List Nat := [0, 4, 1, 2, 6, 149, 150]
noncomputable def lw_pJ : List Nat := [0, 1, 149, 7, 164, 165]
theorem cu_az {ws : va_W} {z : ab_Z} (hz : ws.map Prod.fst = z.2.2) (k : Nat) : cu_a ws k = z.2.2[k]? := by
  unfold cu_a
  rw [← hz, List.getElem?_map]
theorem cu_Aw {X : ab_X} {z : ab_Z} {s : State} {ws : va_W} (hc : ∀ (k : Nat) (c : ab_C), k ∈ cu_KA → gl_L[k]? = some c → ∃ q, ws[k]? = some q ∧ ab_cR X z s c q.2) (hz : ws.map Prod.fst = z.2.2) : ∃ pos ∈ lw_pA, ∃ (σ : ex_S) (A : ex_A) (we : va_W), ex_wR X A s (WA (2000000, []) 6 σ) we ∧ pos.map (fun k => ws[k]?) = we.map some ∧ z.1[1]? = some (σ.1 0) := by
  obtain ⟨⟨a1, e1⟩, h1, vs1, f1, l1, w1⟩ := hc 10 _ (by decide) rfl
  dsimp only at f1
  subst f1
  have hjd : 3 < vs1.length := by rw [← l1]; decide
  have ed := List.getElem?_eq_getElem hjd
  obtain ⟨kd, hkd, ad, dd, bd⟩ := cu_D2 (ks := [11, 12]) (w1 3 _ _ rfl ed)
  have cd : cu_v ws 10 3 = .ref ad := by rw [cu_v_of h1, List.getD_eq_getElem?_getD, ed]; exact bd
  simp only [List.mem_cons, List.not_mem_nil, or_false] at hkd
  have hjs : 7 < vs1.length := by rw [← l1]; decide
  have es := List.getElem?_eq_getElem hjs
  obtain ⟨ks, hks, as, ds, bs⟩ := cu_D2 (ks := [8, 9]) (w1 7 _ _ rfl es)
  have cs : cu_v ws 10 7 = .ref as := by rw [cu_v_of h1, List.getD_eq_getElem?_getD, es]; exact bs
  simp only [List.mem_cons, List.not_mem_nil, or_false] at hks
  rcases hkd with rfl | rfl <;> rcases hks with rfl | rfl
  · exact ⟨_, List.mem_of_getElem? (show lw_pA[3]? = _ from rfl), cu_A_11_8 hc hz ⟨_, dd, cd⟩ ⟨_, ds, cs⟩⟩
  · exact ⟨_, List.mem_of_getElem? (show lw_pA[2]? = _ from rfl), cu_A_11_9 hc hz ⟨_, dd, cd⟩ ⟨_, ds, cs⟩⟩
  · exact ⟨_, List.mem_of_getElem? (show lw_pA[1]? = _ from rfl), cu_A_12_8 hc hz ⟨_, dd, cd⟩ ⟨_, ds, cs⟩⟩
  · exact ⟨_, List.mem_of_getElem? (show lw_pA[0]? = _ from rfl), cu_A_12_9 hc hz ⟨_, dd, cd⟩ ⟨_, ds, cs⟩⟩
theorem cu_Iw {X : ab_X} {z : ab_Z} {s : State} {ws : va_W} (hc : ∀ (k : Nat) (c : ab_C), k ∈ cu_KI → gl_L[k]? = some c → ∃ q, ws[k]? = some q ∧ ab_cR X z s c q.2) (hz : ws.map Prod.fst = z.2.2) : ∃ q ∈ lw_pI, ∃ (g9 : Nat → Option Nat) (σ : ex_S) (A : ex_A) (we : va_W), ex_wR X A s (WI g9 σ) we ∧ q.2.map (fun k => ws[k]?) = we.map some ∧ z.1[1]? = some (σ.1 3001) ∧ (g9 0 = some (A.1.getD 16 0) ∧ g9 1 = some (A.1.getD 17 0)) ∧ ∃ ad, cu_a ws q.1.1 = some ad ∧ cu_v ws 10 2 = .ref ad := by
  obtain ⟨⟨a1, e1⟩, h1, vs1, f1, l1, w1⟩ := hc 10 _ (by decide) rfl
  dsimp only at f1
  subst f1
  have hjl : 2 < vs1.length := by rw [← l1]; decide
  have el := List.getElem?_eq_getElem hjl
  obtain ⟨kl, hkl, al, dl, bl⟩ := cu_D2 (ks := [11, 12]) (w1 2 _ _ rfl el)
  have cl : cu_v ws 10 2 = .ref al := by rw [cu_v_of h1, List.getD_eq_getElem?_getD, el]; exact bl
  simp only [List.mem_cons, List.not_mem_nil, or_false] at hkl
  have hjs : 7 < vs1.length := by rw [← l1]; decide
  have es := List.getElem?_eq_getElem hjs
  obtain ⟨ks, hks, as, ds, bs⟩ := cu_D2 (ks := [8, 9]) (w1 7 _ _ rfl es)
  have cs : cu_v ws 10 7 = .ref as := by rw [cu_v_of h1, List.getD_eq_getElem?_getD, es]; exact bs
  simp only [List.mem_cons, List.not_mem_nil, or_false] at hks
  rcases hkl with rfl | rfl <;> rcases hks with rfl | rfl
  · obtain ⟨g9, σ, A, we, q1, q2, q3, q4⟩ := cu_I_11_8 hc hz ⟨_, dl, cl⟩ ⟨_, ds, cs⟩
    exact ⟨_, List.mem_of_getElem? (show lw_pI[3]? = _ from rfl), g9, σ, A, we, q1, q2, q3, q4, al, (cu_az hz _).trans dl, cl⟩
  · obtain ⟨g9, σ, A, we, q1, q2, q3, q4⟩ := cu_I_11_9 hc hz ⟨_, dl, cl⟩ ⟨_, ds, cs⟩
    exact ⟨_, List.mem_of_getElem? (show lw_pI[2]? = _ from rfl), g9, σ, A, we, q1, q2, q3, q4, al, (cu_az hz _).trans dl, cl⟩
  · obtain ⟨g9, σ, A, we, q1, q2, q3, q4⟩ := cu_I_12_8 hc hz ⟨_, dl, cl⟩ ⟨_, ds, cs⟩
    exact ⟨_, List.mem_of_getElem? (show lw_pI[1]? = _ from rfl), g9, σ, A, we, q1, q2, q3, q4, al, (cu_az hz _).trans dl, cl⟩
  · obtain ⟨g9, σ, A, we, q1, q2, q3, q4⟩ := cu_I_12_9 hc hz ⟨_, dl, cl⟩ ⟨_, ds, cs⟩
    exact ⟨_, List.mem_of_getElem? (show lw_pI[0]? = _ from rfl), g9, σ, A, we, q1, q2, q3, q4, al, (cu_az hz _).trans dl, cl⟩
theorem cu_Vw {X : ab_X} {z : ab_Z} {s : State} {ws : va_W} (hc : ∀ (k : Nat) (c : ab_C), k ∈ cu_KV → gl_L[k]? = some c → ∃ q, ws[k]? = some q ∧ ab_cR X z s c q.2) (hz : ws.map Prod.fst = z.2.2) (hld : ¬ cu_v ws 10 2 = cu_v ws 10 3) : ∃ q ∈ lw_pV, ∃ (σ : ex_S) (A : ex_A) (we : va_W) (u_towns u_terms u_trains : Int32) (p_townName p_trainName : Nat → Int64) (p_noon p_bendTold p_termTown p_termFrom p_termTo p_termBend p_trainFrom p_trainTo p_trainLeaves p_trainTakes p_settings : Nat → Int32), ex_wR X A s (WA (26, lw_L u_towns u_terms u_trains p_townName p_trainName p_noon p_bendTold p_termTown p_termFrom p_termTo p_termBend p_trainFrom p_trainTo p_trainLeaves p_trainTakes p_settings) 6 σ) we ∧ q.2.2.map (fun k => ws[k]?) = we.map some ∧ z.1[1]? = some (σ.1 0) ∧ (∃ ad, cu_a ws q.2.1.1 = some ad ∧ cu_v ws 10 2 = .ref ad) ∧ ∃ ad, cu_a ws q.1.1 = some ad ∧ cu_v ws 10 3 = .ref ad := by
  obtain ⟨⟨a1, e1⟩, h1, vs1, f1, l1, w1⟩ := hc 10 _ (by decide) rfl
  dsimp only at f1
  subst f1
  have hjl : 2 < vs1.length := by rw [← l1]; decide
  have el := List.getElem?_eq_getElem hjl
  obtain ⟨kl, hkl, al, dl, bl⟩ := cu_D2 (ks := [11, 12]) (w1 2 _ _ rfl el)
  have cl : cu_v ws 10 2 = .ref al := by rw [cu_v_of h1, List.getD_eq_getElem?_getD, el]; exact bl
  simp only [List.mem_cons, List.not_mem_nil, or_false] at hkl
  have hjd : 3 < vs1.length := by rw [← l1]; decide
  have ed := List.getElem?_eq_getElem hjd
  obtain ⟨kd, hkd, ad, dd, bd⟩ := cu_D2 (ks := [11, 12]) (w1 3 _ _ rfl ed)
  have cd : cu_v ws 10 3 = .ref ad := by rw [cu_v_of h1, List.getD_eq_getElem?_getD, ed]; exact bd
  simp only [List.mem_cons, List.not_mem_nil, or_false] at hkd
  have hjs : 7 < vs1.length := by rw [← l1]; decide
  have es := List.getElem?_eq_getElem hjs
  obtain ⟨ks, hks, as, ds, bs⟩ := cu_D2 (ks := [8, 9]) (w1 7 _ _ rfl es)
  have cs : cu_v ws 10 7 = .ref as := by rw [cu_v_of h1, List.getD_eq_getElem?_getD, es]; exact bs
  simp only [List.mem_cons, List.not_mem_nil, or_false] at hks
  rcases hkl with rfl | rfl <;> rcases hkd with rfl | rfl <;> rcases hks with rfl | rfl
  · exact absurd (by rw [cl, cd]; rw [dl] at dd; cases dd; rfl) hld
  · exact absurd (by rw [cl, cd]; rw [dl] at dd; cases dd; rfl) hld
  · obtain ⟨σ, A, we, u_towns, u_terms, u_trains, p_townName, p_trainName, p_noon, p_bendTold, p_termTown, p_termFrom, p_termTo, p_termBend, p_trainFrom, p_trainTo, p_trainLeaves, p_trainTakes, p_settings, q1, q2, q3⟩ := cu_V_12_8 hc hz ⟨_, dl, cl⟩ ⟨_, dd, cd⟩ ⟨_, ds, cs⟩
    exact ⟨_, List.mem_of_getElem? (show lw_pV[1]? = _ from rfl), σ, A, we, u_towns, u_terms, u_trains, p_townName, p_trainName, p_noon, p_bendTold, p_termTown, p_termFrom, p_termTo, p_termBend, p_trainFrom, p_trainTo, p_trainLeaves, p_trainTakes, p_settings, q1, q2, q3, ⟨al, (cu_az hz _).trans dl, cl⟩, ad, (cu_az hz _).trans dd, cd⟩
  · obtain ⟨σ, A, we, u_towns, u_terms, u_trains, p_townName, p_trainName, p_noon, p_bendTold, p_termTown, p_termFrom, p_termTo, p_termBend, p_trainFrom, p_trainTo, p_trainLeaves, p_trainTakes, p_settings, q1, q2, q3⟩ := cu_V_12_9 hc hz ⟨_, dl, cl⟩ ⟨_, dd, cd⟩ ⟨_, ds, cs⟩
    exact ⟨_, List.mem_of_getElem? (show lw_pV[0]? = _ from rfl), σ, A, we, u_towns, u_terms, u_trains, p_townName, p_trainName, p_noon, p_bendTold, p_termTown, p_termFrom, p_termTo, p_termBend, p_trainFrom, p_trainTo, p_trainLeaves, p_trainTakes, p_settings, q1, q2, q3, ⟨al, (cu_az hz _).trans dl, cl⟩, ad, (cu_az hz _).trans dd, cd⟩
  · obtain ⟨σ, A, we, u_towns, u_terms, u_trains, p_townName, p_trainName, p_noon, p_bendTold, p_termTown, p_termFrom, p_termTo, p_termBend, p_trainFrom, p_trainTo, p_trainLeaves, p_trainTakes, p_settings, q1, q2, q3⟩ := cu_V_11_8 hc hz ⟨_, dl, cl⟩ ⟨_, dd, cd⟩ ⟨_, ds, cs⟩
    exact ⟨_, List.mem_of_getElem? (show lw_pV[3]? = _ from rfl), σ, A, we, u_towns, u_terms, u_trains, p_townName, p_trainName, p_noon, p_bendTold, p_termTown, p_termFrom, p_termTo, p_termBend, p_trainFrom, p_trainTo, p_trainLeaves, p_trainTakes, p_settings, q1, q2, q3, ⟨al, (cu_az hz _).trans dl, cl⟩, ad, (cu_az hz _).trans dd, cd⟩
  · obtain ⟨σ, A, we, u_towns, u_terms, u_trains, p_townName, p_trainName, p_noon, p_bendTold, p_termTown, p_termFrom, p_termTo, p_termBend, p_trainFrom, p_trainTo, p_trainLeaves, p_trainTakes, p_settings, q1, q2, q3⟩ := cu_V_11_9 hc hz ⟨_, dl, cl⟩ ⟨_, dd, cd⟩ ⟨_, ds, cs⟩
    exact ⟨_, List.mem_of_getElem? (show lw_pV[2]? = _ from rfl), σ, A, we, u_towns, u_terms, u_trains, p_townName, p_trainName, p_noon, p_bendTold, p_termTown, p_termFrom, p_termTo, p_termBend, p_trainFrom, p_trainTo, p_trainLeaves, p_trainTakes, p_settings, q1, q2, q3, ⟨al, (cu_az hz _).trans dl, cl⟩, ad, (cu_az hz _).trans dd, cd⟩
  · exact absurd (by rw [cl, cd]; rw [dl] at dd; cases dd; rfl) hld
  · exact absurd (by rw [cl, cd]; rw [dl] at dd; cases dd; rfl) hld
noncomputable def cu_KS : List Nat := [3, 8, 9, 10, 11, 12, 16, 17, 22, 23, 24, 25, 26, 27, 38, 41, 50, 96, 97, 98]
noncomputable def cu_KT : List Nat := [0, 1, 2, 4, 6, 149, 150, 162]
set_option maxRecDepth 100000 in
set_option maxHeartbeats 4000000 in
theorem cu_S_12_9 {X : ab_X} {z : ab_Z} {s : State} {ws : va_W} (hc : ∀ (k : Nat) (c : ab_C), k ∈ cu_KS → gl_L[k]? = some c → ∃ q, ws[k]? = some q ∧ ab_cR X z s c q.2) (hz : ws.map Prod.fst = z.2.2) (hl : ∃ ad, z.2.2[12]? = some ad ∧ cu_v ws 10 2 = .ref ad) (hg : ∃ ad, z.2.2[9]? = some ad ∧ cu_v ws 10 8 = .ref ad) : ∃ (σ : ex_S) (A : ex_A) (we : va_W), ex_wR X A s (WS σ) we ∧ ([10, 3, 17, 38, 23, 27, 12, 41, 9, 25, 16, 96, 97, 98] : List Nat).map (fun k => ws[k]?) = we.map some ∧ z.1[1]? = some (σ.1 0) := by
  obtain ⟨⟨a10, e10⟩, h10, r10⟩ := hc 10 _ (by decide) rfl
  obtain ⟨⟨a3, e3⟩, h3, r3⟩ := hc 3 _ (by decide) rfl
  obtain ⟨⟨a17, e17⟩, h17, r17⟩ := hc 17 _ (by decide) rfl
  obtain ⟨⟨a38, e38⟩, h38, r38⟩ := hc 38 _ (by decide) rfl
  obtain ⟨⟨a23, e23⟩, h23, r23⟩ := hc 23 _ (by decide) rfl
  obtain ⟨⟨a27, e27⟩, h27, r27⟩ := hc 27 _ (by decide) rfl
  obtain ⟨⟨a12, e12⟩, h12, r12⟩ := hc 12 _ (by decide) rfl
  obtain ⟨⟨a41, e41⟩, h41, r41⟩ := hc 41 _ (by decide) rfl
  obtain ⟨⟨a9, e9⟩, h9, r9⟩ := hc 9 _ (by decide) rfl
  obtain ⟨⟨a25, e25⟩, h25, r25⟩ := hc 25 _ (by decide) rfl
  obtain ⟨⟨a16, e16⟩, h16, r16⟩ := hc 16 _ (by decide) rfl
  obtain ⟨⟨a96, e96⟩, h96, r96⟩ := hc 96 _ (by decide) rfl
  obtain ⟨⟨a97, e97⟩, h97, r97⟩ := hc 97 _ (by decide) rfl
  obtain ⟨⟨a98, e98⟩, h98, r98⟩ := hc 98 _ (by decide) rfl
  obtain ⟨cA17, x17, f17, ⟨y17, g17⟩, t17, -⟩ := r17
  dsimp only at f17
  subst f17 g17
  obtain ⟨cA38, x38, f38, ⟨y38, g38⟩, t38, -⟩ := r38
  dsimp only at f38
  subst f38 g38
  obtain ⟨cA23, x23, f23, ⟨y23, g23⟩, t23, -⟩ := r23
  dsimp only at f23
  subst f23 g23
  obtain ⟨cA27, x27, f27, ⟨y27, g27⟩, t27, -⟩ := r27
  dsimp only at f27
  subst f27 g27
  obtain ⟨cA41, x41, f41, ⟨y41, g41⟩, t41, -⟩ := r41
  dsimp only at f41
  subst f41 g41
  obtain ⟨cA25, x25, f25, ⟨y25, g25⟩, t25, -⟩ := r25
  dsimp only at f25
  subst f25 g25
  obtain ⟨cA96, x96, f96, ⟨y96, g96⟩, t96, -⟩ := r96
  dsimp only at f96
  subst f96 g96
  obtain ⟨cA97, x97, f97, ⟨y97, g97⟩, t97, -⟩ := r97
  dsimp only at f97
  subst f97 g97
  obtain ⟨cA98, x98, f98, ⟨y98, g98⟩, t98, -⟩ := r98
  dsimp only at f98
  subst f98 g98
  obtain ⟨vs10, f10, l10, w10⟩ := r10
  dsimp only at f10
  subst f10
  obtain ⟨u10_0, s10_0, rfl, m10_0⟩ := cu_c l10
  obtain ⟨u10_1, s10_1, rfl, m10_1⟩ := cu_c m10_0
  obtain ⟨u10_2, s10_2, rfl, m10_2⟩ := cu_c m10_1
  obtain ⟨u10_3, s10_3, rfl, m10_3⟩ := cu_c m10_2
  obtain ⟨u10_4, s10_4, rfl, m10_4⟩ := cu_c m10_3
  obtain ⟨u10_5, s10_5, rfl, m10_5⟩ := cu_c m10_4
  obtain ⟨u10_6, s10_6, rfl, m10_6⟩ := cu_c m10_5
  obtain ⟨u10_7, s10_7, rfl, m10_7⟩ := cu_c m10_6
  obtain ⟨u10_8, s10_8, rfl, m10_8⟩ := cu_c m10_7
  obtain ⟨u10_9, s10_9, rfl, m10_9⟩ := cu_c m10_8
  obtain ⟨u10_10, s10_10, rfl, m10_10⟩ := cu_c m10_9
  obtain ⟨u10_11, s10_11, rfl, m10_11⟩ := cu_c m10_10
  obtain ⟨u10_12, s10_12, rfl, m10_12⟩ := cu_c m10_11
  obtain ⟨u10_13, s10_13, rfl, m10_13⟩ := cu_c m10_12
  obtain ⟨u10_14, s10_14, rfl, m10_14⟩ := cu_c m10_13
  obtain ⟨u10_15, s10_15, rfl, m10_15⟩ := cu_c m10_14
  obtain ⟨u10_16, s10_16, rfl, m10_16⟩ := cu_c m10_15
  cases cu_n m10_16
  have q10_0 := cu_R (cu_ad hz h3) (w10 0 _ _ rfl rfl)
  subst q10_0
  obtain ⟨i10_1, q10_1⟩ := cu_Rx (w10 1 _ _ rfl rfl)
  subst q10_1
  have q10_2 : u10_2 = .ref a12 := by
    obtain ⟨ad, e1, e2⟩ := hl
    have e3 := e1.symm.trans (cu_ad hz h12)
    cases e3
    rw [cu_v_of h10] at e2
    exact e2
  subst q10_2
  obtain ⟨i10_3, q10_3⟩ := cu_Rx (w10 3 _ _ rfl rfl)
  subst q10_3
  obtain ⟨i10_4, q10_4⟩ := cu_Rx (w10 4 _ _ rfl rfl)
  subst q10_4
  obtain ⟨i10_5, q10_5⟩ := cu_Rx (w10 5 _ _ rfl rfl)
  subst q10_5
  obtain ⟨i10_6, q10_6⟩ := cu_Rx (w10 6 _ _ rfl rfl)
  subst q10_6
  obtain ⟨i10_7, q10_7⟩ := cu_Rx (w10 7 _ _ rfl rfl)
  subst q10_7
  have q10_8 : u10_8 = .ref a9 := by
    obtain ⟨ad, e1, e2⟩ := hg
    have e3 := e1.symm.trans (cu_ad hz h9)
    cases e3
    rw [cu_v_of h10] at e2
    exact e2
  subst q10_8
  have q10_9 := cu_R (cu_ad hz h16) (w10 9 _ _ rfl rfl)
  subst q10_9
  obtain ⟨i10_10, q10_10⟩ := cu_Rx (w10 10 _ _ rfl rfl)
  subst q10_10
  obtain ⟨i10_11, q10_11⟩ := cu_Rx (w10 11 _ _ rfl rfl)
  subst q10_11
  obtain ⟨i10_12, q10_12⟩ := cu_Rx (w10 12 _ _ rfl rfl)
  subst q10_12
  obtain ⟨i10_13, q10_13⟩ := cu_Rx (w10 13 _ _ rfl rfl)
  subst q10_13
  obtain ⟨i10_14, q10_14⟩ := cu_I (w10 14 _ _ rfl rfl) rfl
  subst q10_14
  obtain ⟨i10_15, q10_15⟩ := cu_Rx (w10 15 _ _ rfl rfl)
  subst q10_15
  obtain ⟨i10_16, q10_16⟩ := cu_I (w10 16 _ _ rfl rfl) rfl
  subst q10_16
  obtain ⟨vs3, f3, l3, w3⟩ := r3
  dsimp only at f3
  subst f3
  obtain ⟨u3_0, s3_0, rfl, m3_0⟩ := cu_c l3
  obtain ⟨u3_1, s3_1, rfl, m3_1⟩ := cu_c m3_0
  obtain ⟨u3_2, s3_2, rfl, m3_2⟩ := cu_c m3_1
  obtain ⟨u3_3, s3_3, rfl, m3_3⟩ := cu_c m3_2
  obtain ⟨u3_4, s3_4, rfl, m3_4⟩ := cu_c m3_3
  obtain ⟨u3_5, s3_5, rfl, m3_5⟩ := cu_c m3_4
  obtain ⟨u3_6, s3_6, rfl, m3_6⟩ := cu_c m3_5
  obtain ⟨u3_7, s3_7, rfl, m3_7⟩ := cu_c m3_6
  obtain ⟨u3_8, s3_8, rfl, m3_8⟩ := cu_c m3_7
  obtain ⟨u3_9, s3_9, rfl, m3_9⟩ := cu_c m3_8
  obtain ⟨u3_10, s3_10, rfl, m3_10⟩ := cu_c m3_9
  obtain ⟨u3_11, s3_11, rfl, m3_11⟩ := cu_c m3_10
  obtain ⟨u3_12, s3_12, rfl, m3_12⟩ := cu_c m3_11
  obtain ⟨u3_13, s3_13, rfl, m3_13⟩ := cu_c m3_12
  obtain ⟨u3_14, s3_14, rfl, m3_14⟩ := cu_c m3_13
  cases cu_n m3_14
  have q3_0 := cu_R (cu_ad hz h17) (w3 0 _ _ rfl rfl)
  subst q3_0
  obtain ⟨i3_1, q3_1⟩ := cu_I (w3 1 _ _ rfl rfl) rfl
  obtain ⟨i3_2, q3_2⟩ := cu_I (w3 2 _ _ rfl rfl) rfl
  subst q3_2
  obtain ⟨i3_3, q3_3⟩ := cu_I (w3 3 _ _ rfl rfl) rfl
  subst q3_3
  obtain ⟨i3_4, q3_4⟩ := cu_I (w3 4 _ _ rfl rfl) rfl
  subst q3_4
  obtain ⟨i3_5, q3_5⟩ := cu_I (w3 5 _ _ rfl rfl) rfl
  subst q3_5
  obtain ⟨i3_6, q3_6⟩ := cu_L (w3 6 _ _ rfl rfl) rfl
  subst q3_6
  obtain ⟨i3_7, q3_7⟩ := cu_I (w3 7 _ _ rfl rfl) rfl
  subst q3_7
  obtain ⟨i3_8, q3_8⟩ := cu_I (w3 8 _ _ rfl rfl) rfl
  subst q3_8
  obtain ⟨i3_9, q3_9⟩ := cu_I (w3 9 _ _ rfl rfl) rfl
  subst q3_9
  obtain ⟨i3_10, q3_10⟩ := cu_L (w3 10 _ _ rfl rfl) rfl
  subst q3_10
  obtain ⟨i3_11, q3_11⟩ := cu_I (w3 11 _ _ rfl rfl) rfl
  subst q3_11
  obtain ⟨i3_12, q3_12⟩ := cu_I (w3 12 _ _ rfl rfl) rfl
  subst q3_12
  obtain ⟨i3_13, q3_13⟩ := cu_I (w3 13 _ _ rfl rfl) rfl
  subst q3_13
  have q3_14 := cu_R (cu_ad hz h38) (w3 14 _ _ rfl rfl)
  subst q3_14
  obtain ⟨vs12, f12, l12, w12⟩ := r12
  dsimp only at f12
  subst f12
  obtain ⟨u12_0, s12_0, rfl, m12_0⟩ := cu_c l12
  obtain ⟨u12_1, s12_1, rfl, m12_1⟩ := cu_c m12_0
  obtain ⟨u12_2, s12_2, rfl, m12_2⟩ := cu_c m12_1
  obtain ⟨u12_3, s12_3, rfl, m12_3⟩ := cu_c m12_2
  obtain ⟨u12_4, s12_4, rfl, m12_4⟩ := cu_c m12_3
  obtain ⟨u12_5, s12_5, rfl, m12_5⟩ := cu_c m12_4
  obtain ⟨u12_6, s12_6, rfl, m12_6⟩ := cu_c m12_5
  obtain ⟨u12_7, s12_7, rfl, m12_7⟩ := cu_c m12_6
  obtain ⟨u12_8, s12_8, rfl, m12_8⟩ := cu_c m12_7
  obtain ⟨u12_9, s12_9, rfl, m12_9⟩ := cu_c m12_8
  obtain ⟨u12_10, s12_10, rfl, m12_10⟩ := cu_c m12_9
  obtain ⟨u12_11, s12_11, rfl, m12_11⟩ := cu_c m12_10
  obtain ⟨u12_12, s12_12, rfl, m12_12⟩ := cu_c m12_11
  obtain ⟨u12_13, s12_13, rfl, m12_13⟩ := cu_c m12_12
  obtain ⟨u12_14, s12_14, rfl, m12_14⟩ := cu_c m12_13
  obtain ⟨u12_15, s12_15, rfl, m12_15⟩ := cu_c m12_14
  cases cu_n m12_15
  obtain ⟨i12_0, q12_0⟩ := cu_I (w12 0 _ _ rfl rfl) rfl
  subst q12_0
  have q12_1 := cu_R (cu_ad hz h41) (w12 1 _ _ rfl rfl)
  subst q12_1
  obtain ⟨i12_2, q12_2⟩ := cu_Rx (w12 2 _ _ rfl rfl)
  subst q12_2
  obtain ⟨i12_3, q12_3⟩ := cu_Rx (w12 3 _ _ rfl rfl)
  subst q12_3
  obtain ⟨i12_4, q12_4⟩ := cu_I (w12 4 _ _ rfl rfl) rfl
  subst q12_4
  obtain ⟨i12_5, q12_5⟩ := cu_Rx (w12 5 _ _ rfl rfl)
  subst q12_5
  obtain ⟨i12_6, q12_6⟩ := cu_Rx (w12 6 _ _ rfl rfl)
  subst q12_6
  obtain ⟨i12_7, q12_7⟩ := cu_Rx (w12 7 _ _ rfl rfl)
  subst q12_7
  obtain ⟨i12_8, q12_8⟩ := cu_Rx (w12 8 _ _ rfl rfl)
  subst q12_8
  obtain ⟨i12_9, q12_9⟩ := cu_I (w12 9 _ _ rfl rfl) rfl
  subst q12_9
  obtain ⟨i12_10, q12_10⟩ := cu_Rx (w12 10 _ _ rfl rfl)
  subst q12_10
  obtain ⟨i12_11, q12_11⟩ := cu_Rx (w12 11 _ _ rfl rfl)
  subst q12_11
  obtain ⟨i12_12, q12_12⟩ := cu_Rx (w12 12 _ _ rfl rfl)
  subst q12_12
  obtain ⟨i12_13, q12_13⟩ := cu_Rx (w12 13 _ _ rfl rfl)
  subst q12_13
  obtain ⟨i12_14, q12_14⟩ := cu_Rx (w12 14 _ _ rfl rfl)
  subst q12_14
  obtain ⟨i12_15, q12_15⟩ := cu_Rx (w12 15 _ _ rfl rfl)
  subst q12_15
  obtain ⟨vs9, f9, l9, w9⟩ := r9
  dsimp only at f9
  subst f9
  obtain ⟨u9_0, s9_0, rfl, m9_0⟩ := cu_c l9
  obtain ⟨u9_1, s9_1, rfl, m9_1⟩ := cu_c m9_0
  obtain ⟨u9_2, s9_2, rfl, m9_2⟩ := cu_c m9_1
  obtain ⟨u9_3, s9_3, rfl, m9_3⟩ := cu_c m9_2
  obtain ⟨u9_4, s9_4, rfl, m9_4⟩ := cu_c m9_3
  cases cu_n m9_4
  have q9_0 := cu_R (cu_ad hz h23) (w9 0 _ _ rfl rfl)
  subst q9_0
  have q9_1 := cu_R (cu_ad hz h27) (w9 1 _ _ rfl rfl)
  subst q9_1
  have q9_2 := cu_R (cu_ad hz h25) (w9 2 _ _ rfl rfl)
  subst q9_2
  obtain ⟨i9_3, q9_3⟩ := cu_I (w9 3 _ _ rfl rfl) rfl
  subst q9_3
  obtain ⟨i9_4, q9_4⟩ := cu_I (w9 4 _ _ rfl rfl) rfl
  subst q9_4
  obtain ⟨vs16, f16, l16, w16⟩ := r16
  dsimp only at f16
  subst f16
  obtain ⟨u16_0, s16_0, rfl, m16_0⟩ := cu_c l16
  obtain ⟨u16_1, s16_1, rfl, m16_1⟩ := cu_c m16_0
  obtain ⟨u16_2, s16_2, rfl, m16_2⟩ := cu_c m16_1
  obtain ⟨u16_3, s16_3, rfl, m16_3⟩ := cu_c m16_2
  obtain ⟨u16_4, s16_4, rfl, m16_4⟩ := cu_c m16_3
  obtain ⟨u16_5, s16_5, rfl, m16_5⟩ := cu_c m16_4
  obtain ⟨u16_6, s16_6, rfl, m16_6⟩ := cu_c m16_5
  obtain ⟨u16_7, s16_7, rfl, m16_7⟩ := cu_c m16_6
  obtain ⟨u16_8, s16_8, rfl, m16_8⟩ := cu_c m16_7
  obtain ⟨u16_9, s16_9, rfl, m16_9⟩ := cu_c m16_8
  cases cu_n m16_9
  have q16_0 := cu_R (cu_ad hz h96) (w16 0 _ _ rfl rfl)
  subst q16_0
  have q16_1 := cu_R (cu_ad hz h97) (w16 1 _ _ rfl rfl)
  subst q16_1
  have q16_2 := cu_R (cu_ad hz h98) (w16 2 _ _ rfl rfl)
  subst q16_2
  obtain ⟨i16_3, q16_3⟩ := cu_I (w16 3 _ _ rfl rfl) rfl
  subst q16_3
  obtain ⟨i16_4, q16_4⟩ := cu_I (w16 4 _ _ rfl rfl) rfl
  subst q16_4
  obtain ⟨i16_5, q16_5⟩ := cu_I (w16 5 _ _ rfl rfl) rfl
  subst q16_5
  obtain ⟨i16_6, q16_6⟩ := cu_I (w16 6 _ _ rfl rfl) rfl
  subst q16_6
  obtain ⟨i16_7, q16_7⟩ := cu_I (w16 7 _ _ rfl rfl) rfl
  subst q16_7
  obtain ⟨i16_8, q16_8⟩ := cu_I (w16 8 _ _ rfl rfl) rfl
  subst q16_8
  obtain ⟨i16_9, q16_9⟩ := cu_I (w16 9 _ _ rfl rfl) rfl
  subst q16_9
  have z3 := w3 1 _ _ rfl rfl
  subst q3_1
  refine ⟨((fun j => bif Nat.beq j 0 then i3_1 else bif Nat.beq j 1 then i3_2 else bif Nat.beq j 2 then i3_3 else bif Nat.beq j 3 then i3_4 else bif Nat.beq j 4 then i3_5 else bif Nat.beq j 5 then i3_7 else bif Nat.beq j 6 then i3_8 else bif Nat.beq j 7 then i3_9 else bif Nat.beq j 8 then i3_11 else bif Nat.beq j 9 then i3_12 else bif Nat.beq j 10 then i3_13 else bif Nat.beq j 11 then i12_0 else bif Nat.beq j 12 then i12_4 else bif Nat.beq j 13 then i12_9 else bif Nat.beq j 14 then i10_14 else bif Nat.beq j 15 then i10_16 else bif Nat.beq j 20 then i9_3 else bif Nat.beq j 21 then i9_4 else bif Nat.beq j 23 then i16_3 else bif Nat.beq j 24 then i16_4 else bif Nat.beq j 25 then i16_5 else bif Nat.beq j 26 then i16_6 else bif Nat.beq j 27 then i16_7 else bif Nat.beq j 28 then i16_8 else bif Nat.beq j 29 then i16_9 else (0 : Int32)), (fun j => bif Nat.beq j 0 then i3_6 else bif Nat.beq j 1 then i3_10 else (0 : Int64)), (fun j => bif Nat.beq j 0 then y17 else bif Nat.beq j 16 then y23 else bif Nat.beq j 17 then y27 else bif Nat.beq j 18 then y25 else bif Nat.beq j 19 then y96 else bif Nat.beq j 20 then y97 else bif Nat.beq j 21 then y98 else (fun _ => (0 : Int32))), (fun j => bif Nat.beq j 0 then y38 else bif Nat.beq j 1 then y41 else (fun _ => (0 : Int64)))), ([a10, a3, a17, a38, a23, a27, a12, a41, a9, a25, a16, a96, a97, a98], (fun j => bif Nat.beq j 0 then i10_1 else bif Nat.beq j 1 then i10_3 else bif Nat.beq j 2 then i10_4 else bif Nat.beq j 3 then i10_5 else bif Nat.beq j 4 then i10_6 else bif Nat.beq j 5 then i10_7 else bif Nat.beq j 7 then i10_10 else bif Nat.beq j 8 then i10_11 else bif Nat.beq j 9 then i10_12 else bif Nat.beq j 10 then i10_13 else bif Nat.beq j 11 then i10_15 else bif Nat.beq j 12 then i12_2 else bif Nat.beq j 13 then i12_3 else bif Nat.beq j 14 then i12_5 else bif Nat.beq j 15 then i12_6 else bif Nat.beq j 16 then i12_7 else bif Nat.beq j 17 then i12_8 else bif Nat.beq j 18 then i12_10 else bif Nat.beq j 19 then i12_11 else bif Nat.beq j 20 then i12_12 else bif Nat.beq j 21 then i12_13 else bif Nat.beq j 22 then i12_14 else bif Nat.beq j 23 then i12_15 else 0)), [(a10, .inr (10, [.ref a3, .ref i10_1, .ref a12, .ref i10_3, .ref i10_4, .ref i10_5, .ref i10_6, .ref i10_7, .ref a9, .ref a16, .ref i10_10, .ref i10_11, .ref i10_12, .ref i10_13, .int i10_14, .ref i10_15, .int i10_16])),
      (a3, .inr (4, [.ref a17, .int i3_1, .int i3_2, .int i3_3, .int i3_4, .int i3_5, .long i3_6, .int i3_7, .int i3_8, .int i3_9, .long i3_10, .int i3_11, .int i3_12, .int i3_13, .ref a38])),
      (a17, .inl (cA17, 940, .inl y17)),
      (a38, .inl (cA38, 22, .inr (.inl y38))),
      (a23, .inl (cA23, 40, .inl y23)),
      (a27, .inl (cA27, 40, .inl y27)),
      (a12, .inr (8, [.int i12_0, .ref a41, .ref i12_2, .ref i12_3, .int i12_4, .ref i12_5, .ref i12_6, .ref i12_7, .ref i12_8, .int i12_9, .ref i12_10, .ref i12_11, .ref i12_12, .ref i12_13, .ref i12_14, .ref i12_15])),
      (a41, .inl (cA41, 7, .inr (.inl y41))),
      (a9, .inr (6, [.ref a23, .ref a27, .ref a25, .int i9_3, .int i9_4])),
      (a25, .inl (cA25, 40, .inl y25)),
      (a16, .inr (0, [.ref a96, .ref a97, .ref a98, .int i16_3, .int i16_4, .int i16_5, .int i16_6, .int i16_7, .int i16_8, .int i16_9])),
      (a96, .inl (cA96, 40, .inl y96)),
      (a97, .inl (cA97, 40, .inl y97)),
      (a98, .inl (cA98, 40, .inl y98))], ?_, ?_, cu_ev1 z3⟩
  · refine ⟨rfl, ⟨rfl, Nat.le_of_ble_eq_true rfl⟩, fun k c hk => ?_⟩
    match k, hk with
    | 0, hk => cases hk; exact ⟨_, rfl, rfl⟩
    | 1, hk => cases hk; exact ⟨_, rfl, rfl⟩
    | 2, hk => cases hk; exact ⟨_, rfl, Nat.le_of_ble_eq_true rfl, Nat.le_of_ble_eq_true rfl, ⟨_, rfl⟩, _, rfl, t17⟩
    | 3, hk => cases hk; exact ⟨_, rfl, Nat.le_of_ble_eq_true rfl, Nat.le_of_ble_eq_true rfl, ⟨_, rfl⟩, _, rfl, t38⟩
    | 4, hk => cases hk; exact ⟨_, rfl, Nat.le_of_ble_eq_true rfl, Nat.le_of_ble_eq_true rfl, ⟨_, rfl⟩, _, rfl, t23⟩
    | 5, hk => cases hk; exact ⟨_, rfl, Nat.le_of_ble_eq_true rfl, Nat.le_of_ble_eq_true rfl, ⟨_, rfl⟩, _, rfl, t27⟩
    | 6, hk => cases hk; exact ⟨_, rfl, rfl⟩
    | 7, hk => cases hk; exact ⟨_, rfl, Nat.le_of_ble_eq_true rfl, Nat.le_of_ble_eq_true rfl, ⟨_, rfl⟩, _, rfl, t41⟩
    | 8, hk => cases hk; exact ⟨_, rfl, rfl⟩
    | 9, hk => cases hk; exact ⟨_, rfl, Nat.le_of_ble_eq_true rfl, Nat.le_of_ble_eq_true rfl, ⟨_, rfl⟩, _, rfl, t25⟩
    | 10, hk => cases hk; exact ⟨_, rfl, rfl⟩
    | 11, hk => cases hk; exact ⟨_, rfl, Nat.le_of_ble_eq_true rfl, Nat.le_of_ble_eq_true rfl, ⟨_, rfl⟩, _, rfl, t96⟩
    | 12, hk => cases hk; exact ⟨_, rfl, Nat.le_of_ble_eq_true rfl, Nat.le_of_ble_eq_true rfl, ⟨_, rfl⟩, _, rfl, t97⟩
    | 13, hk => cases hk; exact ⟨_, rfl, Nat.le_of_ble_eq_true rfl, Nat.le_of_ble_eq_true rfl, ⟨_, rfl⟩, _, rfl, t98⟩
    | k + 14, hk => cases hk
  · simp only [List.map_cons, List.map_nil, h10, h3, h17, h38, h23, h27, h12, h41, h9, h25, h16, h96, h97, h98]
set_option maxRecDepth 100000 in
set_option maxHeartbeats 4000000 in
theorem cu_S_12_8 {X : ab_X} {z : ab_Z} {s : State} {ws : va_W} (hc : ∀ (k : Nat) (c : ab_C), k ∈ cu_KS → gl_L[k]? = some c → ∃ q, ws[k]? = some q ∧ ab_cR X z s c q.2) (hz : ws.map Prod.fst = z.2.2) (hl : ∃ ad, z.2.2[12]? = some ad ∧ cu_v ws 10 2 = .ref ad) (hg : ∃ ad, z.2.2[8]? = some ad ∧ cu_v ws 10 8 = .ref ad) : ∃ (σ : ex_S) (A : ex_A) (we : va_W), ex_wR X A s (WS σ) we ∧ ([10, 3, 17, 38, 22, 26, 12, 41, 8, 24, 16, 96, 97, 98] : List Nat).map (fun k => ws[k]?) = we.map some ∧ z.1[1]? = some (σ.1 0) := by
  obtain ⟨⟨a10, e10⟩, h10, r10⟩ := hc 10 _ (by decide) rfl
  obtain ⟨⟨a3, e3⟩, h3, r3⟩ := hc 3 _ (by decide) rfl
  obtain ⟨⟨a17, e17⟩, h17, r17⟩ := hc 17 _ (by decide) rfl
  obtain ⟨⟨a38, e38⟩, h38, r38⟩ := hc 38 _ (by decide) rfl
  obtain ⟨⟨a22, e22⟩, h22, r22⟩ := hc 22 _ (by decide) rfl
  obtain ⟨⟨a26, e26⟩, h26, r26⟩ := hc 26 _ (by decide) rfl
  obtain ⟨⟨a12, e12⟩, h12, r12⟩ := hc 12 _ (by decide) rfl
  obtain ⟨⟨a41, e41⟩, h41, r41⟩ := hc 41 _ (by decide) rfl
  obtain ⟨⟨a8, e8⟩, h8, r8⟩ := hc 8 _ (by decide) rfl
  obtain ⟨⟨a24, e24⟩, h24, r24⟩ := hc 24 _ (by decide) rfl
  obtain ⟨⟨a16, e16⟩, h16, r16⟩ := hc 16 _ (by decide) rfl
  obtain ⟨⟨a96, e96⟩, h96, r96⟩ := hc 96 _ (by decide) rfl
  obtain ⟨⟨a97, e97⟩, h97, r97⟩ := hc 97 _ (by decide) rfl
  obtain ⟨⟨a98, e98⟩, h98, r98⟩ := hc 98 _ (by decide) rfl
  obtain ⟨cA17, x17, f17, ⟨y17, g17⟩, t17, -⟩ := r17
  dsimp only at f17
  subst f17 g17
  obtain ⟨cA38, x38, f38, ⟨y38, g38⟩, t38, -⟩ := r38
  dsimp only at f38
  subst f38 g38
  obtain ⟨cA22, x22, f22, ⟨y22, g22⟩, t22, -⟩ := r22
  dsimp only at f22
  subst f22 g22
  obtain ⟨cA26, x26, f26, ⟨y26, g26⟩, t26, -⟩ := r26
  dsimp only at f26
  subst f26 g26
  obtain ⟨cA41, x41, f41, ⟨y41, g41⟩, t41, -⟩ := r41
  dsimp only at f41
  subst f41 g41
  obtain ⟨cA24, x24, f24, ⟨y24, g24⟩, t24, -⟩ := r24
  dsimp only at f24
  subst f24 g24
  obtain ⟨cA96, x96, f96, ⟨y96, g96⟩, t96, -⟩ := r96
  dsimp only at f96
  subst f96 g96
  obtain ⟨cA97, x97, f97, ⟨y97, g97⟩, t97, -⟩ := r97
  dsimp only at f97
  subst f97 g97
  obtain ⟨cA98, x98, f98, ⟨y98, g98⟩, t98, -⟩ := r98
  dsimp only at f98
  subst f98 g98
  obtain ⟨vs10, f10, l10, w10⟩ := r10
  dsimp only at f10
  subst f10
  obtain ⟨u10_0, s10_0, rfl, m10_0⟩ := cu_c l10
  obtain ⟨u10_1, s10_1, rfl, m10_1⟩ := cu_c m10_0
  obtain ⟨u10_2, s10_2, rfl, m10_2⟩ := cu_c m10_1
  obtain ⟨u10_3, s10_3, rfl, m10_3⟩ := cu_c m10_2
  obtain ⟨u10_4, s10_4, rfl, m10_4⟩ := cu_c m10_3
  obtain ⟨u10_5, s10_5, rfl, m10_5⟩ := cu_c m10_4
  obtain ⟨u10_6, s10_6, rfl, m10_6⟩ := cu_c m10_5
  obtain ⟨u10_7, s10_7, rfl, m10_7⟩ := cu_c m10_6
  obtain ⟨u10_8, s10_8, rfl, m10_8⟩ := cu_c m10_7
  obtain ⟨u10_9, s10_9, rfl, m10_9⟩ := cu_c m10_8
  obtain ⟨u10_10, s10_10, rfl, m10_10⟩ := cu_c m10_9
  obtain ⟨u10_11, s10_11, rfl, m10_11⟩ := cu_c m10_10
  obtain ⟨u10_12, s10_12, rfl, m10_12⟩ := cu_c m10_11
  obtain ⟨u10_13, s10_13, rfl, m10_13⟩ := cu_c m10_12
  obtain ⟨u10_14, s10_14, rfl, m10_14⟩ := cu_c m10_13
  obtain ⟨u10_15, s10_15, rfl, m10_15⟩ := cu_c m10_14
  obtain ⟨u10_16, s10_16, rfl, m10_16⟩ := cu_c m10_15
  cases cu_n m10_16
  have q10_0 := cu_R (cu_ad hz h3) (w10 0 _ _ rfl rfl)
  subst q10_0
  obtain ⟨i10_1, q10_1⟩ := cu_Rx (w10 1 _ _ rfl rfl)
  subst q10_1
  have q10_2 : u10_2 = .ref a12 := by
    obtain ⟨ad, e1, e2⟩ := hl
    have e3 := e1.symm.trans (cu_ad hz h12)
    cases e3
    rw [cu_v_of h10] at e2
    exact e2
  subst q10_2
  obtain ⟨i10_3, q10_3⟩ := cu_Rx (w10 3 _ _ rfl rfl)
  subst q10_3
  obtain ⟨i10_4, q10_4⟩ := cu_Rx (w10 4 _ _ rfl rfl)
  subst q10_4
  obtain ⟨i10_5, q10_5⟩ := cu_Rx (w10 5 _ _ rfl rfl)
  subst q10_5
  obtain ⟨i10_6, q10_6⟩ := cu_Rx (w10 6 _ _ rfl rfl)
  subst q10_6
  obtain ⟨i10_7, q10_7⟩ := cu_Rx (w10 7 _ _ rfl rfl)
  subst q10_7
  have q10_8 : u10_8 = .ref a8 := by
    obtain ⟨ad, e1, e2⟩ := hg
    have e3 := e1.symm.trans (cu_ad hz h8)
    cases e3
    rw [cu_v_of h10] at e2
    exact e2
  subst q10_8
  have q10_9 := cu_R (cu_ad hz h16) (w10 9 _ _ rfl rfl)
  subst q10_9
  obtain ⟨i10_10, q10_10⟩ := cu_Rx (w10 10 _ _ rfl rfl)
  subst q10_10
  obtain ⟨i10_11, q10_11⟩ := cu_Rx (w10 11 _ _ rfl rfl)
  subst q10_11
  obtain ⟨i10_12, q10_12⟩ := cu_Rx (w10 12 _ _ rfl rfl)
  subst q10_12
  obtain ⟨i10_13, q10_13⟩ := cu_Rx (w10 13 _ _ rfl rfl)
  subst q10_13
  obtain ⟨i10_14, q10_14⟩ := cu_I (w10 14 _ _ rfl rfl) rfl
  subst q10_14
  obtain ⟨i10_15, q10_15⟩ := cu_Rx (w10 15 _ _ rfl rfl)
  subst q10_15
  obtain ⟨i10_16, q10_16⟩ := cu_I (w10 16 _ _ rfl rfl) rfl
  subst q10_16
  obtain ⟨vs3, f3, l3, w3⟩ := r3
  dsimp only at f3
  subst f3
  obtain ⟨u3_0, s3_0, rfl, m3_0⟩ := cu_c l3
  obtain ⟨u3_1, s3_1, rfl, m3_1⟩ := cu_c m3_0
  obtain ⟨u3_2, s3_2, rfl, m3_2⟩ := cu_c m3_1
  obtain ⟨u3_3, s3_3, rfl, m3_3⟩ := cu_c m3_2
  obtain ⟨u3_4, s3_4, rfl, m3_4⟩ := cu_c m3_3
  obtain ⟨u3_5, s3_5, rfl, m3_5⟩ := cu_c m3_4
  obtain ⟨u3_6, s3_6, rfl, m3_6⟩ := cu_c m3_5
  obtain ⟨u3_7, s3_7, rfl, m3_7⟩ := cu_c m3_6
  obtain ⟨u3_8, s3_8, rfl, m3_8⟩ := cu_c m3_7
  obtain ⟨u3_9, s3_9, rfl, m3_9⟩ := cu_c m3_8
  obtain ⟨u3_10, s3_10, rfl, m3_10⟩ := cu_c m3_9
  obtain ⟨u3_11, s3_11, rfl, m3_11⟩ := cu_c m3_10
  obtain ⟨u3_12, s3_12, rfl, m3_12⟩ := cu_c m3_11
  obtain ⟨u3_13, s3_13, rfl, m3_13⟩ := cu_c m3_12
  obtain ⟨u3_14, s3_14, rfl, m3_14⟩ := cu_c m3_13
  cases cu_n m3_14
  have q3_0 := cu_R (cu_ad hz h17) (w3 0 _ _ rfl rfl)
  subst q3_0
  obtain ⟨i3_1, q3_1⟩ := cu_I (w3 1 _ _ rfl rfl) rfl
  obtain ⟨i3_2, q3_2⟩ := cu_I (w3 2 _ _ rfl rfl) rfl
  subst q3_2
  obtain ⟨i3_3, q3_3⟩ := cu_I (w3 3 _ _ rfl rfl) rfl
  subst q3_3
  obtain ⟨i3_4, q3_4⟩ := cu_I (w3 4 _ _ rfl rfl) rfl
  subst q3_4
  obtain ⟨i3_5, q3_5⟩ := cu_I (w3 5 _ _ rfl rfl) rfl
  subst q3_5
  obtain ⟨i3_6, q3_6⟩ := cu_L (w3 6 _ _ rfl rfl) rfl
  subst q3_6
  obtain ⟨i3_7, q3_7⟩ := cu_I (w3 7 _ _ rfl rfl) rfl
  subst q3_7
  obtain ⟨i3_8, q3_8⟩ := cu_I (w3 8 _ _ rfl rfl) rfl
  subst q3_8
  obtain ⟨i3_9, q3_9⟩ := cu_I (w3 9 _ _ rfl rfl) rfl
  subst q3_9
  obtain ⟨i3_10, q3_10⟩ := cu_L (w3 10 _ _ rfl rfl) rfl
  subst q3_10
  obtain ⟨i3_11, q3_11⟩ := cu_I (w3 11 _ _ rfl rfl) rfl
  subst q3_11
  obtain ⟨i3_12, q3_12⟩ := cu_I (w3 12 _ _ rfl rfl) rfl
  subst q3_12
  obtain ⟨i3_13, q3_13⟩ := cu_I (w3 13 _ _ rfl rfl) rfl
  subst q3_13
  have q3_14 := cu_R (cu_ad hz h38) (w3 14 _ _ rfl rfl)
  subst q3_14
  obtain ⟨vs12, f12, l12, w12⟩ := r12
  dsimp only at f12
  subst f12
  obtain ⟨u12_0, s12_0, rfl, m12_0⟩ := cu_c l12
  obtain ⟨u12_1, s12_1, rfl, m12_1⟩ := cu_c m12_0
  obtain ⟨u12_2, s12_2, rfl, m12_2⟩ := cu_c m12_1
  obtain ⟨u12_3, s12_3, rfl, m12_3⟩ := cu_c m12_2
  obtain ⟨u12_4, s12_4, rfl, m12_4⟩ := cu_c m12_3
  obtain ⟨u12_5, s12_5, rfl, m12_5⟩ := cu_c m12_4
  obtain ⟨u12_6, s12_6, rfl, m12_6⟩ := cu_c m12_5
  obtain ⟨u12_7, s12_7, rfl, m12_7⟩ := cu_c m12_6
  obtain ⟨u12_8, s12_8, rfl, m12_8⟩ := cu_c m12_7
  obtain ⟨u12_9, s12_9, rfl, m12_9⟩ := cu_c m12_8
  obtain ⟨u12_10, s12_10, rfl, m12_10⟩ := cu_c m12_9
  obtain ⟨u12_11, s12_11, rfl, m12_11⟩ := cu_c m12_10
  obtain ⟨u12_12, s12_12, rfl, m12_12⟩ := cu_c m12_11
  obtain ⟨u12_13, s12_13, rfl, m12_13⟩ := cu_c m12_12
  obtain ⟨u12_14, s12_14, rfl, m12_14⟩ := cu_c m12_13
  obtain ⟨u12_15, s12_15, rfl, m12_15⟩ := cu_c m12_14
  cases cu_n m12_15
  obtain ⟨i12_0, q12_0⟩ := cu_I (w12 0 _ _ rfl rfl) rfl
  subst q12_0
  have q12_1 := cu_R (cu_ad hz h41) (w12 1 _ _ rfl rfl)
  subst q12_1
  obtain ⟨i12_2, q12_2⟩ := cu_Rx (w12 2 _ _ rfl rfl)
  subst q12_2
  obtain ⟨i12_3, q12_3⟩ := cu_Rx (w12 3 _ _ rfl rfl)
  subst q12_3
  obtain ⟨i12_4, q12_4⟩ := cu_I (w12 4 _ _ rfl rfl) rfl
  subst q12_4
  obtain ⟨i12_5, q12_5⟩ := cu_Rx (w12 5 _ _ rfl rfl)
  subst q12_5
  obtain ⟨i12_6, q12_6⟩ := cu_Rx (w12 6 _ _ rfl rfl)
  subst q12_6
  obtain ⟨i12_7, q12_7⟩ := cu_Rx (w12 7 _ _ rfl rfl)
  subst q12_7
  obtain ⟨i12_8, q12_8⟩ := cu_Rx (w12 8 _ _ rfl rfl)
  subst q12_8
  obtain ⟨i12_9, q12_9⟩ := cu_I (w12 9 _ _ rfl rfl) rfl
  subst q12_9
  obtain ⟨i12_10, q12_10⟩ := cu_Rx (w12 10 _ _ rfl rfl)
  subst q12_10
  obtain ⟨i12_11, q12_11⟩ := cu_Rx (w12 11 _ _ rfl rfl)
  subst q12_11
  obtain ⟨i12_12, q12_12⟩ := cu_Rx (w12 12 _ _ rfl rfl)
  subst q12_12
  obtain ⟨i12_13, q12_13⟩ := cu_Rx (w12 13 _ _ rfl rfl)
  subst q12_13
  obtain ⟨i12_14, q12_14⟩ := cu_Rx (w12 14 _ _ rfl rfl)
  subst q12_14
  obtain ⟨i12_15, q12_15⟩ := cu_Rx (w12 15 _ _ rfl rfl)
  subst q12_15
  obtain ⟨vs8, f8, l8, w8⟩ := r8
  dsimp only at f8
  subst f8
  obtain ⟨u8_0, s8_0, rfl, m8_0⟩ := cu_c l8
  obtain ⟨u8_1, s8_1, rfl, m8_1⟩ := cu_c m8_0
  obtain ⟨u8_2, s8_2, rfl, m8_2⟩ := cu_c m8_1
  obtain ⟨u8_3, s8_3, rfl, m8_3⟩ := cu_c m8_2
  obtain ⟨u8_4, s8_4, rfl, m8_4⟩ := cu_c m8_3
  cases cu_n m8_4
  have q8_0 := cu_R (cu_ad hz h22) (w8 0 _ _ rfl rfl)
  subst q8_0
  have q8_1 := cu_R (cu_ad hz h26) (w8 1 _ _ rfl rfl)
  subst q8_1
  have q8_2 := cu_R (cu_ad hz h24) (w8 2 _ _ rfl rfl)
  subst q8_2
  obtain ⟨i8_3, q8_3⟩ := cu_I (w8 3 _ _ rfl rfl) rfl
  subst q8_3
  obtain ⟨i8_4, q8_4⟩ := cu_I (w8 4 _ _ rfl rfl) rfl
  subst q8_4
  obtain ⟨vs16, f16, l16, w16⟩ := r16
  dsimp only at f16
  subst f16
  obtain ⟨u16_0, s16_0, rfl, m16_0⟩ := cu_c l16
  obtain ⟨u16_1, s16_1, rfl, m16_1⟩ := cu_c m16_0
  obtain ⟨u16_2, s16_2, rfl, m16_2⟩ := cu_c m16_1
  obtain ⟨u16_3, s16_3, rfl, m16_3⟩ := cu_c m16_2
  obtain ⟨u16_4, s16_4, rfl, m16_4⟩ := cu_c m16_3
  obtain ⟨u16_5, s16_5, rfl, m16_5⟩ := cu_c m16_4
  obtain ⟨u16_6, s16_6, rfl, m16_6⟩ := cu_c m16_5
  obtain ⟨u16_7, s16_7, rfl, m16_7⟩ := cu_c m16_6
  obtain ⟨u16_8, s16_8, rfl, m16_8⟩ := cu_c m16_7
  obtain ⟨u16_9, s16_9, rfl, m16_9⟩ := cu_c m16_8
  cases cu_n m16_9
  have q16_0 := cu_R (cu_ad hz h96) (w16 0 _ _ rfl rfl)
  subst q16_0
  have q16_1 := cu_R (cu_ad hz h97) (w16 1 _ _ rfl rfl)
  subst q16_1
  have q16_2 := cu_R (cu_ad hz h98) (w16 2 _ _ rfl rfl)
  subst q16_2
  obtain ⟨i16_3, q16_3⟩ := cu_I (w16 3 _ _ rfl rfl) rfl
  subst q16_3
  obtain ⟨i16_4, q16_4⟩ := cu_I (w16 4 _ _ rfl rfl) rfl
  subst q16_4
  obtain ⟨i16_5, q16_5⟩ := cu_I (w16 5 _ _ rfl rfl) rfl
  subst q16_5
  obtain ⟨i16_6, q16_6⟩ := cu_I (w16 6 _ _ rfl rfl) rfl
  subst q16_6
  obtain ⟨i16_7, q16_7⟩ := cu_I (w16 7 _ _ rfl rfl) rfl
  subst q16_7
  obtain ⟨i16_8, q16_8⟩ := cu_I (w16 8 _ _ rfl rfl) rfl
  subst q16_8
  obtain ⟨i16_9, q16_9⟩ := cu_I (w16 9 _ _ rfl rfl) rfl
  subst q16_9
  have z3 := w3 1 _ _ rfl rfl
  subst q3_1
  refine ⟨((fun j => bif Nat.beq j 0 then i3_1 else bif Nat.beq j 1 then i3_2 else bif Nat.beq j 2 then i3_3 else bif Nat.beq j 3 then i3_4 else bif Nat.beq j 4 then i3_5 else bif Nat.beq j 5 then i3_7 else bif Nat.beq j 6 then i3_8 else bif Nat.beq j 7 then i3_9 else bif Nat.beq j 8 then i3_11 else bif Nat.beq j 9 then i3_12 else bif Nat.beq j 10 then i3_13 else bif Nat.beq j 11 then i12_0 else bif Nat.beq j 12 then i12_4 else bif Nat.beq j 13 then i12_9 else bif Nat.beq j 14 then i10_14 else bif Nat.beq j 15 then i10_16 else bif Nat.beq j 20 then i8_3 else bif Nat.beq j 21 then i8_4 else bif Nat.beq j 23 then i16_3 else bif Nat.beq j 24 then i16_4 else bif Nat.beq j 25 then i16_5 else bif Nat.beq j 26 then i16_6 else bif Nat.beq j 27 then i16_7 else bif Nat.beq j 28 then i16_8 else bif Nat.beq j 29 then i16_9 else (0 : Int32)), (fun j => bif Nat.beq j 0 then i3_6 else bif Nat.beq j 1 then i3_10 else (0 : Int64)), (fun j => bif Nat.beq j 0 then y17 else bif Nat.beq j 16 then y22 else bif Nat.beq j 17 then y26 else bif Nat.beq j 18 then y24 else bif Nat.beq j 19 then y96 else bif Nat.beq j 20 then y97 else bif Nat.beq j 21 then y98 else (fun _ => (0 : Int32))), (fun j => bif Nat.beq j 0 then y38 else bif Nat.beq j 1 then y41 else (fun _ => (0 : Int64)))), ([a10, a3, a17, a38, a22, a26, a12, a41, a8, a24, a16, a96, a97, a98], (fun j => bif Nat.beq j 0 then i10_1 else bif Nat.beq j 1 then i10_3 else bif Nat.beq j 2 then i10_4 else bif Nat.beq j 3 then i10_5 else bif Nat.beq j 4 then i10_6 else bif Nat.beq j 5 then i10_7 else bif Nat.beq j 7 then i10_10 else bif Nat.beq j 8 then i10_11 else bif Nat.beq j 9 then i10_12 else bif Nat.beq j 10 then i10_13 else bif Nat.beq j 11 then i10_15 else bif Nat.beq j 12 then i12_2 else bif Nat.beq j 13 then i12_3 else bif Nat.beq j 14 then i12_5 else bif Nat.beq j 15 then i12_6 else bif Nat.beq j 16 then i12_7 else bif Nat.beq j 17 then i12_8 else bif Nat.beq j 18 then i12_10 else bif Nat.beq j 19 then i12_11 else bif Nat.beq j 20 then i12_12 else bif Nat.beq j 21 then i12_13 else bif Nat.beq j 22 then i12_14 else bif Nat.beq j 23 then i12_15 else 0)), [(a10, .inr (10, [.ref a3, .ref i10_1, .ref a12, .ref i10_3, .ref i10_4, .ref i10_5, .ref i10_6, .ref i10_7, .ref a8, .ref a16, .ref i10_10, .ref i10_11, .ref i10_12, .ref i10_13, .int i10_14, .ref i10_15, .int i10_16])),
      (a3, .inr (4, [.ref a17, .int i3_1, .int i3_2, .int i3_3, .int i3_4, .int i3_5, .long i3_6, .int i3_7, .int i3_8, .int i3_9, .long i3_10, .int i3_11, .int i3_12, .int i3_13, .ref a38])),
      (a17, .inl (cA17, 940, .inl y17)),
      (a38, .inl (cA38, 22, .inr (.inl y38))),
      (a22, .inl (cA22, 40, .inl y22)),
      (a26, .inl (cA26, 40, .inl y26)),
      (a12, .inr (8, [.int i12_0, .ref a41, .ref i12_2, .ref i12_3, .int i12_4, .ref i12_5, .ref i12_6, .ref i12_7, .ref i12_8, .int i12_9, .ref i12_10, .ref i12_11, .ref i12_12, .ref i12_13, .ref i12_14, .ref i12_15])),
      (a41, .inl (cA41, 7, .inr (.inl y41))),
      (a8, .inr (6, [.ref a22, .ref a26, .ref a24, .int i8_3, .int i8_4])),
      (a24, .inl (cA24, 40, .inl y24)),
      (a16, .inr (0, [.ref a96, .ref a97, .ref a98, .int i16_3, .int i16_4, .int i16_5, .int i16_6, .int i16_7, .int i16_8, .int i16_9])),
      (a96, .inl (cA96, 40, .inl y96)),
      (a97, .inl (cA97, 40, .inl y97)),
      (a98, .inl (cA98, 40, .inl y98))], ?_, ?_, cu_ev1 z3⟩
  · refine ⟨rfl, ⟨rfl, Nat.le_of_ble_eq_true rfl⟩, fun k c hk => ?_⟩
    match k, hk with
    | 0, hk => cases hk; exact ⟨_, rfl, rfl⟩
    | 1, hk => cases hk; exact ⟨_, rfl, rfl⟩
    | 2, hk => cases hk; exact ⟨_, rfl, Nat.le_of_ble_eq_true rfl, Nat.le_of_ble_eq_true rfl, ⟨_, rfl⟩, _, rfl, t17⟩
    | 3, hk => cases hk; exact ⟨_, rfl, Nat.le_of_ble_eq_true rfl, Nat.le_of_ble_eq_true rfl, ⟨_, rfl⟩, _, rfl, t38⟩
    | 4, hk => cases hk; exact ⟨_, rfl, Nat.le_of_ble_eq_true rfl, Nat.le_of_ble_eq_true rfl, ⟨_, rfl⟩, _, rfl, t22⟩
    | 5, hk => cases hk; exact ⟨_, rfl, Nat.le_of_ble_eq_true rfl, Nat.le_of_ble_eq_true rfl, ⟨_, rfl⟩, _, rfl, t26⟩
    | 6, hk => cases hk; exact ⟨_, rfl, rfl⟩
    | 7, hk => cases hk; exact ⟨_, rfl, Nat.le_of_ble_eq_true rfl, Nat.le_of_ble_eq_true rfl, ⟨_, rfl⟩, _, rfl, t41⟩
    | 8, hk => cases hk; exact ⟨_, rfl, rfl⟩
    | 9, hk => cases hk; exact ⟨_, rfl, Nat.le_of_ble_eq_true rfl, Nat.le_of_ble_eq_true rfl, ⟨_, rfl⟩, _, rfl, t24⟩
    | 10, hk => cases hk; exact ⟨_, rfl, rfl⟩
    | 11, hk => cases hk; exact ⟨_, rfl, Nat.le_of_ble_eq_true rfl, Nat.le_of_ble_eq_true rfl, ⟨_, rfl⟩, _, rfl, t96⟩
    | 12, hk => cases hk; exact ⟨_, rfl, Nat.le_of_ble_eq_true rfl, Nat.le_of_ble_eq_true rfl, ⟨_, rfl⟩, _, rfl, t97⟩
    | 13, hk => cases hk; exact ⟨_, rfl, Nat.le_of_ble_eq_true rfl, Nat.le_of_ble_eq_true rfl, ⟨_, rfl⟩, _, rfl, t98⟩
    | k + 14, hk => cases hk
  · simp only [List.map_cons, List.map_nil, h10, h3, h17, h38, h22, h26, h12, h41, h8, h24, h16, h96, h97, h98]
set_option maxRecDepth 100000 in
set_option maxHeartbeats 4000000 in
theorem cu_S_11_9 {X : ab_X} {z : ab_Z} {s : State} {ws : va_W} (hc : ∀ (k : Nat) (c : ab_C), k ∈ cu_KS → gl_L[k]? = some c → ∃ q, ws[k]? = some q ∧ ab_cR X z s c q.2) (hz : ws.map Prod.fst = z.2.2) (hl : ∃ ad, z.2.2[11]? = some ad ∧ cu_v ws 10 2 = .ref ad) (hg : ∃ ad, z.2.2[9]? = some ad ∧ cu_v ws 10 8 = .ref ad) : ∃ (σ : ex_S) (A : ex_A) (we : va_W), ex_wR X A s (WS σ) we ∧ ([10, 3, 17, 38, 23, 27, 11, 50, 9, 25, 16, 96, 97, 98] : List Nat).map (fun k => ws[k]?) = we.map some ∧ z.1[1]? = some (σ.1 0) := by
  obtain ⟨⟨a10, e10⟩, h10, r10⟩ := hc 10 _ (by decide) rfl
  obtain ⟨⟨a3, e3⟩, h3, r3⟩ := hc 3 _ (by decide) rfl
  obtain ⟨⟨a17, e17⟩, h17, r17⟩ := hc 17 _ (by decide) rfl
  obtain ⟨⟨a38, e38⟩, h38, r38⟩ := hc 38 _ (by decide) rfl
  obtain ⟨⟨a23, e23⟩, h23, r23⟩ := hc 23 _ (by decide) rfl
  obtain ⟨⟨a27, e27⟩, h27, r27⟩ := hc 27 _ (by decide) rfl
  obtain ⟨⟨a11, e11⟩, h11, r11⟩ := hc 11 _ (by decide) rfl
  obtain ⟨⟨a50, e50⟩, h50, r50⟩ := hc 50 _ (by decide) rfl
  obtain ⟨⟨a9, e9⟩, h9, r9⟩ := hc 9 _ (by decide) rfl
  obtain ⟨⟨a25, e25⟩, h25, r25⟩ := hc 25 _ (by decide) rfl
  obtain ⟨⟨a16, e16⟩, h16, r16⟩ := hc 16 _ (by decide) rfl
  obtain ⟨⟨a96, e96⟩, h96, r96⟩ := hc 96 _ (by decide) rfl
  obtain ⟨⟨a97, e97⟩, h97, r97⟩ := hc 97 _ (by decide) rfl
  obtain ⟨⟨a98, e98⟩, h98, r98⟩ := hc 98 _ (by decide) rfl
  obtain ⟨cA17, x17, f17, ⟨y17, g17⟩, t17, -⟩ := r17
  dsimp only at f17
  subst f17 g17
  obtain ⟨cA38, x38, f38, ⟨y38, g38⟩, t38, -⟩ := r38
  dsimp only at f38
  subst f38 g38
  obtain ⟨cA23, x23, f23, ⟨y23, g23⟩, t23, -⟩ := r23
  dsimp only at f23
  subst f23 g23
  obtain ⟨cA27, x27, f27, ⟨y27, g27⟩, t27, -⟩ := r27
  dsimp only at f27
  subst f27 g27
  obtain ⟨cA50, x50, f50, ⟨y50, g50⟩, t50, -⟩ := r50
  dsimp only at f50
  subst f50 g50
  obtain ⟨cA25, x25, f25, ⟨y25, g25⟩, t25, -⟩ := r25
  dsimp only at f25
  subst f25 g25
  obtain ⟨cA96, x96, f96, ⟨y96, g96⟩, t96, -⟩ := r96
  dsimp only at f96
  subst f96 g96
  obtain ⟨cA97, x97, f97, ⟨y97, g97⟩, t97, -⟩ := r97
  dsimp only at f97
  subst f97 g97
  obtain ⟨cA98, x98, f98, ⟨y98, g98⟩, t98, -⟩ := r98
  dsimp only at f98
  subst f98 g98
  obtain ⟨vs10, f10, l10, w10⟩ := r10
  dsimp only at f10
  subst f10
  obtain ⟨u10_0, s10_0, rfl, m10_0⟩ := cu_c l10
  obtain ⟨u10_1, s10_1, rfl, m10_1⟩ := cu_c m10_0
  obtain ⟨u10_2, s10_2, rfl, m10_2⟩ := cu_c m10_1
  obtain ⟨u10_3, s10_3, rfl, m10_3⟩ := cu_c m10_2
  obtain ⟨u10_4, s10_4, rfl, m10_4⟩ := cu_c m10_3
  obtain ⟨u10_5, s10_5, rfl, m10_5⟩ := cu_c m10_4
  obtain ⟨u10_6, s10_6, rfl, m10_6⟩ := cu_c m10_5
  obtain ⟨u10_7, s10_7, rfl, m10_7⟩ := cu_c m10_6
  obtain ⟨u10_8, s10_8, rfl, m10_8⟩ := cu_c m10_7
  obtain ⟨u10_9, s10_9, rfl, m10_9⟩ := cu_c m10_8
  obtain ⟨u10_10, s10_10, rfl, m10_10⟩ := cu_c m10_9
  obtain ⟨u10_11, s10_11, rfl, m10_11⟩ := cu_c m10_10
  obtain ⟨u10_12, s10_12, rfl, m10_12⟩ := cu_c m10_11
  obtain ⟨u10_13, s10_13, rfl, m10_13⟩ := cu_c m10_12
  obtain ⟨u10_14, s10_14, rfl, m10_14⟩ := cu_c m10_13
  obtain ⟨u10_15, s10_15, rfl, m10_15⟩ := cu_c m10_14
  obtain ⟨u10_16, s10_16, rfl, m10_16⟩ := cu_c m10_15
  cases cu_n m10_16
  have q10_0 := cu_R (cu_ad hz h3) (w10 0 _ _ rfl rfl)
  subst q10_0
  obtain ⟨i10_1, q10_1⟩ := cu_Rx (w10 1 _ _ rfl rfl)
  subst q10_1
  have q10_2 : u10_2 = .ref a11 := by
    obtain ⟨ad, e1, e2⟩ := hl
    have e3 := e1.symm.trans (cu_ad hz h11)
    cases e3
    rw [cu_v_of h10] at e2
    exact e2
  subst q10_2
  obtain ⟨i10_3, q10_3⟩ := cu_Rx (w10 3 _ _ rfl rfl)
  subst q10_3
  obtain ⟨i10_4, q10_4⟩ := cu_Rx (w10 4 _ _ rfl rfl)
  subst q10_4
  obtain ⟨i10_5, q10_5⟩ := cu_Rx (w10 5 _ _ rfl rfl)
  subst q10_5
  obtain ⟨i10_6, q10_6⟩ := cu_Rx (w10 6 _ _ rfl rfl)
  subst q10_6
  obtain ⟨i10_7, q10_7⟩ := cu_Rx (w10 7 _ _ rfl rfl)
  subst q10_7
  have q10_8 : u10_8 = .ref a9 := by
    obtain ⟨ad, e1, e2⟩ := hg
    have e3 := e1.symm.trans (cu_ad hz h9)
    cases e3
    rw [cu_v_of h10] at e2
    exact e2
  subst q10_8
  have q10_9 := cu_R (cu_ad hz h16) (w10 9 _ _ rfl rfl)
  subst q10_9
  obtain ⟨i10_10, q10_10⟩ := cu_Rx (w10 10 _ _ rfl rfl)
  subst q10_10
  obtain ⟨i10_11, q10_11⟩ := cu_Rx (w10 11 _ _ rfl rfl)
  subst q10_11
  obtain ⟨i10_12, q10_12⟩ := cu_Rx (w10 12 _ _ rfl rfl)
  subst q10_12
  obtain ⟨i10_13, q10_13⟩ := cu_Rx (w10 13 _ _ rfl rfl)
  subst q10_13
  obtain ⟨i10_14, q10_14⟩ := cu_I (w10 14 _ _ rfl rfl) rfl
  subst q10_14
  obtain ⟨i10_15, q10_15⟩ := cu_Rx (w10 15 _ _ rfl rfl)
  subst q10_15
  obtain ⟨i10_16, q10_16⟩ := cu_I (w10 16 _ _ rfl rfl) rfl
  subst q10_16
  obtain ⟨vs3, f3, l3, w3⟩ := r3
  dsimp only at f3
  subst f3
  obtain ⟨u3_0, s3_0, rfl, m3_0⟩ := cu_c l3
  obtain ⟨u3_1, s3_1, rfl, m3_1⟩ := cu_c m3_0
  obtain ⟨u3_2, s3_2, rfl, m3_2⟩ := cu_c m3_1
  obtain ⟨u3_3, s3_3, rfl, m3_3⟩ := cu_c m3_2
  obtain ⟨u3_4, s3_4, rfl, m3_4⟩ := cu_c m3_3
  obtain ⟨u3_5, s3_5, rfl, m3_5⟩ := cu_c m3_4
  obtain ⟨u3_6, s3_6, rfl, m3_6⟩ := cu_c m3_5
  obtain ⟨u3_7, s3_7, rfl, m3_7⟩ := cu_c m3_6
  obtain ⟨u3_8, s3_8, rfl, m3_8⟩ := cu_c m3_7
  obtain ⟨u3_9, s3_9, rfl, m3_9⟩ := cu_c m3_8
  obtain ⟨u3_10, s3_10, rfl, m3_10⟩ := cu_c m3_9
  obtain ⟨u3_11, s3_11, rfl, m3_11⟩ := cu_c m3_10
  obtain ⟨u3_12, s3_12, rfl, m3_12⟩ := cu_c m3_11
  obtain ⟨u3_13, s3_13, rfl, m3_13⟩ := cu_c m3_12
  obtain ⟨u3_14, s3_14, rfl, m3_14⟩ := cu_c m3_13
  cases cu_n m3_14
  have q3_0 := cu_R (cu_ad hz h17) (w3 0 _ _ rfl rfl)
  subst q3_0
  obtain ⟨i3_1, q3_1⟩ := cu_I (w3 1 _ _ rfl rfl) rfl
  obtain ⟨i3_2, q3_2⟩ := cu_I (w3 2 _ _ rfl rfl) rfl
  subst q3_2
  obtain ⟨i3_3, q3_3⟩ := cu_I (w3 3 _ _ rfl rfl) rfl
  subst q3_3
  obtain ⟨i3_4, q3_4⟩ := cu_I (w3 4 _ _ rfl rfl) rfl
  subst q3_4
  obtain ⟨i3_5, q3_5⟩ := cu_I (w3 5 _ _ rfl rfl) rfl
  subst q3_5
  obtain ⟨i3_6, q3_6⟩ := cu_L (w3 6 _ _ rfl rfl) rfl
  subst q3_6
  obtain ⟨i3_7, q3_7⟩ := cu_I (w3 7 _ _ rfl rfl) rfl
  subst q3_7
  obtain ⟨i3_8, q3_8⟩ := cu_I (w3 8 _ _ rfl rfl) rfl
  subst q3_8
  obtain ⟨i3_9, q3_9⟩ := cu_I (w3 9 _ _ rfl rfl) rfl
  subst q3_9
  obtain ⟨i3_10, q3_10⟩ := cu_L (w3 10 _ _ rfl rfl) rfl
  subst q3_10
  obtain ⟨i3_11, q3_11⟩ := cu_I (w3 11 _ _ rfl rfl) rfl
  subst q3_11
  obtain ⟨i3_12, q3_12⟩ := cu_I (w3 12 _ _ rfl rfl) rfl
  subst q3_12
  obtain ⟨i3_13, q3_13⟩ := cu_I (w3 13 _ _ rfl rfl) rfl
  subst q3_13
  have q3_14 := cu_R (cu_ad hz h38) (w3 14 _ _ rfl rfl)
  subst q3_14
  obtain ⟨vs11, f11, l11, w11⟩ := r11
  dsimp only at f11
  subst f11
  obtain ⟨u11_0, s11_0, rfl, m11_0⟩ := cu_c l11
  obtain ⟨u11_1, s11_1, rfl, m11_1⟩ := cu_c m11_0
  obtain ⟨u11_2, s11_2, rfl, m11_2⟩ := cu_c m11_1
  obtain ⟨u11_3, s11_3, rfl, m11_3⟩ := cu_c m11_2
  obtain ⟨u11_4, s11_4, rfl, m11_4⟩ := cu_c m11_3
  obtain ⟨u11_5, s11_5, rfl, m11_5⟩ := cu_c m11_4
  obtain ⟨u11_6, s11_6, rfl, m11_6⟩ := cu_c m11_5
  obtain ⟨u11_7, s11_7, rfl, m11_7⟩ := cu_c m11_6
  obtain ⟨u11_8, s11_8, rfl, m11_8⟩ := cu_c m11_7
  obtain ⟨u11_9, s11_9, rfl, m11_9⟩ := cu_c m11_8
  obtain ⟨u11_10, s11_10, rfl, m11_10⟩ := cu_c m11_9
  obtain ⟨u11_11, s11_11, rfl, m11_11⟩ := cu_c m11_10
  obtain ⟨u11_12, s11_12, rfl, m11_12⟩ := cu_c m11_11
  obtain ⟨u11_13, s11_13, rfl, m11_13⟩ := cu_c m11_12
  obtain ⟨u11_14, s11_14, rfl, m11_14⟩ := cu_c m11_13
  obtain ⟨u11_15, s11_15, rfl, m11_15⟩ := cu_c m11_14
  cases cu_n m11_15
  obtain ⟨i11_0, q11_0⟩ := cu_I (w11 0 _ _ rfl rfl) rfl
  subst q11_0
  have q11_1 := cu_R (cu_ad hz h50) (w11 1 _ _ rfl rfl)
  subst q11_1
  obtain ⟨i11_2, q11_2⟩ := cu_Rx (w11 2 _ _ rfl rfl)
  subst q11_2
  obtain ⟨i11_3, q11_3⟩ := cu_Rx (w11 3 _ _ rfl rfl)
  subst q11_3
  obtain ⟨i11_4, q11_4⟩ := cu_I (w11 4 _ _ rfl rfl) rfl
  subst q11_4
  obtain ⟨i11_5, q11_5⟩ := cu_Rx (w11 5 _ _ rfl rfl)
  subst q11_5
  obtain ⟨i11_6, q11_6⟩ := cu_Rx (w11 6 _ _ rfl rfl)
  subst q11_6
  obtain ⟨i11_7, q11_7⟩ := cu_Rx (w11 7 _ _ rfl rfl)
  subst q11_7
  obtain ⟨i11_8, q11_8⟩ := cu_Rx (w11 8 _ _ rfl rfl)
  subst q11_8
  obtain ⟨i11_9, q11_9⟩ := cu_I (w11 9 _ _ rfl rfl) rfl
  subst q11_9
  obtain ⟨i11_10, q11_10⟩ := cu_Rx (w11 10 _ _ rfl rfl)
  subst q11_10
  obtain ⟨i11_11, q11_11⟩ := cu_Rx (w11 11 _ _ rfl rfl)
  subst q11_11
  obtain ⟨i11_12, q11_12⟩ := cu_Rx (w11 12 _ _ rfl rfl)
  subst q11_12
  obtain ⟨i11_13, q11_13⟩ := cu_Rx (w11 13 _ _ rfl rfl)
  subst q11_13
  obtain ⟨i11_14, q11_14⟩ := cu_Rx (w11 14 _ _ rfl rfl)
  subst q11_14
  obtain ⟨i11_15, q11_15⟩ := cu_Rx (w11 15 _ _ rfl rfl)
  subst q11_15
  obtain ⟨vs9, f9, l9, w9⟩ := r9
  dsimp only at f9
  subst f9
  obtain ⟨u9_0, s9_0, rfl, m9_0⟩ := cu_c l9
  obtain ⟨u9_1, s9_1, rfl, m9_1⟩ := cu_c m9_0
  obtain ⟨u9_2, s9_2, rfl, m9_2⟩ := cu_c m9_1
  obtain ⟨u9_3, s9_3, rfl, m9_3⟩ := cu_c m9_2
  obtain ⟨u9_4, s9_4, rfl, m9_4⟩ := cu_c m9_3
  cases cu_n m9_4
  have q9_0 := cu_R (cu_ad hz h23) (w9 0 _ _ rfl rfl)
  subst q9_0
  have q9_1 := cu_R (cu_ad hz h27) (w9 1 _ _ rfl rfl)
  subst q9_1
  have q9_2 := cu_R (cu_ad hz h25) (w9 2 _ _ rfl rfl)
  subst q9_2
  obtain ⟨i9_3, q9_3⟩ := cu_I (w9 3 _ _ rfl rfl) rfl
  subst q9_3
  obtain ⟨i9_4, q9_4⟩ := cu_I (w9 4 _ _ rfl rfl) rfl
  subst q9_4
  obtain ⟨vs16, f16, l16, w16⟩ := r16
  dsimp only at f16
  subst f16
  obtain ⟨u16_0, s16_0, rfl, m16_0⟩ := cu_c l16
  obtain ⟨u16_1, s16_1, rfl, m16_1⟩ := cu_c m16_0
  obtain ⟨u16_2, s16_2, rfl, m16_2⟩ := cu_c m16_1
  obtain ⟨u16_3, s16_3, rfl, m16_3⟩ := cu_c m16_2
  obtain ⟨u16_4, s16_4, rfl, m16_4⟩ := cu_c m16_3
  obtain ⟨u16_5, s16_5, rfl, m16_5⟩ := cu_c m16_4
  obtain ⟨u16_6, s16_6, rfl, m16_6⟩ := cu_c m16_5
  obtain ⟨u16_7, s16_7, rfl, m16_7⟩ := cu_c m16_6
  obtain ⟨u16_8, s16_8, rfl, m16_8⟩ := cu_c m16_7
  obtain ⟨u16_9, s16_9, rfl, m16_9⟩ := cu_c m16_8
  cases cu_n m16_9
  have q16_0 := cu_R (cu_ad hz h96) (w16 0 _ _ rfl rfl)
  subst q16_0
  have q16_1 := cu_R (cu_ad hz h97) (w16 1 _ _ rfl rfl)
  subst q16_1
  have q16_2 := cu_R (cu_ad hz h98) (w16 2 _ _ rfl rfl)
  subst q16_2
  obtain ⟨i16_3, q16_3⟩ := cu_I (w16 3 _ _ rfl rfl) rfl
  subst q16_3
  obtain ⟨i16_4, q16_4⟩ := cu_I (w16 4 _ _ rfl rfl) rfl
  subst q16_4
  obtain ⟨i16_5, q16_5⟩ := cu_I (w16 5 _ _ rfl rfl) rfl
  subst q16_5
  obtain ⟨i16_6, q16_6⟩ := cu_I (w16 6 _ _ rfl rfl) rfl
  subst q16_6
  obtain ⟨i16_7, q16_7⟩ := cu_I (w16 7 _ _ rfl rfl) rfl
  subst q16_7
  obtain ⟨i16_8, q16_8⟩ := cu_I (w16 8 _ _ rfl rfl) rfl
  subst q16_8
  obtain ⟨i16_9, q16_9⟩ := cu_I (w16 9 _ _ rfl rfl) rfl
  subst q16_9
  have z3 := w3 1 _ _ rfl rfl
  subst q3_1
  refine ⟨((fun j => bif Nat.beq j 0 then i3_1 else bif Nat.beq j 1 then i3_2 else bif Nat.beq j 2 then i3_3 else bif Nat.beq j 3 then i3_4 else bif Nat.beq j 4 then i3_5 else bif Nat.beq j 5 then i3_7 else bif Nat.beq j 6 then i3_8 else bif Nat.beq j 7 then i3_9 else bif Nat.beq j 8 then i3_11 else bif Nat.beq j 9 then i3_12 else bif Nat.beq j 10 then i3_13 else bif Nat.beq j 11 then i11_0 else bif Nat.beq j 12 then i11_4 else bif Nat.beq j 13 then i11_9 else bif Nat.beq j 14 then i10_14 else bif Nat.beq j 15 then i10_16 else bif Nat.beq j 20 then i9_3 else bif Nat.beq j 21 then i9_4 else bif Nat.beq j 23 then i16_3 else bif Nat.beq j 24 then i16_4 else bif Nat.beq j 25 then i16_5 else bif Nat.beq j 26 then i16_6 else bif Nat.beq j 27 then i16_7 else bif Nat.beq j 28 then i16_8 else bif Nat.beq j 29 then i16_9 else (0 : Int32)), (fun j => bif Nat.beq j 0 then i3_6 else bif Nat.beq j 1 then i3_10 else (0 : Int64)), (fun j => bif Nat.beq j 0 then y17 else bif Nat.beq j 16 then y23 else bif Nat.beq j 17 then y27 else bif Nat.beq j 18 then y25 else bif Nat.beq j 19 then y96 else bif Nat.beq j 20 then y97 else bif Nat.beq j 21 then y98 else (fun _ => (0 : Int32))), (fun j => bif Nat.beq j 0 then y38 else bif Nat.beq j 1 then y50 else (fun _ => (0 : Int64)))), ([a10, a3, a17, a38, a23, a27, a11, a50, a9, a25, a16, a96, a97, a98], (fun j => bif Nat.beq j 0 then i10_1 else bif Nat.beq j 1 then i10_3 else bif Nat.beq j 2 then i10_4 else bif Nat.beq j 3 then i10_5 else bif Nat.beq j 4 then i10_6 else bif Nat.beq j 5 then i10_7 else bif Nat.beq j 7 then i10_10 else bif Nat.beq j 8 then i10_11 else bif Nat.beq j 9 then i10_12 else bif Nat.beq j 10 then i10_13 else bif Nat.beq j 11 then i10_15 else bif Nat.beq j 12 then i11_2 else bif Nat.beq j 13 then i11_3 else bif Nat.beq j 14 then i11_5 else bif Nat.beq j 15 then i11_6 else bif Nat.beq j 16 then i11_7 else bif Nat.beq j 17 then i11_8 else bif Nat.beq j 18 then i11_10 else bif Nat.beq j 19 then i11_11 else bif Nat.beq j 20 then i11_12 else bif Nat.beq j 21 then i11_13 else bif Nat.beq j 22 then i11_14 else bif Nat.beq j 23 then i11_15 else 0)), [(a10, .inr (10, [.ref a3, .ref i10_1, .ref a11, .ref i10_3, .ref i10_4, .ref i10_5, .ref i10_6, .ref i10_7, .ref a9, .ref a16, .ref i10_10, .ref i10_11, .ref i10_12, .ref i10_13, .int i10_14, .ref i10_15, .int i10_16])),
      (a3, .inr (4, [.ref a17, .int i3_1, .int i3_2, .int i3_3, .int i3_4, .int i3_5, .long i3_6, .int i3_7, .int i3_8, .int i3_9, .long i3_10, .int i3_11, .int i3_12, .int i3_13, .ref a38])),
      (a17, .inl (cA17, 940, .inl y17)),
      (a38, .inl (cA38, 22, .inr (.inl y38))),
      (a23, .inl (cA23, 40, .inl y23)),
      (a27, .inl (cA27, 40, .inl y27)),
      (a11, .inr (8, [.int i11_0, .ref a50, .ref i11_2, .ref i11_3, .int i11_4, .ref i11_5, .ref i11_6, .ref i11_7, .ref i11_8, .int i11_9, .ref i11_10, .ref i11_11, .ref i11_12, .ref i11_13, .ref i11_14, .ref i11_15])),
      (a50, .inl (cA50, 7, .inr (.inl y50))),
      (a9, .inr (6, [.ref a23, .ref a27, .ref a25, .int i9_3, .int i9_4])),
      (a25, .inl (cA25, 40, .inl y25)),
      (a16, .inr (0, [.ref a96, .ref a97, .ref a98, .int i16_3, .int i16_4, .int i16_5, .int i16_6, .int i16_7, .int i16_8, .int i16_9])),
      (a96, .inl (cA96, 40, .inl y96)),
      (a97, .inl (cA97, 40, .inl y97)),
      (a98, .inl (cA98, 40, .inl y98))], ?_, ?_, cu_ev1 z3⟩
  · refine ⟨rfl, ⟨rfl, Nat.le_of_ble_eq_true rfl⟩, fun k c hk => ?_⟩
    match k, hk with
    | 0, hk => cases hk; exact ⟨_, rfl, rfl⟩
    | 1, hk => cases hk; exact ⟨_, rfl, rfl⟩
    | 2, hk => cases hk; exact ⟨_, rfl, Nat.le_of_ble_eq_true rfl, Nat.le_of_ble_eq_true rfl, ⟨_, rfl⟩, _, rfl, t17⟩
    | 3, hk => cases hk; exact ⟨_, rfl, Nat.le_of_ble_eq_true rfl, Nat.le_of_ble_eq_true rfl, ⟨_, rfl⟩, _, rfl, t38⟩
    | 4, hk => cases hk; exact ⟨_, rfl, Nat.le_of_ble_eq_true rfl, Nat.le_of_ble_eq_true rfl, ⟨_, rfl⟩, _, rfl, t23⟩
    | 5, hk => cases hk; exact ⟨_, rfl, Nat.le_of_ble_eq_true rfl, Nat.le_of_ble_eq_true rfl, ⟨_, rfl⟩, _, rfl, t27⟩
    | 6, hk => cases hk; exact ⟨_, rfl, rfl⟩
    | 7, hk => cases hk; exact ⟨_, rfl, Nat.le_of_ble_eq_true rfl, Nat.le_of_ble_eq_true rfl, ⟨_, rfl⟩, _, rfl, t50⟩
    | 8, hk => cases hk; exact ⟨_, rfl, rfl⟩
    | 9, hk => cases hk; exact ⟨_, rfl, Nat.le_of_ble_eq_true rfl, Nat.le_of_ble_eq_true rfl, ⟨_, rfl⟩, _, rfl, t25⟩
    | 10, hk => cases hk; exact ⟨_, rfl, rfl⟩
    | 11, hk => cases hk; exact ⟨_, rfl, Nat.le_of_ble_eq_true rfl, Nat.le_of_ble_eq_true rfl, ⟨_, rfl⟩, _, rfl, t96⟩
    | 12, hk => cases hk; exact ⟨_, rfl, Nat.le_of_ble_eq_true rfl, Nat.le_of_ble_eq_true rfl, ⟨_, rfl⟩, _, rfl, t97⟩
    | 13, hk => cases hk; exact ⟨_, rfl, Nat.le_of_ble_eq_true rfl, Nat.le_of_ble_eq_true rfl, ⟨_, rfl⟩, _, rfl, t98⟩
    | k + 14, hk => cases hk
  · simp only [List.map_cons, List.map_nil, h10, h3, h17, h38, h23, h27, h11, h50, h9, h25, h16, h96, h97, h98]
set_option maxRecDepth 100000 in
set_option maxHeartbeats 4000000 in
theorem cu_S_11_8 {X : ab_X} {z : ab_Z} {s : State} {ws : va_W} (hc : ∀ (k : Nat) (c : ab_C), k ∈ cu_KS → gl_L[k]? = some c → ∃ q, ws[k]? = some q ∧ ab_cR X z s c q.2) (hz : ws.map Prod.fst = z.2.2) (hl : ∃ ad, z.2.2[11]? = some ad ∧ cu_v ws 10 2 = .ref ad) (hg : ∃ ad, z.2.2[8]? = some ad ∧ cu_v ws 10 8 = .ref ad) : ∃ (σ : ex_S) (A : ex_A) (we : va_W), ex_wR X A s (WS σ) we ∧ ([10, 3, 17, 38, 22, 26, 11, 50, 8, 24, 16, 96, 97, 98] : List Nat).map (fun k => ws[k]?) = we.map some ∧ z.1[1]? = some (σ.1 0) := by
  obtain ⟨⟨a10, e10⟩, h10, r10⟩ := hc 10 _ (by decide) rfl
  obtain ⟨⟨a3, e3⟩, h3, r3⟩ := hc 3 _ (by decide) rfl
  obtain ⟨⟨a17, e17⟩, h17, r17⟩ := hc 17 _ (by decide) rfl
  obtain ⟨⟨a38, e38⟩, h38, r38⟩ := hc 38 _ (by decide) rfl
  obtain ⟨⟨a22, e22⟩, h22, r22⟩ := hc 22 _ (by decide) rfl
  obtain ⟨⟨a26, e26⟩, h26, r26⟩ := hc 26 _ (by decide) rfl
  obtain ⟨⟨a11, e11⟩, h11, r11⟩ := hc 11 _ (by decide) rfl
  obtain ⟨⟨a50, e50⟩, h50, r50⟩ := hc 50 _ (by decide) rfl
  obtain ⟨⟨a8, e8⟩, h8, r8⟩ := hc 8 _ (by decide) rfl
  obtain ⟨⟨a24, e24⟩, h24, r24⟩ := hc 24 _ (by decide) rfl
  obtain ⟨⟨a16, e16⟩, h16, r16⟩ := hc 16 _ (by decide) rfl
  obtain ⟨⟨a96, e96⟩, h96, r96⟩ := hc 96 _ (by decide) rfl
  obtain ⟨⟨a97, e97⟩, h97, r97⟩ := hc 97 _ (by decide) rfl
  obtain ⟨⟨a98, e98⟩, h98, r98⟩ := hc 98 _ (by decide) rfl
  obtain ⟨cA17, x17, f17, ⟨y17, g17⟩, t17, -⟩ := r17
  dsimp only at f17
  subst f17 g17
  obtain ⟨cA38, x38, f38, ⟨y38, g38⟩, t38, -⟩ := r38
  dsimp only at f38
  subst f38 g38
  obtain ⟨cA22, x22, f22, ⟨y22, g22⟩, t22, -⟩ := r22
  dsimp only at f22
  subst f22 g22
  obtain ⟨cA26, x26, f26, ⟨y26, g26⟩, t26, -⟩ := r26
  dsimp only at f26
  subst f26 g26
  obtain ⟨cA50, x50, f50, ⟨y50, g50⟩, t50, -⟩ := r50
  dsimp only at f50
  subst f50 g50
  obtain ⟨cA24, x24, f24, ⟨y24, g24⟩, t24, -⟩ := r24
  dsimp only at f24
  subst f24 g24
  obtain ⟨cA96, x96, f96, ⟨y96, g96⟩, t96, -⟩ := r96
  dsimp only at f96
  subst f96 g96
  obtain ⟨cA97, x97, f97, ⟨y97, g97⟩, t97, -⟩ := r97
  dsimp only at f97
  subst f97 g97
  obtain ⟨cA98, x98, f98, ⟨y98, g98⟩, t98, -⟩ := r98
  dsimp only at f98
  subst f98 g98
  obtain ⟨vs10, f10, l10, w10⟩ := r10
  dsimp only at f10
  subst f10
  obtain ⟨u10_0, s10_0, rfl, m10_0⟩ := cu_c l10
  obtain ⟨u10_1, s10_1, rfl, m10_1⟩ := cu_c m10_0
  obtain ⟨u10_2, s10_2, rfl, m10_2⟩ := cu_c m10_1
  obtain ⟨u10_3, s10_3, rfl, m10_3⟩ := cu_c m10_2
  obtain ⟨u10_4, s10_4, rfl, m10_4⟩ := cu_c m10_3
  obtain ⟨u10_5, s10_5, rfl, m10_5⟩ := cu_c m10_4
  obtain ⟨u10_6, s10_6, rfl, m10_6⟩ := cu_c m10_5
  obtain ⟨u10_7, s10_7, rfl, m10_7⟩ := cu_c m10_6
  obtain ⟨u10_8, s10_8, rfl, m10_8⟩ := cu_c m10_7
  obtain ⟨u10_9, s10_9, rfl, m10_9⟩ := cu_c m10_8
  obtain ⟨u10_10, s10_10, rfl, m10_10⟩ := cu_c m10_9
  obtain ⟨u10_11, s10_11, rfl, m10_11⟩ := cu_c m10_10
  obtain ⟨u10_12, s10_12, rfl, m10_12⟩ := cu_c m10_11
  obtain ⟨u10_13, s10_13, rfl, m10_13⟩ := cu_c m10_12
  obtain ⟨u10_14, s10_14, rfl, m10_14⟩ := cu_c m10_13
  obtain ⟨u10_15, s10_15, rfl, m10_15⟩ := cu_c m10_14
  obtain ⟨u10_16, s10_16, rfl, m10_16⟩ := cu_c m10_15
  cases cu_n m10_16
  have q10_0 := cu_R (cu_ad hz h3) (w10 0 _ _ rfl rfl)
  subst q10_0
  obtain ⟨i10_1, q10_1⟩ := cu_Rx (w10 1 _ _ rfl rfl)
  subst q10_1
  have q10_2 : u10_2 = .ref a11 := by
    obtain ⟨ad, e1, e2⟩ := hl
    have e3 := e1.symm.trans (cu_ad hz h11)
    cases e3
    rw [cu_v_of h10] at e2
    exact e2
  subst q10_2
  obtain ⟨i10_3, q10_3⟩ := cu_Rx (w10 3 _ _ rfl rfl)
  subst q10_3
  obtain ⟨i10_4, q10_4⟩ := cu_Rx (w10 4 _ _ rfl rfl)
  subst q10_4
  obtain ⟨i10_5, q10_5⟩ := cu_Rx (w10 5 _ _ rfl rfl)
  subst q10_5
  obtain ⟨i10_6, q10_6⟩ := cu_Rx (w10 6 _ _ rfl rfl)
  subst q10_6
  obtain ⟨i10_7, q10_7⟩ := cu_Rx (w10 7 _ _ rfl rfl)
  subst q10_7
  have q10_8 : u10_8 = .ref a8 := by
    obtain ⟨ad, e1, e2⟩ := hg
    have e3 := e1.symm.trans (cu_ad hz h8)
    cases e3
    rw [cu_v_of h10] at e2
    exact e2
  subst q10_8
  have q10_9 := cu_R (cu_ad hz h16) (w10 9 _ _ rfl rfl)
  subst q10_9
  obtain ⟨i10_10, q10_10⟩ := cu_Rx (w10 10 _ _ rfl rfl)
  subst q10_10
  obtain ⟨i10_11, q10_11⟩ := cu_Rx (w10 11 _ _ rfl rfl)
  subst q10_11
  obtain ⟨i10_12, q10_12⟩ := cu_Rx (w10 12 _ _ rfl rfl)
  subst q10_12
  obtain ⟨i10_13, q10_13⟩ := cu_Rx (w10 13 _ _ rfl rfl)
  subst q10_13
  obtain ⟨i10_14, q10_14⟩ := cu_I (w10 14 _ _ rfl rfl) rfl
  subst q10_14
  obtain ⟨i10_15, q10_15⟩ := cu_Rx (w10 15 _ _ rfl rfl)
  subst q10_15
  obtain ⟨i10_16, q10_16⟩ := cu_I (w10 16 _ _ rfl rfl) rfl
  subst q10_16
  obtain ⟨vs3, f3, l3, w3⟩ := r3
  dsimp only at f3
  subst f3
  obtain ⟨u3_0, s3_0, rfl, m3_0⟩ := cu_c l3
  obtain ⟨u3_1, s3_1, rfl, m3_1⟩ := cu_c m3_0
  obtain ⟨u3_2, s3_2, rfl, m3_2⟩ := cu_c m3_1
  obtain ⟨u3_3, s3_3, rfl, m3_3⟩ := cu_c m3_2
  obtain ⟨u3_4, s3_4, rfl, m3_4⟩ := cu_c m3_3
  obtain ⟨u3_5, s3_5, rfl, m3_5⟩ := cu_c m3_4
  obtain ⟨u3_6, s3_6, rfl, m3_6⟩ := cu_c m3_5
  obtain ⟨u3_7, s3_7, rfl, m3_7⟩ := cu_c m3_6
  obtain ⟨u3_8, s3_8, rfl, m3_8⟩ := cu_c m3_7
  obtain ⟨u3_9, s3_9, rfl, m3_9⟩ := cu_c m3_8
  obtain ⟨u3_10, s3_10, rfl, m3_10⟩ := cu_c m3_9
  obtain ⟨u3_11, s3_11, rfl, m3_11⟩ := cu_c m3_10
  obtain ⟨u3_12, s3_12, rfl, m3_12⟩ := cu_c m3_11
  obtain ⟨u3_13, s3_13, rfl, m3_13⟩ := cu_c m3_12
  obtain ⟨u3_14, s3_14, rfl, m3_14⟩ := cu_c m3_13
  cases cu_n m3_14
  have q3_0 := cu_R (cu_ad hz h17) (w3 0 _ _ rfl rfl)
  subst q3_0
  obtain ⟨i3_1, q3_1⟩ := cu_I (w3 1 _ _ rfl rfl) rfl
  obtain ⟨i3_2, q3_2⟩ := cu_I (w3 2 _ _ rfl rfl) rfl
  subst q3_2
  obtain ⟨i3_3, q3_3⟩ := cu_I (w3 3 _ _ rfl rfl) rfl
  subst q3_3
  obtain ⟨i3_4, q3_4⟩ := cu_I (w3 4 _ _ rfl rfl) rfl
  subst q3_4
  obtain ⟨i3_5, q3_5⟩ := cu_I (w3 5 _ _ rfl rfl) rfl
  subst q3_5
  obtain ⟨i3_6, q3_6⟩ := cu_L (w3 6 _ _ rfl rfl) rfl
  subst q3_6
  obtain ⟨i3_7, q3_7⟩ := cu_I (w3 7 _ _ rfl rfl) rfl
  subst q3_7
  obtain ⟨i3_8, q3_8⟩ := cu_I (w3 8 _ _ rfl rfl) rfl
  subst q3_8
  obtain ⟨i3_9, q3_9⟩ := cu_I (w3 9 _ _ rfl rfl) rfl
  subst q3_9
  obtain ⟨i3_10, q3_10⟩ := cu_L (w3 10 _ _ rfl rfl) rfl
  subst q3_10
  obtain ⟨i3_11, q3_11⟩ := cu_I (w3 11 _ _ rfl rfl) rfl
  subst q3_11
  obtain ⟨i3_12, q3_12⟩ := cu_I (w3 12 _ _ rfl rfl) rfl
  subst q3_12
  obtain ⟨i3_13, q3_13⟩ := cu_I (w3 13 _ _ rfl rfl) rfl
  subst q3_13
  have q3_14 := cu_R (cu_ad hz h38) (w3 14 _ _ rfl rfl)
  subst q3_14
  obtain ⟨vs11, f11, l11, w11⟩ := r11
  dsimp only at f11
  subst f11
  obtain ⟨u11_0, s11_0, rfl, m11_0⟩ := cu_c l11
  obtain ⟨u11_1, s11_1, rfl, m11_1⟩ := cu_c m11_0
  obtain ⟨u11_2, s11_2, rfl, m11_2⟩ := cu_c m11_1
  obtain ⟨u11_3, s11_3, rfl, m11_3⟩ := cu_c m11_2
  obtain ⟨u11_4, s11_4, rfl, m11_4⟩ := cu_c m11_3
  obtain ⟨u11_5, s11_5, rfl, m11_5⟩ := cu_c m11_4
  obtain ⟨u11_6, s11_6, rfl, m11_6⟩ := cu_c m11_5
  obtain ⟨u11_7, s11_7, rfl, m11_7⟩ := cu_c m11_6
  obtain ⟨u11_8, s11_8, rfl, m11_8⟩ := cu_c m11_7
  obtain ⟨u11_9, s11_9, rfl, m11_9⟩ := cu_c m11_8
  obtain ⟨u11_10, s11_10, rfl, m11_10⟩ := cu_c m11_9
  obtain ⟨u11_11, s11_11, rfl, m11_11⟩ := cu_c m11_10
  obtain ⟨u11_12, s11_12, rfl, m11_12⟩ := cu_c m11_11
  obtain ⟨u11_13, s11_13, rfl, m11_13⟩ := cu_c m11_12
  obtain ⟨u11_14, s11_14, rfl, m11_14⟩ := cu_c m11_13
  obtain ⟨u11_15, s11_15, rfl, m11_15⟩ := cu_c m11_14
  cases cu_n m11_15
  obtain ⟨i11_0, q11_0⟩ := cu_I (w11 0 _ _ rfl rfl) rfl
  subst q11_0
  have q11_1 := cu_R (cu_ad hz h50) (w11 1 _ _ rfl rfl)
  subst q11_1
  obtain ⟨i11_2, q11_2⟩ := cu_Rx (w11 2 _ _ rfl rfl)
  subst q11_2
  obtain ⟨i11_3, q11_3⟩ := cu_Rx (w11 3 _ _ rfl rfl)
  subst q11_3
  obtain ⟨i11_4, q11_4⟩ := cu_I (w11 4 _ _ rfl rfl) rfl
  subst q11_4
  obtain ⟨i11_5, q11_5⟩ := cu_Rx (w11 5 _ _ rfl rfl)
  subst q11_5
  obtain ⟨i11_6, q11_6⟩ := cu_Rx (w11 6 _ _ rfl rfl)
  subst q11_6
  obtain ⟨i11_7, q11_7⟩ := cu_Rx (w11 7 _ _ rfl rfl)
  subst q11_7
  obtain ⟨i11_8, q11_8⟩ := cu_Rx (w11 8 _ _ rfl rfl)
  subst q11_8
  obtain ⟨i11_9, q11_9⟩ := cu_I (w11 9 _ _ rfl rfl) rfl
  subst q11_9
  obtain ⟨i11_10, q11_10⟩ := cu_Rx (w11 10 _ _ rfl rfl)
  subst q11_10
  obtain ⟨i11_11, q11_11⟩ := cu_Rx (w11 11 _ _ rfl rfl)
  subst q11_11
  obtain ⟨i11_12, q11_12⟩ := cu_Rx (w11 12 _ _ rfl rfl)
  subst q11_12
  obtain ⟨i11_13, q11_13⟩ := cu_Rx (w11 13 _ _ rfl rfl)
  subst q11_13
  obtain ⟨i11_14, q11_14⟩ := cu_Rx (w11 14 _ _ rfl rfl)
  subst q11_14
  obtain ⟨i11_15, q11_15⟩ := cu_Rx (w11 15 _ _ rfl rfl)
  subst q11_15
  obtain ⟨vs8, f8, l8, w8⟩ := r8
  dsimp only at f8
  subst f8
  obtain ⟨u8_0, s8_0, rfl, m8_0⟩ := cu_c l8
  obtain ⟨u8_1, s8_1, rfl, m8_1⟩ := cu_c m8_0
  obtain ⟨u8_2, s8_2, rfl, m8_2⟩ := cu_c m8_1
  obtain ⟨u8_3, s8_3, rfl, m8_3⟩ := cu_c m8_2
  obtain ⟨u8_4, s8_4, rfl, m8_4⟩ := cu_c m8_3
  cases cu_n m8_4
  have q8_0 := cu_R (cu_ad hz h22) (w8 0 _ _ rfl rfl)
  subst q8_0
  have q8_1 := cu_R (cu_ad hz h26) (w8 1 _ _ rfl rfl)
  subst q8_1
  have q8_2 := cu_R (cu_ad hz h24) (w8 2 _ _ rfl rfl)
  subst q8_2
  obtain ⟨i8_3, q8_3⟩ := cu_I (w8 3 _ _ rfl rfl) rfl
  subst q8_3
  obtain ⟨i8_4, q8_4⟩ := cu_I (w8 4 _ _ rfl rfl) rfl
  subst q8_4
  obtain ⟨vs16, f16, l16, w16⟩ := r16
  dsimp only at f16
  subst f16
  obtain ⟨u16_0, s16_0, rfl, m16_0⟩ := cu_c l16
  obtain ⟨u16_1, s16_1, rfl, m16_1⟩ := cu_c m16_0
  obtain ⟨u16_2, s16_2, rfl, m16_2⟩ := cu_c m16_1
  obtain ⟨u16_3, s16_3, rfl, m16_3⟩ := cu_c m16_2
  obtain ⟨u16_4, s16_4, rfl, m16_4⟩ := cu_c m16_3
  obtain ⟨u16_5, s16_5, rfl, m16_5⟩ := cu_c m16_4
  obtain ⟨u16_6, s16_6, rfl, m16_6⟩ := cu_c m16_5
  obtain ⟨u16_7, s16_7, rfl, m16_7⟩ := cu_c m16_6
  obtain ⟨u16_8, s16_8, rfl, m16_8⟩ := cu_c m16_7
  obtain ⟨u16_9, s16_9, rfl, m16_9⟩ := cu_c m16_8
  cases cu_n m16_9
  have q16_0 := cu_R (cu_ad hz h96) (w16 0 _ _ rfl rfl)
  subst q16_0
  have q16_1 := cu_R (cu_ad hz h97) (w16 1 _ _ rfl rfl)
  subst q16_1
  have q16_2 := cu_R (cu_ad hz h98) (w16 2 _ _ rfl rfl)
  subst q16_2
  obtain ⟨i16_3, q16_3⟩ := cu_I (w16 3 _ _ rfl rfl) rfl
  subst q16_3
  obtain ⟨i16_4, q16_4⟩ := cu_I (w16 4 _ _ rfl rfl) rfl
  subst q16_4
  obtain ⟨i16_5, q16_5⟩ := cu_I (w16 5 _ _ rfl rfl) rfl
  subst q16_5
  obtain ⟨i16_6, q16_6⟩ := cu_I (w16 6 _ _ rfl rfl) rfl
  subst q16_6
  obtain ⟨i16_7, q16_7⟩ := cu_I (w16 7 _ _ rfl rfl) rfl
  subst q16_7
  obtain ⟨i16_8, q16_8⟩ := cu_I (w16 8 _ _ rfl rfl) rfl
  subst q16_8
  obtain ⟨i16_9, q16_9⟩ := cu_I (w16 9 _ _ rfl rfl) rfl
  subst q16_9
  have z3 := w3 1 _ _ rfl rfl
  subst q3_1
  refine ⟨((fun j => bif Nat.beq j 0 then i3_1 else bif Nat.beq j 1 then i3_2 else bif Nat.beq j 2 then i3_3 else bif Nat.beq j 3 then i3_4 else bif Nat.beq j 4 then i3_5 else bif Nat.beq j 5 then i3_7 else bif Nat.beq j 6 then i3_8 else bif Nat.beq j 7 then i3_9 else bif Nat.beq j 8 then i3_11 else bif Nat.beq j 9 then i3_12 else bif Nat.beq j 10 then i3_13 else bif Nat.beq j 11 then i11_0 else bif Nat.beq j 12 then i11_4 else bif Nat.beq j 13 then i11_9 else bif Nat.beq j 14 then i10_14 else bif Nat.beq j 15 then i10_16 else bif Nat.beq j 20 then i8_3 else bif Nat.beq j 21 then i8_4 else bif Nat.beq j 23 then i16_3 else bif Nat.beq j 24 then i16_4 else bif Nat.beq j 25 then i16_5 else bif Nat.beq j 26 then i16_6 else bif Nat.beq j 27 then i16_7 else bif Nat.beq j 28 then i16_8 else bif Nat.beq j 29 then i16_9 else (0 : Int32)), (fun j => bif Nat.beq j 0 then i3_6 else bif Nat.beq j 1 then i3_10 else (0 : Int64)), (fun j => bif Nat.beq j 0 then y17 else bif Nat.beq j 16 then y22 else bif Nat.beq j 17 then y26 else bif Nat.beq j 18 then y24 else bif Nat.beq j 19 then y96 else bif Nat.beq j 20 then y97 else bif Nat.beq j 21 then y98 else (fun _ => (0 : Int32))), (fun j => bif Nat.beq j 0 then y38 else bif Nat.beq j 1 then y50 else (fun _ => (0 : Int64)))), ([a10, a3, a17, a38, a22, a26, a11, a50, a8, a24, a16, a96, a97, a98], (fun j => bif Nat.beq j 0 then i10_1 else bif Nat.beq j 1 then i10_3 else bif Nat.beq j 2 then i10_4 else bif Nat.beq j 3 then i10_5 else bif Nat.beq j 4 then i10_6 else bif Nat.beq j 5 then i10_7 else bif Nat.beq j 7 then i10_10 else bif Nat.beq j 8 then i10_11 else bif Nat.beq j 9 then i10_12 else bif Nat.beq j 10 then i10_13 else bif Nat.beq j 11 then i10_15 else bif Nat.beq j 12 then i11_2 else bif Nat.beq j 13 then i11_3 else bif Nat.beq j 14 then i11_5 else bif Nat.beq j 15 then i11_6 else bif Nat.beq j 16 then i11_7 else bif Nat.beq j 17 then i11_8 else bif Nat.beq j 18 then i11_10 else bif Nat.beq j 19 then i11_11 else bif Nat.beq j 20 then i11_12 else bif Nat.beq j 21 then i11_13 else bif Nat.beq j 22 then i11_14 else bif Nat.beq j 23 then i11_15 else 0)), [(a10, .inr (10, [.ref a3, .ref i10_1, .ref a11, .ref i10_3, .ref i10_4, .ref i10_5, .ref i10_6, .ref i10_7, .ref a8, .ref a16, .ref i10_10, .ref i10_11, .ref i10_12, .ref i10_13, .int i10_14, .ref i10_15, .int i10_16])),
      (a3, .inr (4, [.ref a17, .int i3_1, .int i3_2, .int i3_3, .int i3_4, .int i3_5, .long i3_6, .int i3_7, .int i3_8, .int i3_9, .long i3_10, .int i3_11, .int i3_12, .int i3_13, .ref a38])),
      (a17, .inl (cA17, 940, .inl y17)),
      (a38, .inl (cA38, 22, .inr (.inl y38))),
      (a22, .inl (cA22, 40, .inl y22)),
      (a26, .inl (cA26, 40, .inl y26)),
      (a11, .inr (8, [.int i11_0, .ref a50, .ref i11_2, .ref i11_3, .int i11_4, .ref i11_5, .ref i11_6, .ref i11_7, .ref i11_8, .int i11_9, .ref i11_10, .ref i11_11, .ref i11_12, .ref i11_13, .ref i11_14, .ref i11_15])),
      (a50, .inl (cA50, 7, .inr (.inl y50))),
      (a8, .inr (6, [.ref a22, .ref a26, .ref a24, .int i8_3, .int i8_4])),
      (a24, .inl (cA24, 40, .inl y24)),
      (a16, .inr (0, [.ref a96, .ref a97, .ref a98, .int i16_3, .int i16_4, .int i16_5, .int i16_6, .int i16_7, .int i16_8, .int i16_9])),
      (a96, .inl (cA96, 40, .inl y96)),
      (a97, .inl (cA97, 40, .inl y97)),
      (a98, .inl (cA98, 40, .inl y98))], ?_, ?_, cu_ev1 z3⟩
  · refine ⟨rfl, ⟨rfl, Nat.le_of_ble_eq_true rfl⟩, fun k c hk => ?_⟩
    match k, hk with
    | 0, hk => cases hk; exact ⟨_, rfl, rfl⟩
    | 1, hk => cases hk; exact ⟨_, rfl, rfl⟩
    | 2, hk => cases hk; exact ⟨_, rfl, Nat.le_of_ble_eq_true rfl, Nat.le_of_ble_eq_true rfl, ⟨_, rfl⟩, _, rfl, t17⟩
    | 3, hk => cases hk; exact ⟨_, rfl, Nat.le_of_ble_eq_true rfl, Nat.le_of_ble_eq_true rfl, ⟨_, rfl⟩, _, rfl, t38⟩
    | 4, hk => cases hk; exact ⟨_, rfl, Nat.le_of_ble_eq_true rfl, Nat.le_of_ble_eq_true rfl, ⟨_, rfl⟩, _, rfl, t22⟩
    | 5, hk => cases hk; exact ⟨_, rfl, Nat.le_of_ble_eq_true rfl, Nat.le_of_ble_eq_true rfl, ⟨_, rfl⟩, _, rfl, t26⟩
    | 6, hk => cases hk; exact ⟨_, rfl, rfl⟩
    | 7, hk => cases hk; exact ⟨_, rfl, Nat.le_of_ble_eq_true rfl, Nat.le_of_ble_eq_true rfl, ⟨_, rfl⟩, _, rfl, t50⟩
    | 8, hk => cases hk; exact ⟨_, rfl, rfl⟩
    | 9, hk => cases hk; exact ⟨_, rfl, Nat.le_of_ble_eq_true rfl, Nat.le_of_ble_eq_true rfl, ⟨_, rfl⟩, _, rfl, t24⟩
    | 10, hk => cases hk; exact ⟨_, rfl, rfl⟩
    | 11, hk => cases hk; exact ⟨_, rfl, Nat.le_of_ble_eq_true rfl, Nat.le_of_ble_eq_true rfl, ⟨_, rfl⟩, _, rfl, t96⟩
    | 12, hk => cases hk; exact ⟨_, rfl, Nat.le_of_ble_eq_true rfl, Nat.le_of_ble_eq_true rfl, ⟨_, rfl⟩, _, rfl, t97⟩
    | 13, hk => cases hk; exact ⟨_, rfl, Nat.le_of_ble_eq_true rfl, Nat.le_of_ble_eq_true rfl, ⟨_, rfl⟩, _, rfl, t98⟩
    | k + 14, hk => cases hk
  · simp only [List.map_cons, List.map_nil, h10, h3, h17, h38, h22, h26, h11, h50, h8, h24, h16, h96, h97, h98]
set_option maxRecDepth 100000 in
set_option maxHeartbeats 4000000 in
theorem cu_T {X : ab_X} {z : ab_Z} {s : State} {ws : va_W} (hc : ∀ (k : Nat) (c : ab_C), k ∈ cu_KT → gl_L[k]? = some c → ∃ q, ws[k]? = some q ∧ ab_cR X z s c q.2) (hz : ws.map Prod.fst = z.2.2) : ∃ (σ : ex_S) (A : ex_A) (we : va_W), ex_wR X A s (WT σ) we ∧ ([0, 4, 1, 2, 6, 149, 150, 162] : List Nat).map (fun k => ws[k]?) = we.map some ∧ z.1[2]? = some (σ.1 1) ∧ ((0 ≤ (σ.2.2.1 2 0).toInt ∧ (σ.2.2.1 2 0).toInt ≤ 7) ∧ (0 ≤ (σ.2.2.1 2 1).toInt ∧ (σ.2.2.1 2 1).toInt ≤ 12) ∧ (0 ≤ (σ.2.2.1 2 2).toInt ∧ (σ.2.2.1 2 2).toInt ≤ 8) ∧ (0 ≤ (σ.2.2.1 1 0).toInt ∧ (σ.2.2.1 1 0).toInt ≤ 7)) := by
  obtain ⟨⟨a0, e0⟩, h0, r0⟩ := hc 0 _ (by decide) rfl
  obtain ⟨⟨a4, e4⟩, h4, r4⟩ := hc 4 _ (by decide) rfl
  obtain ⟨⟨a1, e1⟩, h1, r1⟩ := hc 1 _ (by decide) rfl
  obtain ⟨⟨a2, e2⟩, h2, r2⟩ := hc 2 _ (by decide) rfl
  obtain ⟨⟨a6, e6⟩, h6, r6⟩ := hc 6 _ (by decide) rfl
  obtain ⟨⟨a149, e149⟩, h149, r149⟩ := hc 149 _ (by decide) rfl
  obtain ⟨⟨a150, e150⟩, h150, r150⟩ := hc 150 _ (by decide) rfl
  obtain ⟨⟨a162, e162⟩, h162, r162⟩ := hc 162 _ (by decide) rfl
  obtain ⟨cA4, x4, f4, ⟨y4, g4⟩, t4, -⟩ := r4
  dsimp only at f4
  subst f4 g4
  obtain ⟨cA1, x1, f1, ⟨y1, g1⟩, t1, o1⟩ := r1
  dsimp only at f1
  subst f1 g1
  obtain ⟨cA2, x2, f2, ⟨y2, g2⟩, t2, o2⟩ := r2
  dsimp only at f2
  subst f2 g2
  obtain ⟨cA6, x6, f6, ⟨y6, g6⟩, t6, -⟩ := r6
  dsimp only at f6
  subst f6 g6
  obtain ⟨cA149, x149, f149, ⟨y149, g149⟩, t149, -⟩ := r149
  dsimp only at f149
  subst f149 g149
  obtain ⟨cA150, x150, f150, ⟨y150, g150⟩, t150, -⟩ := r150
  dsimp only at f150
  subst f150 g150
  obtain ⟨cA162, x162, f162, ⟨y162, g162⟩, t162, -⟩ := r162
  dsimp only at f162
  subst f162 g162
  obtain ⟨vs0, f0, l0, w0⟩ := r0
  dsimp only at f0
  subst f0
  obtain ⟨u0_0, s0_0, rfl, m0_0⟩ := cu_c l0
  obtain ⟨u0_1, s0_1, rfl, m0_1⟩ := cu_c m0_0
  obtain ⟨u0_2, s0_2, rfl, m0_2⟩ := cu_c m0_1
  obtain ⟨u0_3, s0_3, rfl, m0_3⟩ := cu_c m0_2
  obtain ⟨u0_4, s0_4, rfl, m0_4⟩ := cu_c m0_3
  obtain ⟨u0_5, s0_5, rfl, m0_5⟩ := cu_c m0_4
  obtain ⟨u0_6, s0_6, rfl, m0_6⟩ := cu_c m0_5
  obtain ⟨u0_7, s0_7, rfl, m0_7⟩ := cu_c m0_6
  obtain ⟨u0_8, s0_8, rfl, m0_8⟩ := cu_c m0_7
  obtain ⟨u0_9, s0_9, rfl, m0_9⟩ := cu_c m0_8
  obtain ⟨u0_10, s0_10, rfl, m0_10⟩ := cu_c m0_9
  obtain ⟨u0_11, s0_11, rfl, m0_11⟩ := cu_c m0_10
  obtain ⟨u0_12, s0_12, rfl, m0_12⟩ := cu_c m0_11
  obtain ⟨u0_13, s0_13, rfl, m0_13⟩ := cu_c m0_12
  obtain ⟨u0_14, s0_14, rfl, m0_14⟩ := cu_c m0_13
  obtain ⟨u0_15, s0_15, rfl, m0_15⟩ := cu_c m0_14
  obtain ⟨u0_16, s0_16, rfl, m0_16⟩ := cu_c m0_15
  obtain ⟨u0_17, s0_17, rfl, m0_17⟩ := cu_c m0_16
  obtain ⟨u0_18, s0_18, rfl, m0_18⟩ := cu_c m0_17
  obtain ⟨u0_19, s0_19, rfl, m0_19⟩ := cu_c m0_18
  obtain ⟨u0_20, s0_20, rfl, m0_20⟩ := cu_c m0_19
  obtain ⟨u0_21, s0_21, rfl, m0_21⟩ := cu_c m0_20
  obtain ⟨u0_22, s0_22, rfl, m0_22⟩ := cu_c m0_21
  obtain ⟨u0_23, s0_23, rfl, m0_23⟩ := cu_c m0_22
  obtain ⟨u0_24, s0_24, rfl, m0_24⟩ := cu_c m0_23
  obtain ⟨u0_25, s0_25, rfl, m0_25⟩ := cu_c m0_24
  obtain ⟨u0_26, s0_26, rfl, m0_26⟩ := cu_c m0_25
  obtain ⟨u0_27, s0_27, rfl, m0_27⟩ := cu_c m0_26
  obtain ⟨u0_28, s0_28, rfl, m0_28⟩ := cu_c m0_27
  obtain ⟨u0_29, s0_29, rfl, m0_29⟩ := cu_c m0_28
  obtain ⟨u0_30, s0_30, rfl, m0_30⟩ := cu_c m0_29
  obtain ⟨u0_31, s0_31, rfl, m0_31⟩ := cu_c m0_30
  obtain ⟨u0_32, s0_32, rfl, m0_32⟩ := cu_c m0_31
  obtain ⟨u0_33, s0_33, rfl, m0_33⟩ := cu_c m0_32
  obtain ⟨u0_34, s0_34, rfl, m0_34⟩ := cu_c m0_33
  obtain ⟨u0_35, s0_35, rfl, m0_35⟩ := cu_c m0_34
  obtain ⟨u0_36, s0_36, rfl, m0_36⟩ := cu_c m0_35
  obtain ⟨u0_37, s0_37, rfl, m0_37⟩ := cu_c m0_36
  obtain ⟨u0_38, s0_38, rfl, m0_38⟩ := cu_c m0_37
  obtain ⟨u0_39, s0_39, rfl, m0_39⟩ := cu_c m0_38
  obtain ⟨u0_40, s0_40, rfl, m0_40⟩ := cu_c m0_39
  obtain ⟨u0_41, s0_41, rfl, m0_41⟩ := cu_c m0_40
  obtain ⟨u0_42, s0_42, rfl, m0_42⟩ := cu_c m0_41
  obtain ⟨u0_43, s0_43, rfl, m0_43⟩ := cu_c m0_42
  obtain ⟨u0_44, s0_44, rfl, m0_44⟩ := cu_c m0_43
  obtain ⟨u0_45, s0_45, rfl, m0_45⟩ := cu_c m0_44
  obtain ⟨u0_46, s0_46, rfl, m0_46⟩ := cu_c m0_45
  obtain ⟨u0_47, s0_47, rfl, m0_47⟩ := cu_c m0_46
  obtain ⟨u0_48, s0_48, rfl, m0_48⟩ := cu_c m0_47
  obtain ⟨u0_49, s0_49, rfl, m0_49⟩ := cu_c m0_48
  obtain ⟨u0_50, s0_50, rfl, m0_50⟩ := cu_c m0_49
  cases cu_n m0_50
  obtain ⟨i0_0, q0_0⟩ := cu_I (w0 0 _ _ rfl rfl) rfl
  subst q0_0
  have q0_1 := cu_R (cu_ad hz h4) (w0 1 _ _ rfl rfl)
  subst q0_1
  obtain ⟨i0_2, q0_2⟩ := cu_I (w0 2 _ _ rfl rfl) rfl
  obtain ⟨i0_3, q0_3⟩ := cu_I (w0 3 _ _ rfl rfl) rfl
  subst q0_3
  obtain ⟨i0_4, q0_4⟩ := cu_I (w0 4 _ _ rfl rfl) rfl
  subst q0_4
  obtain ⟨i0_5, q0_5⟩ := cu_I (w0 5 _ _ rfl rfl) rfl
  subst q0_5
  have q0_6 := cu_R (cu_ad hz h1) (w0 6 _ _ rfl rfl)
  subst q0_6
  have q0_7 := cu_R (cu_ad hz h2) (w0 7 _ _ rfl rfl)
  subst q0_7
  have q0_8 := cu_R (cu_ad hz h6) (w0 8 _ _ rfl rfl)
  subst q0_8
  have q0_9 := cu_R (cu_ad hz h149) (w0 9 _ _ rfl rfl)
  subst q0_9
  have q0_10 := cu_R (cu_ad hz h150) (w0 10 _ _ rfl rfl)
  subst q0_10
  obtain ⟨i0_11, q0_11⟩ := cu_I (w0 11 _ _ rfl rfl) rfl
  subst q0_11
  obtain ⟨i0_12, q0_12⟩ := cu_I (w0 12 _ _ rfl rfl) rfl
  subst q0_12
  obtain ⟨i0_13, q0_13⟩ := cu_I (w0 13 _ _ rfl rfl) rfl
  subst q0_13
  obtain ⟨i0_14, q0_14⟩ := cu_I (w0 14 _ _ rfl rfl) rfl
  subst q0_14
  obtain ⟨i0_15, q0_15⟩ := cu_I (w0 15 _ _ rfl rfl) rfl
  subst q0_15
  obtain ⟨i0_16, q0_16⟩ := cu_I (w0 16 _ _ rfl rfl) rfl
  subst q0_16
  obtain ⟨i0_17, q0_17⟩ := cu_L (w0 17 _ _ rfl rfl) rfl
  subst q0_17
  obtain ⟨i0_18, q0_18⟩ := cu_I (w0 18 _ _ rfl rfl) rfl
  subst q0_18
  obtain ⟨i0_19, q0_19⟩ := cu_I (w0 19 _ _ rfl rfl) rfl
  subst q0_19
  obtain ⟨i0_20, q0_20⟩ := cu_I (w0 20 _ _ rfl rfl) rfl
  subst q0_20
  obtain ⟨i0_21, q0_21⟩ := cu_Rx (w0 21 _ _ rfl rfl)
  subst q0_21
  obtain ⟨i0_22, q0_22⟩ := cu_Rx (w0 22 _ _ rfl rfl)
  subst q0_22
  obtain ⟨i0_23, q0_23⟩ := cu_I (w0 23 _ _ rfl rfl) rfl
  subst q0_23
  obtain ⟨i0_24, q0_24⟩ := cu_Rx (w0 24 _ _ rfl rfl)
  subst q0_24
  obtain ⟨i0_25, q0_25⟩ := cu_Rx (w0 25 _ _ rfl rfl)
  subst q0_25
  obtain ⟨i0_26, q0_26⟩ := cu_Rx (w0 26 _ _ rfl rfl)
  subst q0_26
  obtain ⟨i0_27, q0_27⟩ := cu_I (w0 27 _ _ rfl rfl) rfl
  subst q0_27
  obtain ⟨i0_28, q0_28⟩ := cu_I (w0 28 _ _ rfl rfl) rfl
  subst q0_28
  obtain ⟨i0_29, q0_29⟩ := cu_Rx (w0 29 _ _ rfl rfl)
  subst q0_29
  obtain ⟨i0_30, q0_30⟩ := cu_Rx (w0 30 _ _ rfl rfl)
  subst q0_30
  obtain ⟨i0_31, q0_31⟩ := cu_Rx (w0 31 _ _ rfl rfl)
  subst q0_31
  obtain ⟨i0_32, q0_32⟩ := cu_Rx (w0 32 _ _ rfl rfl)
  subst q0_32
  obtain ⟨i0_33, q0_33⟩ := cu_Rx (w0 33 _ _ rfl rfl)
  subst q0_33
  obtain ⟨i0_34, q0_34⟩ := cu_I (w0 34 _ _ rfl rfl) rfl
  subst q0_34
  obtain ⟨i0_35, q0_35⟩ := cu_Rx (w0 35 _ _ rfl rfl)
  subst q0_35
  obtain ⟨i0_36, q0_36⟩ := cu_I (w0 36 _ _ rfl rfl) rfl
  subst q0_36
  obtain ⟨i0_37, q0_37⟩ := cu_I (w0 37 _ _ rfl rfl) rfl
  subst q0_37
  obtain ⟨i0_38, q0_38⟩ := cu_I (w0 38 _ _ rfl rfl) rfl
  subst q0_38
  obtain ⟨i0_39, q0_39⟩ := cu_Rx (w0 39 _ _ rfl rfl)
  subst q0_39
  obtain ⟨i0_40, q0_40⟩ := cu_I (w0 40 _ _ rfl rfl) rfl
  subst q0_40
  have q0_41 := cu_R (cu_ad hz h162) (w0 41 _ _ rfl rfl)
  subst q0_41
  obtain ⟨i0_42, q0_42⟩ := cu_I (w0 42 _ _ rfl rfl) rfl
  subst q0_42
  obtain ⟨i0_43, q0_43⟩ := cu_I (w0 43 _ _ rfl rfl) rfl
  subst q0_43
  obtain ⟨i0_44, q0_44⟩ := cu_I (w0 44 _ _ rfl rfl) rfl
  subst q0_44
  obtain ⟨i0_45, q0_45⟩ := cu_I (w0 45 _ _ rfl rfl) rfl
  subst q0_45
  obtain ⟨i0_46, q0_46⟩ := cu_I (w0 46 _ _ rfl rfl) rfl
  subst q0_46
  obtain ⟨i0_47, q0_47⟩ := cu_Rx (w0 47 _ _ rfl rfl)
  subst q0_47
  obtain ⟨i0_48, q0_48⟩ := cu_Rx (w0 48 _ _ rfl rfl)
  subst q0_48
  obtain ⟨i0_49, q0_49⟩ := cu_Rx (w0 49 _ _ rfl rfl)
  subst q0_49
  obtain ⟨i0_50, q0_50⟩ := cu_Rx (w0 50 _ _ rfl rfl)
  subst q0_50
  have z0 := w0 2 _ _ rfl rfl
  subst q0_2
  refine ⟨((fun j => bif Nat.beq j 0 then i0_0 else bif Nat.beq j 1 then i0_2 else bif Nat.beq j 2 then i0_3 else bif Nat.beq j 3 then i0_4 else bif Nat.beq j 4 then i0_5 else bif Nat.beq j 5 then i0_11 else bif Nat.beq j 6 then i0_12 else bif Nat.beq j 7 then i0_13 else bif Nat.beq j 8 then i0_14 else bif Nat.beq j 9 then i0_15 else bif Nat.beq j 10 then i0_16 else bif Nat.beq j 11 then i0_18 else bif Nat.beq j 12 then i0_19 else bif Nat.beq j 13 then i0_20 else bif Nat.beq j 14 then i0_23 else bif Nat.beq j 15 then i0_27 else bif Nat.beq j 16 then i0_28 else bif Nat.beq j 17 then i0_34 else bif Nat.beq j 18 then i0_36 else bif Nat.beq j 19 then i0_37 else bif Nat.beq j 20 then i0_38 else bif Nat.beq j 21 then i0_40 else bif Nat.beq j 22 then i0_42 else bif Nat.beq j 23 then i0_43 else bif Nat.beq j 24 then i0_44 else bif Nat.beq j 25 then i0_45 else bif Nat.beq j 26 then i0_46 else (0 : Int32)), (fun j => bif Nat.beq j 0 then i0_17 else (0 : Int64)), (fun j => bif Nat.beq j 0 then y4 else bif Nat.beq j 1 then y1 else bif Nat.beq j 2 then y2 else bif Nat.beq j 3 then y6 else bif Nat.beq j 4 then y162 else (fun _ => (0 : Int32))), (fun j => bif Nat.beq j 0 then y149 else bif Nat.beq j 1 then y150 else (fun _ => (0 : Int64)))), ([a0, a4, a1, a2, a6, a149, a150, a162], (fun j => bif Nat.beq j 0 then i0_21 else bif Nat.beq j 1 then i0_22 else bif Nat.beq j 2 then i0_24 else bif Nat.beq j 3 then i0_25 else bif Nat.beq j 4 then i0_26 else bif Nat.beq j 5 then i0_29 else bif Nat.beq j 6 then i0_30 else bif Nat.beq j 7 then i0_31 else bif Nat.beq j 8 then i0_32 else bif Nat.beq j 9 then i0_33 else bif Nat.beq j 10 then i0_35 else bif Nat.beq j 11 then i0_39 else bif Nat.beq j 12 then i0_47 else bif Nat.beq j 13 then i0_48 else bif Nat.beq j 14 then i0_49 else bif Nat.beq j 15 then i0_50 else 0)), [(a0, .inr (11, [.int i0_0, .ref a4, .int i0_2, .int i0_3, .int i0_4, .int i0_5, .ref a1, .ref a2, .ref a6, .ref a149, .ref a150, .int i0_11, .int i0_12, .int i0_13, .int i0_14, .int i0_15, .int i0_16, .long i0_17, .int i0_18, .int i0_19, .int i0_20, .ref i0_21, .ref i0_22, .int i0_23, .ref i0_24, .ref i0_25, .ref i0_26, .int i0_27, .int i0_28, .ref i0_29, .ref i0_30, .ref i0_31, .ref i0_32, .ref i0_33, .int i0_34, .ref i0_35, .int i0_36, .int i0_37, .int i0_38, .ref i0_39, .int i0_40, .ref a162, .int i0_42, .int i0_43, .int i0_44, .int i0_45, .int i0_46, .ref i0_47, .ref i0_48, .ref i0_49, .ref i0_50])),
      (a4, .inl (cA4, 940, .inl y4)),
      (a1, .inl (cA1, 305, .inl y1)),
      (a2, .inl (cA2, 100, .inl y2)),
      (a6, .inl (cA6, 135, .inl y6)),
      (a149, .inl (cA149, 30, .inr (.inl y149))),
      (a150, .inl (cA150, 22, .inr (.inl y150))),
      (a162, .inl (cA162, 45, .inl y162))], ?_, ?_, cu_ev1 z0, ⟨cu_Hn (o2 0 (by decide)), cu_Hn (o2 1 (by decide)), cu_Hn (o2 2 (by decide)), cu_Hn (o1 0 (by decide))⟩⟩
  · refine ⟨rfl, ⟨rfl, Nat.le_of_ble_eq_true rfl⟩, fun k c hk => ?_⟩
    match k, hk with
    | 0, hk => cases hk; exact ⟨_, rfl, rfl⟩
    | 1, hk => cases hk; exact ⟨_, rfl, Nat.le_of_ble_eq_true rfl, Nat.le_of_ble_eq_true rfl, ⟨_, rfl⟩, _, rfl, t4⟩
    | 2, hk => cases hk; exact ⟨_, rfl, Nat.le_of_ble_eq_true rfl, Nat.le_of_ble_eq_true rfl, ⟨_, rfl⟩, _, rfl, t1⟩
    | 3, hk => cases hk; exact ⟨_, rfl, Nat.le_of_ble_eq_true rfl, Nat.le_of_ble_eq_true rfl, ⟨_, rfl⟩, _, rfl, t2⟩
    | 4, hk => cases hk; exact ⟨_, rfl, Nat.le_of_ble_eq_true rfl, Nat.le_of_ble_eq_true rfl, ⟨_, rfl⟩, _, rfl, t6⟩
    | 5, hk => cases hk; exact ⟨_, rfl, Nat.le_of_ble_eq_true rfl, Nat.le_of_ble_eq_true rfl, ⟨_, rfl⟩, _, rfl, t149⟩
    | 6, hk => cases hk; exact ⟨_, rfl, Nat.le_of_ble_eq_true rfl, Nat.le_of_ble_eq_true rfl, ⟨_, rfl⟩, _, rfl, t150⟩
    | 7, hk => cases hk; exact ⟨_, rfl, Nat.le_of_ble_eq_true rfl, Nat.le_of_ble_eq_true rfl, ⟨_, rfl⟩, _, rfl, t162⟩
    | k + 8, hk => cases hk
  · simp only [List.map_cons, List.map_nil, h0, h4, h1, h2, h6, h149, h150, h162]
noncomputable def lw_pS : List (lw_VT × List Nat) := [(lw_VA, [10, 3, 17, 38, 23, 27, 12, 41, 9, 25, 16, 96, 97, 98]), (lw_VA, [10, 3, 17, 38, 22, 26, 12, 41, 8, 24, 16, 96, 97, 98]), (lw_VB, [10, 3, 17, 38, 23, 27, 11, 50, 9, 25, 16, 96, 97, 98]), (lw_VB, [10, 3, 17, 38, 22, 26, 11, 50, 8, 24, 16, 96, 97, 98])]
noncomputable def lw_pT : List Nat := [0, 4, 1, 2, 6, 149, 150, 162]
theorem cu_Sw {X : ab_X} {z : ab_Z} {s : State} {ws : va_W} (hc : ∀ (k : Nat) (c : ab_C), k ∈ cu_KS → gl_L[k]? = some c → ∃ q, ws[k]? = some q ∧ ab_cR X z s c q.2) (hz : ws.map Prod.fst = z.2.2) : ∃ q ∈ lw_pS, ∃ (σ : ex_S) (A : ex_A) (we : va_W), ex_wR X A s (WS σ) we ∧ q.2.map (fun k => ws[k]?) = we.map some ∧ z.1[1]? = some (σ.1 0) ∧ ∃ ad, cu_a ws q.1.1 = some ad ∧ cu_v ws 10 2 = .ref ad := by
  obtain ⟨⟨a1, e1⟩, h1, vs1, f1, l1, w1⟩ := hc 10 _ (by decide) rfl
  dsimp only at f1
  subst f1
  have hjl : 2 < vs1.length := by rw [← l1]; decide
  have el := List.getElem?_eq_getElem hjl
  obtain ⟨kl, hkl, al, dl, bl⟩ := cu_D2 (ks := [11, 12]) (w1 2 _ _ rfl el)
  have cl : cu_v ws 10 2 = .ref al := by rw [cu_v_of h1, List.getD_eq_getElem?_getD, el]; exact bl
  simp only [List.mem_cons, List.not_mem_nil, or_false] at hkl
  have hjg : 8 < vs1.length := by rw [← l1]; decide
  have eg := List.getElem?_eq_getElem hjg
  obtain ⟨kg, hkg, ag, dg, bg⟩ := cu_D2 (ks := [8, 9]) (w1 8 _ _ rfl eg)
  have cg : cu_v ws 10 8 = .ref ag := by rw [cu_v_of h1, List.getD_eq_getElem?_getD, eg]; exact bg
  simp only [List.mem_cons, List.not_mem_nil, or_false] at hkg
  rcases hkl with rfl | rfl <;> rcases hkg with rfl | rfl
  · obtain ⟨σ, A, we, q1, q2, q3⟩ := cu_S_11_8 hc hz ⟨_, dl, cl⟩ ⟨_, dg, cg⟩
    exact ⟨_, List.mem_of_getElem? (show lw_pS[3]? = _ from rfl), σ, A, we, q1, q2, q3, al, (cu_az hz _).trans dl, cl⟩
  · obtain ⟨σ, A, we, q1, q2, q3⟩ := cu_S_11_9 hc hz ⟨_, dl, cl⟩ ⟨_, dg, cg⟩
    exact ⟨_, List.mem_of_getElem? (show lw_pS[2]? = _ from rfl), σ, A, we, q1, q2, q3, al, (cu_az hz _).trans dl, cl⟩
  · obtain ⟨σ, A, we, q1, q2, q3⟩ := cu_S_12_8 hc hz ⟨_, dl, cl⟩ ⟨_, dg, cg⟩
    exact ⟨_, List.mem_of_getElem? (show lw_pS[1]? = _ from rfl), σ, A, we, q1, q2, q3, al, (cu_az hz _).trans dl, cl⟩
  · obtain ⟨σ, A, we, q1, q2, q3⟩ := cu_S_12_9 hc hz ⟨_, dl, cl⟩ ⟨_, dg, cg⟩
    exact ⟨_, List.mem_of_getElem? (show lw_pS[0]? = _ from rfl), σ, A, we, q1, q2, q3, al, (cu_az hz _).trans dl, cl⟩
theorem cu_Sn {X : ab_X} {z : ab_Z} {s : State} {ws : va_W} (hc : ∀ (k : Nat) (c : ab_C), k ∈ cu_KS → gl_L[k]? = some c → ∃ q, ws[k]? = some q ∧ ab_cR X z s c q.2) (hz : ws.map Prod.fst = z.2.2): ∀ q ∈ lw_pS, (0 ≤ (cu_i ws q.1.1 0).toInt ∧ (cu_i ws q.1.1 0).toInt ≤ 7) ∧ (0 ≤ (cu_i ws q.1.1 4).toInt ∧ (cu_i ws q.1.1 4).toInt ≤ 12) ∧ (0 ≤ (cu_i ws q.1.1 9).toInt ∧ (cu_i ws q.1.1 9).toInt ≤ 8) := by
  have go : ∀ (k : Nat) (a : Nat) (ci : Nat) (vs : List Value) (n m r : Int32), ws[k]? = some (a, .inr (ci, vs)) → vs[0]? = some (.int n) → vs[4]? = some (.int m) → vs[9]? = some (.int r) → (0 ≤ n.toInt ∧ n.toInt ≤ 7) → (0 ≤ m.toInt ∧ m.toInt ≤ 12) → (0 ≤ r.toInt ∧ r.toInt ≤ 8) → (0 ≤ (cu_i ws k 0).toInt ∧ (cu_i ws k 0).toInt ≤ 7) ∧ (0 ≤ (cu_i ws k 4).toInt ∧ (cu_i ws k 4).toInt ≤ 12) ∧ (0 ≤ (cu_i ws k 9).toInt ∧ (cu_i ws k 9).toInt ≤ 8) := by
    intro k a ci vs n m r h e0 e1 e2 b0 b1 b2
    have c0 : cu_i ws k 0 = n := by unfold cu_i; rw [cu_v_of h, List.getD_eq_getElem?_getD, e0]; rfl
    have c1 : cu_i ws k 4 = m := by unfold cu_i; rw [cu_v_of h, List.getD_eq_getElem?_getD, e1]; rfl
    have c2 : cu_i ws k 9 = r := by unfold cu_i; rw [cu_v_of h, List.getD_eq_getElem?_getD, e2]; rfl
    rw [c0, c1, c2]
    exact ⟨b0, b1, b2⟩
  unfold lw_pS
  refine List.forall_mem_cons.mpr ⟨?_, List.forall_mem_cons.mpr ⟨?_, List.forall_mem_cons.mpr ⟨?_, List.forall_mem_cons.mpr ⟨?_, fun _ h => nomatch h⟩⟩⟩⟩
  · obtain ⟨⟨a1, e1⟩, h1, vs1, f1, l1, w1⟩ := hc 12 _ (by decide) rfl
    dsimp only at f1
    subst f1
    have hjt : 0 < vs1.length := by rw [← l1]; decide
    have et := List.getElem?_eq_getElem hjt
    obtain ⟨nt, vt, bt, dt⟩ := w1 0 _ _ rfl et
    rw [vt] at et
    have hjm : 4 < vs1.length := by rw [← l1]; decide
    have em := List.getElem?_eq_getElem hjm
    obtain ⟨nm, vm, bm, dm⟩ := w1 4 _ _ rfl em
    rw [vm] at em
    have hjr : 9 < vs1.length := by rw [← l1]; decide
    have er := List.getElem?_eq_getElem hjr
    obtain ⟨nr, vr, br, dr⟩ := w1 9 _ _ rfl er
    rw [vr] at er
    exact go 12 _ _ _ _ _ _ h1 et em er ⟨bt, dt⟩ ⟨bm, dm⟩ ⟨br, dr⟩
  · obtain ⟨⟨a1, e1⟩, h1, vs1, f1, l1, w1⟩ := hc 12 _ (by decide) rfl
    dsimp only at f1
    subst f1
    have hjt : 0 < vs1.length := by rw [← l1]; decide
    have et := List.getElem?_eq_getElem hjt
    obtain ⟨nt, vt, bt, dt⟩ := w1 0 _ _ rfl et
    rw [vt] at et
    have hjm : 4 < vs1.length := by rw [← l1]; decide
    have em := List.getElem?_eq_getElem hjm
    obtain ⟨nm, vm, bm, dm⟩ := w1 4 _ _ rfl em
    rw [vm] at em
    have hjr : 9 < vs1.length := by rw [← l1]; decide
    have er := List.getElem?_eq_getElem hjr
    obtain ⟨nr, vr, br, dr⟩ := w1 9 _ _ rfl er
    rw [vr] at er
    exact go 12 _ _ _ _ _ _ h1 et em er ⟨bt, dt⟩ ⟨bm, dm⟩ ⟨br, dr⟩
  · obtain ⟨⟨a1, e1⟩, h1, vs1, f1, l1, w1⟩ := hc 11 _ (by decide) rfl
    dsimp only at f1
    subst f1
    have hjt : 0 < vs1.length := by rw [← l1]; decide
    have et := List.getElem?_eq_getElem hjt
    obtain ⟨nt, vt, bt, dt⟩ := w1 0 _ _ rfl et
    rw [vt] at et
    have hjm : 4 < vs1.length := by rw [← l1]; decide
    have em := List.getElem?_eq_getElem hjm
    obtain ⟨nm, vm, bm, dm⟩ := w1 4 _ _ rfl em
    rw [vm] at em
    have hjr : 9 < vs1.length := by rw [← l1]; decide
    have er := List.getElem?_eq_getElem hjr
    obtain ⟨nr, vr, br, dr⟩ := w1 9 _ _ rfl er
    rw [vr] at er
    exact go 11 _ _ _ _ _ _ h1 et em er ⟨bt, dt⟩ ⟨bm, dm⟩ ⟨br, dr⟩
  · obtain ⟨⟨a1, e1⟩, h1, vs1, f1, l1, w1⟩ := hc 11 _ (by decide) rfl
    dsimp only at f1
    subst f1
    have hjt : 0 < vs1.length := by rw [← l1]; decide
    have et := List.getElem?_eq_getElem hjt
    obtain ⟨nt, vt, bt, dt⟩ := w1 0 _ _ rfl et
    rw [vt] at et
    have hjm : 4 < vs1.length := by rw [← l1]; decide
    have em := List.getElem?_eq_getElem hjm
    obtain ⟨nm, vm, bm, dm⟩ := w1 4 _ _ rfl em
    rw [vm] at em
    have hjr : 9 < vs1.length := by rw [← l1]; decide
    have er := List.getElem?_eq_getElem hjr
    obtain ⟨nr, vr, br, dr⟩ := w1 9 _ _ rfl er
    rw [vr] at er
    exact go 11 _ _ _ _ _ _ h1 et em er ⟨bt, dt⟩ ⟨bm, dm⟩ ⟨br, dr⟩
