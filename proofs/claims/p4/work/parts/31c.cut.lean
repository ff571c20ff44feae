/-! What a world's cells hold, read off; the exact worlds cut out of the law's world. -/
noncomputable def cu_f (ws : va_W) (k : Nat) : Nat → Int32 := match ws[k]? with
  | some (_, .inl (_, _, .inl f)) => f
  | _ => fun _ => 0
noncomputable def cu_q (ws : va_W) (k : Nat) : Nat → Int64 := match ws[k]? with
  | some (_, .inl (_, _, .inr (.inl f))) => f
  | _ => fun _ => 0
theorem cu_f_of {ws : va_W} {k a n : Nat} {cA : ClassId} {f : Nat → Int32} (h : ws[k]? = some (a, .inl (cA, n, .inl f))) : cu_f ws k = f := by
  unfold cu_f
  rw [h]
theorem cu_q_of {ws : va_W} {k a n : Nat} {cA : ClassId} {f : Nat → Int64} (h : ws[k]? = some (a, .inl (cA, n, .inr (.inl f)))) : cu_q ws k = f := by
  unfold cu_q
  rw [h]
noncomputable def cu_isI (w : ab_w) : Bool := match w with
  | .inl (.inl _) => true
  | .inr (.inl _) => true
  | _ => false
noncomputable def cu_isL (w : ab_w) : Bool := match w with
  | .inl (.inr (.inl _)) => true
  | .inr (.inr none) => true
  | _ => false
theorem cu_I {X : ab_X} {z : ab_Z} {w : ab_w} {v : Value} (h : ab_ho X z w v) (hw : cu_isI w = true) : ∃ x, v = .int x := by
  unfold cu_isI at hw
  split at hw
  · obtain ⟨y, rfl, -⟩ := ab_evi (X := X) h
    exact ⟨y, rfl⟩
  · obtain ⟨n, h1, -⟩ := h
    exact ⟨n, h1⟩
  · cases hw
theorem cu_L {X : ab_X} {z : ab_Z} {w : ab_w} {v : Value} (h : ab_ho X z w v) (hw : cu_isL w = true) : ∃ x, v = .long x := by
  unfold cu_isL at hw
  split at hw
  · obtain ⟨y, rfl, -⟩ := ab_evl (X := X) h
    exact ⟨y, rfl⟩
  · exact h
  · cases hw
theorem cu_R {X : ab_X} {z : ab_Z} {k a : Nat} {v : Value} (hz : z.2.2[k]? = some a) (h : ab_ho X z (.inr (.inr (some [k]))) v) : v = .ref a := by
  obtain ⟨q, hq, b, h1, h2⟩ := h
  cases List.mem_singleton.mp hq
  rw [hz] at h1
  cases h1
  exact h2
theorem cu_Rx {X : ab_X} {z : ab_Z} {ks : List Nat} {v : Value} (h : ab_ho X z (.inr (.inr (some ks))) v) : ∃ a, v = .ref a := by
  obtain ⟨q, hq, b, h1, h2⟩ := h
  exact ⟨b, h2⟩
theorem cu_R2 {X : ab_X} {z : ab_Z} {k1 k2 : Nat} {v : Value} (h : ab_ho X z (.inr (.inr (some [k1, k2]))) v) : (∃ a, z.2.2[k1]? = some a ∧ v = .ref a) ∨ ∃ a, z.2.2[k2]? = some a ∧ v = .ref a := by
  obtain ⟨q, hq, b, h1, h2⟩ := h
  rcases List.mem_cons.mp hq with rfl | hq
  · exact Or.inl ⟨b, h1, h2⟩
  · cases List.mem_singleton.mp hq
    exact Or.inr ⟨b, h1, h2⟩
theorem cu_c {α : Type} {l : List α} {n : Nat} (h : n + 1 = l.length) : ∃ v r, l = v :: r ∧ n = r.length := by
  cases l with
  | nil => simp at h
  | cons v r => exact ⟨v, r, rfl, by simpa using h⟩
theorem cu_n {α : Type} {l : List α} (h : 0 = l.length) : l = [] := List.eq_nil_of_length_eq_zero h.symm
theorem cu_ad {ws : va_W} {z : ab_Z} (hz : ws.map Prod.fst = z.2.2) {k : Nat} {q : Nat × va_E} (h : ws[k]? = some q) : z.2.2[k]? = some q.1 := by
  rw [← hz, List.getElem?_map, h]; rfl
theorem cu_ev1 {X : ab_X} {z : ab_Z} {u : Nat} {x : Int32} (h : ab_ho X z (.inl (.inl (some u, 0))) (.int x)) : z.1[u]? = some x := by
  obtain ⟨y, hy, h2⟩ := ab_evi (X := X) (show ab_ev X z (.inl (some u, 0)) = some (.int x) from h)
  cases hy
  exact ab_evI_v0 h2
/-- a part of a world: its cells stand in the world, no two alike -/
theorem cu_P {D : va_G} {ws we : va_W} {H : Heap} (h : va_P D vwCl ws H) (hs : ∀ q ∈ we, q ∈ ws) : va_P D vwCl we H := fun k q hk => by
  obtain ⟨j, hj⟩ := List.getElem?_of_mem (hs q (List.mem_of_getElem? hk))
  exact h j q hj
theorem cu_D {A : Nat → Prop} {ws we : va_W} (h : va_D A ws) (pos : List Nat) (hp : pos.Nodup) (he : pos.map (fun k => ws[k]?) = we.map some) : va_D A we := by
  have hat : ∀ (k : Nat) (q : Nat × va_E), we[k]? = some q → ∃ j, pos[k]? = some j ∧ ws[j]? = some q := by
    intro k q hk
    have h1 : (we.map some)[k]? = some (some q) := by rw [List.getElem?_map, hk]; rfl
    rw [← he, List.getElem?_map] at h1
    cases hj : pos[k]? with
    | none => rw [hj] at h1; cases h1
    | some j =>
      rw [hj] at h1
      exact ⟨j, rfl, Option.some.inj h1⟩
  refine ⟨fun i j p q hi hj hpq => ?_, fun k q hk => ?_⟩
  · obtain ⟨i', a1, a2⟩ := hat i p hi
    obtain ⟨j', b1, b2⟩ := hat j q hj
    have e := h.1 i' j' p q a2 b2 hpq
    subst e
    obtain ⟨hl, hx⟩ := List.getElem?_eq_some_iff.mp a1
    obtain ⟨hl2, hx2⟩ := List.getElem?_eq_some_iff.mp b1
    rcases Nat.lt_trichotomy i j with hq | hq | hq
    · exact absurd (hx.trans hx2.symm) (List.pairwise_iff_getElem.mp hp _ _ hl hl2 hq)
    · exact hq
    · exact absurd (hx2.trans hx.symm) (List.pairwise_iff_getElem.mp hp _ _ hl2 hl hq)
  · obtain ⟨j, -, b⟩ := hat k q hk
    exact h.2 j q b
noncomputable def cu_F1 : List ab_F := [(true, .inr (.inr (some [3]))), (true, .inr (.inr (some [39]))), (true, .inr (.inr (some [11, 12]))), (true, .inr (.inr (some [11, 12]))), (true, .inr (.inr (some [13]))), (true, .inr (.inr (some [14]))), (true, .inr (.inr (some [15]))), (true, .inr (.inr (some [8, 9]))), (true, .inr (.inr (some [8, 9]))), (true, .inr (.inr (some [16]))), (true, .inr (.inr (some [20]))), (true, .inr (.inr (some [21]))), (true, .inr (.inr (some [102]))), (true, .inr (.inr (some [147]))), (true, .inr (.inl ((-1), 7))), (true, .inr (.inr (some [148]))), (true, .inr (.inl ((-1), 7)))]
noncomputable def cu_KA : List Nat := [3, 8, 9, 10, 11, 12, 13, 15, 17, 18, 30, 31, 32, 33, 34, 35, 36, 37, 38, 39, 40, 41, 42, 43, 44, 45, 46, 47, 48, 49, 50, 51, 52, 53, 54, 55, 56, 57, 58, 59, 60]
noncomputable def cu_KB : List Nat := [0, 1, 2, 4, 6, 149, 150]
set_option maxRecDepth 100000 in
set_option maxHeartbeats 4000000 in
theorem cu_A_11_9 {X : ab_X} {z : ab_Z} {s : State} {ws : va_W} (hc : ∀ (k : Nat) (c : ab_C), k ∈ cu_KA → gl_L[k]? = some c → ∃ q, ws[k]? = some q ∧ ab_cR X z s c q.2) (hz : ws.map Prod.fst = z.2.2) {a10 : Nat} {vs10 : List Value} (h10 : ws[10]? = some (a10, .inr (10, vs10))) (l10 : 17 = vs10.length) (w10 : ∀ (j : Nat) (f : ab_F) (v : Value), (cu_F1 : List ab_F)[j]? = some f → vs10[j]? = some v → ab_ho X z f.2 v) {ad as9 : Nat} (hd : z.2.2[11]? = some ad) (hd2 : vs10[3]? = some (.ref ad)) (hs : z.2.2[9]? = some as9) (hs2 : vs10[7]? = some (.ref as9)) : ∃ (σ : ex_S) (A : ex_A) (we : va_W), ex_wR X A s (WA 2000000 6 σ) we ∧ (∀ q ∈ we, q ∈ ws) ∧ (∃ pos : List Nat, pos.Nodup ∧ pos.map (fun k => ws[k]?) = we.map some) ∧ A.1.getD 0 0 = a10 ∧ (∃ e, ws[17]? = some (A.1.getD 2 0, e)) ∧ (∃ e, ws[3]? = some (A.1.getD 1 0, e)) ∧ σ.2.2.1 0 = cu_f ws 17 ∧ σ.2.2.2 0 = cu_q ws 38 ∧ z.1[1]? = some (σ.1 0) := by
  obtain ⟨u10_0, s10_0, rfl, m10_0⟩ := cu_c l10
  obtain ⟨u10_1, s10_1, rfl, m10_1⟩ := cu_c m10_0
  obtain ⟨u10_2, s10_2, rfl, m10_2⟩ := cu_c m10_1
  obtain ⟨u10_3, s10_3, rfl, m10_3⟩ := cu_c m10_2
  obtain ⟨u10_4, s10_4, rfl, m10_4⟩ := cu_c m10_3
  obtain ⟨u10_5, s10_5, rfl, m10_5⟩ := cu_c m10_4
  obtain ⟨u10_6, s10_6, rfl, m10_6⟩ := cu_c m10_5
  obtain ⟨u10_7, s10_7, rfl, m10_7⟩ := cu_c m10_6
  obtain ⟨u10_8, s10_8, rfl, m10_8⟩ := cu_c m10_7
  obtain ⟨u10_9, s10_9, rfl, m10_9⟩ := cu_c m10_8
  obtain ⟨u10_10, s10_10, rfl, m10_10⟩ := cu_c m10_9
  obtain ⟨u10_11, s10_11, rfl, m10_11⟩ := cu_c m10_10
  obtain ⟨u10_12, s10_12, rfl, m10_12⟩ := cu_c m10_11
  obtain ⟨u10_13, s10_13, rfl, m10_13⟩ := cu_c m10_12
  obtain ⟨u10_14, s10_14, rfl, m10_14⟩ := cu_c m10_13
  obtain ⟨u10_15, s10_15, rfl, m10_15⟩ := cu_c m10_14
  obtain ⟨u10_16, s10_16, rfl, m10_16⟩ := cu_c m10_15
  cases cu_n m10_16
  obtain ⟨⟨a3, e3⟩, h3, r3⟩ := hc 3 _ (by decide) rfl
  obtain ⟨⟨a17, e17⟩, h17, r17⟩ := hc 17 _ (by decide) rfl
  obtain ⟨⟨a38, e38⟩, h38, r38⟩ := hc 38 _ (by decide) rfl
  obtain ⟨⟨a39, e39⟩, h39, r39⟩ := hc 39 _ (by decide) rfl
  obtain ⟨⟨a40, e40⟩, h40, r40⟩ := hc 40 _ (by decide) rfl
  obtain ⟨⟨a11, e11⟩, h11, r11⟩ := hc 11 _ (by decide) rfl
  obtain ⟨⟨a50, e50⟩, h50, r50⟩ := hc 50 _ (by decide) rfl
  obtain ⟨⟨a31, e31⟩, h31, r31⟩ := hc 31 _ (by decide) rfl
  obtain ⟨⟨a51, e51⟩, h51, r51⟩ := hc 51 _ (by decide) rfl
  obtain ⟨⟨a52, e52⟩, h52, r52⟩ := hc 52 _ (by decide) rfl
  obtain ⟨⟨a53, e53⟩, h53, r53⟩ := hc 53 _ (by decide) rfl
  obtain ⟨⟨a54, e54⟩, h54, r54⟩ := hc 54 _ (by decide) rfl
  obtain ⟨⟨a55, e55⟩, h55, r55⟩ := hc 55 _ (by decide) rfl
  obtain ⟨⟨a56, e56⟩, h56, r56⟩ := hc 56 _ (by decide) rfl
  obtain ⟨⟨a33, e33⟩, h33, r33⟩ := hc 33 _ (by decide) rfl
  obtain ⟨⟨a57, e57⟩, h57, r57⟩ := hc 57 _ (by decide) rfl
  obtain ⟨⟨a37, e37⟩, h37, r37⟩ := hc 37 _ (by decide) rfl
  obtain ⟨⟨a58, e58⟩, h58, r58⟩ := hc 58 _ (by decide) rfl
  obtain ⟨⟨a35, e35⟩, h35, r35⟩ := hc 35 _ (by decide) rfl
  obtain ⟨⟨a13, e13⟩, h13, r13⟩ := hc 13 _ (by decide) rfl
  obtain ⟨⟨a18, e18⟩, h18, r18⟩ := hc 18 _ (by decide) rfl
  obtain ⟨⟨a59, e59⟩, h59, r59⟩ := hc 59 _ (by decide) rfl
  obtain ⟨⟨a60, e60⟩, h60, r60⟩ := hc 60 _ (by decide) rfl
  obtain ⟨⟨a9, e9⟩, h9, r9⟩ := hc 9 _ (by decide) rfl
  obtain ⟨⟨a15, e15⟩, h15, r15⟩ := hc 15 _ (by decide) rfl
  obtain ⟨cA17, x17, f17, ⟨y17, g17⟩, t17, -⟩ := r17
  dsimp only at f17
  subst f17 g17
  obtain ⟨cA38, x38, f38, ⟨y38, g38⟩, t38, -⟩ := r38
  dsimp only at f38
  subst f38 g38
  obtain ⟨cA40, x40, f40, ⟨y40, g40⟩, t40, -⟩ := r40
  dsimp only at f40
  subst f40 g40
  obtain ⟨cA50, x50, f50, ⟨y50, g50⟩, t50, -⟩ := r50
  dsimp only at f50
  subst f50 g50
  obtain ⟨cA31, x31, f31, ⟨y31, g31⟩, t31, -⟩ := r31
  dsimp only at f31
  subst f31 g31
  obtain ⟨cA51, x51, f51, ⟨y51, g51⟩, t51, -⟩ := r51
  dsimp only at f51
  subst f51 g51
  obtain ⟨cA52, x52, f52, ⟨y52, g52⟩, t52, -⟩ := r52
  dsimp only at f52
  subst f52 g52
  obtain ⟨cA53, x53, f53, ⟨y53, g53⟩, t53, -⟩ := r53
  dsimp only at f53
  subst f53 g53
  obtain ⟨cA54, x54, f54, ⟨y54, g54⟩, t54, -⟩ := r54
  dsimp only at f54
  subst f54 g54
  obtain ⟨cA55, x55, f55, ⟨y55, g55⟩, t55, -⟩ := r55
  dsimp only at f55
  subst f55 g55
  obtain ⟨cA56, x56, f56, ⟨y56, g56⟩, t56, -⟩ := r56
  dsimp only at f56
  subst f56 g56
  obtain ⟨cA33, x33, f33, ⟨y33, g33⟩, t33, -⟩ := r33
  dsimp only at f33
  subst f33 g33
  obtain ⟨cA57, x57, f57, ⟨y57, g57⟩, t57, -⟩ := r57
  dsimp only at f57
  subst f57 g57
  obtain ⟨cA37, x37, f37, ⟨y37, g37⟩, t37, -⟩ := r37
  dsimp only at f37
  subst f37 g37
  obtain ⟨cA58, x58, f58, ⟨y58, g58⟩, t58, -⟩ := r58
  dsimp only at f58
  subst f58 g58
  obtain ⟨cA35, x35, f35, ⟨y35, g35⟩, t35, -⟩ := r35
  dsimp only at f35
  subst f35 g35
  obtain ⟨cA18, x18, f18, ⟨y18, g18⟩, t18, -⟩ := r18
  dsimp only at f18
  subst f18 g18
  obtain ⟨cA59, x59, f59, ⟨y59, g59⟩, t59, -⟩ := r59
  dsimp only at f59
  subst f59 g59
  obtain ⟨cA60, x60, f60, ⟨y60, g60⟩, t60, -⟩ := r60
  dsimp only at f60
  subst f60 g60
  have q10_0 := cu_R (cu_ad hz h3) (w10 0 _ _ rfl rfl)
  subst q10_0
  have q10_1 := cu_R (cu_ad hz h39) (w10 1 _ _ rfl rfl)
  subst q10_1
  obtain ⟨i10_2, q10_2⟩ := cu_Rx (w10 2 _ _ rfl rfl)
  subst q10_2
  have q10_4 := cu_R (cu_ad hz h13) (w10 4 _ _ rfl rfl)
  subst q10_4
  obtain ⟨i10_5, q10_5⟩ := cu_Rx (w10 5 _ _ rfl rfl)
  subst q10_5
  have q10_6 := cu_R (cu_ad hz h15) (w10 6 _ _ rfl rfl)
  subst q10_6
  obtain ⟨i10_8, q10_8⟩ := cu_Rx (w10 8 _ _ rfl rfl)
  subst q10_8
  obtain ⟨i10_9, q10_9⟩ := cu_Rx (w10 9 _ _ rfl rfl)
  subst q10_9
  obtain ⟨i10_10, q10_10⟩ := cu_Rx (w10 10 _ _ rfl rfl)
  subst q10_10
  obtain ⟨i10_11, q10_11⟩ := cu_Rx (w10 11 _ _ rfl rfl)
  subst q10_11
  obtain ⟨i10_12, q10_12⟩ := cu_Rx (w10 12 _ _ rfl rfl)
  subst q10_12
  obtain ⟨i10_13, q10_13⟩ := cu_Rx (w10 13 _ _ rfl rfl)
  subst q10_13
  obtain ⟨i10_14, q10_14⟩ := cu_I (w10 14 _ _ rfl rfl) rfl
  subst q10_14
  obtain ⟨i10_15, q10_15⟩ := cu_Rx (w10 15 _ _ rfl rfl)
  subst q10_15
  obtain ⟨i10_16, q10_16⟩ := cu_I (w10 16 _ _ rfl rfl) rfl
  subst q10_16
  obtain ⟨vs3, f3, l3, w3⟩ := r3
  dsimp only at f3
  subst f3
  obtain ⟨u3_0, s3_0, rfl, m3_0⟩ := cu_c l3
  obtain ⟨u3_1, s3_1, rfl, m3_1⟩ := cu_c m3_0
  obtain ⟨u3_2, s3_2, rfl, m3_2⟩ := cu_c m3_1
  obtain ⟨u3_3, s3_3, rfl, m3_3⟩ := cu_c m3_2
  obtain ⟨u3_4, s3_4, rfl, m3_4⟩ := cu_c m3_3
  obtain ⟨u3_5, s3_5, rfl, m3_5⟩ := cu_c m3_4
  obtain ⟨u3_6, s3_6, rfl, m3_6⟩ := cu_c m3_5
  obtain ⟨u3_7, s3_7, rfl, m3_7⟩ := cu_c m3_6
  obtain ⟨u3_8, s3_8, rfl, m3_8⟩ := cu_c m3_7
  obtain ⟨u3_9, s3_9, rfl, m3_9⟩ := cu_c m3_8
  obtain ⟨u3_10, s3_10, rfl, m3_10⟩ := cu_c m3_9
  obtain ⟨u3_11, s3_11, rfl, m3_11⟩ := cu_c m3_10
  obtain ⟨u3_12, s3_12, rfl, m3_12⟩ := cu_c m3_11
  obtain ⟨u3_13, s3_13, rfl, m3_13⟩ := cu_c m3_12
  obtain ⟨u3_14, s3_14, rfl, m3_14⟩ := cu_c m3_13
  cases cu_n m3_14
  have q3_0 := cu_R (cu_ad hz h17) (w3 0 _ _ rfl rfl)
  subst q3_0
  obtain ⟨i3_1, q3_1⟩ := cu_I (w3 1 _ _ rfl rfl) rfl
  obtain ⟨i3_2, q3_2⟩ := cu_I (w3 2 _ _ rfl rfl) rfl
  subst q3_2
  obtain ⟨i3_3, q3_3⟩ := cu_I (w3 3 _ _ rfl rfl) rfl
  subst q3_3
  obtain ⟨i3_4, q3_4⟩ := cu_I (w3 4 _ _ rfl rfl) rfl
  subst q3_4
  obtain ⟨i3_5, q3_5⟩ := cu_I (w3 5 _ _ rfl rfl) rfl
  subst q3_5
  obtain ⟨i3_6, q3_6⟩ := cu_L (w3 6 _ _ rfl rfl) rfl
  subst q3_6
  obtain ⟨i3_7, q3_7⟩ := cu_I (w3 7 _ _ rfl rfl) rfl
  subst q3_7
  obtain ⟨i3_8, q3_8⟩ := cu_I (w3 8 _ _ rfl rfl) rfl
  subst q3_8
  obtain ⟨i3_9, q3_9⟩ := cu_I (w3 9 _ _ rfl rfl) rfl
  subst q3_9
  obtain ⟨i3_10, q3_10⟩ := cu_L (w3 10 _ _ rfl rfl) rfl
  subst q3_10
  obtain ⟨i3_11, q3_11⟩ := cu_I (w3 11 _ _ rfl rfl) rfl
  subst q3_11
  obtain ⟨i3_12, q3_12⟩ := cu_I (w3 12 _ _ rfl rfl) rfl
  subst q3_12
  obtain ⟨i3_13, q3_13⟩ := cu_I (w3 13 _ _ rfl rfl) rfl
  subst q3_13
  have q3_14 := cu_R (cu_ad hz h38) (w3 14 _ _ rfl rfl)
  subst q3_14
  obtain ⟨vs39, f39, l39, w39⟩ := r39
  dsimp only at f39
  subst f39
  obtain ⟨u39_0, s39_0, rfl, m39_0⟩ := cu_c l39
  cases cu_n m39_0
  have q39_0 := cu_R (cu_ad hz h40) (w39 0 _ _ rfl rfl)
  subst q39_0
  obtain ⟨vs11, f11, l11, w11⟩ := r11
  dsimp only at f11
  subst f11
  obtain ⟨u11_0, s11_0, rfl, m11_0⟩ := cu_c l11
  obtain ⟨u11_1, s11_1, rfl, m11_1⟩ := cu_c m11_0
  obtain ⟨u11_2, s11_2, rfl, m11_2⟩ := cu_c m11_1
  obtain ⟨u11_3, s11_3, rfl, m11_3⟩ := cu_c m11_2
  obtain ⟨u11_4, s11_4, rfl, m11_4⟩ := cu_c m11_3
  obtain ⟨u11_5, s11_5, rfl, m11_5⟩ := cu_c m11_4
  obtain ⟨u11_6, s11_6, rfl, m11_6⟩ := cu_c m11_5
  obtain ⟨u11_7, s11_7, rfl, m11_7⟩ := cu_c m11_6
  obtain ⟨u11_8, s11_8, rfl, m11_8⟩ := cu_c m11_7
  obtain ⟨u11_9, s11_9, rfl, m11_9⟩ := cu_c m11_8
  obtain ⟨u11_10, s11_10, rfl, m11_10⟩ := cu_c m11_9
  obtain ⟨u11_11, s11_11, rfl, m11_11⟩ := cu_c m11_10
  obtain ⟨u11_12, s11_12, rfl, m11_12⟩ := cu_c m11_11
  obtain ⟨u11_13, s11_13, rfl, m11_13⟩ := cu_c m11_12
  obtain ⟨u11_14, s11_14, rfl, m11_14⟩ := cu_c m11_13
  obtain ⟨u11_15, s11_15, rfl, m11_15⟩ := cu_c m11_14
  cases cu_n m11_15
  obtain ⟨i11_0, q11_0⟩ := cu_I (w11 0 _ _ rfl rfl) rfl
  subst q11_0
  have q11_1 := cu_R (cu_ad hz h50) (w11 1 _ _ rfl rfl)
  subst q11_1
  have q11_2 := cu_R (cu_ad hz h31) (w11 2 _ _ rfl rfl)
  subst q11_2
  have q11_3 := cu_R (cu_ad hz h51) (w11 3 _ _ rfl rfl)
  subst q11_3
  obtain ⟨i11_4, q11_4⟩ := cu_I (w11 4 _ _ rfl rfl) rfl
  subst q11_4
  have q11_5 := cu_R (cu_ad hz h52) (w11 5 _ _ rfl rfl)
  subst q11_5
  have q11_6 := cu_R (cu_ad hz h53) (w11 6 _ _ rfl rfl)
  subst q11_6
  have q11_7 := cu_R (cu_ad hz h54) (w11 7 _ _ rfl rfl)
  subst q11_7
  have q11_8 := cu_R (cu_ad hz h55) (w11 8 _ _ rfl rfl)
  subst q11_8
  obtain ⟨i11_9, q11_9⟩ := cu_I (w11 9 _ _ rfl rfl) rfl
  subst q11_9
  have q11_10 := cu_R (cu_ad hz h56) (w11 10 _ _ rfl rfl)
  subst q11_10
  have q11_11 := cu_R (cu_ad hz h33) (w11 11 _ _ rfl rfl)
  subst q11_11
  have q11_12 := cu_R (cu_ad hz h57) (w11 12 _ _ rfl rfl)
  subst q11_12
  have q11_13 := cu_R (cu_ad hz h37) (w11 13 _ _ rfl rfl)
  subst q11_13
  have q11_14 := cu_R (cu_ad hz h58) (w11 14 _ _ rfl rfl)
  subst q11_14
  have q11_15 := cu_R (cu_ad hz h35) (w11 15 _ _ rfl rfl)
  subst q11_15
  obtain ⟨vs13, f13, l13, w13⟩ := r13
  dsimp only at f13
  subst f13
  obtain ⟨u13_0, s13_0, rfl, m13_0⟩ := cu_c l13
  obtain ⟨u13_1, s13_1, rfl, m13_1⟩ := cu_c m13_0
  obtain ⟨u13_2, s13_2, rfl, m13_2⟩ := cu_c m13_1
  obtain ⟨u13_3, s13_3, rfl, m13_3⟩ := cu_c m13_2
  obtain ⟨u13_4, s13_4, rfl, m13_4⟩ := cu_c m13_3
  obtain ⟨u13_5, s13_5, rfl, m13_5⟩ := cu_c m13_4
  obtain ⟨u13_6, s13_6, rfl, m13_6⟩ := cu_c m13_5
  cases cu_n m13_6
  obtain ⟨i13_0, q13_0⟩ := cu_I (w13 0 _ _ rfl rfl) rfl
  subst q13_0
  obtain ⟨i13_1, q13_1⟩ := cu_I (w13 1 _ _ rfl rfl) rfl
  subst q13_1
  obtain ⟨i13_2, q13_2⟩ := cu_I (w13 2 _ _ rfl rfl) rfl
  subst q13_2
  have q13_3 := cu_R (cu_ad hz h18) (w13 3 _ _ rfl rfl)
  subst q13_3
  have q13_4 := cu_R (cu_ad hz h59) (w13 4 _ _ rfl rfl)
  subst q13_4
  have q13_5 := cu_R (cu_ad hz h60) (w13 5 _ _ rfl rfl)
  subst q13_5
  obtain ⟨i13_6, q13_6⟩ := cu_I (w13 6 _ _ rfl rfl) rfl
  subst q13_6
  obtain ⟨vs9, f9, l9, w9⟩ := r9
  dsimp only at f9
  subst f9
  obtain ⟨u9_0, s9_0, rfl, m9_0⟩ := cu_c l9
  obtain ⟨u9_1, s9_1, rfl, m9_1⟩ := cu_c m9_0
  obtain ⟨u9_2, s9_2, rfl, m9_2⟩ := cu_c m9_1
  obtain ⟨u9_3, s9_3, rfl, m9_3⟩ := cu_c m9_2
  obtain ⟨u9_4, s9_4, rfl, m9_4⟩ := cu_c m9_3
  cases cu_n m9_4
  obtain ⟨i9_0, q9_0⟩ := cu_Rx (w9 0 _ _ rfl rfl)
  subst q9_0
  obtain ⟨i9_1, q9_1⟩ := cu_Rx (w9 1 _ _ rfl rfl)
  subst q9_1
  obtain ⟨i9_2, q9_2⟩ := cu_Rx (w9 2 _ _ rfl rfl)
  subst q9_2
  obtain ⟨i9_3, q9_3⟩ := cu_I (w9 3 _ _ rfl rfl) rfl
  subst q9_3
  obtain ⟨i9_4, q9_4⟩ := cu_I (w9 4 _ _ rfl rfl) rfl
  subst q9_4
  obtain ⟨vs15, f15, l15, w15⟩ := r15
  dsimp only at f15
  subst f15
  obtain ⟨u15_0, s15_0, rfl, m15_0⟩ := cu_c l15
  obtain ⟨u15_1, s15_1, rfl, m15_1⟩ := cu_c m15_0
  cases cu_n m15_1
  obtain ⟨i15_0, q15_0⟩ := cu_Rx (w15 0 _ _ rfl rfl)
  subst q15_0
  obtain ⟨i15_1, q15_1⟩ := cu_I (w15 1 _ _ rfl rfl) rfl
  subst q15_1
  have ed := hd.symm.trans (cu_ad hz h11)
  cases ed
  have es := hs.symm.trans (cu_ad hz h9)
  cases es
  have qd : u10_3 = .ref a11 := Option.some.inj hd2
  subst qd
  have qs : u10_7 = .ref a9 := Option.some.inj hs2
  subst qs
  subst q3_1
  refine ⟨((fun j => match j with
      | 0 => i3_1
      | 1 => i3_2
      | 2 => i3_3
      | 3 => i3_4
      | 4 => i3_5
      | 5 => i3_7
      | 6 => i3_8
      | 7 => i3_9
      | 8 => i3_11
      | 9 => i3_12
      | 10 => i3_13
      | 11 => i11_0
      | 12 => i11_4
      | 13 => i11_9
      | 14 => i10_14
      | 15 => i10_16
      | 16 => i13_0
      | 17 => i13_1
      | 18 => i13_2
      | 19 => i13_6
      | 20 => i9_3
      | 21 => i9_4
      | 22 => i15_1
      | _ => (0 : Int32)), (fun j => match j with
      | 0 => i3_6
      | 1 => i3_10
      | _ => (0 : Int64)), (fun j => match j with
      | 0 => y17
      | 1 => y31
      | 2 => y51
      | 3 => y52
      | 4 => y53
      | 5 => y54
      | 6 => y55
      | 7 => y33
      | 8 => y57
      | 9 => y37
      | 10 => y58
      | 11 => y35
      | 12 => y40
      | 13 => y18
      | 14 => y59
      | 15 => y60
      | _ => (fun _ => (0 : Int32))), (fun j => match j with
      | 0 => y38
      | 1 => y50
      | 2 => y56
      | _ => (fun _ => (0 : Int64)))), ([a10, a3, a17, a38, a39, a40, a11, a50, a31, a51, a52, a53, a54, a55, a56, a33, a57, a37, a58, a35, a13, a18, a59, a60, a9, a15], (fun j => match j with
      | 0 => i10_2
      | 1 => i10_5
      | 2 => i10_8
      | 3 => i10_9
      | 4 => i10_10
      | 5 => i10_11
      | 6 => i10_12
      | 7 => i10_13
      | 8 => i10_15
      | 9 => i9_0
      | 10 => i9_1
      | 11 => i9_2
      | 12 => i15_0
      | _ => 0)), [(a10, .inr (10, [.ref a3, .ref a39, .ref i10_2, .ref a11, .ref a13, .ref i10_5, .ref a15, .ref a9, .ref i10_8, .ref i10_9, .ref i10_10, .ref i10_11, .ref i10_12, .ref i10_13, .int i10_14, .ref i10_15, .int i10_16])),
      (a3, .inr (4, [.ref a17, .int i3_1, .int i3_2, .int i3_3, .int i3_4, .int i3_5, .long i3_6, .int i3_7, .int i3_8, .int i3_9, .long i3_10, .int i3_11, .int i3_12, .int i3_13, .ref a38])),
      (a17, .inl (cA17, 940, .inl y17)),
      (a38, .inl (cA38, 22, .inr (.inl y38))),
      (a39, .inr (9, [.ref a40])),
      (a40, .inl (cA40, 3, .inl y40)),
      (a11, .inr (8, [.int i11_0, .ref a50, .ref a31, .ref a51, .int i11_4, .ref a52, .ref a53, .ref a54, .ref a55, .int i11_9, .ref a56, .ref a33, .ref a57, .ref a37, .ref a58, .ref a35])),
      (a50, .inl (cA50, 7, .inr (.inl y50))),
      (a31, .inl (cA31, 7, .inl y31)),
      (a51, .inl (cA51, 7, .inl y51)),
      (a52, .inl (cA52, 12, .inl y52)),
      (a53, .inl (cA53, 12, .inl y53)),
      (a54, .inl (cA54, 12, .inl y54)),
      (a55, .inl (cA55, 12, .inl y55)),
      (a56, .inl (cA56, 8, .inr (.inl y56))),
      (a33, .inl (cA33, 8, .inl y33)),
      (a57, .inl (cA57, 8, .inl y57)),
      (a37, .inl (cA37, 8, .inl y37)),
      (a58, .inl (cA58, 8, .inl y58)),
      (a35, .inl (cA35, 3, .inl y35)),
      (a13, .inr (7, [.int i13_0, .int i13_1, .int i13_2, .ref a18, .ref a59, .ref a60, .int i13_6])),
      (a18, .inl (cA18, 7, .inl y18)),
      (a59, .inl (cA59, 7, .inl y59)),
      (a60, .inl (cA60, 7, .inl y60)),
      (a9, .inr (6, [.ref i9_0, .ref i9_1, .ref i9_2, .int i9_3, .int i9_4])),
      (a15, .inr (1, [.ref i15_0, .int i15_1]))], ?_, ?_, ?_, rfl, ⟨_, h17⟩, ⟨_, h3⟩, (cu_f_of h17).symm, (cu_q_of h38).symm, cu_ev1 (w3 1 _ _ rfl rfl)⟩
  · refine ⟨rfl, ⟨rfl, Nat.le_of_ble_eq_true rfl⟩, fun k c hk => ?_⟩
    match k, hk with
    | 0, hk => cases hk; exact ⟨_, rfl, rfl⟩
    | 1, hk => cases hk; exact ⟨_, rfl, rfl⟩
    | 2, hk => cases hk; exact ⟨_, rfl, Nat.le_of_ble_eq_true rfl, Nat.le_of_ble_eq_true rfl, ⟨_, rfl⟩, _, rfl, t17⟩
    | 3, hk => cases hk; exact ⟨_, rfl, Nat.le_of_ble_eq_true rfl, Nat.le_of_ble_eq_true rfl, ⟨_, rfl⟩, _, rfl, t38⟩
    | 4, hk => cases hk; exact ⟨_, rfl, rfl⟩
    | 5, hk => cases hk; exact ⟨_, rfl, Nat.le_of_ble_eq_true rfl, Nat.le_of_ble_eq_true rfl, ⟨_, rfl⟩, _, rfl, t40⟩
    | 6, hk => cases hk; exact ⟨_, rfl, rfl⟩
    | 7, hk => cases hk; exact ⟨_, rfl, Nat.le_of_ble_eq_true rfl, Nat.le_of_ble_eq_true rfl, ⟨_, rfl⟩, _, rfl, t50⟩
    | 8, hk => cases hk; exact ⟨_, rfl, Nat.le_of_ble_eq_true rfl, Nat.le_of_ble_eq_true rfl, ⟨_, rfl⟩, _, rfl, t31⟩
    | 9, hk => cases hk; exact ⟨_, rfl, Nat.le_of_ble_eq_true rfl, Nat.le_of_ble_eq_true rfl, ⟨_, rfl⟩, _, rfl, t51⟩
    | 10, hk => cases hk; exact ⟨_, rfl, Nat.le_of_ble_eq_true rfl, Nat.le_of_ble_eq_true rfl, ⟨_, rfl⟩, _, rfl, t52⟩
    | 11, hk => cases hk; exact ⟨_, rfl, Nat.le_of_ble_eq_true rfl, Nat.le_of_ble_eq_true rfl, ⟨_, rfl⟩, _, rfl, t53⟩
    | 12, hk => cases hk; exact ⟨_, rfl, Nat.le_of_ble_eq_true rfl, Nat.le_of_ble_eq_true rfl, ⟨_, rfl⟩, _, rfl, t54⟩
    | 13, hk => cases hk; exact ⟨_, rfl, Nat.le_of_ble_eq_true rfl, Nat.le_of_ble_eq_true rfl, ⟨_, rfl⟩, _, rfl, t55⟩
    | 14, hk => cases hk; exact ⟨_, rfl, Nat.le_of_ble_eq_true rfl, Nat.le_of_ble_eq_true rfl, ⟨_, rfl⟩, _, rfl, t56⟩
    | 15, hk => cases hk; exact ⟨_, rfl, Nat.le_of_ble_eq_true rfl, Nat.le_of_ble_eq_true rfl, ⟨_, rfl⟩, _, rfl, t33⟩
    | 16, hk => cases hk; exact ⟨_, rfl, Nat.le_of_ble_eq_true rfl, Nat.le_of_ble_eq_true rfl, ⟨_, rfl⟩, _, rfl, t57⟩
    | 17, hk => cases hk; exact ⟨_, rfl, Nat.le_of_ble_eq_true rfl, Nat.le_of_ble_eq_true rfl, ⟨_, rfl⟩, _, rfl, t37⟩
    | 18, hk => cases hk; exact ⟨_, rfl, Nat.le_of_ble_eq_true rfl, Nat.le_of_ble_eq_true rfl, ⟨_, rfl⟩, _, rfl, t58⟩
    | 19, hk => cases hk; exact ⟨_, rfl, Nat.le_of_ble_eq_true rfl, Nat.le_of_ble_eq_true rfl, ⟨_, rfl⟩, _, rfl, t35⟩
    | 20, hk => cases hk; exact ⟨_, rfl, rfl⟩
    | 21, hk => cases hk; exact ⟨_, rfl, Nat.le_of_ble_eq_true rfl, Nat.le_of_ble_eq_true rfl, ⟨_, rfl⟩, _, rfl, t18⟩
    | 22, hk => cases hk; exact ⟨_, rfl, Nat.le_of_ble_eq_true rfl, Nat.le_of_ble_eq_true rfl, ⟨_, rfl⟩, _, rfl, t59⟩
    | 23, hk => cases hk; exact ⟨_, rfl, Nat.le_of_ble_eq_true rfl, Nat.le_of_ble_eq_true rfl, ⟨_, rfl⟩, _, rfl, t60⟩
    | 24, hk => cases hk; exact ⟨_, rfl, rfl⟩
    | 25, hk => cases hk; exact ⟨_, rfl, rfl⟩
    | k + 26, hk => cases hk
  · intro q hq
    simp only [List.mem_cons, List.not_mem_nil, or_false] at hq
    rcases hq with rfl | rfl | rfl | rfl | rfl | rfl | rfl | rfl | rfl | rfl | rfl | rfl | rfl | rfl | rfl | rfl | rfl | rfl | rfl | rfl | rfl | rfl | rfl | rfl | rfl | rfl
    · exact List.mem_of_getElem? h10
    · exact List.mem_of_getElem? h3
    · exact List.mem_of_getElem? h17
    · exact List.mem_of_getElem? h38
    · exact List.mem_of_getElem? h39
    · exact List.mem_of_getElem? h40
    · exact List.mem_of_getElem? h11
    · exact List.mem_of_getElem? h50
    · exact List.mem_of_getElem? h31
    · exact List.mem_of_getElem? h51
    · exact List.mem_of_getElem? h52
    · exact List.mem_of_getElem? h53
    · exact List.mem_of_getElem? h54
    · exact List.mem_of_getElem? h55
    · exact List.mem_of_getElem? h56
    · exact List.mem_of_getElem? h33
    · exact List.mem_of_getElem? h57
    · exact List.mem_of_getElem? h37
    · exact List.mem_of_getElem? h58
    · exact List.mem_of_getElem? h35
    · exact List.mem_of_getElem? h13
    · exact List.mem_of_getElem? h18
    · exact List.mem_of_getElem? h59
    · exact List.mem_of_getElem? h60
    · exact List.mem_of_getElem? h9
    · exact List.mem_of_getElem? h15
  · exact ⟨[10, 3, 17, 38, 39, 40, 11, 50, 31, 51, 52, 53, 54, 55, 56, 33, 57, 37, 58, 35, 13, 18, 59, 60, 9, 15], by decide, by simp only [List.map_cons, List.map_nil, h10, h3, h17, h38, h39, h40, h11, h50, h31, h51, h52, h53, h54, h55, h56, h33, h57, h37, h58, h35, h13, h18, h59, h60, h9, h15]⟩
set_option maxRecDepth 100000 in
set_option maxHeartbeats 4000000 in
theorem cu_A_11_8 {X : ab_X} {z : ab_Z} {s : State} {ws : va_W} (hc : ∀ (k : Nat) (c : ab_C), k ∈ cu_KA → gl_L[k]? = some c → ∃ q, ws[k]? = some q ∧ ab_cR X z s c q.2) (hz : ws.map Prod.fst = z.2.2) {a10 : Nat} {vs10 : List Value} (h10 : ws[10]? = some (a10, .inr (10, vs10))) (l10 : 17 = vs10.length) (w10 : ∀ (j : Nat) (f : ab_F) (v : Value), (cu_F1 : List ab_F)[j]? = some f → vs10[j]? = some v → ab_ho X z f.2 v) {ad as9 : Nat} (hd : z.2.2[11]? = some ad) (hd2 : vs10[3]? = some (.ref ad)) (hs : z.2.2[8]? = some as9) (hs2 : vs10[7]? = some (.ref as9)) : ∃ (σ : ex_S) (A : ex_A) (we : va_W), ex_wR X A s (WA 2000000 6 σ) we ∧ (∀ q ∈ we, q ∈ ws) ∧ (∃ pos : List Nat, pos.Nodup ∧ pos.map (fun k => ws[k]?) = we.map some) ∧ A.1.getD 0 0 = a10 ∧ (∃ e, ws[17]? = some (A.1.getD 2 0, e)) ∧ (∃ e, ws[3]? = some (A.1.getD 1 0, e)) ∧ σ.2.2.1 0 = cu_f ws 17 ∧ σ.2.2.2 0 = cu_q ws 38 ∧ z.1[1]? = some (σ.1 0) := by
  obtain ⟨u10_0, s10_0, rfl, m10_0⟩ := cu_c l10
  obtain ⟨u10_1, s10_1, rfl, m10_1⟩ := cu_c m10_0
  obtain ⟨u10_2, s10_2, rfl, m10_2⟩ := cu_c m10_1
  obtain ⟨u10_3, s10_3, rfl, m10_3⟩ := cu_c m10_2
  obtain ⟨u10_4, s10_4, rfl, m10_4⟩ := cu_c m10_3
  obtain ⟨u10_5, s10_5, rfl, m10_5⟩ := cu_c m10_4
  obtain ⟨u10_6, s10_6, rfl, m10_6⟩ := cu_c m10_5
  obtain ⟨u10_7, s10_7, rfl, m10_7⟩ := cu_c m10_6
  obtain ⟨u10_8, s10_8, rfl, m10_8⟩ := cu_c m10_7
  obtain ⟨u10_9, s10_9, rfl, m10_9⟩ := cu_c m10_8
  obtain ⟨u10_10, s10_10, rfl, m10_10⟩ := cu_c m10_9
  obtain ⟨u10_11, s10_11, rfl, m10_11⟩ := cu_c m10_10
  obtain ⟨u10_12, s10_12, rfl, m10_12⟩ := cu_c m10_11
  obtain ⟨u10_13, s10_13, rfl, m10_13⟩ := cu_c m10_12
  obtain ⟨u10_14, s10_14, rfl, m10_14⟩ := cu_c m10_13
  obtain ⟨u10_15, s10_15, rfl, m10_15⟩ := cu_c m10_14
  obtain ⟨u10_16, s10_16, rfl, m10_16⟩ := cu_c m10_15
  cases cu_n m10_16
  obtain ⟨⟨a3, e3⟩, h3, r3⟩ := hc 3 _ (by decide) rfl
  obtain ⟨⟨a17, e17⟩, h17, r17⟩ := hc 17 _ (by decide) rfl
  obtain ⟨⟨a38, e38⟩, h38, r38⟩ := hc 38 _ (by decide) rfl
  obtain ⟨⟨a39, e39⟩, h39, r39⟩ := hc 39 _ (by decide) rfl
  obtain ⟨⟨a40, e40⟩, h40, r40⟩ := hc 40 _ (by decide) rfl
  obtain ⟨⟨a11, e11⟩, h11, r11⟩ := hc 11 _ (by decide) rfl
  obtain ⟨⟨a50, e50⟩, h50, r50⟩ := hc 50 _ (by decide) rfl
  obtain ⟨⟨a31, e31⟩, h31, r31⟩ := hc 31 _ (by decide) rfl
  obtain ⟨⟨a51, e51⟩, h51, r51⟩ := hc 51 _ (by decide) rfl
  obtain ⟨⟨a52, e52⟩, h52, r52⟩ := hc 52 _ (by decide) rfl
  obtain ⟨⟨a53, e53⟩, h53, r53⟩ := hc 53 _ (by decide) rfl
  obtain ⟨⟨a54, e54⟩, h54, r54⟩ := hc 54 _ (by decide) rfl
  obtain ⟨⟨a55, e55⟩, h55, r55⟩ := hc 55 _ (by decide) rfl
  obtain ⟨⟨a56, e56⟩, h56, r56⟩ := hc 56 _ (by decide) rfl
  obtain ⟨⟨a33, e33⟩, h33, r33⟩ := hc 33 _ (by decide) rfl
  obtain ⟨⟨a57, e57⟩, h57, r57⟩ := hc 57 _ (by decide) rfl
  obtain ⟨⟨a37, e37⟩, h37, r37⟩ := hc 37 _ (by decide) rfl
  obtain ⟨⟨a58, e58⟩, h58, r58⟩ := hc 58 _ (by decide) rfl
  obtain ⟨⟨a35, e35⟩, h35, r35⟩ := hc 35 _ (by decide) rfl
  obtain ⟨⟨a13, e13⟩, h13, r13⟩ := hc 13 _ (by decide) rfl
  obtain ⟨⟨a18, e18⟩, h18, r18⟩ := hc 18 _ (by decide) rfl
  obtain ⟨⟨a59, e59⟩, h59, r59⟩ := hc 59 _ (by decide) rfl
  obtain ⟨⟨a60, e60⟩, h60, r60⟩ := hc 60 _ (by decide) rfl
  obtain ⟨⟨a8, e8⟩, h8, r8⟩ := hc 8 _ (by decide) rfl
  obtain ⟨⟨a15, e15⟩, h15, r15⟩ := hc 15 _ (by decide) rfl
  obtain ⟨cA17, x17, f17, ⟨y17, g17⟩, t17, -⟩ := r17
  dsimp only at f17
  subst f17 g17
  obtain ⟨cA38, x38, f38, ⟨y38, g38⟩, t38, -⟩ := r38
  dsimp only at f38
  subst f38 g38
  obtain ⟨cA40, x40, f40, ⟨y40, g40⟩, t40, -⟩ := r40
  dsimp only at f40
  subst f40 g40
  obtain ⟨cA50, x50, f50, ⟨y50, g50⟩, t50, -⟩ := r50
  dsimp only at f50
  subst f50 g50
  obtain ⟨cA31, x31, f31, ⟨y31, g31⟩, t31, -⟩ := r31
  dsimp only at f31
  subst f31 g31
  obtain ⟨cA51, x51, f51, ⟨y51, g51⟩, t51, -⟩ := r51
  dsimp only at f51
  subst f51 g51
  obtain ⟨cA52, x52, f52, ⟨y52, g52⟩, t52, -⟩ := r52
  dsimp only at f52
  subst f52 g52
  obtain ⟨cA53, x53, f53, ⟨y53, g53⟩, t53, -⟩ := r53
  dsimp only at f53
  subst f53 g53
  obtain ⟨cA54, x54, f54, ⟨y54, g54⟩, t54, -⟩ := r54
  dsimp only at f54
  subst f54 g54
  obtain ⟨cA55, x55, f55, ⟨y55, g55⟩, t55, -⟩ := r55
  dsimp only at f55
  subst f55 g55
  obtain ⟨cA56, x56, f56, ⟨y56, g56⟩, t56, -⟩ := r56
  dsimp only at f56
  subst f56 g56
  obtain ⟨cA33, x33, f33, ⟨y33, g33⟩, t33, -⟩ := r33
  dsimp only at f33
  subst f33 g33
  obtain ⟨cA57, x57, f57, ⟨y57, g57⟩, t57, -⟩ := r57
  dsimp only at f57
  subst f57 g57
  obtain ⟨cA37, x37, f37, ⟨y37, g37⟩, t37, -⟩ := r37
  dsimp only at f37
  subst f37 g37
  obtain ⟨cA58, x58, f58, ⟨y58, g58⟩, t58, -⟩ := r58
  dsimp only at f58
  subst f58 g58
  obtain ⟨cA35, x35, f35, ⟨y35, g35⟩, t35, -⟩ := r35
  dsimp only at f35
  subst f35 g35
  obtain ⟨cA18, x18, f18, ⟨y18, g18⟩, t18, -⟩ := r18
  dsimp only at f18
  subst f18 g18
  obtain ⟨cA59, x59, f59, ⟨y59, g59⟩, t59, -⟩ := r59
  dsimp only at f59
  subst f59 g59
  obtain ⟨cA60, x60, f60, ⟨y60, g60⟩, t60, -⟩ := r60
  dsimp only at f60
  subst f60 g60
  have q10_0 := cu_R (cu_ad hz h3) (w10 0 _ _ rfl rfl)
  subst q10_0
  have q10_1 := cu_R (cu_ad hz h39) (w10 1 _ _ rfl rfl)
  subst q10_1
  obtain ⟨i10_2, q10_2⟩ := cu_Rx (w10 2 _ _ rfl rfl)
  subst q10_2
  have q10_4 := cu_R (cu_ad hz h13) (w10 4 _ _ rfl rfl)
  subst q10_4
  obtain ⟨i10_5, q10_5⟩ := cu_Rx (w10 5 _ _ rfl rfl)
  subst q10_5
  have q10_6 := cu_R (cu_ad hz h15) (w10 6 _ _ rfl rfl)
  subst q10_6
  obtain ⟨i10_8, q10_8⟩ := cu_Rx (w10 8 _ _ rfl rfl)
  subst q10_8
  obtain ⟨i10_9, q10_9⟩ := cu_Rx (w10 9 _ _ rfl rfl)
  subst q10_9
  obtain ⟨i10_10, q10_10⟩ := cu_Rx (w10 10 _ _ rfl rfl)
  subst q10_10
  obtain ⟨i10_11, q10_11⟩ := cu_Rx (w10 11 _ _ rfl rfl)
  subst q10_11
  obtain ⟨i10_12, q10_12⟩ := cu_Rx (w10 12 _ _ rfl rfl)
  subst q10_12
  obtain ⟨i10_13, q10_13⟩ := cu_Rx (w10 13 _ _ rfl rfl)
  subst q10_13
  obtain ⟨i10_14, q10_14⟩ := cu_I (w10 14 _ _ rfl rfl) rfl
  subst q10_14
  obtain ⟨i10_15, q10_15⟩ := cu_Rx (w10 15 _ _ rfl rfl)
  subst q10_15
  obtain ⟨i10_16, q10_16⟩ := cu_I (w10 16 _ _ rfl rfl) rfl
  subst q10_16
  obtain ⟨vs3, f3, l3, w3⟩ := r3
  dsimp only at f3
  subst f3
  obtain ⟨u3_0, s3_0, rfl, m3_0⟩ := cu_c l3
  obtain ⟨u3_1, s3_1, rfl, m3_1⟩ := cu_c m3_0
  obtain ⟨u3_2, s3_2, rfl, m3_2⟩ := cu_c m3_1
  obtain ⟨u3_3, s3_3, rfl, m3_3⟩ := cu_c m3_2
  obtain ⟨u3_4, s3_4, rfl, m3_4⟩ := cu_c m3_3
  obtain ⟨u3_5, s3_5, rfl, m3_5⟩ := cu_c m3_4
  obtain ⟨u3_6, s3_6, rfl, m3_6⟩ := cu_c m3_5
  obtain ⟨u3_7, s3_7, rfl, m3_7⟩ := cu_c m3_6
  obtain ⟨u3_8, s3_8, rfl, m3_8⟩ := cu_c m3_7
  obtain ⟨u3_9, s3_9, rfl, m3_9⟩ := cu_c m3_8
  obtain ⟨u3_10, s3_10, rfl, m3_10⟩ := cu_c m3_9
  obtain ⟨u3_11, s3_11, rfl, m3_11⟩ := cu_c m3_10
  obtain ⟨u3_12, s3_12, rfl, m3_12⟩ := cu_c m3_11
  obtain ⟨u3_13, s3_13, rfl, m3_13⟩ := cu_c m3_12
  obtain ⟨u3_14, s3_14, rfl, m3_14⟩ := cu_c m3_13
  cases cu_n m3_14
  have q3_0 := cu_R (cu_ad hz h17) (w3 0 _ _ rfl rfl)
  subst q3_0
  obtain ⟨i3_1, q3_1⟩ := cu_I (w3 1 _ _ rfl rfl) rfl
  obtain ⟨i3_2, q3_2⟩ := cu_I (w3 2 _ _ rfl rfl) rfl
  subst q3_2
  obtain ⟨i3_3, q3_3⟩ := cu_I (w3 3 _ _ rfl rfl) rfl
  subst q3_3
  obtain ⟨i3_4, q3_4⟩ := cu_I (w3 4 _ _ rfl rfl) rfl
  subst q3_4
  obtain ⟨i3_5, q3_5⟩ := cu_I (w3 5 _ _ rfl rfl) rfl
  subst q3_5
  obtain ⟨i3_6, q3_6⟩ := cu_L (w3 6 _ _ rfl rfl) rfl
  subst q3_6
  obtain ⟨i3_7, q3_7⟩ := cu_I (w3 7 _ _ rfl rfl) rfl
  subst q3_7
  obtain ⟨i3_8, q3_8⟩ := cu_I (w3 8 _ _ rfl rfl) rfl
  subst q3_8
  obtain ⟨i3_9, q3_9⟩ := cu_I (w3 9 _ _ rfl rfl) rfl
  subst q3_9
  obtain ⟨i3_10, q3_10⟩ := cu_L (w3 10 _ _ rfl rfl) rfl
  subst q3_10
  obtain ⟨i3_11, q3_11⟩ := cu_I (w3 11 _ _ rfl rfl) rfl
  subst q3_11
  obtain ⟨i3_12, q3_12⟩ := cu_I (w3 12 _ _ rfl rfl) rfl
  subst q3_12
  obtain ⟨i3_13, q3_13⟩ := cu_I (w3 13 _ _ rfl rfl) rfl
  subst q3_13
  have q3_14 := cu_R (cu_ad hz h38) (w3 14 _ _ rfl rfl)
  subst q3_14
  obtain ⟨vs39, f39, l39, w39⟩ := r39
  dsimp only at f39
  subst f39
  obtain ⟨u39_0, s39_0, rfl, m39_0⟩ := cu_c l39
  cases cu_n m39_0
  have q39_0 := cu_R (cu_ad hz h40) (w39 0 _ _ rfl rfl)
  subst q39_0
  obtain ⟨vs11, f11, l11, w11⟩ := r11
  dsimp only at f11
  subst f11
  obtain ⟨u11_0, s11_0, rfl, m11_0⟩ := cu_c l11
  obtain ⟨u11_1, s11_1, rfl, m11_1⟩ := cu_c m11_0
  obtain ⟨u11_2, s11_2, rfl, m11_2⟩ := cu_c m11_1
  obtain ⟨u11_3, s11_3, rfl, m11_3⟩ := cu_c m11_2
  obtain ⟨u11_4, s11_4, rfl, m11_4⟩ := cu_c m11_3
  obtain ⟨u11_5, s11_5, rfl, m11_5⟩ := cu_c m11_4
  obtain ⟨u11_6, s11_6, rfl, m11_6⟩ := cu_c m11_5
  obtain ⟨u11_7, s11_7, rfl, m11_7⟩ := cu_c m11_6
  obtain ⟨u11_8, s11_8, rfl, m11_8⟩ := cu_c m11_7
  obtain ⟨u11_9, s11_9, rfl, m11_9⟩ := cu_c m11_8
  obtain ⟨u11_10, s11_10, rfl, m11_10⟩ := cu_c m11_9
  obtain ⟨u11_11, s11_11, rfl, m11_11⟩ := cu_c m11_10
  obtain ⟨u11_12, s11_12, rfl, m11_12⟩ := cu_c m11_11
  obtain ⟨u11_13, s11_13, rfl, m11_13⟩ := cu_c m11_12
  obtain ⟨u11_14, s11_14, rfl, m11_14⟩ := cu_c m11_13
  obtain ⟨u11_15, s11_15, rfl, m11_15⟩ := cu_c m11_14
  cases cu_n m11_15
  obtain ⟨i11_0, q11_0⟩ := cu_I (w11 0 _ _ rfl rfl) rfl
  subst q11_0
  have q11_1 := cu_R (cu_ad hz h50) (w11 1 _ _ rfl rfl)
  subst q11_1
  have q11_2 := cu_R (cu_ad hz h31) (w11 2 _ _ rfl rfl)
  subst q11_2
  have q11_3 := cu_R (cu_ad hz h51) (w11 3 _ _ rfl rfl)
  subst q11_3
  obtain ⟨i11_4, q11_4⟩ := cu_I (w11 4 _ _ rfl rfl) rfl
  subst q11_4
  have q11_5 := cu_R (cu_ad hz h52) (w11 5 _ _ rfl rfl)
  subst q11_5
  have q11_6 := cu_R (cu_ad hz h53) (w11 6 _ _ rfl rfl)
  subst q11_6
  have q11_7 := cu_R (cu_ad hz h54) (w11 7 _ _ rfl rfl)
  subst q11_7
  have q11_8 := cu_R (cu_ad hz h55) (w11 8 _ _ rfl rfl)
  subst q11_8
  obtain ⟨i11_9, q11_9⟩ := cu_I (w11 9 _ _ rfl rfl) rfl
  subst q11_9
  have q11_10 := cu_R (cu_ad hz h56) (w11 10 _ _ rfl rfl)
  subst q11_10
  have q11_11 := cu_R (cu_ad hz h33) (w11 11 _ _ rfl rfl)
  subst q11_11
  have q11_12 := cu_R (cu_ad hz h57) (w11 12 _ _ rfl rfl)
  subst q11_12
  have q11_13 := cu_R (cu_ad hz h37) (w11 13 _ _ rfl rfl)
  subst q11_13
  have q11_14 := cu_R (cu_ad hz h58) (w11 14 _ _ rfl rfl)
  subst q11_14
  have q11_15 := cu_R (cu_ad hz h35) (w11 15 _ _ rfl rfl)
  subst q11_15
  obtain ⟨vs13, f13, l13, w13⟩ := r13
  dsimp only at f13
  subst f13
  obtain ⟨u13_0, s13_0, rfl, m13_0⟩ := cu_c l13
  obtain ⟨u13_1, s13_1, rfl, m13_1⟩ := cu_c m13_0
  obtain ⟨u13_2, s13_2, rfl, m13_2⟩ := cu_c m13_1
  obtain ⟨u13_3, s13_3, rfl, m13_3⟩ := cu_c m13_2
  obtain ⟨u13_4, s13_4, rfl, m13_4⟩ := cu_c m13_3
  obtain ⟨u13_5, s13_5, rfl, m13_5⟩ := cu_c m13_4
  obtain ⟨u13_6, s13_6, rfl, m13_6⟩ := cu_c m13_5
  cases cu_n m13_6
  obtain ⟨i13_0, q13_0⟩ := cu_I (w13 0 _ _ rfl rfl) rfl
  subst q13_0
  obtain ⟨i13_1, q13_1⟩ := cu_I (w13 1 _ _ rfl rfl) rfl
  subst q13_1
  obtain ⟨i13_2, q13_2⟩ := cu_I (w13 2 _ _ rfl rfl) rfl
  subst q13_2
  have q13_3 := cu_R (cu_ad hz h18) (w13 3 _ _ rfl rfl)
  subst q13_3
  have q13_4 := cu_R (cu_ad hz h59) (w13 4 _ _ rfl rfl)
  subst q13_4
  have q13_5 := cu_R (cu_ad hz h60) (w13 5 _ _ rfl rfl)
  subst q13_5
  obtain ⟨i13_6, q13_6⟩ := cu_I (w13 6 _ _ rfl rfl) rfl
  subst q13_6
  obtain ⟨vs8, f8, l8, w8⟩ := r8
  dsimp only at f8
  subst f8
  obtain ⟨u8_0, s8_0, rfl, m8_0⟩ := cu_c l8
  obtain ⟨u8_1, s8_1, rfl, m8_1⟩ := cu_c m8_0
  obtain ⟨u8_2, s8_2, rfl, m8_2⟩ := cu_c m8_1
  obtain ⟨u8_3, s8_3, rfl, m8_3⟩ := cu_c m8_2
  obtain ⟨u8_4, s8_4, rfl, m8_4⟩ := cu_c m8_3
  cases cu_n m8_4
  obtain ⟨i8_0, q8_0⟩ := cu_Rx (w8 0 _ _ rfl rfl)
  subst q8_0
  obtain ⟨i8_1, q8_1⟩ := cu_Rx (w8 1 _ _ rfl rfl)
  subst q8_1
  obtain ⟨i8_2, q8_2⟩ := cu_Rx (w8 2 _ _ rfl rfl)
  subst q8_2
  obtain ⟨i8_3, q8_3⟩ := cu_I (w8 3 _ _ rfl rfl) rfl
  subst q8_3
  obtain ⟨i8_4, q8_4⟩ := cu_I (w8 4 _ _ rfl rfl) rfl
  subst q8_4
  obtain ⟨vs15, f15, l15, w15⟩ := r15
  dsimp only at f15
  subst f15
  obtain ⟨u15_0, s15_0, rfl, m15_0⟩ := cu_c l15
  obtain ⟨u15_1, s15_1, rfl, m15_1⟩ := cu_c m15_0
  cases cu_n m15_1
  obtain ⟨i15_0, q15_0⟩ := cu_Rx (w15 0 _ _ rfl rfl)
  subst q15_0
  obtain ⟨i15_1, q15_1⟩ := cu_I (w15 1 _ _ rfl rfl) rfl
  subst q15_1
  have ed := hd.symm.trans (cu_ad hz h11)
  cases ed
  have es := hs.symm.trans (cu_ad hz h8)
  cases es
  have qd : u10_3 = .ref a11 := Option.some.inj hd2
  subst qd
  have qs : u10_7 = .ref a8 := Option.some.inj hs2
  subst qs
  subst q3_1
  refine ⟨((fun j => match j with
      | 0 => i3_1
      | 1 => i3_2
      | 2 => i3_3
      | 3 => i3_4
      | 4 => i3_5
      | 5 => i3_7
      | 6 => i3_8
      | 7 => i3_9
      | 8 => i3_11
      | 9 => i3_12
      | 10 => i3_13
      | 11 => i11_0
      | 12 => i11_4
      | 13 => i11_9
      | 14 => i10_14
      | 15 => i10_16
      | 16 => i13_0
      | 17 => i13_1
      | 18 => i13_2
      | 19 => i13_6
      | 20 => i8_3
      | 21 => i8_4
      | 22 => i15_1
      | _ => (0 : Int32)), (fun j => match j with
      | 0 => i3_6
      | 1 => i3_10
      | _ => (0 : Int64)), (fun j => match j with
      | 0 => y17
      | 1 => y31
      | 2 => y51
      | 3 => y52
      | 4 => y53
      | 5 => y54
      | 6 => y55
      | 7 => y33
      | 8 => y57
      | 9 => y37
      | 10 => y58
      | 11 => y35
      | 12 => y40
      | 13 => y18
      | 14 => y59
      | 15 => y60
      | _ => (fun _ => (0 : Int32))), (fun j => match j with
      | 0 => y38
      | 1 => y50
      | 2 => y56
      | _ => (fun _ => (0 : Int64)))), ([a10, a3, a17, a38, a39, a40, a11, a50, a31, a51, a52, a53, a54, a55, a56, a33, a57, a37, a58, a35, a13, a18, a59, a60, a8, a15], (fun j => match j with
      | 0 => i10_2
      | 1 => i10_5
      | 2 => i10_8
      | 3 => i10_9
      | 4 => i10_10
      | 5 => i10_11
      | 6 => i10_12
      | 7 => i10_13
      | 8 => i10_15
      | 9 => i8_0
      | 10 => i8_1
      | 11 => i8_2
      | 12 => i15_0
      | _ => 0)), [(a10, .inr (10, [.ref a3, .ref a39, .ref i10_2, .ref a11, .ref a13, .ref i10_5, .ref a15, .ref a8, .ref i10_8, .ref i10_9, .ref i10_10, .ref i10_11, .ref i10_12, .ref i10_13, .int i10_14, .ref i10_15, .int i10_16])),
      (a3, .inr (4, [.ref a17, .int i3_1, .int i3_2, .int i3_3, .int i3_4, .int i3_5, .long i3_6, .int i3_7, .int i3_8, .int i3_9, .long i3_10, .int i3_11, .int i3_12, .int i3_13, .ref a38])),
      (a17, .inl (cA17, 940, .inl y17)),
      (a38, .inl (cA38, 22, .inr (.inl y38))),
      (a39, .inr (9, [.ref a40])),
      (a40, .inl (cA40, 3, .inl y40)),
      (a11, .inr (8, [.int i11_0, .ref a50, .ref a31, .ref a51, .int i11_4, .ref a52, .ref a53, .ref a54, .ref a55, .int i11_9, .ref a56, .ref a33, .ref a57, .ref a37, .ref a58, .ref a35])),
      (a50, .inl (cA50, 7, .inr (.inl y50))),
      (a31, .inl (cA31, 7, .inl y31)),
      (a51, .inl (cA51, 7, .inl y51)),
      (a52, .inl (cA52, 12, .inl y52)),
      (a53, .inl (cA53, 12, .inl y53)),
      (a54, .inl (cA54, 12, .inl y54)),
      (a55, .inl (cA55, 12, .inl y55)),
      (a56, .inl (cA56, 8, .inr (.inl y56))),
      (a33, .inl (cA33, 8, .inl y33)),
      (a57, .inl (cA57, 8, .inl y57)),
      (a37, .inl (cA37, 8, .inl y37)),
      (a58, .inl (cA58, 8, .inl y58)),
      (a35, .inl (cA35, 3, .inl y35)),
      (a13, .inr (7, [.int i13_0, .int i13_1, .int i13_2, .ref a18, .ref a59, .ref a60, .int i13_6])),
      (a18, .inl (cA18, 7, .inl y18)),
      (a59, .inl (cA59, 7, .inl y59)),
      (a60, .inl (cA60, 7, .inl y60)),
      (a8, .inr (6, [.ref i8_0, .ref i8_1, .ref i8_2, .int i8_3, .int i8_4])),
      (a15, .inr (1, [.ref i15_0, .int i15_1]))], ?_, ?_, ?_, rfl, ⟨_, h17⟩, ⟨_, h3⟩, (cu_f_of h17).symm, (cu_q_of h38).symm, cu_ev1 (w3 1 _ _ rfl rfl)⟩
  · refine ⟨rfl, ⟨rfl, Nat.le_of_ble_eq_true rfl⟩, fun k c hk => ?_⟩
    match k, hk with
    | 0, hk => cases hk; exact ⟨_, rfl, rfl⟩
    | 1, hk => cases hk; exact ⟨_, rfl, rfl⟩
    | 2, hk => cases hk; exact ⟨_, rfl, Nat.le_of_ble_eq_true rfl, Nat.le_of_ble_eq_true rfl, ⟨_, rfl⟩, _, rfl, t17⟩
    | 3, hk => cases hk; exact ⟨_, rfl, Nat.le_of_ble_eq_true rfl, Nat.le_of_ble_eq_true rfl, ⟨_, rfl⟩, _, rfl, t38⟩
    | 4, hk => cases hk; exact ⟨_, rfl, rfl⟩
    | 5, hk => cases hk; exact ⟨_, rfl, Nat.le_of_ble_eq_true rfl, Nat.le_of_ble_eq_true rfl, ⟨_, rfl⟩, _, rfl, t40⟩
    | 6, hk => cases hk; exact ⟨_, rfl, rfl⟩
    | 7, hk => cases hk; exact ⟨_, rfl, Nat.le_of_ble_eq_true rfl, Nat.le_of_ble_eq_true rfl, ⟨_, rfl⟩, _, rfl, t50⟩
    | 8, hk => cases hk; exact ⟨_, rfl, Nat.le_of_ble_eq_true rfl, Nat.le_of_ble_eq_true rfl, ⟨_, rfl⟩, _, rfl, t31⟩
    | 9, hk => cases hk; exact ⟨_, rfl, Nat.le_of_ble_eq_true rfl, Nat.le_of_ble_eq_true rfl, ⟨_, rfl⟩, _, rfl, t51⟩
    | 10, hk => cases hk; exact ⟨_, rfl, Nat.le_of_ble_eq_true rfl, Nat.le_of_ble_eq_true rfl, ⟨_, rfl⟩, _, rfl, t52⟩
    | 11, hk => cases hk; exact ⟨_, rfl, Nat.le_of_ble_eq_true rfl, Nat.le_of_ble_eq_true rfl, ⟨_, rfl⟩, _, rfl, t53⟩
    | 12, hk => cases hk; exact ⟨_, rfl, Nat.le_of_ble_eq_true rfl, Nat.le_of_ble_eq_true rfl, ⟨_, rfl⟩, _, rfl, t54⟩
    | 13, hk => cases hk; exact ⟨_, rfl, Nat.le_of_ble_eq_true rfl, Nat.le_of_ble_eq_true rfl, ⟨_, rfl⟩, _, rfl, t55⟩
    | 14, hk => cases hk; exact ⟨_, rfl, Nat.le_of_ble_eq_true rfl, Nat.le_of_ble_eq_true rfl, ⟨_, rfl⟩, _, rfl, t56⟩
    | 15, hk => cases hk; exact ⟨_, rfl, Nat.le_of_ble_eq_true rfl, Nat.le_of_ble_eq_true rfl, ⟨_, rfl⟩, _, rfl, t33⟩
    | 16, hk => cases hk; exact ⟨_, rfl, Nat.le_of_ble_eq_true rfl, Nat.le_of_ble_eq_true rfl, ⟨_, rfl⟩, _, rfl, t57⟩
    | 17, hk => cases hk; exact ⟨_, rfl, Nat.le_of_ble_eq_true rfl, Nat.le_of_ble_eq_true rfl, ⟨_, rfl⟩, _, rfl, t37⟩
    | 18, hk => cases hk; exact ⟨_, rfl, Nat.le_of_ble_eq_true rfl, Nat.le_of_ble_eq_true rfl, ⟨_, rfl⟩, _, rfl, t58⟩
    | 19, hk => cases hk; exact ⟨_, rfl, Nat.le_of_ble_eq_true rfl, Nat.le_of_ble_eq_true rfl, ⟨_, rfl⟩, _, rfl, t35⟩
    | 20, hk => cases hk; exact ⟨_, rfl, rfl⟩
    | 21, hk => cases hk; exact ⟨_, rfl, Nat.le_of_ble_eq_true rfl, Nat.le_of_ble_eq_true rfl, ⟨_, rfl⟩, _, rfl, t18⟩
    | 22, hk => cases hk; exact ⟨_, rfl, Nat.le_of_ble_eq_true rfl, Nat.le_of_ble_eq_true rfl, ⟨_, rfl⟩, _, rfl, t59⟩
    | 23, hk => cases hk; exact ⟨_, rfl, Nat.le_of_ble_eq_true rfl, Nat.le_of_ble_eq_true rfl, ⟨_, rfl⟩, _, rfl, t60⟩
    | 24, hk => cases hk; exact ⟨_, rfl, rfl⟩
    | 25, hk => cases hk; exact ⟨_, rfl, rfl⟩
    | k + 26, hk => cases hk
  · intro q hq
    simp only [List.mem_cons, List.not_mem_nil, or_false] at hq
    rcases hq with rfl | rfl | rfl | rfl | rfl | rfl | rfl | rfl | rfl | rfl | rfl | rfl | rfl | rfl | rfl | rfl | rfl | rfl | rfl | rfl | rfl | rfl | rfl | rfl | rfl | rfl
    · exact List.mem_of_getElem? h10
    · exact List.mem_of_getElem? h3
    · exact List.mem_of_getElem? h17
    · exact List.mem_of_getElem? h38
    · exact List.mem_of_getElem? h39
    · exact List.mem_of_getElem? h40
    · exact List.mem_of_getElem? h11
    · exact List.mem_of_getElem? h50
    · exact List.mem_of_getElem? h31
    · exact List.mem_of_getElem? h51
    · exact List.mem_of_getElem? h52
    · exact List.mem_of_getElem? h53
    · exact List.mem_of_getElem? h54
    · exact List.mem_of_getElem? h55
    · exact List.mem_of_getElem? h56
    · exact List.mem_of_getElem? h33
    · exact List.mem_of_getElem? h57
    · exact List.mem_of_getElem? h37
    · exact List.mem_of_getElem? h58
    · exact List.mem_of_getElem? h35
    · exact List.mem_of_getElem? h13
    · exact List.mem_of_getElem? h18
    · exact List.mem_of_getElem? h59
    · exact List.mem_of_getElem? h60
    · exact List.mem_of_getElem? h8
    · exact List.mem_of_getElem? h15
  · exact ⟨[10, 3, 17, 38, 39, 40, 11, 50, 31, 51, 52, 53, 54, 55, 56, 33, 57, 37, 58, 35, 13, 18, 59, 60, 8, 15], by decide, by simp only [List.map_cons, List.map_nil, h10, h3, h17, h38, h39, h40, h11, h50, h31, h51, h52, h53, h54, h55, h56, h33, h57, h37, h58, h35, h13, h18, h59, h60, h8, h15]⟩
set_option maxRecDepth 100000 in
set_option maxHeartbeats 4000000 in
theorem cu_A_12_9 {X : ab_X} {z : ab_Z} {s : State} {ws : va_W} (hc : ∀ (k : Nat) (c : ab_C), k ∈ cu_KA → gl_L[k]? = some c → ∃ q, ws[k]? = some q ∧ ab_cR X z s c q.2) (hz : ws.map Prod.fst = z.2.2) {a10 : Nat} {vs10 : List Value} (h10 : ws[10]? = some (a10, .inr (10, vs10))) (l10 : 17 = vs10.length) (w10 : ∀ (j : Nat) (f : ab_F) (v : Value), (cu_F1 : List ab_F)[j]? = some f → vs10[j]? = some v → ab_ho X z f.2 v) {ad as9 : Nat} (hd : z.2.2[12]? = some ad) (hd2 : vs10[3]? = some (.ref ad)) (hs : z.2.2[9]? = some as9) (hs2 : vs10[7]? = some (.ref as9)) : ∃ (σ : ex_S) (A : ex_A) (we : va_W), ex_wR X A s (WA 2000000 6 σ) we ∧ (∀ q ∈ we, q ∈ ws) ∧ (∃ pos : List Nat, pos.Nodup ∧ pos.map (fun k => ws[k]?) = we.map some) ∧ A.1.getD 0 0 = a10 ∧ (∃ e, ws[17]? = some (A.1.getD 2 0, e)) ∧ (∃ e, ws[3]? = some (A.1.getD 1 0, e)) ∧ σ.2.2.1 0 = cu_f ws 17 ∧ σ.2.2.2 0 = cu_q ws 38 ∧ z.1[1]? = some (σ.1 0) := by
  obtain ⟨u10_0, s10_0, rfl, m10_0⟩ := cu_c l10
  obtain ⟨u10_1, s10_1, rfl, m10_1⟩ := cu_c m10_0
  obtain ⟨u10_2, s10_2, rfl, m10_2⟩ := cu_c m10_1
  obtain ⟨u10_3, s10_3, rfl, m10_3⟩ := cu_c m10_2
  obtain ⟨u10_4, s10_4, rfl, m10_4⟩ := cu_c m10_3
  obtain ⟨u10_5, s10_5, rfl, m10_5⟩ := cu_c m10_4
  obtain ⟨u10_6, s10_6, rfl, m10_6⟩ := cu_c m10_5
  obtain ⟨u10_7, s10_7, rfl, m10_7⟩ := cu_c m10_6
  obtain ⟨u10_8, s10_8, rfl, m10_8⟩ := cu_c m10_7
  obtain ⟨u10_9, s10_9, rfl, m10_9⟩ := cu_c m10_8
  obtain ⟨u10_10, s10_10, rfl, m10_10⟩ := cu_c m10_9
  obtain ⟨u10_11, s10_11, rfl, m10_11⟩ := cu_c m10_10
  obtain ⟨u10_12, s10_12, rfl, m10_12⟩ := cu_c m10_11
  obtain ⟨u10_13, s10_13, rfl, m10_13⟩ := cu_c m10_12
  obtain ⟨u10_14, s10_14, rfl, m10_14⟩ := cu_c m10_13
  obtain ⟨u10_15, s10_15, rfl, m10_15⟩ := cu_c m10_14
  obtain ⟨u10_16, s10_16, rfl, m10_16⟩ := cu_c m10_15
  cases cu_n m10_16
  obtain ⟨⟨a3, e3⟩, h3, r3⟩ := hc 3 _ (by decide) rfl
  obtain ⟨⟨a17, e17⟩, h17, r17⟩ := hc 17 _ (by decide) rfl
  obtain ⟨⟨a38, e38⟩, h38, r38⟩ := hc 38 _ (by decide) rfl
  obtain ⟨⟨a39, e39⟩, h39, r39⟩ := hc 39 _ (by decide) rfl
  obtain ⟨⟨a40, e40⟩, h40, r40⟩ := hc 40 _ (by decide) rfl
  obtain ⟨⟨a12, e12⟩, h12, r12⟩ := hc 12 _ (by decide) rfl
  obtain ⟨⟨a41, e41⟩, h41, r41⟩ := hc 41 _ (by decide) rfl
  obtain ⟨⟨a30, e30⟩, h30, r30⟩ := hc 30 _ (by decide) rfl
  obtain ⟨⟨a42, e42⟩, h42, r42⟩ := hc 42 _ (by decide) rfl
  obtain ⟨⟨a43, e43⟩, h43, r43⟩ := hc 43 _ (by decide) rfl
  obtain ⟨⟨a44, e44⟩, h44, r44⟩ := hc 44 _ (by decide) rfl
  obtain ⟨⟨a45, e45⟩, h45, r45⟩ := hc 45 _ (by decide) rfl
  obtain ⟨⟨a46, e46⟩, h46, r46⟩ := hc 46 _ (by decide) rfl
  obtain ⟨⟨a47, e47⟩, h47, r47⟩ := hc 47 _ (by decide) rfl
  obtain ⟨⟨a32, e32⟩, h32, r32⟩ := hc 32 _ (by decide) rfl
  obtain ⟨⟨a48, e48⟩, h48, r48⟩ := hc 48 _ (by decide) rfl
  obtain ⟨⟨a36, e36⟩, h36, r36⟩ := hc 36 _ (by decide) rfl
  obtain ⟨⟨a49, e49⟩, h49, r49⟩ := hc 49 _ (by decide) rfl
  obtain ⟨⟨a34, e34⟩, h34, r34⟩ := hc 34 _ (by decide) rfl
  obtain ⟨⟨a13, e13⟩, h13, r13⟩ := hc 13 _ (by decide) rfl
  obtain ⟨⟨a18, e18⟩, h18, r18⟩ := hc 18 _ (by decide) rfl
  obtain ⟨⟨a59, e59⟩, h59, r59⟩ := hc 59 _ (by decide) rfl
  obtain ⟨⟨a60, e60⟩, h60, r60⟩ := hc 60 _ (by decide) rfl
  obtain ⟨⟨a9, e9⟩, h9, r9⟩ := hc 9 _ (by decide) rfl
  obtain ⟨⟨a15, e15⟩, h15, r15⟩ := hc 15 _ (by decide) rfl
  obtain ⟨cA17, x17, f17, ⟨y17, g17⟩, t17, -⟩ := r17
  dsimp only at f17
  subst f17 g17
  obtain ⟨cA38, x38, f38, ⟨y38, g38⟩, t38, -⟩ := r38
  dsimp only at f38
  subst f38 g38
  obtain ⟨cA40, x40, f40, ⟨y40, g40⟩, t40, -⟩ := r40
  dsimp only at f40
  subst f40 g40
  obtain ⟨cA41, x41, f41, ⟨y41, g41⟩, t41, -⟩ := r41
  dsimp only at f41
  subst f41 g41
  obtain ⟨cA30, x30, f30, ⟨y30, g30⟩, t30, -⟩ := r30
  dsimp only at f30
  subst f30 g30
  obtain ⟨cA42, x42, f42, ⟨y42, g42⟩, t42, -⟩ := r42
  dsimp only at f42
  subst f42 g42
  obtain ⟨cA43, x43, f43, ⟨y43, g43⟩, t43, -⟩ := r43
  dsimp only at f43
  subst f43 g43
  obtain ⟨cA44, x44, f44, ⟨y44, g44⟩, t44, -⟩ := r44
  dsimp only at f44
  subst f44 g44
  obtain ⟨cA45, x45, f45, ⟨y45, g45⟩, t45, -⟩ := r45
  dsimp only at f45
  subst f45 g45
  obtain ⟨cA46, x46, f46, ⟨y46, g46⟩, t46, -⟩ := r46
  dsimp only at f46
  subst f46 g46
  obtain ⟨cA47, x47, f47, ⟨y47, g47⟩, t47, -⟩ := r47
  dsimp only at f47
  subst f47 g47
  obtain ⟨cA32, x32, f32, ⟨y32, g32⟩, t32, -⟩ := r32
  dsimp only at f32
  subst f32 g32
  obtain ⟨cA48, x48, f48, ⟨y48, g48⟩, t48, -⟩ := r48
  dsimp only at f48
  subst f48 g48
  obtain ⟨cA36, x36, f36, ⟨y36, g36⟩, t36, -⟩ := r36
  dsimp only at f36
  subst f36 g36
  obtain ⟨cA49, x49, f49, ⟨y49, g49⟩, t49, -⟩ := r49
  dsimp only at f49
  subst f49 g49
  obtain ⟨cA34, x34, f34, ⟨y34, g34⟩, t34, -⟩ := r34
  dsimp only at f34
  subst f34 g34
  obtain ⟨cA18, x18, f18, ⟨y18, g18⟩, t18, -⟩ := r18
  dsimp only at f18
  subst f18 g18
  obtain ⟨cA59, x59, f59, ⟨y59, g59⟩, t59, -⟩ := r59
  dsimp only at f59
  subst f59 g59
  obtain ⟨cA60, x60, f60, ⟨y60, g60⟩, t60, -⟩ := r60
  dsimp only at f60
  subst f60 g60
  have q10_0 := cu_R (cu_ad hz h3) (w10 0 _ _ rfl rfl)
  subst q10_0
  have q10_1 := cu_R (cu_ad hz h39) (w10 1 _ _ rfl rfl)
  subst q10_1
  obtain ⟨i10_2, q10_2⟩ := cu_Rx (w10 2 _ _ rfl rfl)
  subst q10_2
  have q10_4 := cu_R (cu_ad hz h13) (w10 4 _ _ rfl rfl)
  subst q10_4
  obtain ⟨i10_5, q10_5⟩ := cu_Rx (w10 5 _ _ rfl rfl)
  subst q10_5
  have q10_6 := cu_R (cu_ad hz h15) (w10 6 _ _ rfl rfl)
  subst q10_6
  obtain ⟨i10_8, q10_8⟩ := cu_Rx (w10 8 _ _ rfl rfl)
  subst q10_8
  obtain ⟨i10_9, q10_9⟩ := cu_Rx (w10 9 _ _ rfl rfl)
  subst q10_9
  obtain ⟨i10_10, q10_10⟩ := cu_Rx (w10 10 _ _ rfl rfl)
  subst q10_10
  obtain ⟨i10_11, q10_11⟩ := cu_Rx (w10 11 _ _ rfl rfl)
  subst q10_11
  obtain ⟨i10_12, q10_12⟩ := cu_Rx (w10 12 _ _ rfl rfl)
  subst q10_12
  obtain ⟨i10_13, q10_13⟩ := cu_Rx (w10 13 _ _ rfl rfl)
  subst q10_13
  obtain ⟨i10_14, q10_14⟩ := cu_I (w10 14 _ _ rfl rfl) rfl
  subst q10_14
  obtain ⟨i10_15, q10_15⟩ := cu_Rx (w10 15 _ _ rfl rfl)
  subst q10_15
  obtain ⟨i10_16, q10_16⟩ := cu_I (w10 16 _ _ rfl rfl) rfl
  subst q10_16
  obtain ⟨vs3, f3, l3, w3⟩ := r3
  dsimp only at f3
  subst f3
  obtain ⟨u3_0, s3_0, rfl, m3_0⟩ := cu_c l3
  obtain ⟨u3_1, s3_1, rfl, m3_1⟩ := cu_c m3_0
  obtain ⟨u3_2, s3_2, rfl, m3_2⟩ := cu_c m3_1
  obtain ⟨u3_3, s3_3, rfl, m3_3⟩ := cu_c m3_2
  obtain ⟨u3_4, s3_4, rfl, m3_4⟩ := cu_c m3_3
  obtain ⟨u3_5, s3_5, rfl, m3_5⟩ := cu_c m3_4
  obtain ⟨u3_6, s3_6, rfl, m3_6⟩ := cu_c m3_5
  obtain ⟨u3_7, s3_7, rfl, m3_7⟩ := cu_c m3_6
  obtain ⟨u3_8, s3_8, rfl, m3_8⟩ := cu_c m3_7
  obtain ⟨u3_9, s3_9, rfl, m3_9⟩ := cu_c m3_8
  obtain ⟨u3_10, s3_10, rfl, m3_10⟩ := cu_c m3_9
  obtain ⟨u3_11, s3_11, rfl, m3_11⟩ := cu_c m3_10
  obtain ⟨u3_12, s3_12, rfl, m3_12⟩ := cu_c m3_11
  obtain ⟨u3_13, s3_13, rfl, m3_13⟩ := cu_c m3_12
  obtain ⟨u3_14, s3_14, rfl, m3_14⟩ := cu_c m3_13
  cases cu_n m3_14
  have q3_0 := cu_R (cu_ad hz h17) (w3 0 _ _ rfl rfl)
  subst q3_0
  obtain ⟨i3_1, q3_1⟩ := cu_I (w3 1 _ _ rfl rfl) rfl
  obtain ⟨i3_2, q3_2⟩ := cu_I (w3 2 _ _ rfl rfl) rfl
  subst q3_2
  obtain ⟨i3_3, q3_3⟩ := cu_I (w3 3 _ _ rfl rfl) rfl
  subst q3_3
  obtain ⟨i3_4, q3_4⟩ := cu_I (w3 4 _ _ rfl rfl) rfl
  subst q3_4
  obtain ⟨i3_5, q3_5⟩ := cu_I (w3 5 _ _ rfl rfl) rfl
  subst q3_5
  obtain ⟨i3_6, q3_6⟩ := cu_L (w3 6 _ _ rfl rfl) rfl
  subst q3_6
  obtain ⟨i3_7, q3_7⟩ := cu_I (w3 7 _ _ rfl rfl) rfl
  subst q3_7
  obtain ⟨i3_8, q3_8⟩ := cu_I (w3 8 _ _ rfl rfl) rfl
  subst q3_8
  obtain ⟨i3_9, q3_9⟩ := cu_I (w3 9 _ _ rfl rfl) rfl
  subst q3_9
  obtain ⟨i3_10, q3_10⟩ := cu_L (w3 10 _ _ rfl rfl) rfl
  subst q3_10
  obtain ⟨i3_11, q3_11⟩ := cu_I (w3 11 _ _ rfl rfl) rfl
  subst q3_11
  obtain ⟨i3_12, q3_12⟩ := cu_I (w3 12 _ _ rfl rfl) rfl
  subst q3_12
  obtain ⟨i3_13, q3_13⟩ := cu_I (w3 13 _ _ rfl rfl) rfl
  subst q3_13
  have q3_14 := cu_R (cu_ad hz h38) (w3 14 _ _ rfl rfl)
  subst q3_14
  obtain ⟨vs39, f39, l39, w39⟩ := r39
  dsimp only at f39
  subst f39
  obtain ⟨u39_0, s39_0, rfl, m39_0⟩ := cu_c l39
  cases cu_n m39_0
  have q39_0 := cu_R (cu_ad hz h40) (w39 0 _ _ rfl rfl)
  subst q39_0
  obtain ⟨vs12, f12, l12, w12⟩ := r12
  dsimp only at f12
  subst f12
  obtain ⟨u12_0, s12_0, rfl, m12_0⟩ := cu_c l12
  obtain ⟨u12_1, s12_1, rfl, m12_1⟩ := cu_c m12_0
  obtain ⟨u12_2, s12_2, rfl, m12_2⟩ := cu_c m12_1
  obtain ⟨u12_3, s12_3, rfl, m12_3⟩ := cu_c m12_2
  obtain ⟨u12_4, s12_4, rfl, m12_4⟩ := cu_c m12_3
  obtain ⟨u12_5, s12_5, rfl, m12_5⟩ := cu_c m12_4
  obtain ⟨u12_6, s12_6, rfl, m12_6⟩ := cu_c m12_5
  obtain ⟨u12_7, s12_7, rfl, m12_7⟩ := cu_c m12_6
  obtain ⟨u12_8, s12_8, rfl, m12_8⟩ := cu_c m12_7
  obtain ⟨u12_9, s12_9, rfl, m12_9⟩ := cu_c m12_8
  obtain ⟨u12_10, s12_10, rfl, m12_10⟩ := cu_c m12_9
  obtain ⟨u12_11, s12_11, rfl, m12_11⟩ := cu_c m12_10
  obtain ⟨u12_12, s12_12, rfl, m12_12⟩ := cu_c m12_11
  obtain ⟨u12_13, s12_13, rfl, m12_13⟩ := cu_c m12_12
  obtain ⟨u12_14, s12_14, rfl, m12_14⟩ := cu_c m12_13
  obtain ⟨u12_15, s12_15, rfl, m12_15⟩ := cu_c m12_14
  cases cu_n m12_15
  obtain ⟨i12_0, q12_0⟩ := cu_I (w12 0 _ _ rfl rfl) rfl
  subst q12_0
  have q12_1 := cu_R (cu_ad hz h41) (w12 1 _ _ rfl rfl)
  subst q12_1
  have q12_2 := cu_R (cu_ad hz h30) (w12 2 _ _ rfl rfl)
  subst q12_2
  have q12_3 := cu_R (cu_ad hz h42) (w12 3 _ _ rfl rfl)
  subst q12_3
  obtain ⟨i12_4, q12_4⟩ := cu_I (w12 4 _ _ rfl rfl) rfl
  subst q12_4
  have q12_5 := cu_R (cu_ad hz h43) (w12 5 _ _ rfl rfl)
  subst q12_5
  have q12_6 := cu_R (cu_ad hz h44) (w12 6 _ _ rfl rfl)
  subst q12_6
  have q12_7 := cu_R (cu_ad hz h45) (w12 7 _ _ rfl rfl)
  subst q12_7
  have q12_8 := cu_R (cu_ad hz h46) (w12 8 _ _ rfl rfl)
  subst q12_8
  obtain ⟨i12_9, q12_9⟩ := cu_I (w12 9 _ _ rfl rfl) rfl
  subst q12_9
  have q12_10 := cu_R (cu_ad hz h47) (w12 10 _ _ rfl rfl)
  subst q12_10
  have q12_11 := cu_R (cu_ad hz h32) (w12 11 _ _ rfl rfl)
  subst q12_11
  have q12_12 := cu_R (cu_ad hz h48) (w12 12 _ _ rfl rfl)
  subst q12_12
  have q12_13 := cu_R (cu_ad hz h36) (w12 13 _ _ rfl rfl)
  subst q12_13
  have q12_14 := cu_R (cu_ad hz h49) (w12 14 _ _ rfl rfl)
  subst q12_14
  have q12_15 := cu_R (cu_ad hz h34) (w12 15 _ _ rfl rfl)
  subst q12_15
  obtain ⟨vs13, f13, l13, w13⟩ := r13
  dsimp only at f13
  subst f13
  obtain ⟨u13_0, s13_0, rfl, m13_0⟩ := cu_c l13
  obtain ⟨u13_1, s13_1, rfl, m13_1⟩ := cu_c m13_0
  obtain ⟨u13_2, s13_2, rfl, m13_2⟩ := cu_c m13_1
  obtain ⟨u13_3, s13_3, rfl, m13_3⟩ := cu_c m13_2
  obtain ⟨u13_4, s13_4, rfl, m13_4⟩ := cu_c m13_3
  obtain ⟨u13_5, s13_5, rfl, m13_5⟩ := cu_c m13_4
  obtain ⟨u13_6, s13_6, rfl, m13_6⟩ := cu_c m13_5
  cases cu_n m13_6
  obtain ⟨i13_0, q13_0⟩ := cu_I (w13 0 _ _ rfl rfl) rfl
  subst q13_0
  obtain ⟨i13_1, q13_1⟩ := cu_I (w13 1 _ _ rfl rfl) rfl
  subst q13_1
  obtain ⟨i13_2, q13_2⟩ := cu_I (w13 2 _ _ rfl rfl) rfl
  subst q13_2
  have q13_3 := cu_R (cu_ad hz h18) (w13 3 _ _ rfl rfl)
  subst q13_3
  have q13_4 := cu_R (cu_ad hz h59) (w13 4 _ _ rfl rfl)
  subst q13_4
  have q13_5 := cu_R (cu_ad hz h60) (w13 5 _ _ rfl rfl)
  subst q13_5
  obtain ⟨i13_6, q13_6⟩ := cu_I (w13 6 _ _ rfl rfl) rfl
  subst q13_6
  obtain ⟨vs9, f9, l9, w9⟩ := r9
  dsimp only at f9
  subst f9
  obtain ⟨u9_0, s9_0, rfl, m9_0⟩ := cu_c l9
  obtain ⟨u9_1, s9_1, rfl, m9_1⟩ := cu_c m9_0
  obtain ⟨u9_2, s9_2, rfl, m9_2⟩ := cu_c m9_1
  obtain ⟨u9_3, s9_3, rfl, m9_3⟩ := cu_c m9_2
  obtain ⟨u9_4, s9_4, rfl, m9_4⟩ := cu_c m9_3
  cases cu_n m9_4
  obtain ⟨i9_0, q9_0⟩ := cu_Rx (w9 0 _ _ rfl rfl)
  subst q9_0
  obtain ⟨i9_1, q9_1⟩ := cu_Rx (w9 1 _ _ rfl rfl)
  subst q9_1
  obtain ⟨i9_2, q9_2⟩ := cu_Rx (w9 2 _ _ rfl rfl)
  subst q9_2
  obtain ⟨i9_3, q9_3⟩ := cu_I (w9 3 _ _ rfl rfl) rfl
  subst q9_3
  obtain ⟨i9_4, q9_4⟩ := cu_I (w9 4 _ _ rfl rfl) rfl
  subst q9_4
  obtain ⟨vs15, f15, l15, w15⟩ := r15
  dsimp only at f15
  subst f15
  obtain ⟨u15_0, s15_0, rfl, m15_0⟩ := cu_c l15
  obtain ⟨u15_1, s15_1, rfl, m15_1⟩ := cu_c m15_0
  cases cu_n m15_1
  obtain ⟨i15_0, q15_0⟩ := cu_Rx (w15 0 _ _ rfl rfl)
  subst q15_0
  obtain ⟨i15_1, q15_1⟩ := cu_I (w15 1 _ _ rfl rfl) rfl
  subst q15_1
  have ed := hd.symm.trans (cu_ad hz h12)
  cases ed
  have es := hs.symm.trans (cu_ad hz h9)
  cases es
  have qd : u10_3 = .ref a12 := Option.some.inj hd2
  subst qd
  have qs : u10_7 = .ref a9 := Option.some.inj hs2
  subst qs
  subst q3_1
  refine ⟨((fun j => match j with
      | 0 => i3_1
      | 1 => i3_2
      | 2 => i3_3
      | 3 => i3_4
      | 4 => i3_5
      | 5 => i3_7
      | 6 => i3_8
      | 7 => i3_9
      | 8 => i3_11
      | 9 => i3_12
      | 10 => i3_13
      | 11 => i12_0
      | 12 => i12_4
      | 13 => i12_9
      | 14 => i10_14
      | 15 => i10_16
      | 16 => i13_0
      | 17 => i13_1
      | 18 => i13_2
      | 19 => i13_6
      | 20 => i9_3
      | 21 => i9_4
      | 22 => i15_1
      | _ => (0 : Int32)), (fun j => match j with
      | 0 => i3_6
      | 1 => i3_10
      | _ => (0 : Int64)), (fun j => match j with
      | 0 => y17
      | 1 => y30
      | 2 => y42
      | 3 => y43
      | 4 => y44
      | 5 => y45
      | 6 => y46
      | 7 => y32
      | 8 => y48
      | 9 => y36
      | 10 => y49
      | 11 => y34
      | 12 => y40
      | 13 => y18
      | 14 => y59
      | 15 => y60
      | _ => (fun _ => (0 : Int32))), (fun j => match j with
      | 0 => y38
      | 1 => y41
      | 2 => y47
      | _ => (fun _ => (0 : Int64)))), ([a10, a3, a17, a38, a39, a40, a12, a41, a30, a42, a43, a44, a45, a46, a47, a32, a48, a36, a49, a34, a13, a18, a59, a60, a9, a15], (fun j => match j with
      | 0 => i10_2
      | 1 => i10_5
      | 2 => i10_8
      | 3 => i10_9
      | 4 => i10_10
      | 5 => i10_11
      | 6 => i10_12
      | 7 => i10_13
      | 8 => i10_15
      | 9 => i9_0
      | 10 => i9_1
      | 11 => i9_2
      | 12 => i15_0
      | _ => 0)), [(a10, .inr (10, [.ref a3, .ref a39, .ref i10_2, .ref a12, .ref a13, .ref i10_5, .ref a15, .ref a9, .ref i10_8, .ref i10_9, .ref i10_10, .ref i10_11, .ref i10_12, .ref i10_13, .int i10_14, .ref i10_15, .int i10_16])),
      (a3, .inr (4, [.ref a17, .int i3_1, .int i3_2, .int i3_3, .int i3_4, .int i3_5, .long i3_6, .int i3_7, .int i3_8, .int i3_9, .long i3_10, .int i3_11, .int i3_12, .int i3_13, .ref a38])),
      (a17, .inl (cA17, 940, .inl y17)),
      (a38, .inl (cA38, 22, .inr (.inl y38))),
      (a39, .inr (9, [.ref a40])),
      (a40, .inl (cA40, 3, .inl y40)),
      (a12, .inr (8, [.int i12_0, .ref a41, .ref a30, .ref a42, .int i12_4, .ref a43, .ref a44, .ref a45, .ref a46, .int i12_9, .ref a47, .ref a32, .ref a48, .ref a36, .ref a49, .ref a34])),
      (a41, .inl (cA41, 7, .inr (.inl y41))),
      (a30, .inl (cA30, 7, .inl y30)),
      (a42, .inl (cA42, 7, .inl y42)),
      (a43, .inl (cA43, 12, .inl y43)),
      (a44, .inl (cA44, 12, .inl y44)),
      (a45, .inl (cA45, 12, .inl y45)),
      (a46, .inl (cA46, 12, .inl y46)),
      (a47, .inl (cA47, 8, .inr (.inl y47))),
      (a32, .inl (cA32, 8, .inl y32)),
      (a48, .inl (cA48, 8, .inl y48)),
      (a36, .inl (cA36, 8, .inl y36)),
      (a49, .inl (cA49, 8, .inl y49)),
      (a34, .inl (cA34, 3, .inl y34)),
      (a13, .inr (7, [.int i13_0, .int i13_1, .int i13_2, .ref a18, .ref a59, .ref a60, .int i13_6])),
      (a18, .inl (cA18, 7, .inl y18)),
      (a59, .inl (cA59, 7, .inl y59)),
      (a60, .inl (cA60, 7, .inl y60)),
      (a9, .inr (6, [.ref i9_0, .ref i9_1, .ref i9_2, .int i9_3, .int i9_4])),
      (a15, .inr (1, [.ref i15_0, .int i15_1]))], ?_, ?_, ?_, rfl, ⟨_, h17⟩, ⟨_, h3⟩, (cu_f_of h17).symm, (cu_q_of h38).symm, cu_ev1 (w3 1 _ _ rfl rfl)⟩
  · refine ⟨rfl, ⟨rfl, Nat.le_of_ble_eq_true rfl⟩, fun k c hk => ?_⟩
    match k, hk with
    | 0, hk => cases hk; exact ⟨_, rfl, rfl⟩
    | 1, hk => cases hk; exact ⟨_, rfl, rfl⟩
    | 2, hk => cases hk; exact ⟨_, rfl, Nat.le_of_ble_eq_true rfl, Nat.le_of_ble_eq_true rfl, ⟨_, rfl⟩, _, rfl, t17⟩
    | 3, hk => cases hk; exact ⟨_, rfl, Nat.le_of_ble_eq_true rfl, Nat.le_of_ble_eq_true rfl, ⟨_, rfl⟩, _, rfl, t38⟩
    | 4, hk => cases hk; exact ⟨_, rfl, rfl⟩
    | 5, hk => cases hk; exact ⟨_, rfl, Nat.le_of_ble_eq_true rfl, Nat.le_of_ble_eq_true rfl, ⟨_, rfl⟩, _, rfl, t40⟩
    | 6, hk => cases hk; exact ⟨_, rfl, rfl⟩
    | 7, hk => cases hk; exact ⟨_, rfl, Nat.le_of_ble_eq_true rfl, Nat.le_of_ble_eq_true rfl, ⟨_, rfl⟩, _, rfl, t41⟩
    | 8, hk => cases hk; exact ⟨_, rfl, Nat.le_of_ble_eq_true rfl, Nat.le_of_ble_eq_true rfl, ⟨_, rfl⟩, _, rfl, t30⟩
    | 9, hk => cases hk; exact ⟨_, rfl, Nat.le_of_ble_eq_true rfl, Nat.le_of_ble_eq_true rfl, ⟨_, rfl⟩, _, rfl, t42⟩
    | 10, hk => cases hk; exact ⟨_, rfl, Nat.le_of_ble_eq_true rfl, Nat.le_of_ble_eq_true rfl, ⟨_, rfl⟩, _, rfl, t43⟩
    | 11, hk => cases hk; exact ⟨_, rfl, Nat.le_of_ble_eq_true rfl, Nat.le_of_ble_eq_true rfl, ⟨_, rfl⟩, _, rfl, t44⟩
    | 12, hk => cases hk; exact ⟨_, rfl, Nat.le_of_ble_eq_true rfl, Nat.le_of_ble_eq_true rfl, ⟨_, rfl⟩, _, rfl, t45⟩
    | 13, hk => cases hk; exact ⟨_, rfl, Nat.le_of_ble_eq_true rfl, Nat.le_of_ble_eq_true rfl, ⟨_, rfl⟩, _, rfl, t46⟩
    | 14, hk => cases hk; exact ⟨_, rfl, Nat.le_of_ble_eq_true rfl, Nat.le_of_ble_eq_true rfl, ⟨_, rfl⟩, _, rfl, t47⟩
    | 15, hk => cases hk; exact ⟨_, rfl, Nat.le_of_ble_eq_true rfl, Nat.le_of_ble_eq_true rfl, ⟨_, rfl⟩, _, rfl, t32⟩
    | 16, hk => cases hk; exact ⟨_, rfl, Nat.le_of_ble_eq_true rfl, Nat.le_of_ble_eq_true rfl, ⟨_, rfl⟩, _, rfl, t48⟩
    | 17, hk => cases hk; exact ⟨_, rfl, Nat.le_of_ble_eq_true rfl, Nat.le_of_ble_eq_true rfl, ⟨_, rfl⟩, _, rfl, t36⟩
    | 18, hk => cases hk; exact ⟨_, rfl, Nat.le_of_ble_eq_true rfl, Nat.le_of_ble_eq_true rfl, ⟨_, rfl⟩, _, rfl, t49⟩
    | 19, hk => cases hk; exact ⟨_, rfl, Nat.le_of_ble_eq_true rfl, Nat.le_of_ble_eq_true rfl, ⟨_, rfl⟩, _, rfl, t34⟩
    | 20, hk => cases hk; exact ⟨_, rfl, rfl⟩
    | 21, hk => cases hk; exact ⟨_, rfl, Nat.le_of_ble_eq_true rfl, Nat.le_of_ble_eq_true rfl, ⟨_, rfl⟩, _, rfl, t18⟩
    | 22, hk => cases hk; exact ⟨_, rfl, Nat.le_of_ble_eq_true rfl, Nat.le_of_ble_eq_true rfl, ⟨_, rfl⟩, _, rfl, t59⟩
    | 23, hk => cases hk; exact ⟨_, rfl, Nat.le_of_ble_eq_true rfl, Nat.le_of_ble_eq_true rfl, ⟨_, rfl⟩, _, rfl, t60⟩
    | 24, hk => cases hk; exact ⟨_, rfl, rfl⟩
    | 25, hk => cases hk; exact ⟨_, rfl, rfl⟩
    | k + 26, hk => cases hk
  · intro q hq
    simp only [List.mem_cons, List.not_mem_nil, or_false] at hq
    rcases hq with rfl | rfl | rfl | rfl | rfl | rfl | rfl | rfl | rfl | rfl | rfl | rfl | rfl | rfl | rfl | rfl | rfl | rfl | rfl | rfl | rfl | rfl | rfl | rfl | rfl | rfl
    · exact List.mem_of_getElem? h10
    · exact List.mem_of_getElem? h3
    · exact List.mem_of_getElem? h17
    · exact List.mem_of_getElem? h38
    · exact List.mem_of_getElem? h39
    · exact List.mem_of_getElem? h40
    · exact List.mem_of_getElem? h12
    · exact List.mem_of_getElem? h41
    · exact List.mem_of_getElem? h30
    · exact List.mem_of_getElem? h42
    · exact List.mem_of_getElem? h43
    · exact List.mem_of_getElem? h44
    · exact List.mem_of_getElem? h45
    · exact List.mem_of_getElem? h46
    · exact List.mem_of_getElem? h47
    · exact List.mem_of_getElem? h32
    · exact List.mem_of_getElem? h48
    · exact List.mem_of_getElem? h36
    · exact List.mem_of_getElem? h49
    · exact List.mem_of_getElem? h34
    · exact List.mem_of_getElem? h13
    · exact List.mem_of_getElem? h18
    · exact List.mem_of_getElem? h59
    · exact List.mem_of_getElem? h60
    · exact List.mem_of_getElem? h9
    · exact List.mem_of_getElem? h15
  · exact ⟨[10, 3, 17, 38, 39, 40, 12, 41, 30, 42, 43, 44, 45, 46, 47, 32, 48, 36, 49, 34, 13, 18, 59, 60, 9, 15], by decide, by simp only [List.map_cons, List.map_nil, h10, h3, h17, h38, h39, h40, h12, h41, h30, h42, h43, h44, h45, h46, h47, h32, h48, h36, h49, h34, h13, h18, h59, h60, h9, h15]⟩
set_option maxRecDepth 100000 in
set_option maxHeartbeats 4000000 in
theorem cu_A_12_8 {X : ab_X} {z : ab_Z} {s : State} {ws : va_W} (hc : ∀ (k : Nat) (c : ab_C), k ∈ cu_KA → gl_L[k]? = some c → ∃ q, ws[k]? = some q ∧ ab_cR X z s c q.2) (hz : ws.map Prod.fst = z.2.2) {a10 : Nat} {vs10 : List Value} (h10 : ws[10]? = some (a10, .inr (10, vs10))) (l10 : 17 = vs10.length) (w10 : ∀ (j : Nat) (f : ab_F) (v : Value), (cu_F1 : List ab_F)[j]? = some f → vs10[j]? = some v → ab_ho X z f.2 v) {ad as9 : Nat} (hd : z.2.2[12]? = some ad) (hd2 : vs10[3]? = some (.ref ad)) (hs : z.2.2[8]? = some as9) (hs2 : vs10[7]? = some (.ref as9)) : ∃ (σ : ex_S) (A : ex_A) (we : va_W), ex_wR X A s (WA 2000000 6 σ) we ∧ (∀ q ∈ we, q ∈ ws) ∧ (∃ pos : List Nat, pos.Nodup ∧ pos.map (fun k => ws[k]?) = we.map some) ∧ A.1.getD 0 0 = a10 ∧ (∃ e, ws[17]? = some (A.1.getD 2 0, e)) ∧ (∃ e, ws[3]? = some (A.1.getD 1 0, e)) ∧ σ.2.2.1 0 = cu_f ws 17 ∧ σ.2.2.2 0 = cu_q ws 38 ∧ z.1[1]? = some (σ.1 0) := by
  obtain ⟨u10_0, s10_0, rfl, m10_0⟩ := cu_c l10
  obtain ⟨u10_1, s10_1, rfl, m10_1⟩ := cu_c m10_0
  obtain ⟨u10_2, s10_2, rfl, m10_2⟩ := cu_c m10_1
  obtain ⟨u10_3, s10_3, rfl, m10_3⟩ := cu_c m10_2
  obtain ⟨u10_4, s10_4, rfl, m10_4⟩ := cu_c m10_3
  obtain ⟨u10_5, s10_5, rfl, m10_5⟩ := cu_c m10_4
  obtain ⟨u10_6, s10_6, rfl, m10_6⟩ := cu_c m10_5
  obtain ⟨u10_7, s10_7, rfl, m10_7⟩ := cu_c m10_6
  obtain ⟨u10_8, s10_8, rfl, m10_8⟩ := cu_c m10_7
  obtain ⟨u10_9, s10_9, rfl, m10_9⟩ := cu_c m10_8
  obtain ⟨u10_10, s10_10, rfl, m10_10⟩ := cu_c m10_9
  obtain ⟨u10_11, s10_11, rfl, m10_11⟩ := cu_c m10_10
  obtain ⟨u10_12, s10_12, rfl, m10_12⟩ := cu_c m10_11
  obtain ⟨u10_13, s10_13, rfl, m10_13⟩ := cu_c m10_12
  obtain ⟨u10_14, s10_14, rfl, m10_14⟩ := cu_c m10_13
  obtain ⟨u10_15, s10_15, rfl, m10_15⟩ := cu_c m10_14
  obtain ⟨u10_16, s10_16, rfl, m10_16⟩ := cu_c m10_15
  cases cu_n m10_16
  obtain ⟨⟨a3, e3⟩, h3, r3⟩ := hc 3 _ (by decide) rfl
  obtain ⟨⟨a17, e17⟩, h17, r17⟩ := hc 17 _ (by decide) rfl
  obtain ⟨⟨a38, e38⟩, h38, r38⟩ := hc 38 _ (by decide) rfl
  obtain ⟨⟨a39, e39⟩, h39, r39⟩ := hc 39 _ (by decide) rfl
  obtain ⟨⟨a40, e40⟩, h40, r40⟩ := hc 40 _ (by decide) rfl
  obtain ⟨⟨a12, e12⟩, h12, r12⟩ := hc 12 _ (by decide) rfl
  obtain ⟨⟨a41, e41⟩, h41, r41⟩ := hc 41 _ (by decide) rfl
  obtain ⟨⟨a30, e30⟩, h30, r30⟩ := hc 30 _ (by decide) rfl
  obtain ⟨⟨a42, e42⟩, h42, r42⟩ := hc 42 _ (by decide) rfl
  obtain ⟨⟨a43, e43⟩, h43, r43⟩ := hc 43 _ (by decide) rfl
  obtain ⟨⟨a44, e44⟩, h44, r44⟩ := hc 44 _ (by decide) rfl
  obtain ⟨⟨a45, e45⟩, h45, r45⟩ := hc 45 _ (by decide) rfl
  obtain ⟨⟨a46, e46⟩, h46, r46⟩ := hc 46 _ (by decide) rfl
  obtain ⟨⟨a47, e47⟩, h47, r47⟩ := hc 47 _ (by decide) rfl
  obtain ⟨⟨a32, e32⟩, h32, r32⟩ := hc 32 _ (by decide) rfl
  obtain ⟨⟨a48, e48⟩, h48, r48⟩ := hc 48 _ (by decide) rfl
  obtain ⟨⟨a36, e36⟩, h36, r36⟩ := hc 36 _ (by decide) rfl
  obtain ⟨⟨a49, e49⟩, h49, r49⟩ := hc 49 _ (by decide) rfl
  obtain ⟨⟨a34, e34⟩, h34, r34⟩ := hc 34 _ (by decide) rfl
  obtain ⟨⟨a13, e13⟩, h13, r13⟩ := hc 13 _ (by decide) rfl
  obtain ⟨⟨a18, e18⟩, h18, r18⟩ := hc 18 _ (by decide) rfl
  obtain ⟨⟨a59, e59⟩, h59, r59⟩ := hc 59 _ (by decide) rfl
  obtain ⟨⟨a60, e60⟩, h60, r60⟩ := hc 60 _ (by decide) rfl
  obtain ⟨⟨a8, e8⟩, h8, r8⟩ := hc 8 _ (by decide) rfl
  obtain ⟨⟨a15, e15⟩, h15, r15⟩ := hc 15 _ (by decide) rfl
  obtain ⟨cA17, x17, f17, ⟨y17, g17⟩, t17, -⟩ := r17
  dsimp only at f17
  subst f17 g17
  obtain ⟨cA38, x38, f38, ⟨y38, g38⟩, t38, -⟩ := r38
  dsimp only at f38
  subst f38 g38
  obtain ⟨cA40, x40, f40, ⟨y40, g40⟩, t40, -⟩ := r40
  dsimp only at f40
  subst f40 g40
  obtain ⟨cA41, x41, f41, ⟨y41, g41⟩, t41, -⟩ := r41
  dsimp only at f41
  subst f41 g41
  obtain ⟨cA30, x30, f30, ⟨y30, g30⟩, t30, -⟩ := r30
  dsimp only at f30
  subst f30 g30
  obtain ⟨cA42, x42, f42, ⟨y42, g42⟩, t42, -⟩ := r42
  dsimp only at f42
  subst f42 g42
  obtain ⟨cA43, x43, f43, ⟨y43, g43⟩, t43, -⟩ := r43
  dsimp only at f43
  subst f43 g43
  obtain ⟨cA44, x44, f44, ⟨y44, g44⟩, t44, -⟩ := r44
  dsimp only at f44
  subst f44 g44
  obtain ⟨cA45, x45, f45, ⟨y45, g45⟩, t45, -⟩ := r45
  dsimp only at f45
  subst f45 g45
  obtain ⟨cA46, x46, f46, ⟨y46, g46⟩, t46, -⟩ := r46
  dsimp only at f46
  subst f46 g46
  obtain ⟨cA47, x47, f47, ⟨y47, g47⟩, t47, -⟩ := r47
  dsimp only at f47
  subst f47 g47
  obtain ⟨cA32, x32, f32, ⟨y32, g32⟩, t32, -⟩ := r32
  dsimp only at f32
  subst f32 g32
  obtain ⟨cA48, x48, f48, ⟨y48, g48⟩, t48, -⟩ := r48
  dsimp only at f48
  subst f48 g48
  obtain ⟨cA36, x36, f36, ⟨y36, g36⟩, t36, -⟩ := r36
  dsimp only at f36
  subst f36 g36
  obtain ⟨cA49, x49, f49, ⟨y49, g49⟩, t49, -⟩ := r49
  dsimp only at f49
  subst f49 g49
  obtain ⟨cA34, x34, f34, ⟨y34, g34⟩, t34, -⟩ := r34
  dsimp only at f34
  subst f34 g34
  obtain ⟨cA18, x18, f18, ⟨y18, g18⟩, t18, -⟩ := r18
  dsimp only at f18
  subst f18 g18
  obtain ⟨cA59, x59, f59, ⟨y59, g59⟩, t59, -⟩ := r59
  dsimp only at f59
  subst f59 g59
  obtain ⟨cA60, x60, f60, ⟨y60, g60⟩, t60, -⟩ := r60
  dsimp only at f60
  subst f60 g60
  have q10_0 := cu_R (cu_ad hz h3) (w10 0 _ _ rfl rfl)
  subst q10_0
  have q10_1 := cu_R (cu_ad hz h39) (w10 1 _ _ rfl rfl)
  subst q10_1
  obtain ⟨i10_2, q10_2⟩ := cu_Rx (w10 2 _ _ rfl rfl)
  subst q10_2
  have q10_4 := cu_R (cu_ad hz h13) (w10 4 _ _ rfl rfl)
  subst q10_4
  obtain ⟨i10_5, q10_5⟩ := cu_Rx (w10 5 _ _ rfl rfl)
  subst q10_5
  have q10_6 := cu_R (cu_ad hz h15) (w10 6 _ _ rfl rfl)
  subst q10_6
  obtain ⟨i10_8, q10_8⟩ := cu_Rx (w10 8 _ _ rfl rfl)
  subst q10_8
  obtain ⟨i10_9, q10_9⟩ := cu_Rx (w10 9 _ _ rfl rfl)
  subst q10_9
  obtain ⟨i10_10, q10_10⟩ := cu_Rx (w10 10 _ _ rfl rfl)
  subst q10_10
  obtain ⟨i10_11, q10_11⟩ := cu_Rx (w10 11 _ _ rfl rfl)
  subst q10_11
  obtain ⟨i10_12, q10_12⟩ := cu_Rx (w10 12 _ _ rfl rfl)
  subst q10_12
  obtain ⟨i10_13, q10_13⟩ := cu_Rx (w10 13 _ _ rfl rfl)
  subst q10_13
  obtain ⟨i10_14, q10_14⟩ := cu_I (w10 14 _ _ rfl rfl) rfl
  subst q10_14
  obtain ⟨i10_15, q10_15⟩ := cu_Rx (w10 15 _ _ rfl rfl)
  subst q10_15
  obtain ⟨i10_16, q10_16⟩ := cu_I (w10 16 _ _ rfl rfl) rfl
  subst q10_16
  obtain ⟨vs3, f3, l3, w3⟩ := r3
  dsimp only at f3
  subst f3
  obtain ⟨u3_0, s3_0, rfl, m3_0⟩ := cu_c l3
  obtain ⟨u3_1, s3_1, rfl, m3_1⟩ := cu_c m3_0
  obtain ⟨u3_2, s3_2, rfl, m3_2⟩ := cu_c m3_1
  obtain ⟨u3_3, s3_3, rfl, m3_3⟩ := cu_c m3_2
  obtain ⟨u3_4, s3_4, rfl, m3_4⟩ := cu_c m3_3
  obtain ⟨u3_5, s3_5, rfl, m3_5⟩ := cu_c m3_4
  obtain ⟨u3_6, s3_6, rfl, m3_6⟩ := cu_c m3_5
  obtain ⟨u3_7, s3_7, rfl, m3_7⟩ := cu_c m3_6
  obtain ⟨u3_8, s3_8, rfl, m3_8⟩ := cu_c m3_7
  obtain ⟨u3_9, s3_9, rfl, m3_9⟩ := cu_c m3_8
  obtain ⟨u3_10, s3_10, rfl, m3_10⟩ := cu_c m3_9
  obtain ⟨u3_11, s3_11, rfl, m3_11⟩ := cu_c m3_10
  obtain ⟨u3_12, s3_12, rfl, m3_12⟩ := cu_c m3_11
  obtain ⟨u3_13, s3_13, rfl, m3_13⟩ := cu_c m3_12
  obtain ⟨u3_14, s3_14, rfl, m3_14⟩ := cu_c m3_13
  cases cu_n m3_14
  have q3_0 := cu_R (cu_ad hz h17) (w3 0 _ _ rfl rfl)
  subst q3_0
  obtain ⟨i3_1, q3_1⟩ := cu_I (w3 1 _ _ rfl rfl) rfl
  obtain ⟨i3_2, q3_2⟩ := cu_I (w3 2 _ _ rfl rfl) rfl
  subst q3_2
  obtain ⟨i3_3, q3_3⟩ := cu_I (w3 3 _ _ rfl rfl) rfl
  subst q3_3
  obtain ⟨i3_4, q3_4⟩ := cu_I (w3 4 _ _ rfl rfl) rfl
  subst q3_4
  obtain ⟨i3_5, q3_5⟩ := cu_I (w3 5 _ _ rfl rfl) rfl
  subst q3_5
  obtain ⟨i3_6, q3_6⟩ := cu_L (w3 6 _ _ rfl rfl) rfl
  subst q3_6
  obtain ⟨i3_7, q3_7⟩ := cu_I (w3 7 _ _ rfl rfl) rfl
  subst q3_7
  obtain ⟨i3_8, q3_8⟩ := cu_I (w3 8 _ _ rfl rfl) rfl
  subst q3_8
  obtain ⟨i3_9, q3_9⟩ := cu_I (w3 9 _ _ rfl rfl) rfl
  subst q3_9
  obtain ⟨i3_10, q3_10⟩ := cu_L (w3 10 _ _ rfl rfl) rfl
  subst q3_10
  obtain ⟨i3_11, q3_11⟩ := cu_I (w3 11 _ _ rfl rfl) rfl
  subst q3_11
  obtain ⟨i3_12, q3_12⟩ := cu_I (w3 12 _ _ rfl rfl) rfl
  subst q3_12
  obtain ⟨i3_13, q3_13⟩ := cu_I (w3 13 _ _ rfl rfl) rfl
  subst q3_13
  have q3_14 := cu_R (cu_ad hz h38) (w3 14 _ _ rfl rfl)
  subst q3_14
  obtain ⟨vs39, f39, l39, w39⟩ := r39
  dsimp only at f39
  subst f39
  obtain ⟨u39_0, s39_0, rfl, m39_0⟩ := cu_c l39
  cases cu_n m39_0
  have q39_0 := cu_R (cu_ad hz h40) (w39 0 _ _ rfl rfl)
  subst q39_0
  obtain ⟨vs12, f12, l12, w12⟩ := r12
  dsimp only at f12
  subst f12
  obtain ⟨u12_0, s12_0, rfl, m12_0⟩ := cu_c l12
  obtain ⟨u12_1, s12_1, rfl, m12_1⟩ := cu_c m12_0
  obtain ⟨u12_2, s12_2, rfl, m12_2⟩ := cu_c m12_1
  obtain ⟨u12_3, s12_3, rfl, m12_3⟩ := cu_c m12_2
  obtain ⟨u12_4, s12_4, rfl, m12_4⟩ := cu_c m12_3
  obtain ⟨u12_5, s12_5, rfl, m12_5⟩ := cu_c m12_4
  obtain ⟨u12_6, s12_6, rfl, m12_6⟩ := cu_c m12_5
  obtain ⟨u12_7, s12_7, rfl, m12_7⟩ := cu_c m12_6
  obtain ⟨u12_8, s12_8, rfl, m12_8⟩ := cu_c m12_7
  obtain ⟨u12_9, s12_9, rfl, m12_9⟩ := cu_c m12_8
  obtain ⟨u12_10, s12_10, rfl, m12_10⟩ := cu_c m12_9
  obtain ⟨u12_11, s12_11, rfl, m12_11⟩ := cu_c m12_10
  obtain ⟨u12_12, s12_12, rfl, m12_12⟩ := cu_c m12_11
  obtain ⟨u12_13, s12_13, rfl, m12_13⟩ := cu_c m12_12
  obtain ⟨u12_14, s12_14, rfl, m12_14⟩ := cu_c m12_13
  obtain ⟨u12_15, s12_15, rfl, m12_15⟩ := cu_c m12_14
  cases cu_n m12_15
  obtain ⟨i12_0, q12_0⟩ := cu_I (w12 0 _ _ rfl rfl) rfl
  subst q12_0
  have q12_1 := cu_R (cu_ad hz h41) (w12 1 _ _ rfl rfl)
  subst q12_1
  have q12_2 := cu_R (cu_ad hz h30) (w12 2 _ _ rfl rfl)
  subst q12_2
  have q12_3 := cu_R (cu_ad hz h42) (w12 3 _ _ rfl rfl)
  subst q12_3
  obtain ⟨i12_4, q12_4⟩ := cu_I (w12 4 _ _ rfl rfl) rfl
  subst q12_4
  have q12_5 := cu_R (cu_ad hz h43) (w12 5 _ _ rfl rfl)
  subst q12_5
  have q12_6 := cu_R (cu_ad hz h44) (w12 6 _ _ rfl rfl)
  subst q12_6
  have q12_7 := cu_R (cu_ad hz h45) (w12 7 _ _ rfl rfl)
  subst q12_7
  have q12_8 := cu_R (cu_ad hz h46) (w12 8 _ _ rfl rfl)
  subst q12_8
  obtain ⟨i12_9, q12_9⟩ := cu_I (w12 9 _ _ rfl rfl) rfl
  subst q12_9
  have q12_10 := cu_R (cu_ad hz h47) (w12 10 _ _ rfl rfl)
  subst q12_10
  have q12_11 := cu_R (cu_ad hz h32) (w12 11 _ _ rfl rfl)
  subst q12_11
  have q12_12 := cu_R (cu_ad hz h48) (w12 12 _ _ rfl rfl)
  subst q12_12
  have q12_13 := cu_R (cu_ad hz h36) (w12 13 _ _ rfl rfl)
  subst q12_13
  have q12_14 := cu_R (cu_ad hz h49) (w12 14 _ _ rfl rfl)
  subst q12_14
  have q12_15 := cu_R (cu_ad hz h34) (w12 15 _ _ rfl rfl)
  subst q12_15
  obtain ⟨vs13, f13, l13, w13⟩ := r13
  dsimp only at f13
  subst f13
  obtain ⟨u13_0, s13_0, rfl, m13_0⟩ := cu_c l13
  obtain ⟨u13_1, s13_1, rfl, m13_1⟩ := cu_c m13_0
  obtain ⟨u13_2, s13_2, rfl, m13_2⟩ := cu_c m13_1
  obtain ⟨u13_3, s13_3, rfl, m13_3⟩ := cu_c m13_2
  obtain ⟨u13_4, s13_4, rfl, m13_4⟩ := cu_c m13_3
  obtain ⟨u13_5, s13_5, rfl, m13_5⟩ := cu_c m13_4
  obtain ⟨u13_6, s13_6, rfl, m13_6⟩ := cu_c m13_5
  cases cu_n m13_6
  obtain ⟨i13_0, q13_0⟩ := cu_I (w13 0 _ _ rfl rfl) rfl
  subst q13_0
  obtain ⟨i13_1, q13_1⟩ := cu_I (w13 1 _ _ rfl rfl) rfl
  subst q13_1
  obtain ⟨i13_2, q13_2⟩ := cu_I (w13 2 _ _ rfl rfl) rfl
  subst q13_2
  have q13_3 := cu_R (cu_ad hz h18) (w13 3 _ _ rfl rfl)
  subst q13_3
  have q13_4 := cu_R (cu_ad hz h59) (w13 4 _ _ rfl rfl)
  subst q13_4
  have q13_5 := cu_R (cu_ad hz h60) (w13 5 _ _ rfl rfl)
  subst q13_5
  obtain ⟨i13_6, q13_6⟩ := cu_I (w13 6 _ _ rfl rfl) rfl
  subst q13_6
  obtain ⟨vs8, f8, l8, w8⟩ := r8
  dsimp only at f8
  subst f8
  obtain ⟨u8_0, s8_0, rfl, m8_0⟩ := cu_c l8
  obtain ⟨u8_1, s8_1, rfl, m8_1⟩ := cu_c m8_0
  obtain ⟨u8_2, s8_2, rfl, m8_2⟩ := cu_c m8_1
  obtain ⟨u8_3, s8_3, rfl, m8_3⟩ := cu_c m8_2
  obtain ⟨u8_4, s8_4, rfl, m8_4⟩ := cu_c m8_3
  cases cu_n m8_4
  obtain ⟨i8_0, q8_0⟩ := cu_Rx (w8 0 _ _ rfl rfl)
  subst q8_0
  obtain ⟨i8_1, q8_1⟩ := cu_Rx (w8 1 _ _ rfl rfl)
  subst q8_1
  obtain ⟨i8_2, q8_2⟩ := cu_Rx (w8 2 _ _ rfl rfl)
  subst q8_2
  obtain ⟨i8_3, q8_3⟩ := cu_I (w8 3 _ _ rfl rfl) rfl
  subst q8_3
  obtain ⟨i8_4, q8_4⟩ := cu_I (w8 4 _ _ rfl rfl) rfl
  subst q8_4
  obtain ⟨vs15, f15, l15, w15⟩ := r15
  dsimp only at f15
  subst f15
  obtain ⟨u15_0, s15_0, rfl, m15_0⟩ := cu_c l15
  obtain ⟨u15_1, s15_1, rfl, m15_1⟩ := cu_c m15_0
  cases cu_n m15_1
  obtain ⟨i15_0, q15_0⟩ := cu_Rx (w15 0 _ _ rfl rfl)
  subst q15_0
  obtain ⟨i15_1, q15_1⟩ := cu_I (w15 1 _ _ rfl rfl) rfl
  subst q15_1
  have ed := hd.symm.trans (cu_ad hz h12)
  cases ed
  have es := hs.symm.trans (cu_ad hz h8)
  cases es
  have qd : u10_3 = .ref a12 := Option.some.inj hd2
  subst qd
  have qs : u10_7 = .ref a8 := Option.some.inj hs2
  subst qs
  subst q3_1
  refine ⟨((fun j => match j with
      | 0 => i3_1
      | 1 => i3_2
      | 2 => i3_3
      | 3 => i3_4
      | 4 => i3_5
      | 5 => i3_7
      | 6 => i3_8
      | 7 => i3_9
      | 8 => i3_11
      | 9 => i3_12
      | 10 => i3_13
      | 11 => i12_0
      | 12 => i12_4
      | 13 => i12_9
      | 14 => i10_14
      | 15 => i10_16
      | 16 => i13_0
      | 17 => i13_1
      | 18 => i13_2
      | 19 => i13_6
      | 20 => i8_3
      | 21 => i8_4
      | 22 => i15_1
      | _ => (0 : Int32)), (fun j => match j with
      | 0 => i3_6
      | 1 => i3_10
      | _ => (0 : Int64)), (fun j => match j with
      | 0 => y17
      | 1 => y30
      | 2 => y42
      | 3 => y43
      | 4 => y44
      | 5 => y45
      | 6 => y46
      | 7 => y32
      | 8 => y48
      | 9 => y36
      | 10 => y49
      | 11 => y34
      | 12 => y40
      | 13 => y18
      | 14 => y59
      | 15 => y60
      | _ => (fun _ => (0 : Int32))), (fun j => match j with
      | 0 => y38
      | 1 => y41
      | 2 => y47
      | _ => (fun _ => (0 : Int64)))), ([a10, a3, a17, a38, a39, a40, a12, a41, a30, a42, a43, a44, a45, a46, a47, a32, a48, a36, a49, a34, a13, a18, a59, a60, a8, a15], (fun j => match j with
      | 0 => i10_2
      | 1 => i10_5
      | 2 => i10_8
      | 3 => i10_9
      | 4 => i10_10
      | 5 => i10_11
      | 6 => i10_12
      | 7 => i10_13
      | 8 => i10_15
      | 9 => i8_0
      | 10 => i8_1
      | 11 => i8_2
      | 12 => i15_0
      | _ => 0)), [(a10, .inr (10, [.ref a3, .ref a39, .ref i10_2, .ref a12, .ref a13, .ref i10_5, .ref a15, .ref a8, .ref i10_8, .ref i10_9, .ref i10_10, .ref i10_11, .ref i10_12, .ref i10_13, .int i10_14, .ref i10_15, .int i10_16])),
      (a3, .inr (4, [.ref a17, .int i3_1, .int i3_2, .int i3_3, .int i3_4, .int i3_5, .long i3_6, .int i3_7, .int i3_8, .int i3_9, .long i3_10, .int i3_11, .int i3_12, .int i3_13, .ref a38])),
      (a17, .inl (cA17, 940, .inl y17)),
      (a38, .inl (cA38, 22, .inr (.inl y38))),
      (a39, .inr (9, [.ref a40])),
      (a40, .inl (cA40, 3, .inl y40)),
      (a12, .inr (8, [.int i12_0, .ref a41, .ref a30, .ref a42, .int i12_4, .ref a43, .ref a44, .ref a45, .ref a46, .int i12_9, .ref a47, .ref a32, .ref a48, .ref a36, .ref a49, .ref a34])),
      (a41, .inl (cA41, 7, .inr (.inl y41))),
      (a30, .inl (cA30, 7, .inl y30)),
      (a42, .inl (cA42, 7, .inl y42)),
      (a43, .inl (cA43, 12, .inl y43)),
      (a44, .inl (cA44, 12, .inl y44)),
      (a45, .inl (cA45, 12, .inl y45)),
      (a46, .inl (cA46, 12, .inl y46)),
      (a47, .inl (cA47, 8, .inr (.inl y47))),
      (a32, .inl (cA32, 8, .inl y32)),
      (a48, .inl (cA48, 8, .inl y48)),
      (a36, .inl (cA36, 8, .inl y36)),
      (a49, .inl (cA49, 8, .inl y49)),
      (a34, .inl (cA34, 3, .inl y34)),
      (a13, .inr (7, [.int i13_0, .int i13_1, .int i13_2, .ref a18, .ref a59, .ref a60, .int i13_6])),
      (a18, .inl (cA18, 7, .inl y18)),
      (a59, .inl (cA59, 7, .inl y59)),
      (a60, .inl (cA60, 7, .inl y60)),
      (a8, .inr (6, [.ref i8_0, .ref i8_1, .ref i8_2, .int i8_3, .int i8_4])),
      (a15, .inr (1, [.ref i15_0, .int i15_1]))], ?_, ?_, ?_, rfl, ⟨_, h17⟩, ⟨_, h3⟩, (cu_f_of h17).symm, (cu_q_of h38).symm, cu_ev1 (w3 1 _ _ rfl rfl)⟩
  · refine ⟨rfl, ⟨rfl, Nat.le_of_ble_eq_true rfl⟩, fun k c hk => ?_⟩
    match k, hk with
    | 0, hk => cases hk; exact ⟨_, rfl, rfl⟩
    | 1, hk => cases hk; exact ⟨_, rfl, rfl⟩
    | 2, hk => cases hk; exact ⟨_, rfl, Nat.le_of_ble_eq_true rfl, Nat.le_of_ble_eq_true rfl, ⟨_, rfl⟩, _, rfl, t17⟩
    | 3, hk => cases hk; exact ⟨_, rfl, Nat.le_of_ble_eq_true rfl, Nat.le_of_ble_eq_true rfl, ⟨_, rfl⟩, _, rfl, t38⟩
    | 4, hk => cases hk; exact ⟨_, rfl, rfl⟩
    | 5, hk => cases hk; exact ⟨_, rfl, Nat.le_of_ble_eq_true rfl, Nat.le_of_ble_eq_true rfl, ⟨_, rfl⟩, _, rfl, t40⟩
    | 6, hk => cases hk; exact ⟨_, rfl, rfl⟩
    | 7, hk => cases hk; exact ⟨_, rfl, Nat.le_of_ble_eq_true rfl, Nat.le_of_ble_eq_true rfl, ⟨_, rfl⟩, _, rfl, t41⟩
    | 8, hk => cases hk; exact ⟨_, rfl, Nat.le_of_ble_eq_true rfl, Nat.le_of_ble_eq_true rfl, ⟨_, rfl⟩, _, rfl, t30⟩
    | 9, hk => cases hk; exact ⟨_, rfl, Nat.le_of_ble_eq_true rfl, Nat.le_of_ble_eq_true rfl, ⟨_, rfl⟩, _, rfl, t42⟩
    | 10, hk => cases hk; exact ⟨_, rfl, Nat.le_of_ble_eq_true rfl, Nat.le_of_ble_eq_true rfl, ⟨_, rfl⟩, _, rfl, t43⟩
    | 11, hk => cases hk; exact ⟨_, rfl, Nat.le_of_ble_eq_true rfl, Nat.le_of_ble_eq_true rfl, ⟨_, rfl⟩, _, rfl, t44⟩
    | 12, hk => cases hk; exact ⟨_, rfl, Nat.le_of_ble_eq_true rfl, Nat.le_of_ble_eq_true rfl, ⟨_, rfl⟩, _, rfl, t45⟩
    | 13, hk => cases hk; exact ⟨_, rfl, Nat.le_of_ble_eq_true rfl, Nat.le_of_ble_eq_true rfl, ⟨_, rfl⟩, _, rfl, t46⟩
    | 14, hk => cases hk; exact ⟨_, rfl, Nat.le_of_ble_eq_true rfl, Nat.le_of_ble_eq_true rfl, ⟨_, rfl⟩, _, rfl, t47⟩
    | 15, hk => cases hk; exact ⟨_, rfl, Nat.le_of_ble_eq_true rfl, Nat.le_of_ble_eq_true rfl, ⟨_, rfl⟩, _, rfl, t32⟩
    | 16, hk => cases hk; exact ⟨_, rfl, Nat.le_of_ble_eq_true rfl, Nat.le_of_ble_eq_true rfl, ⟨_, rfl⟩, _, rfl, t48⟩
    | 17, hk => cases hk; exact ⟨_, rfl, Nat.le_of_ble_eq_true rfl, Nat.le_of_ble_eq_true rfl, ⟨_, rfl⟩, _, rfl, t36⟩
    | 18, hk => cases hk; exact ⟨_, rfl, Nat.le_of_ble_eq_true rfl, Nat.le_of_ble_eq_true rfl, ⟨_, rfl⟩, _, rfl, t49⟩
    | 19, hk => cases hk; exact ⟨_, rfl, Nat.le_of_ble_eq_true rfl, Nat.le_of_ble_eq_true rfl, ⟨_, rfl⟩, _, rfl, t34⟩
    | 20, hk => cases hk; exact ⟨_, rfl, rfl⟩
    | 21, hk => cases hk; exact ⟨_, rfl, Nat.le_of_ble_eq_true rfl, Nat.le_of_ble_eq_true rfl, ⟨_, rfl⟩, _, rfl, t18⟩
    | 22, hk => cases hk; exact ⟨_, rfl, Nat.le_of_ble_eq_true rfl, Nat.le_of_ble_eq_true rfl, ⟨_, rfl⟩, _, rfl, t59⟩
    | 23, hk => cases hk; exact ⟨_, rfl, Nat.le_of_ble_eq_true rfl, Nat.le_of_ble_eq_true rfl, ⟨_, rfl⟩, _, rfl, t60⟩
    | 24, hk => cases hk; exact ⟨_, rfl, rfl⟩
    | 25, hk => cases hk; exact ⟨_, rfl, rfl⟩
    | k + 26, hk => cases hk
  · intro q hq
    simp only [List.mem_cons, List.not_mem_nil, or_false] at hq
    rcases hq with rfl | rfl | rfl | rfl | rfl | rfl | rfl | rfl | rfl | rfl | rfl | rfl | rfl | rfl | rfl | rfl | rfl | rfl | rfl | rfl | rfl | rfl | rfl | rfl | rfl | rfl
    · exact List.mem_of_getElem? h10
    · exact List.mem_of_getElem? h3
    · exact List.mem_of_getElem? h17
    · exact List.mem_of_getElem? h38
    · exact List.mem_of_getElem? h39
    · exact List.mem_of_getElem? h40
    · exact List.mem_of_getElem? h12
    · exact List.mem_of_getElem? h41
    · exact List.mem_of_getElem? h30
    · exact List.mem_of_getElem? h42
    · exact List.mem_of_getElem? h43
    · exact List.mem_of_getElem? h44
    · exact List.mem_of_getElem? h45
    · exact List.mem_of_getElem? h46
    · exact List.mem_of_getElem? h47
    · exact List.mem_of_getElem? h32
    · exact List.mem_of_getElem? h48
    · exact List.mem_of_getElem? h36
    · exact List.mem_of_getElem? h49
    · exact List.mem_of_getElem? h34
    · exact List.mem_of_getElem? h13
    · exact List.mem_of_getElem? h18
    · exact List.mem_of_getElem? h59
    · exact List.mem_of_getElem? h60
    · exact List.mem_of_getElem? h8
    · exact List.mem_of_getElem? h15
  · exact ⟨[10, 3, 17, 38, 39, 40, 12, 41, 30, 42, 43, 44, 45, 46, 47, 32, 48, 36, 49, 34, 13, 18, 59, 60, 8, 15], by decide, by simp only [List.map_cons, List.map_nil, h10, h3, h17, h38, h39, h40, h12, h41, h30, h42, h43, h44, h45, h46, h47, h32, h48, h36, h49, h34, h13, h18, h59, h60, h8, h15]⟩
set_option maxRecDepth 100000 in
set_option maxHeartbeats 4000000 in
theorem cu_B {X : ab_X} {z : ab_Z} {s : State} {ws : va_W} (hc : ∀ (k : Nat) (c : ab_C), k ∈ cu_KB → gl_L[k]? = some c → ∃ q, ws[k]? = some q ∧ ab_cR X z s c q.2) (hz : ws.map Prod.fst = z.2.2) : ∃ (σ : ex_S) (A : ex_A) (we : va_W), ex_wR X A s (WB σ) we ∧ (∀ q ∈ we, q ∈ ws) ∧ (∃ pos : List Nat, pos.Nodup ∧ pos.map (fun k => ws[k]?) = we.map some) ∧ (∃ e, ws[0]? = some (A.1.getD 0 0, e)) ∧ (∃ e, ws[4]? = some (A.1.getD 1 0, e)) ∧ σ.2.2.1 0 = cu_f ws 4 ∧ σ.2.2.2 1 = cu_q ws 150 ∧ z.1[2]? = some (σ.1 1) := by
  obtain ⟨⟨a0, e0⟩, h0, r0⟩ := hc 0 _ (by decide) rfl
  obtain ⟨⟨a4, e4⟩, h4, r4⟩ := hc 4 _ (by decide) rfl
  obtain ⟨⟨a1, e1⟩, h1, r1⟩ := hc 1 _ (by decide) rfl
  obtain ⟨⟨a2, e2⟩, h2, r2⟩ := hc 2 _ (by decide) rfl
  obtain ⟨⟨a6, e6⟩, h6, r6⟩ := hc 6 _ (by decide) rfl
  obtain ⟨⟨a149, e149⟩, h149, r149⟩ := hc 149 _ (by decide) rfl
  obtain ⟨⟨a150, e150⟩, h150, r150⟩ := hc 150 _ (by decide) rfl
  obtain ⟨cA4, x4, f4, ⟨y4, g4⟩, t4, -⟩ := r4
  dsimp only at f4
  subst f4 g4
  obtain ⟨cA1, x1, f1, ⟨y1, g1⟩, t1, -⟩ := r1
  dsimp only at f1
  subst f1 g1
  obtain ⟨cA2, x2, f2, ⟨y2, g2⟩, t2, -⟩ := r2
  dsimp only at f2
  subst f2 g2
  obtain ⟨cA6, x6, f6, ⟨y6, g6⟩, t6, -⟩ := r6
  dsimp only at f6
  subst f6 g6
  obtain ⟨cA149, x149, f149, ⟨y149, g149⟩, t149, -⟩ := r149
  dsimp only at f149
  subst f149 g149
  obtain ⟨cA150, x150, f150, ⟨y150, g150⟩, t150, -⟩ := r150
  dsimp only at f150
  subst f150 g150
  obtain ⟨vs0, f0, l0, w0⟩ := r0
  dsimp only at f0
  subst f0
  obtain ⟨u0_0, s0_0, rfl, m0_0⟩ := cu_c l0
  obtain ⟨u0_1, s0_1, rfl, m0_1⟩ := cu_c m0_0
  obtain ⟨u0_2, s0_2, rfl, m0_2⟩ := cu_c m0_1
  obtain ⟨u0_3, s0_3, rfl, m0_3⟩ := cu_c m0_2
  obtain ⟨u0_4, s0_4, rfl, m0_4⟩ := cu_c m0_3
  obtain ⟨u0_5, s0_5, rfl, m0_5⟩ := cu_c m0_4
  obtain ⟨u0_6, s0_6, rfl, m0_6⟩ := cu_c m0_5
  obtain ⟨u0_7, s0_7, rfl, m0_7⟩ := cu_c m0_6
  obtain ⟨u0_8, s0_8, rfl, m0_8⟩ := cu_c m0_7
  obtain ⟨u0_9, s0_9, rfl, m0_9⟩ := cu_c m0_8
  obtain ⟨u0_10, s0_10, rfl, m0_10⟩ := cu_c m0_9
  obtain ⟨u0_11, s0_11, rfl, m0_11⟩ := cu_c m0_10
  obtain ⟨u0_12, s0_12, rfl, m0_12⟩ := cu_c m0_11
  obtain ⟨u0_13, s0_13, rfl, m0_13⟩ := cu_c m0_12
  obtain ⟨u0_14, s0_14, rfl, m0_14⟩ := cu_c m0_13
  obtain ⟨u0_15, s0_15, rfl, m0_15⟩ := cu_c m0_14
  obtain ⟨u0_16, s0_16, rfl, m0_16⟩ := cu_c m0_15
  obtain ⟨u0_17, s0_17, rfl, m0_17⟩ := cu_c m0_16
  obtain ⟨u0_18, s0_18, rfl, m0_18⟩ := cu_c m0_17
  obtain ⟨u0_19, s0_19, rfl, m0_19⟩ := cu_c m0_18
  obtain ⟨u0_20, s0_20, rfl, m0_20⟩ := cu_c m0_19
  obtain ⟨u0_21, s0_21, rfl, m0_21⟩ := cu_c m0_20
  obtain ⟨u0_22, s0_22, rfl, m0_22⟩ := cu_c m0_21
  obtain ⟨u0_23, s0_23, rfl, m0_23⟩ := cu_c m0_22
  obtain ⟨u0_24, s0_24, rfl, m0_24⟩ := cu_c m0_23
  obtain ⟨u0_25, s0_25, rfl, m0_25⟩ := cu_c m0_24
  obtain ⟨u0_26, s0_26, rfl, m0_26⟩ := cu_c m0_25
  obtain ⟨u0_27, s0_27, rfl, m0_27⟩ := cu_c m0_26
  obtain ⟨u0_28, s0_28, rfl, m0_28⟩ := cu_c m0_27
  obtain ⟨u0_29, s0_29, rfl, m0_29⟩ := cu_c m0_28
  obtain ⟨u0_30, s0_30, rfl, m0_30⟩ := cu_c m0_29
  obtain ⟨u0_31, s0_31, rfl, m0_31⟩ := cu_c m0_30
  obtain ⟨u0_32, s0_32, rfl, m0_32⟩ := cu_c m0_31
  obtain ⟨u0_33, s0_33, rfl, m0_33⟩ := cu_c m0_32
  obtain ⟨u0_34, s0_34, rfl, m0_34⟩ := cu_c m0_33
  obtain ⟨u0_35, s0_35, rfl, m0_35⟩ := cu_c m0_34
  obtain ⟨u0_36, s0_36, rfl, m0_36⟩ := cu_c m0_35
  obtain ⟨u0_37, s0_37, rfl, m0_37⟩ := cu_c m0_36
  obtain ⟨u0_38, s0_38, rfl, m0_38⟩ := cu_c m0_37
  obtain ⟨u0_39, s0_39, rfl, m0_39⟩ := cu_c m0_38
  obtain ⟨u0_40, s0_40, rfl, m0_40⟩ := cu_c m0_39
  obtain ⟨u0_41, s0_41, rfl, m0_41⟩ := cu_c m0_40
  obtain ⟨u0_42, s0_42, rfl, m0_42⟩ := cu_c m0_41
  obtain ⟨u0_43, s0_43, rfl, m0_43⟩ := cu_c m0_42
  obtain ⟨u0_44, s0_44, rfl, m0_44⟩ := cu_c m0_43
  obtain ⟨u0_45, s0_45, rfl, m0_45⟩ := cu_c m0_44
  obtain ⟨u0_46, s0_46, rfl, m0_46⟩ := cu_c m0_45
  obtain ⟨u0_47, s0_47, rfl, m0_47⟩ := cu_c m0_46
  obtain ⟨u0_48, s0_48, rfl, m0_48⟩ := cu_c m0_47
  obtain ⟨u0_49, s0_49, rfl, m0_49⟩ := cu_c m0_48
  obtain ⟨u0_50, s0_50, rfl, m0_50⟩ := cu_c m0_49
  cases cu_n m0_50
  obtain ⟨i0_0, q0_0⟩ := cu_I (w0 0 _ _ rfl rfl) rfl
  subst q0_0
  have q0_1 := cu_R (cu_ad hz h4) (w0 1 _ _ rfl rfl)
  subst q0_1
  obtain ⟨i0_2, q0_2⟩ := cu_I (w0 2 _ _ rfl rfl) rfl
  obtain ⟨i0_3, q0_3⟩ := cu_I (w0 3 _ _ rfl rfl) rfl
  subst q0_3
  obtain ⟨i0_4, q0_4⟩ := cu_I (w0 4 _ _ rfl rfl) rfl
  subst q0_4
  obtain ⟨i0_5, q0_5⟩ := cu_I (w0 5 _ _ rfl rfl) rfl
  subst q0_5
  have q0_6 := cu_R (cu_ad hz h1) (w0 6 _ _ rfl rfl)
  subst q0_6
  have q0_7 := cu_R (cu_ad hz h2) (w0 7 _ _ rfl rfl)
  subst q0_7
  have q0_8 := cu_R (cu_ad hz h6) (w0 8 _ _ rfl rfl)
  subst q0_8
  have q0_9 := cu_R (cu_ad hz h149) (w0 9 _ _ rfl rfl)
  subst q0_9
  have q0_10 := cu_R (cu_ad hz h150) (w0 10 _ _ rfl rfl)
  subst q0_10
  obtain ⟨i0_11, q0_11⟩ := cu_I (w0 11 _ _ rfl rfl) rfl
  subst q0_11
  obtain ⟨i0_12, q0_12⟩ := cu_I (w0 12 _ _ rfl rfl) rfl
  subst q0_12
  obtain ⟨i0_13, q0_13⟩ := cu_I (w0 13 _ _ rfl rfl) rfl
  subst q0_13
  obtain ⟨i0_14, q0_14⟩ := cu_I (w0 14 _ _ rfl rfl) rfl
  subst q0_14
  obtain ⟨i0_15, q0_15⟩ := cu_I (w0 15 _ _ rfl rfl) rfl
  subst q0_15
  obtain ⟨i0_16, q0_16⟩ := cu_I (w0 16 _ _ rfl rfl) rfl
  subst q0_16
  obtain ⟨i0_17, q0_17⟩ := cu_L (w0 17 _ _ rfl rfl) rfl
  subst q0_17
  obtain ⟨i0_18, q0_18⟩ := cu_I (w0 18 _ _ rfl rfl) rfl
  subst q0_18
  obtain ⟨i0_19, q0_19⟩ := cu_I (w0 19 _ _ rfl rfl) rfl
  subst q0_19
  obtain ⟨i0_20, q0_20⟩ := cu_I (w0 20 _ _ rfl rfl) rfl
  subst q0_20
  obtain ⟨i0_21, q0_21⟩ := cu_Rx (w0 21 _ _ rfl rfl)
  subst q0_21
  obtain ⟨i0_22, q0_22⟩ := cu_Rx (w0 22 _ _ rfl rfl)
  subst q0_22
  obtain ⟨i0_23, q0_23⟩ := cu_I (w0 23 _ _ rfl rfl) rfl
  subst q0_23
  obtain ⟨i0_24, q0_24⟩ := cu_Rx (w0 24 _ _ rfl rfl)
  subst q0_24
  obtain ⟨i0_25, q0_25⟩ := cu_Rx (w0 25 _ _ rfl rfl)
  subst q0_25
  obtain ⟨i0_26, q0_26⟩ := cu_Rx (w0 26 _ _ rfl rfl)
  subst q0_26
  obtain ⟨i0_27, q0_27⟩ := cu_I (w0 27 _ _ rfl rfl) rfl
  subst q0_27
  obtain ⟨i0_28, q0_28⟩ := cu_I (w0 28 _ _ rfl rfl) rfl
  subst q0_28
  obtain ⟨i0_29, q0_29⟩ := cu_Rx (w0 29 _ _ rfl rfl)
  subst q0_29
  obtain ⟨i0_30, q0_30⟩ := cu_Rx (w0 30 _ _ rfl rfl)
  subst q0_30
  obtain ⟨i0_31, q0_31⟩ := cu_Rx (w0 31 _ _ rfl rfl)
  subst q0_31
  obtain ⟨i0_32, q0_32⟩ := cu_Rx (w0 32 _ _ rfl rfl)
  subst q0_32
  obtain ⟨i0_33, q0_33⟩ := cu_Rx (w0 33 _ _ rfl rfl)
  subst q0_33
  obtain ⟨i0_34, q0_34⟩ := cu_I (w0 34 _ _ rfl rfl) rfl
  subst q0_34
  obtain ⟨i0_35, q0_35⟩ := cu_Rx (w0 35 _ _ rfl rfl)
  subst q0_35
  obtain ⟨i0_36, q0_36⟩ := cu_I (w0 36 _ _ rfl rfl) rfl
  subst q0_36
  obtain ⟨i0_37, q0_37⟩ := cu_I (w0 37 _ _ rfl rfl) rfl
  subst q0_37
  obtain ⟨i0_38, q0_38⟩ := cu_I (w0 38 _ _ rfl rfl) rfl
  subst q0_38
  obtain ⟨i0_39, q0_39⟩ := cu_Rx (w0 39 _ _ rfl rfl)
  subst q0_39
  obtain ⟨i0_40, q0_40⟩ := cu_I (w0 40 _ _ rfl rfl) rfl
  subst q0_40
  obtain ⟨i0_41, q0_41⟩ := cu_Rx (w0 41 _ _ rfl rfl)
  subst q0_41
  obtain ⟨i0_42, q0_42⟩ := cu_I (w0 42 _ _ rfl rfl) rfl
  subst q0_42
  obtain ⟨i0_43, q0_43⟩ := cu_I (w0 43 _ _ rfl rfl) rfl
  subst q0_43
  obtain ⟨i0_44, q0_44⟩ := cu_I (w0 44 _ _ rfl rfl) rfl
  subst q0_44
  obtain ⟨i0_45, q0_45⟩ := cu_I (w0 45 _ _ rfl rfl) rfl
  subst q0_45
  obtain ⟨i0_46, q0_46⟩ := cu_I (w0 46 _ _ rfl rfl) rfl
  subst q0_46
  obtain ⟨i0_47, q0_47⟩ := cu_Rx (w0 47 _ _ rfl rfl)
  subst q0_47
  obtain ⟨i0_48, q0_48⟩ := cu_Rx (w0 48 _ _ rfl rfl)
  subst q0_48
  obtain ⟨i0_49, q0_49⟩ := cu_Rx (w0 49 _ _ rfl rfl)
  subst q0_49
  obtain ⟨i0_50, q0_50⟩ := cu_Rx (w0 50 _ _ rfl rfl)
  subst q0_50
  subst q0_2
  refine ⟨((fun j => match j with
      | 0 => i0_0
      | 1 => i0_2
      | 2 => i0_3
      | 3 => i0_4
      | 4 => i0_5
      | 5 => i0_11
      | 6 => i0_12
      | 7 => i0_13
      | 8 => i0_14
      | 9 => i0_15
      | 10 => i0_16
      | 11 => i0_18
      | 12 => i0_19
      | 13 => i0_20
      | 14 => i0_23
      | 15 => i0_27
      | 16 => i0_28
      | 17 => i0_34
      | 18 => i0_36
      | 19 => i0_37
      | 20 => i0_38
      | 21 => i0_40
      | 22 => i0_42
      | 23 => i0_43
      | 24 => i0_44
      | 25 => i0_45
      | 26 => i0_46
      | _ => (0 : Int32)), (fun j => match j with
      | 0 => i0_17
      | _ => (0 : Int64)), (fun j => match j with
      | 0 => y4
      | 1 => y1
      | 2 => y2
      | 3 => y6
      | _ => (fun _ => (0 : Int32))), (fun j => match j with
      | 0 => y149
      | 1 => y150
      | _ => (fun _ => (0 : Int64)))), ([a0, a4, a1, a2, a6, a149, a150], (fun j => match j with
      | 0 => i0_21
      | 1 => i0_22
      | 2 => i0_24
      | 3 => i0_25
      | 4 => i0_26
      | 5 => i0_29
      | 6 => i0_30
      | 7 => i0_31
      | 8 => i0_32
      | 9 => i0_33
      | 10 => i0_35
      | 11 => i0_39
      | 12 => i0_41
      | 13 => i0_47
      | 14 => i0_48
      | 15 => i0_49
      | 16 => i0_50
      | _ => 0)), [(a0, .inr (11, [.int i0_0, .ref a4, .int i0_2, .int i0_3, .int i0_4, .int i0_5, .ref a1, .ref a2, .ref a6, .ref a149, .ref a150, .int i0_11, .int i0_12, .int i0_13, .int i0_14, .int i0_15, .int i0_16, .long i0_17, .int i0_18, .int i0_19, .int i0_20, .ref i0_21, .ref i0_22, .int i0_23, .ref i0_24, .ref i0_25, .ref i0_26, .int i0_27, .int i0_28, .ref i0_29, .ref i0_30, .ref i0_31, .ref i0_32, .ref i0_33, .int i0_34, .ref i0_35, .int i0_36, .int i0_37, .int i0_38, .ref i0_39, .int i0_40, .ref i0_41, .int i0_42, .int i0_43, .int i0_44, .int i0_45, .int i0_46, .ref i0_47, .ref i0_48, .ref i0_49, .ref i0_50])),
      (a4, .inl (cA4, 940, .inl y4)),
      (a1, .inl (cA1, 305, .inl y1)),
      (a2, .inl (cA2, 100, .inl y2)),
      (a6, .inl (cA6, 135, .inl y6)),
      (a149, .inl (cA149, 30, .inr (.inl y149))),
      (a150, .inl (cA150, 22, .inr (.inl y150)))], ?_, ?_, ?_, ⟨_, h0⟩, ⟨_, h4⟩, (cu_f_of h4).symm, (cu_q_of h150).symm, cu_ev1 (w0 2 _ _ rfl rfl)⟩
  · refine ⟨rfl, ⟨rfl, Nat.le_of_ble_eq_true rfl⟩, fun k c hk => ?_⟩
    match k, hk with
    | 0, hk => cases hk; exact ⟨_, rfl, rfl⟩
    | 1, hk => cases hk; exact ⟨_, rfl, Nat.le_of_ble_eq_true rfl, Nat.le_of_ble_eq_true rfl, ⟨_, rfl⟩, _, rfl, t4⟩
    | 2, hk => cases hk; exact ⟨_, rfl, Nat.le_of_ble_eq_true rfl, Nat.le_of_ble_eq_true rfl, ⟨_, rfl⟩, _, rfl, t1⟩
    | 3, hk => cases hk; exact ⟨_, rfl, Nat.le_of_ble_eq_true rfl, Nat.le_of_ble_eq_true rfl, ⟨_, rfl⟩, _, rfl, t2⟩
    | 4, hk => cases hk; exact ⟨_, rfl, Nat.le_of_ble_eq_true rfl, Nat.le_of_ble_eq_true rfl, ⟨_, rfl⟩, _, rfl, t6⟩
    | 5, hk => cases hk; exact ⟨_, rfl, Nat.le_of_ble_eq_true rfl, Nat.le_of_ble_eq_true rfl, ⟨_, rfl⟩, _, rfl, t149⟩
    | 6, hk => cases hk; exact ⟨_, rfl, Nat.le_of_ble_eq_true rfl, Nat.le_of_ble_eq_true rfl, ⟨_, rfl⟩, _, rfl, t150⟩
    | k + 7, hk => cases hk
  · intro q hq
    simp only [List.mem_cons, List.not_mem_nil, or_false] at hq
    rcases hq with rfl | rfl | rfl | rfl | rfl | rfl | rfl
    · exact List.mem_of_getElem? h0
    · exact List.mem_of_getElem? h4
    · exact List.mem_of_getElem? h1
    · exact List.mem_of_getElem? h2
    · exact List.mem_of_getElem? h6
    · exact List.mem_of_getElem? h149
    · exact List.mem_of_getElem? h150
  · exact ⟨[0, 4, 1, 2, 6, 149, 150], by decide, by simp only [List.map_cons, List.map_nil, h0, h4, h1, h2, h6, h149, h150]⟩
set_option maxRecDepth 100000 in
set_option maxHeartbeats 4000000 in
theorem cu_A {X : ab_X} {z : ab_Z} {s : State} {ws : va_W} (hc : ∀ (k : Nat) (c : ab_C), k ∈ cu_KA → gl_L[k]? = some c → ∃ q, ws[k]? = some q ∧ ab_cR X z s c q.2) (hz : ws.map Prod.fst = z.2.2) : ∃ (σ : ex_S) (A : ex_A) (we : va_W), ex_wR X A s (WA 2000000 6 σ) we ∧ (∀ q ∈ we, q ∈ ws) ∧ (∃ pos : List Nat, pos.Nodup ∧ pos.map (fun k => ws[k]?) = we.map some) ∧ (∃ e, ws[10]? = some (A.1.getD 0 0, e)) ∧ (∃ e, ws[17]? = some (A.1.getD 2 0, e)) ∧ (∃ e, ws[3]? = some (A.1.getD 1 0, e)) ∧ σ.2.2.1 0 = cu_f ws 17 ∧ σ.2.2.2 0 = cu_q ws 38 ∧ z.1[1]? = some (σ.1 0) := by
  obtain ⟨⟨a10, e10⟩, h10, r10⟩ := hc 10 _ (by decide) rfl
  obtain ⟨vs10, f10, l10, w10⟩ := r10
  dsimp only at f10
  subst f10
  have hjd : 3 < vs10.length := by rw [← l10]; decide
  have hjs : 7 < vs10.length := by rw [← l10]; decide
  have ed := List.getElem?_eq_getElem hjd
  have es := List.getElem?_eq_getElem hjs
  have gd := cu_R2 (k1 := 11) (k2 := 12) (w10 3 _ _ rfl ed)
  have gs := cu_R2 (k1 := 8) (k2 := 9) (w10 7 _ _ rfl es)
  rcases gd with ⟨ad, d1, d2⟩ | ⟨ad, d1, d2⟩ <;> rcases gs with ⟨as9, g1, g2⟩ | ⟨as9, g1, g2⟩
  · obtain ⟨σ, A, we, b1, b2, b3, b4, b5⟩ := cu_A_11_8 hc hz h10 l10 w10 d1 (by rw [ed, d2]) g1 (by rw [es, g2])
    exact ⟨σ, A, we, b1, b2, b3, ⟨_, by rw [b4]; exact h10⟩, b5⟩
  · obtain ⟨σ, A, we, b1, b2, b3, b4, b5⟩ := cu_A_11_9 hc hz h10 l10 w10 d1 (by rw [ed, d2]) g1 (by rw [es, g2])
    exact ⟨σ, A, we, b1, b2, b3, ⟨_, by rw [b4]; exact h10⟩, b5⟩
  · obtain ⟨σ, A, we, b1, b2, b3, b4, b5⟩ := cu_A_12_8 hc hz h10 l10 w10 d1 (by rw [ed, d2]) g1 (by rw [es, g2])
    exact ⟨σ, A, we, b1, b2, b3, ⟨_, by rw [b4]; exact h10⟩, b5⟩
  · obtain ⟨σ, A, we, b1, b2, b3, b4, b5⟩ := cu_A_12_9 hc hz h10 l10 w10 d1 (by rw [ed, d2]) g1 (by rw [es, g2])
    exact ⟨σ, A, we, b1, b2, b3, ⟨_, by rw [b4]; exact h10⟩, b5⟩
