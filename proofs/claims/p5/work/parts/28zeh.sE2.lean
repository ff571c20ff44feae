/-! The sentence: both sides read alike. -/
/-- the towns' names are the same -/
noncomputable def E_Nm (a b : ex_S) : Prop := a.1 11 = b.2.2.1 1 0 ∧ ∀ j : Nat, (j : Int) < (a.1 11).toInt → a.2.2.2 1 j = b.2.2.2 0 j
noncomputable def E3 (a b : ex_S) : Prop := E_R a b ∧ E_Nm a b ∧ a.1 21 = b.1 23 ∧ a.1 9 = b.1 9
noncomputable def ES (a b : ex_S) : Prop := E3 a b ∧ SA_INV a ∧ SI b ∧ SN b
/-- what both readers look at is as it was -/
noncomputable def B_W (b b' : ex_S) : Prop := (∀ k, k < 22 ∨ k = 23 → b'.1 k = b.1 k) ∧ b'.2.1 = b.2.1 ∧ (∀ j, j < 3 → b'.2.2.1 j = b.2.2.1 j) ∧ b'.2.2.2 = b.2.2.2
theorem B_W_0 (b : ex_S) : B_W b b := ⟨fun _ _ => rfl, rfl, fun _ _ => rfl, rfl⟩
theorem B_W_t {a b c : ex_S} (h1 : B_W a b) (h2 : B_W b c) : B_W a c := ⟨fun k hk => (h2.1 k hk).trans (h1.1 k hk), h2.2.1.trans h1.2.1, fun j hj => (h2.2.2.1 j hj).trans (h1.2.2.1 j hj), h2.2.2.2.trans h1.2.2.2⟩
theorem B_W_M {b b' : ex_S} (h : B_M b b') : B_W b b' := ⟨fun k hk => h.1 k (by omega), h.2.1, fun j hj => h.2.2.1 j (by omega), h.2.2.2⟩
theorem B_W_I {b : ex_S} {k : Nat} {v : Int32} (hk : 22 ≤ k ∧ ¬ k = 23) : B_W b (sI k v b) := ⟨fun j hj => sI_1.trans (if_neg (by omega)), rfl, fun _ _ => rfl, rfl⟩
theorem B_W_R {b : ex_S} {k : Nat} {f : Nat → Int32} (hk : 3 ≤ k) : B_W b (sR k f b) := ⟨fun _ _ => rfl, rfl, fun j hj => sR_1.trans (if_neg (by omega)), rfl⟩
theorem E3_W {a b b' : ex_S} (h : E3 a b) (hW : B_W b b') : E3 a b' := by
  obtain ⟨⟨h1, h2, h3, h4⟩, h5, h6, h7⟩ := h
  have k : ∀ k : Nat, k < 22 → b'.1 k = b.1 k := fun k hk => hW.1 k (Or.inl hk)
  refine ⟨⟨?_, h2, ?_, ?_⟩, ?_, ?_, ?_⟩
  · unfold E_ev at h1 ⊢
    rw [k 2 (by decide), k 4 (by decide), hW.2.2.1 0 (by decide), hW.2.2.2]; exact h1
  · unfold B_INV at h3 ⊢
    rw [k 2 (by decide), k 3 (by decide), hW.2.2.1 2 (by decide)]; exact h3
  · unfold E_T at h4 ⊢
    rw [k 6 (by decide), k 5 (by decide), k 3 (by decide), k 8 (by decide), hW.2.1]; exact h4
  · unfold E_Nm at h5 ⊢
    rw [hW.2.2.1 1 (by decide), hW.2.2.2]; exact h5
  · rw [hW.1 23 (Or.inr rfl)]; exact h6
  · rw [k 9 (by decide)]; exact h7
theorem E3_add {a b : ex_S} {x y z : Int32} (h : E3 a b) : E3 (A_addStep x y z a) b := by
  obtain ⟨⟨h1, h2, h3, h4⟩, h5, h6, h7⟩ := h
  obtain ⟨r1, r2, r3⟩ := A_addStep_r (stp := x) (sgn := y) (num := z) (σ := a)
  have k : ∀ j : Nat, ¬ j = 20 → (A_addStep x y z a).1 j = a.1 j := fun j hj => A_addStep_k hj
  refine ⟨⟨?_, A_INV_add h2, h3, ?_⟩, ?_, ?_, ?_⟩
  · unfold E_ev at h1 ⊢
    rw [k 0 (by decide), k 1 (by decide), r2, r3]; exact h1
  · unfold E_T at h4 ⊢
    rw [k 3 (by decide), k 4 (by decide), k 6 (by decide), k 2 (by decide), k 5 (by decide), r1]; exact h4
  · unfold E_Nm at h5 ⊢
    rw [k 11 (by decide), r3]; exact h5
  · rw [k 21 (by decide)]; exact h6
  · rw [k 9 (by decide)]; exact h7
theorem ES_add {a b : ex_S} {x y z : Int32} (h : ES a b) : ES (A_addStep x y z a) b := ⟨E3_add h.1, SA_add h.2.1, h.2.2⟩
theorem E3_nx {a b : ex_S} (h : E3 a b) (hp : a.1 2 = b.1 3) : E3 (A_next a) (B_next b) := by
  obtain ⟨⟨h1, h2, h3, h4⟩, h5, h6, h7⟩ := h
  have f := kA_next a
  have g := kB_next b
  refine ⟨E_nx h1 h2 h3 hp, ?_, ?_, ?_⟩
  · unfold E_Nm at h5 ⊢
    rw [f.1 11 (by omega), f.2.2, g.2]; exact h5
  · rw [f.1 21 (by omega), g.1 23 (by omega)]; exact h6
  · rw [f.1 9 (by omega), g.1 9 (by omega)]; exact h7
theorem E3_up {a b : ex_S} (h : E3 a b) : E3 (sI 21 ((a.1 21) + (1 : Int32)) a) (B_up b) := by
  obtain ⟨⟨h1, h2, h3, h4⟩, h5, h6, h7⟩ := h
  refine ⟨⟨h1, h2, h3, h4⟩, h5, ?_, h7⟩
  show (a.1 21) + (1 : Int32) = (b.1 23) + (1 : Int32)
  rw [h6]
-- the reference's loop
theorem B_it_1 : ∀ (N : Nat) (b : ex_S) (v : Int32 × ex_S), B_it N b = some v → B_it (N + 1) b = some v := by
  intro N
  induction N with
  | zero =>
    intro b v h
    have h : (none : Option (Int32 × ex_S)) = some v := h
    cases h
  | succ N ih =>
    intro b v h
    rw [B_it_s] at h ⊢
    by_cases c1 : b.1 26 = 0
    · rw [if_pos c1] at h ⊢
      simp only [ex_bd] at h ⊢
      by_cases c2 : (B_operand b).1 = 0
      · rw [if_pos c2] at h ⊢; exact h
      · rw [if_neg c2] at h ⊢; exact ih _ _ h
    · rw [if_neg c1] at h ⊢
      by_cases c3 : b.1 5 = 0
      · rw [if_pos c3] at h ⊢; exact h
      · rw [if_neg c3] at h ⊢
        simp only [ex_bd] at h ⊢
        by_cases c2 : (B_behind b).1 = 0
        · rw [if_pos c2] at h ⊢; exact h
        · rw [if_neg c2] at h ⊢; exact ih _ _ h
theorem B_it_m {N : Nat} {b : ex_S} {v : Int32 × ex_S} (h : B_it N b = some v) : ∀ M, B_it (N + M) b = some v := by
  intro M
  induction M with
  | zero => exact h
  | succ M ih => exact B_it_1 _ _ _ ih
theorem B_it_eq {N M : Nat} {b : ex_S} {v w : Int32 × ex_S} (h : B_it N b = some v) (g : B_it M b = some w) : v = w := by
  have h1 := B_it_m h M
  have h2 := B_it_m g N
  rw [Nat.add_comm] at h2
  exact Option.some.inj (h1.symm.trans h2)
/-- it comes from b to b' -/
noncomputable def B_go (b b' : ex_S) : Prop := ∃ j, ∀ N, B_it (N + j) b = B_it N b'
theorem B_go_0 (b : ex_S) : B_go b b := ⟨0, fun _ => rfl⟩
theorem B_go_t {a b c : ex_S} (h1 : B_go a b) (h2 : B_go b c) : B_go a c := by
  obtain ⟨j, h1⟩ := h1
  obtain ⟨k, h2⟩ := h2
  exact ⟨k + j, fun N => by rw [← Nat.add_assoc, h1, h2]⟩
theorem B_go_o {b b' : ex_S} {r : Int32} (h : b.1 26 = 0) (q : B_operand b = (r, b')) (hr : ¬ r = 0) : B_go b b' := ⟨1, fun N => by rw [B_it_o h q, if_neg hr]⟩
theorem B_go_b {b b' : ex_S} {r : Int32} (h : ¬ b.1 26 = 0) (h2 : ¬ b.1 5 = 0) (q : B_behind b = (r, b')) (hr : ¬ r = 0) : B_go b b' := ⟨1, fun N => by rw [B_it_b h h2 q, if_neg hr]⟩
/-- both fail alike -/
noncomputable def KF (x : Int32 × ex_S) (b : ex_S) : Prop := x.1 = 0 ∧ ∃ j v, B_it j b = some v ∧ v.1 = (-1 : Int32) - x.2.1 10 ∧ v.2.1 9 = x.2.1 9
theorem KF_go {x : Int32 × ex_S} {b b' : ex_S} (h : B_go b b') (hf : KF x b') : KF x b := by
  obtain ⟨j, h⟩ := h
  obtain ⟨h1, k, v, h2, h3⟩ := hf
  exact ⟨h1, k + j, v, by rw [h]; exact h2, h3⟩
theorem KF_o {a b c : ex_S} {w : Int32} (h : b.1 26 = 0) (q : B_operand b = B_bad w c) (hT : a.1 3 = c.1 6) : KF (A_failAs w a) b := by
  refine ⟨rfl, 1, ((-1 : Int32) - (c.1 6), (B_bad w c).2), ?_, ?_, rfl⟩
  · have q' : B_operand b = ((0 : Int32), (B_bad w c).2) := q
    rw [B_it_o h q', if_pos rfl]
    rfl
  · show (-1 : Int32) - (c.1 6) = (-1 : Int32) - (a.1 3)
    rw [hT]
theorem KF_b {a b c : ex_S} {w : Int32} (h : ¬ b.1 26 = 0) (h2 : ¬ b.1 5 = 0) (q : B_behind b = B_bad w c) (hT : a.1 3 = c.1 6) : KF (A_failAs w a) b := by
  refine ⟨rfl, 1, ((-1 : Int32) - (c.1 6), (B_bad w c).2), ?_, ?_, rfl⟩
  · have q' : B_behind b = ((0 : Int32), (B_bad w c).2) := q
    rw [B_it_b h h2 q', if_pos rfl]
    rfl
  · show (-1 : Int32) - (c.1 6) = (-1 : Int32) - (a.1 3)
    rw [hT]
theorem KF_e {a b : ex_S} (h : ¬ b.1 26 = 0) (h2 : b.1 5 = 0) (h3 : 0 < ((B_joins (22 : Int32) (B_nots b)).1 24).toInt) (hT : a.1 3 = (B_joins (22 : Int32) (B_nots b)).1 6) : KF (A_failAs (1 : Int32) a) b := by
  refine ⟨rfl, 1, ((-1 : Int32) - ((B_joins (22 : Int32) (B_nots b)).1 6), (B_bad (1 : Int32) (B_joins (22 : Int32) (B_nots b))).2), ?_, ?_, rfl⟩
  · rw [B_it_e h h2, if_pos h3]
    rfl
  · show (-1 : Int32) - ((B_joins (22 : Int32) (B_nots b)).1 6) = (-1 : Int32) - (a.1 3)
    rw [hT]
/-- what a piece of the class's text comes to on the reference's side -/
noncomputable def KG (p w : Int32 → Prop) (x : Int32 × ex_S) (b : ex_S) (S : List Int32) (dp : Int32) : Prop := KF x b ∨ (x.1 = 1 ∧ ∃ (b' : ex_S) (m : Nat) (X : List Int32), B_go b b' ∧ ES x.2 b' ∧ ¬ b'.1 26 = 0 ∧ (∀ v ∈ X, p v) ∧ KS b' (List.replicate m 20 ++ (X ++ S)) ∧ (b'.1 25).toInt = dp.toInt + m ∧ w (x.2.1 6))
theorem KG_go {p w : Int32 → Prop} {x : Int32 × ex_S} {b b' : ex_S} {S : List Int32} {dp : Int32} (h : B_go b b') (hf : KG p w x b' S dp) : KG p w x b S dp := by
  rcases hf with hf | ⟨h1, c, m, X, h2, h3⟩
  · exact Or.inl (KF_go h hf)
  · exact Or.inr ⟨h1, c, m, X, B_go_t h h2, h3⟩
-- words
theorem B_isWord_M {b b' : ex_S} (h : B_M b b') {w : Int64} : B_isWord w b' = B_isWord w b := by
  unfold B_isWord
  rw [h.1 5 (by decide), h.2.1]
theorem B_isSign_M {b b' : ex_S} (h : B_M b b') {c : Int32} : B_isSign c b' = B_isSign c b := by
  unfold B_isSign
  rw [h.1 5 (by decide), h.1 8 (by decide)]
theorem E_T_5 {a b : ex_S} (h : E_T a b) {k : Nat} (hk : k < 22) (h6 : a.1 6 = nI k) : ¬ b.1 5 = 0 := by
  intro q
  rcases h.2 with t | t | t | t | t
  · exact ex_nI1 (show k < 1000 by omega) (h6.symm.trans t.2.2)
  · rw [t.2.1] at q; exact absurd q (by decide)
  · rw [t.2.1] at q; exact absurd q (by decide)
  · rw [t.2.1] at q; exact absurd q (by decide)
  · rw [t.2.1] at q; exact absurd q (by decide)
/-- behind an operand: and, or -/
theorem bh_and {b : ex_S} (hb : SB b) (h : B_isWord (6385252 : Int64) b = 1) : B_behind b = ((1 : Int32), B_next (B_psw (21 : Int32) (B_joins (21 : Int32) (B_nots b)))) := by
  have p := B_P_nots hb
  have p2 := B_P_joins (till := (21 : Int32)) p.2.1
  have e1 : ¬ B_isWord (6385252 : Int64) (B_nots b) = 0 := by rw [B_isWord_M p.1, h]; decide
  have e2 : ¬ B_isWord (6385252 : Int64) (B_joins (21 : Int32) (B_nots b)) = 0 := by rw [B_isWord_M p2.1]; exact e1
  rw [B_bh_eq]
  unfold B_bhH
  rw [if_neg e1]
  unfold B_bhW
  rw [if_neg e1]
  unfold B_bhV
  rw [if_neg e2]
theorem bh_or {b : ex_S} (hb : SB b) (h0 : B_isWord (6385252 : Int64) b = 0) (h : B_isWord (28530 : Int64) b = 1) : B_behind b = ((1 : Int32), B_next (B_psw (22 : Int32) (B_joins (22 : Int32) (B_nots b)))) := by
  have p := B_P_nots hb
  have p2 := B_P_joins (till := (22 : Int32)) p.2.1
  have e1 : B_isWord (6385252 : Int64) (B_nots b) = 0 := by rw [B_isWord_M p.1, h0]
  have e3 : ¬ B_isWord (28530 : Int64) (B_nots b) = 0 := by rw [B_isWord_M p.1, h]; decide
  have e2 : B_isWord (6385252 : Int64) (B_joins (22 : Int32) (B_nots b)) = 0 := by rw [B_isWord_M p2.1]; exact e1
  rw [B_bh_eq]
  unfold B_bhH
  rw [if_pos e1, if_neg e3]
  unfold B_bhW
  rw [if_pos e1]
  unfold B_bhV
  rw [if_pos e2]
theorem bh_c {b : ex_S} (hb : SB b) (h0 : B_isWord (6385252 : Int64) b = 0) (h : B_isWord (28530 : Int64) b = 0) : B_behind b = B_bhC (B_joins (22 : Int32) (B_nots b)) := by
  have p := B_P_nots hb
  have e1 : B_isWord (6385252 : Int64) (B_nots b) = 0 := by rw [B_isWord_M p.1, h0]
  have e3 : B_isWord (28530 : Int64) (B_nots b) = 0 := by rw [B_isWord_M p.1, h]
  rw [B_bh_eq]
  unfold B_bhH
  rw [if_pos e1, if_pos e3]
theorem wd_and : ex_wd 14 = (6385252 : Int64) := by decide +kernel
theorem wd_or : ex_wd 13 = (28530 : Int64) := by decide +kernel
/-- a list's word: what stands behind an operand, pushed -/
theorem K_push {a b : ex_S} {S X : List Int32} {m : Nat} {dp tl : Int32} (h : ES a b) (hw : ¬ b.1 26 = 0) (h5 : ¬ b.1 5 = 0) (hp : a.1 2 = b.1 3) (q : B_behind b = ((1 : Int32), B_next (B_psw tl (B_joins tl (B_nots b))))) (hX : ∀ v ∈ X, pj tl v) (hS : ∀ v, S.head? = some v → ¬ pj tl v ∧ ¬ v = 20) (hK : KS b (List.replicate m 20 ++ (X ++ S))) (hD : (b.1 25).toInt = dp.toInt + m) (hdp : 0 ≤ dp.toInt) : ∃ b', B_go b b' ∧ ES (A_next a) b' ∧ b'.1 26 = 0 ∧ KS b' (tl :: S) ∧ (b'.1 25).toInt = dp.toInt := by
  obtain ⟨h1, h2, h3, h4⟩ := h
  have hb := h3.sb
  obtain ⟨k1, k2, k3⟩ := K_nj hb hX hS hK (by omega)
  have hon := inv_X11_behind b ⟨h3, hw, h4⟩
  rw [q] at hon
  have ho : B_on b (B_next (B_psw tl (B_joins tl (B_nots b)))) := hon.resolve_left (show ¬ (1 : Int32) = 0 from by decide)
  have hW : B_W b (B_psw tl (B_joins tl (B_nots b))) := B_W_t (B_W_M k3.1) (B_W_t (B_W_R (k := 4) (f := upd ((B_joins tl (B_nots b)).2.2.1 4) (((B_joins tl (B_nots b)).1 24)).toNatClampNeg tl) (by decide)) (B_W_t (B_W_I (k := 24) (v := ((B_joins tl (B_nots b)).1 24) + (1 : Int32)) (by decide)) (B_W_I (k := 26) (v := (0 : Int32)) (by decide))))
  have hE := E3_nx (E3_W h1 hW) (by rw [hW.1 3 (by decide)]; exact hp)
  have hL := lB_next (B_psw tl (B_joins tl (B_nots b)))
  refine ⟨_, B_go_b hw h5 q (by decide), ⟨hE, SA_nx h2, ho.1, ho.2.1⟩, ?_, ?_, ?_⟩
  · rw [hL.1 26 (by decide)]; rfl
  · unfold KS
    rw [hL.1 24 (by decide), hL.2]
    show ex_stk (upd ((B_joins tl (B_nots b)).2.2.1 4) (((B_joins tl (B_nots b)).1 24)).toNatClampNeg tl) (((B_joins tl (B_nots b)).1 24) + (1 : Int32)).toInt.toNat (tl :: S)
    obtain ⟨q2, q3, q4⟩ := k3.2.1
    have e : (((B_joins tl (B_nots b)).1 24) + (1 : Int32)).toInt = ((B_joins tl (B_nots b)).1 24).toInt + 1 := ex_inc (n := 100) (by have e9 : (100 : Int32).toInt = 100 := (by decide); omega)
    have c := ex_cl (x := (B_joins tl (B_nots b)).1 24) q3
    have e2 : (((B_joins tl (B_nots b)).1 24) + (1 : Int32)).toInt.toNat = (((B_joins tl (B_nots b)).1 24)).toNatClampNeg + 1 := by omega
    have e3 : ((B_joins tl (B_nots b)).1 24).toInt.toNat = (((B_joins tl (B_nots b)).1 24)).toNatClampNeg := by omega
    rw [e2]
    unfold KS at k1
    rw [e3] at k1
    exact ex_stk_push k1
  · rw [hL.1 25 (by decide)]
    show ((B_joins tl (B_nots b)).1 25).toInt = _
    rw [k2, hD]
    omega
/-- a list: what stands behind its first piece -/
theorem K_cl {f : ex_S → Int32 × ex_S} {dp tl wd : Int32} {pI wI : Int32 → Prop} {okI : Int32 → Prop} {S : List Int32} (hdp : 0 ≤ dp.toInt)
    (hf : ∀ (a b : ex_S) (T : List Int32), (∀ v, T.head? = some v → okI v) → ES a b → b.1 26 = 0 → KS b T → (b.1 25).toInt = dp.toInt → KG pI wI (f a) b T dp)
    (hon : ∀ a, SA_INV a → (f a).1 = 0 ∨ (a.1 21).toInt < ((f a).2.1 21).toInt) (hpI : ∀ v, pI v → pj tl v) (htl : pj tl tl) (hok : okI tl)
    (hbe : ∀ a b, ES a b → a.1 6 = wd → B_behind b = ((1 : Int32), B_next (B_psw tl (B_joins tl (B_nots b)))) ∧ a.1 2 = b.1 3 ∧ ¬ b.1 5 = 0)
    (hS : ∀ v, S.head? = some v → ¬ pj tl v ∧ ¬ v = 20) :
    ∀ (n : Nat) (a b : ex_S) (m : Nat) (X : List Int32), ES a b → ¬ b.1 26 = 0 → (∀ v ∈ X, pj tl v) → KS b (List.replicate m 20 ++ (X ++ S)) → (b.1 25).toInt = dp.toInt + m → wI (a.1 6) → 21 ≤ (a.1 21).toInt + n → KG (pj tl) (fun w => wI w ∧ ¬ w = wd) (A_cl f wd n a) b S dp := by
  intro n
  induction n with
  | zero =>
    intro a b m X h hw hX hK hD hwI hn
    exfalso
    have h9 := h.2.1.2.2
    omega
  | succ n ih =>
    intro a b m X h hw hX hK hD hwI hn
    rw [A_cl_s]
    by_cases c : (a.1 6) = wd
    · rw [if_pos c]
      obtain ⟨q, hp, h5⟩ := hbe a b h c
      obtain ⟨b1, g1, g2, g3, g4, g5⟩ := K_push h hw h5 hp q hX hS hK hD hdp
      refine KG_go g1 ?_
      have r := hf (A_next a) b1 (tl :: S) (fun v hv => by have hv : some tl = some v := hv; cases hv; exact hok) g2 g3 g4 g5
      have o := hon (A_next a) g2.2.1
      have e21 : (A_next a).1 21 = a.1 21 := (kA_next a).1 21 (by omega)
      rw [e21] at o
      simp only [ex_lt, ex_bd]
      rcases r with r | ⟨r1, b2, m2, X2, r2, r3, r4, r5, r6, r7, r8⟩
      · rw [if_pos r.1]
        exact Or.inl ⟨rfl, r.2⟩
      · have r1' : ¬ (f (A_next a)).1 = 0 := by rw [r1]; decide
        rw [if_neg r1']
        have o' := o.resolve_left r1'
        refine KG_go r2 ?_
        refine ih _ b2 m2 (X2 ++ [tl]) (ES_add r3) r4 (fun v hv => ?_) ?_ r7 ?_ ?_
        · rcases List.mem_append.mp hv with h9 | h9
          · exact hpI v (r5 v h9)
          · rw [List.mem_singleton.mp h9]; exact htl
        · rw [List.append_assoc]; exact r6
        · rw [A_addStep_k (by decide)]; exact r8
        · rw [A_addStep_k (by decide)]; omega
    · rw [if_neg c]
      exact Or.inr ⟨rfl, b, m, X, B_go_0 b, h, hw, hX, hK, hD, hwI, c⟩
theorem K_lst {f : ex_S → Int32 × ex_S} {dp tl wd : Int32} {pI wI : Int32 → Prop} {okI : Int32 → Prop} {S : List Int32} (hdp : 0 ≤ dp.toInt)
    (hf : ∀ (a b : ex_S) (T : List Int32), (∀ v, T.head? = some v → okI v) → ES a b → b.1 26 = 0 → KS b T → (b.1 25).toInt = dp.toInt → KG pI wI (f a) b T dp)
    (hon : ∀ a, SA_INV a → (f a).1 = 0 ∨ (a.1 21).toInt < ((f a).2.1 21).toInt) (hpI : ∀ v, pI v → pj tl v) (htl : pj tl tl) (hok : okI tl)
    (hbe : ∀ a b, ES a b → a.1 6 = wd → B_behind b = ((1 : Int32), B_next (B_psw tl (B_joins tl (B_nots b)))) ∧ a.1 2 = b.1 3 ∧ ¬ b.1 5 = 0)
    (hS : ∀ v, S.head? = some v → ¬ pj tl v ∧ ¬ v = 20) (hS2 : ∀ v, S.head? = some v → okI v)
    (a b : ex_S) (h : ES a b) (hw : b.1 26 = 0) (hK : KS b S) (hD : (b.1 25).toInt = dp.toInt) : KG (pj tl) (fun w => wI w ∧ ¬ w = wd) (A_lst f wd a) b S dp := by
  have r := hf a b S hS2 h hw hK hD
  have o := hon a h.2.1
  have o2 := h.2.1.2.2
  unfold A_lst
  simp only [ex_bd]
  rcases r with r | ⟨r1, b2, m2, X2, r2, r3, r4, r5, r6, r7, r8⟩
  · rw [if_pos r.1]
    exact Or.inl ⟨rfl, r.2⟩
  · have r1' : ¬ (f a).1 = 0 := by rw [r1]; decide
    rw [if_neg r1']
    have o' := o.resolve_left r1'
    exact KG_go r2 (K_cl hdp hf hon hpI htl hok hbe hS 20 _ b2 m2 X2 r3 r4 (fun v hv => hpI v (r5 v hv)) r6 r7 r8 (by omega))
-- how many are told goes up
theorem on_cl {f : ex_S → Int32 × ex_S} {wd : Int32} (hf : ∀ σ, SA_INV σ → SA_INV (f σ).2) (hon : ∀ a, SA_INV a → (f a).1 = 0 ∨ (a.1 21).toInt < ((f a).2.1 21).toInt) : ∀ (n : Nat) (a : ex_S), SA_INV a → (A_cl f wd n a).1 = 0 ∨ (a.1 21).toInt ≤ ((A_cl f wd n a).2.1 21).toInt := by
  intro n
  induction n with
  | zero => intro a h; exact Or.inr (Int.le_refl _)
  | succ n ih =>
    intro a h
    rw [A_cl_s]
    by_cases c : (a.1 6) = wd
    · rw [if_pos c]
      simp only [ex_lt, ex_bd]
      have o := hon _ (SA_nx h)
      have e21 : (A_next a).1 21 = a.1 21 := (kA_next a).1 21 (by omega)
      rw [e21] at o
      by_cases c2 : (f (A_next a)).1 = 0
      · rw [if_pos c2]; exact Or.inl rfl
      · rw [if_neg c2]
        have r := ih _ (SA_add (stp := wd) (sgn := (0 : Int32)) (num := (0 : Int32)) (hf _ (SA_nx h)))
        rw [A_addStep_k (by decide)] at r
        have o' := o.resolve_left c2
        rcases r with r | r
        · exact Or.inl r
        · exact Or.inr (by omega)
    · rw [if_neg c]; exact Or.inr (Int.le_refl _)
theorem on_lst {f : ex_S → Int32 × ex_S} {wd : Int32} (hf : ∀ σ, SA_INV σ → SA_INV (f σ).2) (hon : ∀ a, SA_INV a → (f a).1 = 0 ∨ (a.1 21).toInt < ((f a).2.1 21).toInt) (a : ex_S) (h : SA_INV a) : (A_lst f wd a).1 = 0 ∨ (a.1 21).toInt < ((A_lst f wd a).2.1 21).toInt := by
  unfold A_lst
  simp only [ex_bd]
  have o := hon a h
  by_cases c2 : (f a).1 = 0
  · rw [if_pos c2]; exact Or.inl rfl
  · rw [if_neg c2]
    have o' := o.resolve_left c2
    rcases on_cl hf hon 20 _ (hf a h) (wd := wd) with r | r
    · exact Or.inl r
    · exact Or.inr (by omega)
theorem A_FR_21 {σ τ : ex_S} (h : A_FR σ τ) : (τ.1 21).toInt = (σ.1 21).toInt := by rw [h.1 21 (by decide)]
theorem on_rp {w : Int32} {a : ex_S} : (A_readPlain w a).2.1 21 = a.1 21 := by
  have n1 := (kA_next a).1 21 (by omega)
  have tn : ∀ σ lo hi, (A_takeNumber lo hi σ).2.1 21 = σ.1 21 := fun σ lo hi => (fr_X4_takeNumber lo hi σ).1 21 (by decide)
  have tt : ∀ σ u, (A_takeTown u σ).2.1 21 = σ.1 21 := fun σ u => (fr_X4_takeTown u σ).1 21 (by decide)
  have fa : ∀ σ u, (A_failAs u σ).2.1 21 = σ.1 21 := fun σ u => (fr_X4_failAs u σ).1 21 (by decide)
  have ad : ∀ σ x y z, (A_addStep x y z σ).1 21 = σ.1 21 := fun σ x y z => A_addStep_k (by decide)
  unfold A_readPlain
  simp only [ex_bd, ex_lt]
  repeat' (with_reducible split)
  all_goals (first
    | with_reducible exact ad _ _ _ _
    | with_reducible exact tt _ _
    | with_reducible exact fa _ _
    | with_reducible exact (ad _ _ _ _).trans (tt _ _)
    | with_reducible exact (tn _ _ _).trans n1
    | with_reducible exact (ad _ _ _ _).trans ((tn _ _ _).trans n1))
theorem on_one : ∀ (k : Nat) (dp : Int32) (a : ex_S), SA_INV a → (A_one k dp a).1 = 0 ∨ (a.1 21).toInt < ((A_one k dp a).2.1 21).toInt := by
  intro k
  induction k with
  | zero => intro dp a h; exact Or.inl rfl
  | succ k ih =>
    intro dp a h
    have e20 : (20 : Int32).toInt = 20 := by decide
    have up : ((a.1 21)).toInt < ((20 : Int32)).toInt → SA_INV (A_next (sI 21 ((a.1 21) + (1 : Int32)) a)) ∧ ((A_next (sI 21 ((a.1 21) + (1 : Int32)) a)).1 21).toInt = (a.1 21).toInt + 1 := fun h1 => ⟨SA_nx (SA_on h h1), by
      rw [(kA_next (sI 21 ((a.1 21) + (1 : Int32)) a)).1 21 (by omega)]
      exact ex_inc h1⟩
    rw [A_one_s]
    simp only [ex_bd, ex_lt]
    by_cases c1 : (a.1 4) = (40 : Int32)
    · rw [if_pos c1]
      by_cases c2 : ((a.1 21)).toInt < ((20 : Int32)).toInt
      · rw [if_pos c2]
        by_cases c3 : ((8 : Int32)).toInt < (dp).toInt
        · rw [if_pos c3]; exact Or.inl rfl
        · rw [if_neg c3]
          obtain ⟨u1, u2⟩ := up c2
          have r := on_lst (wd := (13 : Int32)) (fun σ => SA_lst (wd := (14 : Int32)) (fun σ => inv_one k (dp + (1 : Int32)) σ) σ) (fun σ => on_lst (fun σ => inv_one k (dp + (1 : Int32)) σ) (fun σ => ih (dp + (1 : Int32)) σ) σ) _ u1
          have r : (A_cnd (A_all (A_one k)) (dp + (1 : Int32)) (A_next (sI 21 ((a.1 21) + (1 : Int32)) a))).1 = 0 ∨ ((A_next (sI 21 ((a.1 21) + (1 : Int32)) a)).1 21).toInt < ((A_cnd (A_all (A_one k)) (dp + (1 : Int32)) (A_next (sI 21 ((a.1 21) + (1 : Int32)) a))).2.1 21).toInt := r
          rw [u2] at r
          generalize A_cnd (A_all (A_one k)) (dp + (1 : Int32)) (A_next (sI 21 ((a.1 21) + (1 : Int32)) a)) = y at r ⊢
          by_cases c4 : y.1 = 0
          · rw [if_pos c4]; exact Or.inl rfl
          · rw [if_neg c4]
            have r' := r.resolve_left c4
            have f := A_FR_21 (fr_X4_takeSign (41 : Int32) y.2)
            generalize A_takeSign (41 : Int32) y.2 = t at f ⊢
            by_cases c5 : t.1 = 0
            · rw [if_pos c5]; exact Or.inl rfl
            · rw [if_neg c5]
              refine Or.inr ?_
              show (a.1 21).toInt < (t.2.1 21).toInt
              omega
      · rw [if_neg c2]; exact Or.inl rfl
    · rw [if_neg c1]
      by_cases c0 : A_beginsOne (a.1 6) = 0
      · rw [if_pos c0]; exact Or.inl rfl
      · rw [if_neg c0]
        by_cases c2 : ((a.1 21)).toInt < ((20 : Int32)).toInt
        · rw [if_pos c2]
          by_cases c3 : ((8 : Int32)).toInt < (dp).toInt
          · rw [if_pos c3]; exact Or.inl rfl
          · rw [if_neg c3]
            obtain ⟨u1, u2⟩ := up c2
            by_cases c4 : (a.1 6) = (15 : Int32)
            · rw [if_pos c4]
              have r := ih (dp + (1 : Int32)) _ u1
              rw [u2] at r
              generalize A_one k (dp + (1 : Int32)) (A_next (sI 21 ((a.1 21) + (1 : Int32)) a)) = y at r ⊢
              by_cases c5 : y.1 = 0
              · rw [if_pos c5]; exact Or.inl rfl
              · rw [if_neg c5]
                have r' := r.resolve_left c5
                refine Or.inr ?_
                show (a.1 21).toInt < ((A_addStep (15 : Int32) (0 : Int32) (0 : Int32) y.2).1 21).toInt
                rw [A_addStep_k (by decide)]
                omega
            · rw [if_neg c4]
              refine Or.inr ?_
              show (a.1 21).toInt < ((A_readPlain (a.1 6) (A_next (sI 21 ((a.1 21) + (1 : Int32)) a))).2.1 21).toInt
              rw [on_rp, u2]
              omega
        · rw [if_neg c2]; exact Or.inl rfl
