/-! The sentence: what both sides share; the stack. -/
-- a number told by digits is 999 at most
theorem dg_160 {nu g q s0 : Int32} (h : ¬ A_rr160 nu g q s0 = 0) : ¬ nu = 0 ∧ ¬ g = 0 ∧ ((q - s0)).toInt < 3 := by
  have e3 : (3 : Int32).toInt = 3 := by decide
  unfold A_rr160 at h
  by_cases h1 : nu = 0
  · rw [if_pos h1] at h; exact absurd rfl h
  · rw [if_neg h1] at h
    by_cases h2 : g = 0
    · rw [if_pos h2] at h; exact absurd rfl h
    · rw [if_neg h2] at h
      by_cases h3 : ((q - s0)).toInt < ((3 : Int32)).toInt
      · exact ⟨h1, h2, by omega⟩
      · rw [if_neg h3] at h; exact absurd rfl h
theorem dg_82 {c : Int32} (h : ¬ A_rr82 c = 0) : 48 ≤ c.toInt ∧ c.toInt ≤ 57 := by
  have e48 : (48 : Int32).toInt = 48 := by decide
  have e57 : (57 : Int32).toInt = 57 := by decide
  unfold A_rr82 at h
  by_cases h1 : (c).toInt < ((48 : Int32)).toInt
  · rw [if_pos h1] at h; exact absurd rfl h
  · rw [if_neg h1] at h
    by_cases h2 : ((57 : Int32)).toInt < (c).toInt
    · rw [if_pos h2] at h; exact absurd rfl h
    · omega
/-- how long the digits are, how great -/
noncomputable def dg_I (nu dg : Int32) (len : Int) : Prop := nu = 0 ∨ (len = 0 ∧ dg = 0) ∨ (len = 1 ∧ 0 ≤ dg.toInt ∧ dg.toInt ≤ 9) ∨ (len = 2 ∧ 0 ≤ dg.toInt ∧ dg.toInt ≤ 99) ∨ (len = 3 ∧ 0 ≤ dg.toInt ∧ dg.toInt ≤ 999)
theorem dg_mul {dg c : Int32} (h : 0 ≤ dg.toInt ∧ dg.toInt ≤ 99) (hc : 48 ≤ c.toInt ∧ c.toInt ≤ 57) : (((dg * (10 : Int32)) + c) - (48 : Int32)).toInt = 10 * dg.toInt + c.toInt - 48 := by
  have e10 : (10 : Int32).toInt = 10 := by decide
  have e48 : (48 : Int32).toInt = 48 := by decide
  have m : (dg * (10 : Int32)).toInt = dg.toInt * 10 := by
    rw [Int32.toInt_mul, e10]
    exact Int.bmod_eq_of_le (by omega) (by omega)
  have s : ((dg * (10 : Int32)) + c).toInt = dg.toInt * 10 + c.toInt := by
    rw [Int32.toInt_add, m]
    exact Int.bmod_eq_of_le (by omega) (by omega)
  rw [Int32.toInt_sub, s, e48]
  rw [Int.bmod_eq_of_le (by omega) (by omega)]
  omega
theorem dg_rr {σ : ex_S} (h0 : 0 ≤ (σ.1 3).toInt) : ∀ (k : Nat) (q iw nu dg : Int32) (L : Int64), (σ.1 3).toInt ≤ q.toInt → dg_I nu dg (q.toInt - (σ.1 3).toInt) → ¬ (σ.1 4) = 3 → (A_rr σ k q iw nu dg L).1 4 = 3 → 0 ≤ ((A_rr σ k q iw nu dg L).1 5).toInt ∧ ((A_rr σ k q iw nu dg L).1 5).toInt ≤ 999 := by
  have z0 : (0 : Int32).toInt = 0 := by decide
  have fin : ∀ (q iw nu dg : Int32) (L : Int64), dg_I nu dg (q.toInt - (σ.1 3).toInt) → ¬ (σ.1 4) = 3 → (A_rrF σ q iw nu dg L).1 4 = 3 → 0 ≤ ((A_rrF σ q iw nu dg L).1 5).toInt ∧ ((A_rrF σ q iw nu dg L).1 5).toInt ≤ 999 := by
    intro q iw nu dg L hI h4 h
    unfold A_rrF at h ⊢
    by_cases hq : (σ.1 3).toInt < q.toInt
    · rw [if_pos hq] at h ⊢
      have h' : A_rr257 iw nu = 3 := h
      show 0 ≤ dg.toInt ∧ dg.toInt ≤ 999
      rcases hI with rfl | ⟨hl, rfl⟩ | ⟨hl, hd⟩ | ⟨hl, hd⟩ | ⟨hl, hd⟩
      · exfalso
        unfold A_rr257 at h'
        by_cases hw : iw = 0
        · rw [if_pos hw, if_pos rfl] at h'; exact absurd h' (by decide)
        · rw [if_neg hw] at h'; exact absurd h' (by decide)
      · rw [z0]; omega
      · omega
      · omega
      · omega
    · rw [if_neg hq] at h
      exact absurd h h4
  intro k
  induction k with
  | zero => intro q iw nu dg L h1 hI h4 h; exact fin q iw nu dg L hI h4 h
  | succ k ih =>
    intro q iw nu dg L h1 hI h4 h
    rw [A_rr_s] at h ⊢
    by_cases hq : q.toInt < (σ.1 0).toInt
    · rw [if_pos hq] at h ⊢
      simp only [ex_lt] at h ⊢
      by_cases hg : A_rr99 (A_rr61 (σ.2.2.1 0 q.toNatClampNeg)) (A_rr82 (σ.2.2.1 0 q.toNatClampNeg)) = 0
      · rw [if_pos hg] at h ⊢
        exact fin q iw nu dg L hI h4 h
      · rw [if_neg hg] at h ⊢
        have e := ex_inc hq
        refine ih _ _ _ _ _ (by omega) ?_ h4 h
        by_cases hn : A_rr160 nu (A_rr82 (σ.2.2.1 0 q.toNatClampNeg)) q (σ.1 3) = 0
        · exact Or.inl hn
        · obtain ⟨n1, n2, n3⟩ := dg_160 hn
          rw [ex_sub2 h0 h1] at n3
          have hc := dg_82 n2
          have hv : A_rr212 (A_rr160 nu (A_rr82 (σ.2.2.1 0 q.toNatClampNeg)) q (σ.1 3)) dg (σ.2.2.1 0 q.toNatClampNeg) = (((dg * (10 : Int32)) + (σ.2.2.1 0 q.toNatClampNeg)) - (48 : Int32)) := by
            unfold A_rr212
            exact if_neg hn
          rw [hv]
          have hd : 0 ≤ dg.toInt ∧ dg.toInt ≤ 99 := by
            rcases hI with h | ⟨hl, rfl⟩ | ⟨hl, hd⟩ | ⟨hl, hd⟩ | ⟨hl, hd⟩
            · exact absurd h n1
            · rw [z0]; omega
            · omega
            · omega
            · omega
          have hm := dg_mul hd hc
          refine Or.inr ?_
          rcases hI with h | ⟨hl, rfl⟩ | ⟨hl, hd⟩ | ⟨hl, hd⟩ | ⟨hl, hd⟩
          · exact absurd h n1
          · rw [z0] at hm; exact Or.inr (Or.inl ⟨by omega, by omega, by omega⟩)
          · exact Or.inr (Or.inr (Or.inl ⟨by omega, by omega, by omega⟩))
          · exact Or.inr (Or.inr (Or.inr ⟨by omega, by omega, by omega⟩))
          · omega
    · rw [if_neg hq] at h ⊢
      exact fin q iw nu dg L hI h4 h
theorem dg_run {σ : ex_S} (h2 : 0 ≤ (σ.1 2).toInt) (h3 : σ.1 3 = σ.1 2) (h4 : ¬ (σ.1 4) = 3) (h : (A_readRun σ).1 4 = 3) : 0 ≤ ((A_readRun σ).1 5).toInt ∧ ((A_readRun σ).1 5).toInt ≤ 999 := by
  unfold A_readRun at h ⊢
  refine dg_rr (by rw [h3]; exact h2) 941 (σ.1 2) 1 1 0 0 (by rw [h3]; exact Int.le_refl _) (Or.inr (Or.inl ⟨by rw [h3]; omega, rfl⟩)) h4 h
theorem dg_bd {τ : ex_S} (h2 : 0 ≤ (τ.1 2).toInt) (h : (A_bd τ).1 4 = 3) : 0 ≤ ((A_bd τ).1 5).toInt ∧ ((A_bd τ).1 5).toInt ≤ 999 := by
  unfold A_bd at h ⊢
  simp only [ex_lt] at h ⊢
  by_cases c1 : ((τ.1 2)).toInt < ((τ.1 0)).toInt
  · rw [if_pos c1] at h ⊢
    by_cases c2 : A_isSign ((τ.2.2.1 0) ((τ.1 2)).toNatClampNeg) = 0
    · rw [if_pos c2] at h ⊢
      by_cases c3 : ((A_readRun (sI 6 (-1 : Int32) (sI 4 (0 : Int32) (sI 3 (τ.1 2) τ)))).1 4) = (2 : Int32)
      · rw [if_pos c3] at h
        have h9 : (A_readRun (sI 6 (-1 : Int32) (sI 4 (0 : Int32) (sI 3 (τ.1 2) τ)))).1 4 = 3 := h
        rw [c3] at h9
        exact absurd h9 (by decide)
      · rw [if_neg c3] at h ⊢
        exact dg_run (σ := sI 6 (-1 : Int32) (sI 4 (0 : Int32) (sI 3 (τ.1 2) τ))) h2 rfl (show ¬ (0 : Int32) = 3 from by decide) h
    · rw [if_neg c2] at h
      have h9 : (τ.2.2.1 0) ((τ.1 2)).toNatClampNeg = 3 := h
      exfalso
      have g : A_isSign ((τ.2.2.1 0) ((τ.1 2)).toNatClampNeg) = 1 := (A_sg01 _).resolve_left c2
      rw [h9] at g
      exact absurd g (by decide +kernel)
  · rw [if_neg c1] at h
    have h9 : (1 : Int32) = 3 := h
    exact absurd h9 (by decide)
theorem dg_next {σ : ex_S} (hI : A_INV σ) (h : (A_next σ).1 4 = 3) : 0 ≤ ((A_next σ).1 5).toInt ∧ ((A_next σ).1 5).toInt ≤ 999 := by
  have hb := ex_sk_b (f := σ.2.2.1 0) 941 (σ.1 2) hI.2.1.1 hI.2.1.2
  unfold A_next at h ⊢
  rw [A_nxt_b] at h ⊢
  by_cases c1 : (((sI 2 (ex_sk (σ.2.2.1 0) (σ.1 0) 941 (σ.1 2)) σ).1 1)).toInt < (((sI 2 (ex_sk (σ.2.2.1 0) (σ.1 0) 941 (σ.1 2)) σ).1 0)).toInt
  · rw [if_pos c1] at h ⊢
    by_cases c2 : (((sI 2 (ex_sk (σ.2.2.1 0) (σ.1 0) 941 (σ.1 2)) σ).1 2)).toInt < (((sI 2 (ex_sk (σ.2.2.1 0) (σ.1 0) 941 (σ.1 2)) σ).1 1)).toInt
    · rw [if_pos c2] at h ⊢
      exact dg_bd hb.1 h
    · rw [if_neg c2] at h
      have h9 : (0 : Int32) = 3 := h
      exact absurd h9 (by decide)
  · rw [if_neg c1] at h ⊢
    exact dg_bd hb.1 h
-- the stack
/-- the first n places of a row are this stack, its top ahead -/
noncomputable def ex_stk (f : Nat → Int32) : Nat → List Int32 → Prop
  | 0, l => l = []
  | n + 1, l => ∃ r, l = f n :: r ∧ ex_stk f n r
theorem ex_stk_cg {f g : Nat → Int32} : ∀ (n : Nat) (l : List Int32), (∀ j, j < n → g j = f j) → ex_stk f n l → ex_stk g n l := by
  intro n
  induction n with
  | zero => intro l _ h; exact h
  | succ n ih =>
    intro l hg h
    obtain ⟨r, h1, h2⟩ := h
    exact ⟨r, by rw [hg n (by omega)]; exact h1, ih r (fun j hj => hg j (by omega)) h2⟩
theorem ex_stk_cons {f : Nat → Int32} {n : Nat} {v : Int32} {l : List Int32} (h : ex_stk f n (v :: l)) : ∃ m, n = m + 1 ∧ f m = v ∧ ex_stk f m l := by
  cases n with
  | zero => cases (show (v :: l) = [] from h)
  | succ m =>
    obtain ⟨r, h1, h2⟩ := h
    cases h1
    exact ⟨m, rfl, rfl, h2⟩
theorem ex_stk_nil {f : Nat → Int32} {n : Nat} (h : ex_stk f n []) : n = 0 := by
  cases n with
  | zero => rfl
  | succ m =>
    obtain ⟨r, h1, h2⟩ := h
    cases h1
theorem ex_stk_push {f : Nat → Int32} {n : Nat} {v : Int32} {l : List Int32} (h : ex_stk f n l) : ex_stk (upd f n v) (n + 1) (v :: l) :=
  ⟨l, by rw [ex_u1], ex_stk_cg n l (fun j hj => ex_u (by omega)) h⟩
noncomputable def KS (b : ex_S) (S : List Int32) : Prop := ex_stk (b.2.2.1 4) (b.1 24).toInt.toNat S
theorem ex_top {x : Int32} {m : Nat} (h : x.toInt.toNat = m + 1) : 0 < x.toInt ∧ (x - (1 : Int32)).toNatClampNeg = m ∧ (x - (1 : Int32)).toInt.toNat = m := by
  have h0 : 0 < x.toInt := by omega
  have e := ex_dec1 h0
  have c := ex_cl (x := x - (1 : Int32)) (by omega)
  exact ⟨h0, by omega, by omega⟩
theorem ex_top0 {x : Int32} (h : x.toInt.toNat = 0) : ¬ 0 < x.toInt := by omega
/-- nots popped -/
theorem K_ns : ∀ (m n : Nat) (R : List Int32) (σ : ex_S), SB σ → (σ.1 24).toInt.toNat = n → (∀ v, R.head? = some v → ¬ v = 20) → KS σ (List.replicate m 20 ++ R) → (m : Int) ≤ (σ.1 25).toInt → KS (B_ns n σ) R ∧ ((B_ns n σ).1 25).toInt = (σ.1 25).toInt - m := by
  intro m
  induction m with
  | zero =>
    intro n R σ hB hn hR hS hD
    have hS : KS σ R := hS
    cases n with
    | zero => exact ⟨hS, by show (σ.1 25).toInt = _; omega⟩
    | succ n =>
      have t := ex_top hn
      have e : B_ns (n + 1) σ = σ := by
        rw [B_ns_s, if_pos t.1]
        have h9 := hS
        unfold KS at h9
        rw [hn] at h9
        obtain ⟨r, h1, h2⟩ := h9
        rw [t.2.1]
        exact if_neg (hR ((σ.2.2.1 4) n) (by rw [h1]; rfl))
      rw [e]
      exact ⟨hS, by omega⟩
  | succ m ih =>
    intro n R σ hB hn hR hS hD
    have hS' : ex_stk (σ.2.2.1 4) (σ.1 24).toInt.toNat ((20 : Int32) :: (List.replicate m 20 ++ R)) := hS
    rw [hn] at hS'
    obtain ⟨n', h1, h2, h3⟩ := ex_stk_cons hS'
    subst h1
    have t := ex_top hn
    have hD2 : 0 < (σ.1 25).toInt := by omega
    have d := ex_dec1 hD2
    have p := B_P_1 (a := (20 : Int32)) (τ := sI 25 ((σ.1 25) - (1 : Int32)) (sI 24 ((σ.1 24) - (1 : Int32)) σ)) hB t.1 (B_M_t (B_M_I (k := 24) (v := (σ.1 24) - (1 : Int32)) (by decide)) (B_M_I (by decide))) rfl rfl
    have e : B_ns (n' + 1) σ = B_ns n' (B_code (20 : Int32) (0 : Int32) (0 : Int32) (sI 25 ((σ.1 25) - (1 : Int32)) (sI 24 ((σ.1 24) - (1 : Int32)) σ))) := by
      rw [B_ns_s, if_pos t.1, t.2.1]
      exact if_pos h2
    have e24 : (B_code (20 : Int32) (0 : Int32) (0 : Int32) (sI 25 ((σ.1 25) - (1 : Int32)) (sI 24 ((σ.1 24) - (1 : Int32)) σ))).1 24 = (σ.1 24) - (1 : Int32) := B_code_k (by decide)
    have e25 : (B_code (20 : Int32) (0 : Int32) (0 : Int32) (sI 25 ((σ.1 25) - (1 : Int32)) (sI 24 ((σ.1 24) - (1 : Int32)) σ))).1 25 = (σ.1 25) - (1 : Int32) := B_code_k (by decide)
    have e4 : (B_code (20 : Int32) (0 : Int32) (0 : Int32) (sI 25 ((σ.1 25) - (1 : Int32)) (sI 24 ((σ.1 24) - (1 : Int32)) σ))).2.2.1 4 = σ.2.2.1 4 := p.1.2.2.1 4 (by decide)
    have r := ih n' R (B_code (20 : Int32) (0 : Int32) (0 : Int32) (sI 25 ((σ.1 25) - (1 : Int32)) (sI 24 ((σ.1 24) - (1 : Int32)) σ))) p.2.1 (by rw [e24]; exact t.2.2) hR (by unfold KS; rw [e24, e4, t.2.2]; exact h3) (by rw [e25, d]; omega)
    rw [e]
    refine ⟨r.1, ?_⟩
    rw [r.2, e25, d]
    omega
theorem K_nots {m : Nat} {R : List Int32} {σ : ex_S} (hB : SB σ) (hR : ∀ v, R.head? = some v → ¬ v = 20) (hS : KS σ (List.replicate m 20 ++ R)) (hD : (m : Int) ≤ (σ.1 25).toInt) : KS (B_nots σ) R ∧ ((B_nots σ).1 25).toInt = (σ.1 25).toInt - m := K_ns m _ R σ hB rfl hR hS hD
/-- what joins take off the stack -/
noncomputable def pj (till v : Int32) : Prop := v = 21 ∨ (v = 22 ∧ till = 22)
theorem K_js {till : Int32} : ∀ (X : List Int32) (n : Nat) (R : List Int32) (σ : ex_S), SB σ → (σ.1 24).toInt.toNat = n → (∀ v ∈ X, pj till v) → (∀ v, R.head? = some v → ¬ pj till v) → KS σ (X ++ R) → KS (B_js till n σ) R ∧ (B_js till n σ).1 25 = σ.1 25 := by
  intro X
  induction X with
  | nil =>
    intro n R σ hB hn hX hR hS
    have hS : KS σ R := hS
    cases n with
    | zero => exact ⟨hS, rfl⟩
    | succ n =>
      have t := ex_top hn
      have e : B_js till (n + 1) σ = σ := by
        rw [B_js_s, if_pos t.1]
        have h9 := hS
        unfold KS at h9
        rw [hn] at h9
        obtain ⟨r, h1, h2⟩ := h9
        have hv : ¬ pj till ((σ.2.2.1 4) n) := hR ((σ.2.2.1 4) n) (by rw [h1]; rfl)
        rw [t.2.1]
        rw [if_neg (show ¬ (σ.2.2.1 4) n = (21 : Int32) from fun q => hv (Or.inl q))]
        by_cases c : (σ.2.2.1 4) n = (22 : Int32)
        · rw [if_pos c]
          exact if_neg (fun q => hv (Or.inr ⟨c, q⟩))
        · exact if_neg c
      rw [e]
      exact ⟨hS, rfl⟩
  | cons v X ih =>
    intro n R σ hB hn hX hR hS
    have hS' : ex_stk (σ.2.2.1 4) (σ.1 24).toInt.toNat (v :: (X ++ R)) := hS
    rw [hn] at hS'
    obtain ⟨n', h1, h2, h3⟩ := ex_stk_cons hS'
    subst h1
    have t := ex_top hn
    have p := B_P_1 (a := v) (τ := sI 24 ((σ.1 24) - (1 : Int32)) σ) hB t.1 (B_M_I (by decide)) rfl rfl
    have e : B_js till (n' + 1) σ = B_js till n' (B_code v (0 : Int32) (0 : Int32) (sI 24 ((σ.1 24) - (1 : Int32)) σ)) := by
      rw [B_js_s, if_pos t.1, t.2.1, h2]
      rcases hX v List.mem_cons_self with q | ⟨q1, q2⟩
      · exact if_pos q
      · rw [if_neg (by rw [q1]; decide), if_pos q1, if_pos q2]
    have e24 : (B_code v (0 : Int32) (0 : Int32) (sI 24 ((σ.1 24) - (1 : Int32)) σ)).1 24 = (σ.1 24) - (1 : Int32) := B_code_k (by decide)
    have e25 : (B_code v (0 : Int32) (0 : Int32) (sI 24 ((σ.1 24) - (1 : Int32)) σ)).1 25 = σ.1 25 := B_code_k (by decide)
    have e4 : (B_code v (0 : Int32) (0 : Int32) (sI 24 ((σ.1 24) - (1 : Int32)) σ)).2.2.1 4 = σ.2.2.1 4 := p.1.2.2.1 4 (by decide)
    have r := ih n' R (B_code v (0 : Int32) (0 : Int32) (sI 24 ((σ.1 24) - (1 : Int32)) σ)) p.2.1 (by rw [e24]; exact t.2.2) (fun w hw => hX w (List.mem_cons_of_mem _ hw)) hR (by unfold KS; rw [e24, e4, t.2.2]; exact h3)
    rw [e]
    exact ⟨r.1, r.2.trans e25⟩
theorem K_joins {till : Int32} {X R : List Int32} {σ : ex_S} (hB : SB σ) (hX : ∀ v ∈ X, pj till v) (hR : ∀ v, R.head? = some v → ¬ pj till v) (hS : KS σ (X ++ R)) : KS (B_joins till σ) R ∧ (B_joins till σ).1 25 = σ.1 25 := K_js X _ R σ hB rfl hX hR hS
theorem pj_20 {till v : Int32} (h : pj till v) : ¬ v = 20 := by
  rcases h with h | h
  · rw [h]; decide
  · rw [h.1]; decide
/-- the entries that nots and joins take, all of them: what lies under them is left -/
theorem K_nj {till : Int32} {m : Nat} {X R : List Int32} {σ : ex_S} (hB : SB σ) (hX : ∀ v ∈ X, pj till v) (hR : ∀ v, R.head? = some v → ¬ pj till v ∧ ¬ v = 20) (hS : KS σ (List.replicate m 20 ++ (X ++ R))) (hD : (m : Int) ≤ (σ.1 25).toInt) : KS (B_joins till (B_nots σ)) R ∧ ((B_joins till (B_nots σ)).1 25).toInt = (σ.1 25).toInt - m ∧ B_P σ (B_joins till (B_nots σ)) := by
  have p := B_P_nots hB
  have h1 : ∀ v, (X ++ R).head? = some v → ¬ v = 20 := by
    intro v hv
    cases X with
    | nil => exact (hR v hv).2
    | cons w X =>
      have hv : some w = some v := hv
      cases hv
      exact pj_20 (hX v List.mem_cons_self)
  have h2 := K_nots hB h1 hS hD
  have h3 := K_joins p.2.1 hX (fun v hv => (hR v hv).1) h2.1
  exact ⟨h3.1, by rw [h3.2]; exact h2.2, B_P_t p (B_P_joins p.2.1)⟩
