/-! Both parsers read alike: no heap, functions of the tape alone. -/
-- characters
theorem C_01 (c : Int32) : B_isSmall c = 0 ∨ B_isSmall c = 1 := by
  unfold B_isSmall
  (repeat' split) <;> first | exact Or.inl rfl | exact Or.inr rfl
theorem C_d01 (c : Int32) : B_isDigit c = 0 ∨ B_isDigit c = 1 := by
  unfold B_isDigit
  (repeat' split) <;> first | exact Or.inl rfl | exact Or.inr rfl
theorem C_n01 : ¬ (0 : Int32) = 1 := by decide
theorem C_n10 : ¬ (1 : Int32) = 0 := by decide
theorem C_ex {c : Int32} (h : B_isSmall c = 1) : B_isDigit c = 0 := by
  have e97 : (97 : Int32).toInt = 97 := by decide
  have e48 : (48 : Int32).toInt = 48 := by decide
  have e57 : (57 : Int32).toInt = 57 := by decide
  unfold B_isSmall at h
  by_cases h1 : c.toInt < (97 : Int32).toInt
  · rw [if_pos h1] at h; exact absurd h C_n01
  · unfold B_isDigit
    have h2 : ¬ c.toInt < (48 : Int32).toInt := by omega
    have h3 : (57 : Int32).toInt < c.toInt := by omega
    exact (if_neg h2).trans (if_pos h3)
theorem C_255 (x : Int32) : 0 ≤ (x &&& 255).toInt := by
  obtain ⟨j, hj, e⟩ := pk_andE x (m := 255) 8 (by decide)
  rw [e, nI_toInt (by omega)]
  omega
theorem B_pk {b : ex_S} (h : (b.1 3).toInt < (b.1 2).toInt) : B_peek b = b.2.2.1 0 (b.1 3).toNatClampNeg &&& 255 := by
  unfold B_peek
  exact if_pos h
theorem B_pkn {b : ex_S} (h : ¬ (b.1 3).toInt < (b.1 2).toInt) : B_peek b = -1 := by
  unfold B_peek
  exact if_neg h
theorem E_cv (x y : Int32) : x = y ↔ x.toInt = y.toInt := Int32.toInt_inj.symm
-- the words of the document
noncomputable def ex_wd (j : Nat) : Int64 := ([1953462126, 1717662580, 1936486263, 1952805485, 500135192942, 465625246068, 109299962373989, 440006570868, 1650814564, 495672452197, 427020345714, 112641513454181, 6578553, 28530, 6385252, 7237492, 491394656372, 126892147762532, 108243466675048, 418363302244, 108243635103086, 121450625394034] : List Int64).getD j 0
theorem ex_find_r {g : Nat → Int64} {x : Int64} : ∀ (n i : Nat), (ex_find g x n i = -1 ∧ ∀ j, i ≤ j → j < i + n → ¬ g j = x) ∨ ∃ j, i ≤ j ∧ j < i + n ∧ g j = x ∧ ex_find g x n i = nI j := by
  intro n
  induction n with
  | zero => intro i; exact Or.inl ⟨rfl, fun j h1 h2 => absurd h2 (by omega)⟩
  | succ n ih =>
    intro i
    by_cases h : lg_cmp (g i) x = 0
    · exact Or.inr ⟨i, by omega, by omega, (lg_cmp_eq _ _).mp h, ex_find_s.trans (if_pos h)⟩
    · have e : ex_find g x (n + 1) i = ex_find g x n (i + 1) := ex_find_s.trans (if_neg h)
      rcases ih (i + 1) with ⟨h1, h2⟩ | ⟨j, h1, h2, h3, h4⟩
      · refine Or.inl ⟨e.trans h1, fun j h3 h4 => ?_⟩
        by_cases hj : j = i
        · subst hj; exact fun q => h ((lg_cmp_eq _ _).mpr q)
        · exact h2 j (by omega) (by omega)
      · exact Or.inr ⟨j, by omega, by omega, h3, e.trans h4⟩
theorem ex_find_c {g g' : Nat → Int64} {x : Int64} : ∀ (n i : Nat), (∀ j, i ≤ j → j < i + n → g j = g' j) → ex_find g x n i = ex_find g' x n i := by
  intro n
  induction n with
  | zero => intro i _; rfl
  | succ n ih =>
    intro i h
    rw [ex_find_s, ex_find_s, h i (by omega) (by omega), ih (i + 1) (fun j h1 h2 => h j (by omega) (by omega))]
theorem ex_nIi {i j : Nat} (hi : i < 1000) (hj : j < 1000) (h : nI i = nI j) : i = j := by
  have h1 := congrArg Int32.toInt h
  rw [nI_toInt (by omega), nI_toInt (by omega)] at h1
  omega
theorem ex_wd_k : ∀ k, k < 22 → ex_find ex_wd (ex_wd k) 22 0 = nI k := by decide +kernel
theorem ex_wd_i {x : Int64} {k : Nat} (hk : k < 22) : ex_find ex_wd x 22 0 = nI k ↔ x = ex_wd k := by
  constructor
  · intro h
    rcases ex_find_r (g := ex_wd) (x := x) 22 0 with ⟨h1, _⟩ | ⟨j, _, h2, h3, h4⟩
    · exact absurd (h.symm.trans h1) (ex_nI1 (by omega))
    · rw [← h3, ex_nIi (by omega) (by omega) (h4.symm.trans h)]
  · intro h; rw [h]; exact ex_wd_k k hk
theorem B_nm_0 {g : Nat → Int64} {x : Int64} : ∀ (n i : Nat), B_nm g x n i 0 = 0 := by
  intro n
  induction n with
  | zero => intro i; rfl
  | succ n ih => intro i; rw [B_nm_s, if_pos rfl]; exact ih _
theorem B_nm_1 {g : Nat → Int64} {x : Int64} : ∀ (n i : Nat), i + n < 1000 → B_nm g x n i 1 = if ex_find g x n i = -1 then 1 else 0 := by
  intro n
  induction n with
  | zero =>
    intro i _
    rw [if_pos (show ex_find g x 0 i = -1 from rfl)]
    rfl
  | succ n ih =>
    intro i hi
    rw [B_nm_s, if_neg C_n10]
    by_cases h : x = g i
    · rw [if_pos ((lg_cmp_eq _ _).mpr h), B_nm_0, ex_find_s, if_pos ((lg_cmp_eq _ _).mpr h.symm), if_neg (ex_nI1 (by omega))]
    · rw [if_neg (fun q => h ((lg_cmp_eq _ _).mp q)), ih (i + 1) (by omega), ex_find_s, if_neg (fun q => h ((lg_cmp_eq _ _).mp q).symm)]
-- what both sides have of the tape and of the document
noncomputable def E_ev (a b : ex_S) : Prop := a.1 0 = b.1 2 ∧ a.1 1 = b.1 4 ∧ (∀ j : Nat, (j : Int) < (a.1 0).toInt → a.2.2.1 0 j = b.2.2.1 0 j &&& 255) ∧ (∀ j, j < 22 → a.2.2.2 0 j = ex_wd j) ∧ (∀ j, j < 22 → b.2.2.2 1 j = ex_wd j)
theorem E_pk {a b : ex_S} (hE : E_ev a b) (hn : (a.1 0).toInt ≤ 940) {q : Int32} (h0 : 0 ≤ q.toInt) (hq : q.toInt < (a.1 0).toInt) {b' : ex_S} (h3 : b'.1 3 = q) (h2 : b'.1 2 = b.1 2) (hr : b'.2.2.1 0 = b.2.2.1 0) : B_peek b' = a.2.2.1 0 q.toNatClampNeg := by
  have c := ex_cl (x := q) h0
  rw [B_pk (b := b') (by rw [h3, h2, ← hE.1]; exact hq), h3, hr]
  exact (hE.2.2.1 q.toNatClampNeg (by omega)).symm
theorem E_sk {a b : ex_S} (hE : E_ev a b) (hn : (a.1 0).toInt ≤ 940) : ∀ (k : Nat) (p : Int32), 0 ≤ p.toInt → ex_sk (a.2.2.1 0) (a.1 0) k p = B_sk b k p := by
  intro k
  induction k with
  | zero => intro p h0; rfl
  | succ k ih =>
    intro p h0
    rw [ex_sk_s, B_sk_s]
    simp only [ex_lt]
    by_cases h : p.toInt < (a.1 0).toInt
    · have hp : B_peek (sI 3 p b) = a.2.2.1 0 p.toNatClampNeg := E_pk hE hn h0 h rfl rfl rfl
      have e := ex_inc h
      rw [if_pos h, hp, ih (p + 1) (by omega)]
    · rw [if_neg h, B_pkn (b := sI 3 p b) (by show ¬ p.toInt < (b.1 2).toInt; rw [← hE.1]; exact h), if_neg (by decide), if_neg (by decide)]
-- a run of letters or digits
theorem E_132 {iw a q s0 sp : Int32} (hs : (q - s0).toInt = sp.toInt) : (A_rr132 iw a q s0 = 0 ∨ A_rr132 iw a q s0 = 1) ∧ (A_rr132 iw a q s0 = 1 ↔ ¬ iw = 0 ∧ ¬ a = 0 ∧ sp.toInt < 7) := by
  have e7 : (7 : Int32).toInt = 7 := by decide
  unfold A_rr132
  rw [hs, e7]
  by_cases h1 : iw = 0
  · rw [if_pos h1]; exact ⟨Or.inl rfl, fun h => absurd h C_n01, fun h => absurd h1 h.1⟩
  · rw [if_neg h1]
    by_cases h2 : a = 0
    · rw [if_pos h2]; exact ⟨Or.inl rfl, fun h => absurd h C_n01, fun h => absurd h2 h.2.1⟩
    · rw [if_neg h2]
      by_cases h3 : sp.toInt < 7
      · rw [if_pos h3]; exact ⟨Or.inr rfl, fun _ => ⟨h1, h2, h3⟩, fun _ => rfl⟩
      · rw [if_neg h3]; exact ⟨Or.inl rfl, fun h => absurd h C_n01, fun h => absurd h.2.2 h3⟩
theorem E_160 {nu g q s0 sp : Int32} (hs : (q - s0).toInt = sp.toInt) : (A_rr160 nu g q s0 = 0 ∨ A_rr160 nu g q s0 = 1) ∧ (A_rr160 nu g q s0 = 1 ↔ ¬ nu = 0 ∧ ¬ g = 0 ∧ sp.toInt < 3) := by
  have e7 : (3 : Int32).toInt = 3 := by decide
  unfold A_rr160
  rw [hs, e7]
  by_cases h1 : nu = 0
  · rw [if_pos h1]; exact ⟨Or.inl rfl, fun h => absurd h C_n01, fun h => absurd h1 h.1⟩
  · rw [if_neg h1]
    by_cases h2 : g = 0
    · rw [if_pos h2]; exact ⟨Or.inl rfl, fun h => absurd h C_n01, fun h => absurd h2 h.2.1⟩
    · rw [if_neg h2]
      by_cases h3 : sp.toInt < 3
      · rw [if_pos h3]; exact ⟨Or.inr rfl, fun _ => ⟨h1, h2, h3⟩, fun _ => rfl⟩
      · rw [if_neg h3]; exact ⟨Or.inl rfl, fun h => absurd h C_n01, fun h => absurd h.2.2 h3⟩
noncomputable def E_al (al sm s : Int32) : Int32 := if al = 0 then (0 : Int32) else if s = sm then (1 : Int32) else (0 : Int32)
theorem E_bal {al sm s : Int32} : (E_al al sm s = 0 ∨ E_al al sm s = 1) ∧ (E_al al sm s = 1 ↔ ¬ al = 0 ∧ s = sm) := by
  unfold E_al
  by_cases h1 : al = 0
  · rw [if_pos h1]; exact ⟨Or.inl rfl, fun h => absurd h C_n01, fun h => absurd h1 h.1⟩
  · rw [if_neg h1]
    by_cases h2 : s = sm
    · rw [if_pos h2]; exact ⟨Or.inr rfl, fun _ => ⟨h1, h2⟩, fun _ => rfl⟩
    · rw [if_neg h2]; exact ⟨Or.inl rfl, fun h => absurd h C_n01, fun h => absurd h.2 h2⟩
/-- how the flags of both sides hang together within a run (sm: it began with a letter; sp: its length so far) -/
noncomputable def E_n (sm iw nu al sp : Int32) : Prop := ((iw = 0 ∨ iw = 1) ∧ (nu = 0 ∨ nu = 1) ∧ (al = 0 ∨ al = 1)) ∧ (sm = 1 → (iw = 1 ↔ (al = 1 ∧ sp.toInt ≤ 7)) ∧ (nu = 0 ∨ sp.toInt = 0)) ∧ (sm = 0 → (nu = 1 ↔ (al = 1 ∧ sp.toInt ≤ 3)) ∧ (iw = 0 ∨ sp.toInt = 0))
theorem E_n0 {sm : Int32} (hsm : sm = 0 ∨ sm = 1) : E_n sm 1 1 1 0 := by
  have z : (0 : Int32).toInt = 0 := by decide
  unfold E_n
  refine ⟨⟨Or.inr rfl, Or.inr rfl, Or.inr rfl⟩, fun _ => ⟨⟨fun _ => ⟨rfl, by rw [z]; decide⟩, fun _ => rfl⟩, Or.inr z⟩, fun _ => ⟨⟨fun _ => ⟨rfl, by rw [z]; decide⟩, fun _ => rfl⟩, Or.inr z⟩⟩
theorem E_step {sm iw nu al sp s g iw1 nu1 al1 : Int32} (hsm : sm = 0 ∨ sm = 1) (h5 : E_n sm iw nu al sp) (hsp : 0 ≤ sp.toInt ∧ sp.toInt ≤ 1000) (hsg : (s = 1 ∧ g = 0) ∨ (s = 0 ∧ g = 1)) (hF : sp.toInt = 0 → s = sm) (r1 : (iw1 = 0 ∨ iw1 = 1) ∧ (iw1 = 1 ↔ ¬ iw = 0 ∧ ¬ s = 0 ∧ sp.toInt < 7)) (r2 : (nu1 = 0 ∨ nu1 = 1) ∧ (nu1 = 1 ↔ ¬ nu = 0 ∧ ¬ g = 0 ∧ sp.toInt < 3)) (r3 : (al1 = 0 ∨ al1 = 1) ∧ (al1 = 1 ↔ ¬ al = 0 ∧ s = sm)) : E_n sm iw1 nu1 al1 (sp + 1) := by
  have e2 : (2000 : Int32).toInt = 2000 := by decide
  have e : (sp + 1).toInt = sp.toInt + 1 := ex_inc (p := sp) (n := 2000) (by omega)
  have z0 : (0 : Int32).toInt = 0 := by decide
  have z1 : (1 : Int32).toInt = 1 := by decide
  unfold E_n at h5 ⊢
  rw [e]
  simp only [E_cv, z0, z1] at hsm h5 hsg hF r1 r2 r3 ⊢
  obtain ⟨⟨i1, i2, i3⟩, j1, j0⟩ := h5
  obtain ⟨r1a, r1b⟩ := r1
  obtain ⟨r2a, r2b⟩ := r2
  obtain ⟨r3a, r3b⟩ := r3
  rcases hsm with hsm | hsm <;> rcases hsg with ⟨hs, hg⟩ | ⟨hs, hg⟩ <;> rcases i1 with i1 | i1 <;> rcases i2 with i2 | i2 <;> rcases i3 with i3 | i3 <;> refine ⟨⟨r1a, r2a, r3a⟩, fun hh => ⟨⟨fun hx => ?_, fun hx => ?_⟩, ?_⟩, fun hh => ⟨⟨fun hx => ?_, fun hx => ?_⟩, ?_⟩⟩ <;> omega
noncomputable def E_tk (al sm sp : Int32) : Int32 := if al = 0 then (4 : Int32) else if sm = 0 then (if ((3 : Int32)).toInt < (sp).toInt then (4 : Int32) else (2 : Int32)) else (if ((7 : Int32)).toInt < (sp).toInt then (4 : Int32) else (1 : Int32))
theorem E_out {sm iw nu al sp dg nb : Int32} {L wd : Int64} (hsm : sm = 0 ∨ sm = 1) (hsp : 0 < sp.toInt) (h5 : E_n sm iw nu al sp) (h6 : iw = 1 → L = wd) (h7 : nu = 1 → dg = nb) : (A_rr257 iw nu = 2 ∧ E_tk al sm sp = 1 ∧ L = wd) ∨ (A_rr257 iw nu = 3 ∧ E_tk al sm sp = 2 ∧ dg = nb) ∨ (A_rr257 iw nu = 0 ∧ E_tk al sm sp = 4) := by
  have e3 : (3 : Int32).toInt = 3 := by decide
  have e7 : (7 : Int32).toInt = 7 := by decide
  obtain ⟨⟨i1, i2, i3⟩, j1, j0⟩ := h5
  unfold E_tk A_rr257
  rw [e3, e7]
  rcases hsm with rfl | rfl
  · obtain ⟨k1, k2⟩ := j0 rfl
    have iw0 : iw = 0 := k2.resolve_right (by omega)
    subst iw0
    rcases i2 with rfl | rfl
    · refine Or.inr (Or.inr ⟨(if_pos rfl).trans (if_pos rfl), ?_⟩)
      by_cases ha : al = 0
      · exact if_pos ha
      · rw [if_neg ha, if_pos rfl]
        have ha1 : al = 1 := i3.resolve_left ha
        exact if_pos (by
          by_cases h9 : sp.toInt ≤ 3
          · exact absurd (k1.mpr ⟨ha1, h9⟩) C_n01
          · omega)
    · have k3 := k1.mp rfl
      refine Or.inr (Or.inl ⟨(if_pos rfl).trans (if_neg C_n10), ?_, h7 rfl⟩)
      rw [if_neg (by rw [k3.1]; exact C_n10), if_pos rfl]
      exact if_neg (by omega)
  · obtain ⟨k1, k2⟩ := j1 rfl
    have nu0 : nu = 0 := k2.resolve_right (by omega)
    subst nu0
    rcases i1 with rfl | rfl
    · refine Or.inr (Or.inr ⟨(if_pos rfl).trans (if_pos rfl), ?_⟩)
      by_cases ha : al = 0
      · exact if_pos ha
      · rw [if_neg ha, if_neg C_n10]
        have ha1 : al = 1 := i3.resolve_left ha
        exact if_pos (by
          by_cases h9 : sp.toInt ≤ 7
          · exact absurd (k1.mpr ⟨ha1, h9⟩) C_n01
          · omega)
    · have k3 := k1.mp rfl
      refine Or.inl ⟨if_neg C_n10, ?_, h6 rfl⟩
      rw [if_neg (by rw [k3.1]; exact C_n10), if_neg C_n10]
      exact if_neg (by omega)
theorem E_rrC {K : Int32 → Int32 → Int32 → Int32 → Int64 → ex_S} {τ0 : ex_S} {sm q sp nu al pk : Int32} {wd : Int64} (hp : B_peek (sI 3 q (sI 7 sp (sI 8 nu (sL 0 wd τ0)))) = pk) : B_rrC K τ0 sm q sp nu al wd = K (q + (1 : Int32)) (sp + (1 : Int32)) (if (sp).toInt < ((3 : Int32)).toInt then ((((10 : Int32) * nu) + pk) - (48 : Int32)) else nu) (E_al al sm (B_isSmall pk)) (if (sp).toInt < ((7 : Int32)).toInt then ((wd <<< (((8 : Int32)).toInt64 &&& 63)) ||| pk.toInt64) else wd) := by
  subst hp
  unfold B_rrC
  simp only [ex_lt]
  by_cases h7 : (sp).toInt < ((7 : Int32)).toInt
  · by_cases h3 : (sp).toInt < ((3 : Int32)).toInt
    · rw [if_pos h7, if_pos h7, if_pos h3, if_pos h3]; rfl
    · rw [if_pos h7, if_pos h7, if_neg h3, if_neg h3]; rfl
  · by_cases h3 : (sp).toInt < ((3 : Int32)).toInt
    · rw [if_neg h7, if_neg h7, if_pos h3, if_pos h3]; rfl
    · rw [if_neg h7, if_neg h7, if_neg h3, if_neg h3]; rfl
theorem E_endB {b : ex_S} {sm q sp nb al : Int32} {wd : Int64} {k : Nat} (h1 : B_isSmall (B_peek (sI 3 q (sI 7 sp (sI 8 nb (sL 0 wd b))))) = 0) (h2 : B_isDigit (B_peek (sI 3 q (sI 7 sp (sI 8 nb (sL 0 wd b))))) = 0) : B_rr b sm (k + 1) q sp nb al wd = sI 5 (E_tk al sm sp) (sI 3 q (sI 7 sp (sI 8 nb (sL 0 wd b)))) := by
  rw [B_rr_s]
  simp only [ex_lt]
  rw [if_pos h1, if_pos h2]
  unfold E_tk
  by_cases a1 : al = 0
  · rw [if_pos a1, if_pos a1]
  · rw [if_neg a1, if_neg a1]
    by_cases a2 : sm = 0
    · rw [if_pos a2, if_pos a2]
      by_cases a3 : ((3 : Int32)).toInt < (sp).toInt
      · rw [if_pos a3, if_pos a3, if_pos a2]
      · rw [if_neg a3, if_neg a3, if_pos a2]
    · rw [if_neg a2, if_neg a2]
      by_cases a3 : ((7 : Int32)).toInt < (sp).toInt
      · rw [if_pos a3, if_pos a3, if_neg a2]
      · rw [if_neg a3, if_neg a3, if_neg a2]
theorem E_endA {a : ex_S} {q iw nu dg : Int32} {L : Int64} (h : (a.1 3).toInt < q.toInt) : A_rrF a q iw nu dg L = sI 4 (A_rr257 iw nu) (sI 2 q (sI 5 dg (sL 0 L a))) := by
  unfold A_rrF
  exact if_pos h
theorem ex_sub2 {q s : Int32} (h0 : 0 ≤ s.toInt) (h1 : s.toInt ≤ q.toInt) : (q - s).toInt = q.toInt - s.toInt := by
  have h2 := ab_i32 q
  have h3 := ab_i32 s
  rw [Int32.toInt_sub]
  exact Int.bmod_eq_of_le (by omega) (by omega)
theorem E_rr {a b : ex_S} {sm : Int32} (hE : E_ev a b) (hn : (a.1 0).toInt ≤ 940) (h0 : 0 ≤ (a.1 3).toInt) (hsm : sm = 0 ∨ sm = 1) (hp : (a.1 3).toInt < (a.1 0).toInt) (hF : B_isSmall (a.2.2.1 0 (a.1 3).toNatClampNeg) = sm) (hG : B_isSmall (a.2.2.1 0 (a.1 3).toNatClampNeg) = 1 ∨ B_isDigit (a.2.2.1 0 (a.1 3).toNatClampNeg) = 1) :
    ∀ (k : Nat) (q iw nu dg : Int32) (L : Int64) (sp nb al : Int32) (wd : Int64), (a.1 3).toInt ≤ q.toInt → q.toInt ≤ (a.1 0).toInt → (a.1 0).toInt - q.toInt < k → sp.toInt = q.toInt - (a.1 3).toInt → E_n sm iw nu al sp → (iw = 1 → L = wd) → (nu = 1 → dg = nb) →
    ∃ q' v dg' L' tk sp' nb' wd', A_rr a k q iw nu dg L = sI 4 v (sI 2 q' (sI 5 dg' (sL 0 L' a))) ∧ B_rr b sm k q sp nb al wd = sI 5 tk (sI 3 q' (sI 7 sp' (sI 8 nb' (sL 0 wd' b)))) ∧ ((v = 2 ∧ tk = 1 ∧ L' = wd') ∨ (v = 3 ∧ tk = 2 ∧ dg' = nb') ∨ (v = 0 ∧ tk = 4)) := by
  intro k
  induction k with
  | zero => intro q iw nu dg L sp nb al wd h1 h2 h3; exfalso; omega
  | succ k ih =>
    intro q iw nu dg L sp nb al wd h1 h2 h3 h4 h5 h6 h7
    have hs : (q - a.1 3).toInt = sp.toInt := by rw [ex_sub2 h0 h1, h4]
    by_cases hq : q.toInt < (a.1 0).toInt
    · have hpk : B_peek (sI 3 q (sI 7 sp (sI 8 nb (sL 0 wd b)))) = a.2.2.1 0 q.toNatClampNeg := E_pk hE hn (by omega) hq rfl rfl rfl
      have hF1 : sp.toInt = 0 → B_isSmall (a.2.2.1 0 q.toNatClampNeg) = sm := by
        intro z
        have e : q = a.1 3 := Int32.toInt_inj.mp (by omega)
        rw [e]; exact hF
      have hG1 : sp.toInt = 0 → B_isSmall (a.2.2.1 0 q.toNatClampNeg) = 1 ∨ B_isDigit (a.2.2.1 0 q.toNatClampNeg) = 1 := by
        intro z
        have e : q = a.1 3 := Int32.toInt_inj.mp (by omega)
        rw [e]; exact hG
      obtain ⟨c, hc⟩ : ∃ c, c = a.2.2.1 0 q.toNatClampNeg := ⟨_, rfl⟩
      rw [← hc] at hpk hF1 hG1
      have hA : A_rr a (k + 1) q iw nu dg L = if A_rr99 (B_isSmall c) (B_isDigit c) = 0 then A_rrF a q iw nu dg L else A_rr a k (q + 1) (A_rr132 iw (B_isSmall c) q (a.1 3)) (A_rr160 nu (B_isDigit c) q (a.1 3)) (A_rr212 (A_rr160 nu (B_isDigit c) q (a.1 3)) dg c) (A_rr184 (A_rr132 iw (B_isSmall c) q (a.1 3)) L c) := by
        rw [hc]; exact A_rr_s.trans (if_pos hq)
      rw [hA]
      by_cases hsg : B_isSmall c = 0 ∧ B_isDigit c = 0
      · rw [if_pos (by rw [hsg.1, hsg.2]; exact (if_pos rfl).trans (if_pos rfl))]
        have hz : ¬ sp.toInt = 0 := by
          intro z
          rcases hG1 z with g | g
          · rw [hsg.1] at g; exact C_n01 g
          · rw [hsg.2] at g; exact C_n01 g
        rw [E_endB (by rw [hpk]; exact hsg.1) (by rw [hpk]; exact hsg.2), E_endA (by omega)]
        exact ⟨q, A_rr257 iw nu, dg, L, E_tk al sm sp, sp, nb, wd, rfl, rfl, E_out hsm (by omega) h5 h6 h7⟩
      · have hsg1 : (B_isSmall c = 1 ∧ B_isDigit c = 0) ∨ (B_isSmall c = 0 ∧ B_isDigit c = 1) := by
          rcases C_01 c with s | s
          · rcases C_d01 c with g | g
            · exact absurd ⟨s, g⟩ hsg
            · exact Or.inr ⟨s, g⟩
          · exact Or.inl ⟨s, C_ex s⟩
        have h99 : ¬ A_rr99 (B_isSmall c) (B_isDigit c) = 0 := by
          rcases hsg1 with ⟨s, g⟩ | ⟨s, g⟩ <;> rw [s, g] <;> unfold A_rr99 <;> decide
        rw [if_neg h99]
        have hB : B_rr b sm (k + 1) q sp nb al wd = B_rrC (B_rr b sm k) b sm q sp nb al wd := by
          rw [B_rr_s]
          simp only [ex_lt]
          rw [hpk]
          rcases hsg1 with ⟨s, g⟩ | ⟨s, g⟩
          · rw [s, if_neg C_n10]
          · rw [s, if_pos rfl, g, if_neg C_n10]
        rw [hB, E_rrC hpk]
        have e := ex_inc hq
        have e2 : (2000 : Int32).toInt = 2000 := by decide
        have e3 : (sp + 1).toInt = sp.toInt + 1 := ex_inc (p := sp) (n := 2000) (by omega)
        have t3 : (3 : Int32).toInt = 3 := by decide
        have t7 : (7 : Int32).toInt = 7 := by decide
        have r1 := E_132 (iw := iw) (a := B_isSmall c) hs
        have r2 := E_160 (nu := nu) (g := B_isDigit c) hs
        refine ih (q + 1) _ _ _ _ (sp + 1) _ _ _ (by omega) (by omega) (by omega) (by omega) (E_step hsm h5 (by omega) hsg1 hF1 r1 r2 E_bal) (fun hi => ?_) (fun hi => ?_)
        · have r := r1.2.mp hi
          have i1 : iw = 1 := h5.1.1.resolve_left r.1
          rw [if_pos (by omega)]
          rw [h6 i1]
          unfold A_rr184
          rw [if_neg (by rw [hi]; exact C_n10)]
        · have r := r2.2.mp hi
          have i1 : nu = 1 := h5.1.2.1.resolve_left r.1
          rw [if_pos (by omega)]
          rw [h7 i1]
          unfold A_rr212
          rw [if_neg (by rw [hi]; exact C_n10), Int32.mul_comm nb 10]
    · have hpk : B_peek (sI 3 q (sI 7 sp (sI 8 nb (sL 0 wd b)))) = -1 := B_pkn (by show ¬ q.toInt < (b.1 2).toInt; rw [← hE.1]; exact hq)
      have hA : A_rr a (k + 1) q iw nu dg L = A_rrF a q iw nu dg L := A_rr_s.trans (if_neg hq)
      rw [hA, E_endB (by rw [hpk]; decide +kernel) (by rw [hpk]; decide +kernel), E_endA (by omega)]
      exact ⟨q, A_rr257 iw nu, dg, L, E_tk al sm sp, sp, nb, wd, rfl, rfl, E_out hsm (by omega) h5 h6 h7⟩
-- one token
noncomputable def A_bd (τ : ex_S) : ex_S :=
  if ((τ.1 2)).toInt < ((τ.1 0)).toInt then
    ex_lt (A_isSign ((τ.2.2.1 0) ((τ.1 2)).toNatClampNeg)) (fun r3 =>
    if r3 = 0 then
      ex_lt (A_readRun (sI 6 (-1 : Int32) (sI 4 (0 : Int32) (sI 3 (τ.1 2) τ)))) (fun σ6 =>
      if (σ6.1 4) = (2 : Int32) then
        ex_lt (A_toldWord σ6) (fun r10 =>
        (sI 6 r10 σ6))
      else
        (sI 6 (-1 : Int32) σ6))
    else
      (sI 2 ((τ.1 2) + (1 : Int32)) (sI 4 ((τ.2.2.1 0) ((τ.1 2)).toNatClampNeg) (sI 6 (-1 : Int32) (sI 4 (0 : Int32) (sI 3 (τ.1 2) τ))))))
  else
    (sI 4 (1 : Int32) (sI 6 (-1 : Int32) (sI 4 (0 : Int32) (sI 3 (τ.1 2) τ))))
theorem A_nxt_b (τ : ex_S) : A_nxt τ = if ((τ.1 1)).toInt < ((τ.1 0)).toInt then (if ((τ.1 2)).toInt < ((τ.1 1)).toInt then A_bd τ else (sI 3 (τ.1 1) (sI 6 (-1 : Int32) (sI 4 (0 : Int32) (sI 3 (τ.1 2) τ))))) else A_bd τ := rfl
noncomputable def B_sg (c : Int32) : Int32 :=
  if c = (59 : Int32) then (3 : Int32) else if c = (40 : Int32) then (3 : Int32) else if c = (41 : Int32) then (3 : Int32) else if (c).toInt < ((60 : Int32)).toInt then (4 : Int32) else if ((62 : Int32)).toInt < (c).toInt then (4 : Int32) else (3 : Int32)
noncomputable def B_bd (τ : ex_S) (c : Int32) : ex_S :=
  if (c).toInt < 0 then (sI 5 (0 : Int32) (sI 7 (0 : Int32) (sI 6 (τ.1 3) τ)))
  else if B_isSmall c = 0 then
    (if B_isDigit c = 0 then (sI 3 ((τ.1 3) + (1 : Int32)) (sI 8 c (sI 5 (B_sg c) (sI 7 (0 : Int32) (sI 6 (τ.1 3) τ)))))
    else B_run τ (B_isSmall c))
  else B_run τ (B_isSmall c)
theorem B_sg_t {c : Int32} {f : Int32 → ex_S} : (if c = (59 : Int32) then f (3 : Int32) else if c = (40 : Int32) then f (3 : Int32) else if c = (41 : Int32) then f (3 : Int32) else if (c).toInt < ((60 : Int32)).toInt then f (4 : Int32) else if ((62 : Int32)).toInt < (c).toInt then f (4 : Int32) else f (3 : Int32)) = f (B_sg c) := by
  unfold B_sg
  by_cases h1 : c = (59 : Int32)
  · rw [if_pos h1, if_pos h1]
  · rw [if_neg h1, if_neg h1]
    by_cases h2 : c = (40 : Int32)
    · rw [if_pos h2, if_pos h2]
    · rw [if_neg h2, if_neg h2]
      by_cases h3 : c = (41 : Int32)
      · rw [if_pos h3, if_pos h3]
      · rw [if_neg h3, if_neg h3]
        by_cases h4 : (c).toInt < ((60 : Int32)).toInt
        · rw [if_pos h4, if_pos h4]
        · rw [if_neg h4, if_neg h4]
          by_cases h5 : ((62 : Int32)).toInt < (c).toInt
          · rw [if_pos h5, if_pos h5]
          · rw [if_neg h5, if_neg h5]
theorem B_bd_rR (R : Int32 → ex_S) (τ : ex_S) (c : Int32) : (
      if (c).toInt < 0 then
        (sI 5 (0 : Int32) (sI 7 (0 : Int32) (sI 6 (τ.1 3) τ)))
      else
        ex_lt (B_isSmall c) (fun r58 =>
        if r58 = 0 then
          ex_lt (B_isDigit c) (fun r63 =>
          if r63 = 0 then
            if c = (59 : Int32) then
              (sI 3 ((τ.1 3) + (1 : Int32)) (sI 8 c (sI 5 (3 : Int32) (sI 7 (0 : Int32) (sI 6 (τ.1 3) τ)))))
            else
              if c = (40 : Int32) then
                (sI 3 ((τ.1 3) + (1 : Int32)) (sI 8 c (sI 5 (3 : Int32) (sI 7 (0 : Int32) (sI 6 (τ.1 3) τ)))))
              else
                if c = (41 : Int32) then
                  (sI 3 ((τ.1 3) + (1 : Int32)) (sI 8 c (sI 5 (3 : Int32) (sI 7 (0 : Int32) (sI 6 (τ.1 3) τ)))))
                else
                  if (c).toInt < ((60 : Int32)).toInt then
                    (sI 3 ((τ.1 3) + (1 : Int32)) (sI 8 c (sI 5 (4 : Int32) (sI 7 (0 : Int32) (sI 6 (τ.1 3) τ)))))
                  else
                    if ((62 : Int32)).toInt < (c).toInt then
                      (sI 3 ((τ.1 3) + (1 : Int32)) (sI 8 c (sI 5 (4 : Int32) (sI 7 (0 : Int32) (sI 6 (τ.1 3) τ)))))
                    else
                      (sI 3 ((τ.1 3) + (1 : Int32)) (sI 8 c (sI 5 (3 : Int32) (sI 7 (0 : Int32) (sI 6 (τ.1 3) τ)))))
          else
            ex_lt (B_isSmall c) (fun r66 =>
            R r66))
        else
          ex_lt (B_isSmall c) (fun r61 =>
          R r61))) = (if (c).toInt < 0 then (sI 5 (0 : Int32) (sI 7 (0 : Int32) (sI 6 (τ.1 3) τ)))
  else if B_isSmall c = 0 then
    (if B_isDigit c = 0 then (sI 3 ((τ.1 3) + (1 : Int32)) (sI 8 c (sI 5 (B_sg c) (sI 7 (0 : Int32) (sI 6 (τ.1 3) τ)))))
    else R (B_isSmall c))
  else R (B_isSmall c)) := by
  simp only [ex_lt]
  rw [← B_sg_t (f := fun v => (sI 3 ((τ.1 3) + (1 : Int32)) (sI 8 c (sI 5 v (sI 7 (0 : Int32) (sI 6 (τ.1 3) τ))))))]
theorem B_bd_r (τ : ex_S) (c : Int32) : (
      if (c).toInt < 0 then
        (sI 5 (0 : Int32) (sI 7 (0 : Int32) (sI 6 (τ.1 3) τ)))
      else
        ex_lt (B_isSmall c) (fun r58 =>
        if r58 = 0 then
          ex_lt (B_isDigit c) (fun r63 =>
          if r63 = 0 then
            if c = (59 : Int32) then
              (sI 3 ((τ.1 3) + (1 : Int32)) (sI 8 c (sI 5 (3 : Int32) (sI 7 (0 : Int32) (sI 6 (τ.1 3) τ)))))
            else
              if c = (40 : Int32) then
                (sI 3 ((τ.1 3) + (1 : Int32)) (sI 8 c (sI 5 (3 : Int32) (sI 7 (0 : Int32) (sI 6 (τ.1 3) τ)))))
              else
                if c = (41 : Int32) then
                  (sI 3 ((τ.1 3) + (1 : Int32)) (sI 8 c (sI 5 (3 : Int32) (sI 7 (0 : Int32) (sI 6 (τ.1 3) τ)))))
                else
                  if (c).toInt < ((60 : Int32)).toInt then
                    (sI 3 ((τ.1 3) + (1 : Int32)) (sI 8 c (sI 5 (4 : Int32) (sI 7 (0 : Int32) (sI 6 (τ.1 3) τ)))))
                  else
                    if ((62 : Int32)).toInt < (c).toInt then
                      (sI 3 ((τ.1 3) + (1 : Int32)) (sI 8 c (sI 5 (4 : Int32) (sI 7 (0 : Int32) (sI 6 (τ.1 3) τ)))))
                    else
                      (sI 3 ((τ.1 3) + (1 : Int32)) (sI 8 c (sI 5 (3 : Int32) (sI 7 (0 : Int32) (sI 6 (τ.1 3) τ)))))
          else
            ex_lt (B_isSmall c) (fun r66 =>
            B_run τ r66))
        else
          ex_lt (B_isSmall c) (fun r61 =>
          B_run τ r61))) = B_bd τ c := B_bd_rR (B_run τ) τ c
theorem B_nxt_b (τ : ex_S) : B_nxt τ = if ((τ.1 4)).toInt < ((τ.1 2)).toInt then (if ((τ.1 3)).toInt < ((τ.1 4)).toInt then B_bd τ (B_peek (sI 7 (0 : Int32) (sI 6 (τ.1 3) τ))) else (sI 5 (4 : Int32) (sI 6 (τ.1 4) (sI 7 (0 : Int32) (sI 6 (τ.1 3) τ))))) else B_bd τ (B_peek (sI 7 (0 : Int32) (sI 6 (τ.1 3) τ))) := by
  unfold B_nxt
  simp only [B_bd_r τ]
  simp only [ex_lt]
/-- the token that both sides have read -/
noncomputable def E_T (a b : ex_S) : Prop := a.1 3 = b.1 6 ∧ ((a.1 4 = 1 ∧ b.1 5 = 0 ∧ a.1 6 = -1) ∨ (a.1 4 = 2 ∧ b.1 5 = 1 ∧ a.2.1 0 = b.2.1 0 ∧ a.1 6 = ex_find ex_wd (b.2.1 0) 22 0 ∧ a.1 2 = b.1 3) ∨ (a.1 4 = 3 ∧ b.1 5 = 2 ∧ a.1 6 = -1 ∧ a.1 5 = b.1 8 ∧ a.1 2 = b.1 3) ∨ (A_isSign (a.1 4) = 1 ∧ b.1 5 = 3 ∧ a.1 6 = -1 ∧ b.1 8 = a.1 4 ∧ a.1 2 = b.1 3) ∨ (a.1 4 = 0 ∧ b.1 5 = 4 ∧ a.1 6 = -1))
theorem A_sg01 (c : Int32) : A_isSign c = 0 ∨ A_isSign c = 1 := by
  unfold A_isSign
  (repeat' split) <;> first | exact Or.inl rfl | exact Or.inr rfl
theorem A_sg_in {c : Int32} (h : A_isSign c = 1) : c = 59 ∨ c = 60 ∨ c = 61 ∨ c = 62 ∨ c = 40 ∨ c = 41 := by
  unfold A_isSign at h
  by_cases h1 : c = 59; · exact Or.inl h1
  by_cases h2 : c = 60; · exact Or.inr (Or.inl h2)
  by_cases h3 : c = 61; · exact Or.inr (Or.inr (Or.inl h3))
  by_cases h4 : c = 62; · exact Or.inr (Or.inr (Or.inr (Or.inl h4)))
  by_cases h5 : c = 40; · exact Or.inr (Or.inr (Or.inr (Or.inr (Or.inl h5))))
  by_cases h6 : c = 41; · exact Or.inr (Or.inr (Or.inr (Or.inr (Or.inr h6))))
  rw [if_neg h1, if_neg h2, if_neg h3, if_neg h4, if_neg h5, if_neg h6] at h
  exact absurd h C_n01
theorem A_sg_of {c : Int32} (h : c = 59 ∨ c = 60 ∨ c = 61 ∨ c = 62 ∨ c = 40 ∨ c = 41) : A_isSign c = 1 ∧ B_isSmall c = 0 ∧ B_isDigit c = 0 ∧ B_sg c = 3 := by
  rcases h with rfl | rfl | rfl | rfl | rfl | rfl <;> decide +kernel
theorem B_sg_no {c : Int32} (h : A_isSign c = 0) : B_sg c = 4 := by
  have n : ∀ k : Int32, (k = 59 ∨ k = 60 ∨ k = 61 ∨ k = 62 ∨ k = 40 ∨ k = 41) → ¬ c = k := by
    intro k hk q
    subst q
    rw [(A_sg_of hk).1] at h
    exact C_n10 h
  have e60 : (60 : Int32).toInt = 60 := by decide
  have e62 : (62 : Int32).toInt = 62 := by decide
  have m60 : ¬ c.toInt = (60 : Int32).toInt := ex_neI (n 60 (by decide))
  have m61 : ¬ c.toInt = (61 : Int32).toInt := ex_neI (n 61 (by decide))
  have m62 : ¬ c.toInt = (62 : Int32).toInt := ex_neI (n 62 (by decide))
  have e61 : (61 : Int32).toInt = 61 := by decide
  unfold B_sg
  rw [if_neg (n 59 (by decide)), if_neg (n 40 (by decide)), if_neg (n 41 (by decide))]
  by_cases h4 : (c).toInt < ((60 : Int32)).toInt
  · exact if_pos h4
  · rw [if_neg h4]
    exact if_pos (by omega)
theorem E_bd {a b : ex_S} (hE : E_ev a b) (hA : A_INV a) (hp : a.1 2 = b.1 3) : E_T (A_bd a) (B_bd b (B_peek (sI 7 (0 : Int32) (sI 6 (b.1 3) b)))) := by
  have hn := hA.1.2
  have h0 := hA.2.1.1
  by_cases hq : (a.1 2).toInt < (a.1 0).toInt
  · have hpk : B_peek (sI 7 (0 : Int32) (sI 6 (b.1 3) b)) = a.2.2.1 0 (a.1 2).toNatClampNeg := E_pk hE hn h0 hq hp.symm rfl rfl
    have h255 : 0 ≤ (a.2.2.1 0 (a.1 2).toNatClampNeg).toInt := by
      have c := ex_cl (x := a.1 2) h0
      rw [hE.2.2.1 _ (by omega)]
      exact C_255 _
    rw [hpk]
    unfold A_bd B_bd
    rw [if_pos hq]
    simp only [ex_lt]
    have hneg : ¬ (a.2.2.1 0 (a.1 2).toNatClampNeg).toInt < 0 := by omega
    rw [if_neg hneg]
    rcases A_sg01 (a.2.2.1 0 (a.1 2).toNatClampNeg) with g | g
    · rw [if_pos g]
      by_cases hc : B_isSmall (a.2.2.1 0 (a.1 2).toNatClampNeg) = 1 ∨ B_isDigit (a.2.2.1 0 (a.1 2).toNatClampNeg) = 1
      · -- a run
        have hB : (if B_isSmall (a.2.2.1 0 (a.1 2).toNatClampNeg) = 0 then
    (if B_isDigit (a.2.2.1 0 (a.1 2).toNatClampNeg) = 0 then (sI 3 ((b.1 3) + (1 : Int32)) (sI 8 (a.2.2.1 0 (a.1 2).toNatClampNeg) (sI 5 (B_sg (a.2.2.1 0 (a.1 2).toNatClampNeg)) (sI 7 (0 : Int32) (sI 6 (b.1 3) b)))))
    else B_run b (B_isSmall (a.2.2.1 0 (a.1 2).toNatClampNeg)))
  else B_run b (B_isSmall (a.2.2.1 0 (a.1 2).toNatClampNeg))) = B_run b (B_isSmall (a.2.2.1 0 (a.1 2).toNatClampNeg)) := by
          rcases hc with s | s
          · exact if_neg (by rw [s]; exact C_n10)
          · by_cases h8 : B_isSmall (a.2.2.1 0 (a.1 2).toNatClampNeg) = 0
            · rw [if_pos h8]; exact if_neg (by rw [s]; exact C_n10)
            · exact if_neg h8
        rw [hB]
        have hE2 : E_ev (sI 6 (-1 : Int32) (sI 4 (0 : Int32) (sI 3 (a.1 2) a))) (sI 6 (b.1 3) b) := hE
        have hz : (0 : Int32).toInt = 0 := by decide
        obtain ⟨q', v, dg', L', tk, sp', nb', wd', e1, e2, e3⟩ := E_rr (sm := B_isSmall (a.2.2.1 0 (a.1 2).toNatClampNeg)) hE2 hn h0 (C_01 _) hq rfl hc 941 (a.1 2) 1 1 0 0 0 0 1 0 (Int.le_refl _) (by show (a.1 2).toInt ≤ (a.1 0).toInt; omega) (by show (a.1 0).toInt - (a.1 2).toInt < _; omega) (by show (0 : Int32).toInt = (a.1 2).toInt - (a.1 2).toInt; omega) (E_n0 (C_01 _)) (fun _ => rfl) (fun _ => rfl)
        have e1' : A_readRun (sI 6 (-1 : Int32) (sI 4 (0 : Int32) (sI 3 (a.1 2) a))) = sI 4 v (sI 2 q' (sI 5 dg' (sL 0 L' (sI 6 (-1 : Int32) (sI 4 (0 : Int32) (sI 3 (a.1 2) a)))))) := e1
        have e2' : B_run b (B_isSmall (a.2.2.1 0 (a.1 2).toNatClampNeg)) = sI 5 tk (sI 3 q' (sI 7 sp' (sI 8 nb' (sL 0 wd' (sI 6 (b.1 3) b))))) := by rw [B_run_eq, ← hp]; rw [← hp] at e2; exact e2
        rw [e1', e2']
        rcases e3 with ⟨rfl, rfl, rfl⟩ | ⟨rfl, rfl, rfl⟩ | ⟨rfl, rfl⟩
        · rw [if_pos (by show (2 : Int32) = 2; rfl)]
          refine And.intro hp (Or.inr (Or.inl ⟨rfl, rfl, rfl, ?_, rfl⟩))
          show ex_find (a.2.2.2 0) L' 22 0 = ex_find ex_wd L' 22 0
          exact ex_find_c 22 0 (fun j _ h => hE.2.2.2.1 j (by omega))
        · rw [if_neg (by show ¬ (3 : Int32) = 2; decide)]
          exact And.intro hp (Or.inr (Or.inr (Or.inl ⟨rfl, rfl, rfl, rfl, rfl⟩)))
        · rw [if_neg (by show ¬ (0 : Int32) = 2; decide)]
          exact And.intro hp (Or.inr (Or.inr (Or.inr (Or.inr ⟨rfl, rfl, rfl⟩))))
      · -- nothing that can begin a token
        have s0 : B_isSmall (a.2.2.1 0 (a.1 2).toNatClampNeg) = 0 := (C_01 _).resolve_right (fun h => hc (Or.inl h))
        have g0 : B_isDigit (a.2.2.1 0 (a.1 2).toNatClampNeg) = 0 := (C_d01 _).resolve_right (fun h => hc (Or.inr h))
        rw [if_pos s0, if_pos g0, B_sg_no g]
        have e1 : A_readRun (sI 6 (-1 : Int32) (sI 4 (0 : Int32) (sI 3 (a.1 2) a))) = sI 2 (a.1 2) (sI 5 0 (sL 0 0 (sI 6 (-1 : Int32) (sI 4 (0 : Int32) (sI 3 (a.1 2) a))))) := by
          have h99 : A_rr99 (B_isSmall (a.2.2.1 0 (a.1 2).toNatClampNeg)) (B_isDigit (a.2.2.1 0 (a.1 2).toNatClampNeg)) = 0 := by rw [s0, g0]; exact (if_pos rfl).trans (if_pos rfl)
          refine (A_rr_s (σ := (sI 6 (-1 : Int32) (sI 4 (0 : Int32) (sI 3 (a.1 2) a)))) (k := 940) (q := a.1 2) (iw := 1) (nu := 1) (dg := 0) (L := 0)).trans ((if_pos hq).trans ((if_pos h99).trans ?_))
          exact if_neg (Int.lt_irrefl (a.1 2).toInt)
        rw [e1, if_neg (by show ¬ (0 : Int32) = 2; decide)]
        exact And.intro hp (Or.inr (Or.inr (Or.inr (Or.inr ⟨rfl, rfl, rfl⟩))))
    · -- a sign
      have w := A_sg_of (A_sg_in g)
      rw [if_neg (by rw [g]; exact C_n10), if_pos w.2.1, if_pos w.2.2.1, w.2.2.2]
      refine And.intro hp (Or.inr (Or.inr (Or.inr (Or.inl ⟨g, rfl, rfl, rfl, ?_⟩))))
      show (a.1 2) + (1 : Int32) = (b.1 3) + (1 : Int32)
      rw [hp]
  · have hpk : B_peek (sI 7 (0 : Int32) (sI 6 (b.1 3) b)) = -1 := B_pkn (by show ¬ (b.1 3).toInt < (b.1 2).toInt; rw [← hE.1, ← hp]; exact hq)
    rw [hpk]
    unfold A_bd B_bd
    rw [if_neg hq, if_pos (by decide)]
    exact And.intro hp (Or.inl ⟨rfl, rfl, rfl⟩)
theorem E_nxt {a b : ex_S} (hE : E_ev a b) (hA : A_INV a) (hp : a.1 2 = b.1 3) : E_T (A_nxt a) (B_nxt b) := by
  rw [A_nxt_b, B_nxt_b, ← hE.1, ← hE.2.1, ← hp]
  by_cases h1 : (a.1 1).toInt < (a.1 0).toInt
  · rw [if_pos h1, if_pos h1]
    by_cases h2 : (a.1 2).toInt < (a.1 1).toInt
    · rw [if_pos h2, if_pos h2]
      have h := E_bd hE hA hp
      rw [← hp] at h
      exact h
    · rw [if_neg h2, if_neg h2]
      exact And.intro rfl (Or.inr (Or.inr (Or.inr (Or.inr ⟨rfl, rfl, rfl⟩))))
  · rw [if_neg h1, if_neg h1]
    have h := E_bd hE hA hp
    rw [← hp] at h
    exact h
theorem E_next {a b : ex_S} (hE : E_ev a b) (hA : A_INV a) (hp : a.1 2 = b.1 3) : E_T (A_next a) (B_next b) := by
  unfold A_next B_next
  have e : B_sk b 941 (b.1 3) = ex_sk (a.2.2.1 0) (a.1 0) 941 (a.1 2) := by rw [E_sk hE hA.1.2 941 (a.1 2) hA.2.1.1, hp]
  rw [e]
  have hb := ex_sk_b (f := a.2.2.1 0) 941 (a.1 2) hA.2.1.1 hA.2.1.2
  exact E_nxt (a := sI 2 (ex_sk (a.2.2.1 0) (a.1 0) 941 (a.1 2)) a) (b := sI 3 (ex_sk (a.2.2.1 0) (a.1 0) 941 (a.1 2)) b) hE (A_INV_pos hA hb.1 hb.2) rfl
-- what a step leaves alone
noncomputable def A_J (σ τ : ex_S) : Prop := (∀ k, (k < 2 ∨ k = 9 ∨ 11 ≤ k) → τ.1 k = σ.1 k) ∧ τ.2.2 = σ.2.2
noncomputable def A_K (σ τ : ex_S) : Prop := (∀ k, (k < 2 ∨ 7 ≤ k) → τ.1 k = σ.1 k) ∧ τ.2.1 1 = σ.2.1 1 ∧ τ.2.2 = σ.2.2
noncomputable def B_J (σ τ : ex_S) : Prop := (∀ k, (k = 2 ∨ k = 4 ∨ k = 9 ∨ 12 ≤ k) → τ.1 k = σ.1 k) ∧ τ.2.2 = σ.2.2
noncomputable def B_K (σ τ : ex_S) : Prop := (∀ k, (k = 2 ∨ k = 4 ∨ 9 ≤ k) → τ.1 k = σ.1 k) ∧ τ.2.2 = σ.2.2
theorem A_J_0 (σ : ex_S) : A_J σ σ := And.intro (fun _ _ => rfl) rfl
theorem B_J_0 (σ : ex_S) : B_J σ σ := And.intro (fun _ _ => rfl) rfl
theorem A_K_0 (σ : ex_S) : A_K σ σ := And.intro (fun _ _ => rfl) (And.intro rfl rfl)
theorem B_K_0 (σ : ex_S) : B_K σ σ := And.intro (fun _ _ => rfl) rfl
theorem A_J_t {σ τ υ : ex_S} (h2 : A_J τ υ) (h1 : A_J σ τ) : A_J σ υ := And.intro (fun k hk => (h2.1 k hk).trans (h1.1 k hk)) (h2.2.trans h1.2)
theorem B_J_t {σ τ υ : ex_S} (h2 : B_J τ υ) (h1 : B_J σ τ) : B_J σ υ := And.intro (fun k hk => (h2.1 k hk).trans (h1.1 k hk)) (h2.2.trans h1.2)
theorem A_K_t {σ τ υ : ex_S} (h2 : A_K τ υ) (h1 : A_K σ τ) : A_K σ υ := And.intro (fun k hk => (h2.1 k hk).trans (h1.1 k hk)) (And.intro (h2.2.1.trans h1.2.1) (h2.2.2.trans h1.2.2))
theorem B_K_t {σ τ υ : ex_S} (h2 : B_K τ υ) (h1 : B_K σ τ) : B_K σ υ := And.intro (fun k hk => (h2.1 k hk).trans (h1.1 k hk)) (h2.2.trans h1.2)
theorem A_J_I {σ τ : ex_S} {k : Nat} {v : Int32} (hk : 2 ≤ k ∧ ¬ k = 9 ∧ k < 11) (h : A_J σ τ) : A_J σ (sI k v τ) := And.intro (fun j hj => (sI_1.trans (if_neg (by omega))).trans (h.1 j hj)) h.2
theorem A_K_I {σ τ : ex_S} {k : Nat} {v : Int32} (hk : 2 ≤ k ∧ k < 7) (h : A_K σ τ) : A_K σ (sI k v τ) := And.intro (fun j hj => (sI_1.trans (if_neg (by omega))).trans (h.1 j hj)) h.2
theorem B_J_I {σ τ : ex_S} {k : Nat} {v : Int32} (hk : ¬ k = 2 ∧ ¬ k = 4 ∧ ¬ k = 9 ∧ k < 12) (h : B_J σ τ) : B_J σ (sI k v τ) := And.intro (fun j hj => (sI_1.trans (if_neg (by omega))).trans (h.1 j hj)) h.2
theorem B_K_I {σ τ : ex_S} {k : Nat} {v : Int32} (hk : ¬ k = 2 ∧ ¬ k = 4 ∧ k < 9) (h : B_K σ τ) : B_K σ (sI k v τ) := And.intro (fun j hj => (sI_1.trans (if_neg (by omega))).trans (h.1 j hj)) h.2
theorem A_J_L {σ τ : ex_S} {k : Nat} {v : Int64} (h : A_J σ τ) : A_J σ (sL k v τ) := h
theorem A_K_L {σ τ : ex_S} {v : Int64} (h : A_K σ τ) : A_K σ (sL 0 v τ) := h
theorem B_K_L {σ τ : ex_S} {k : Nat} {v : Int64} (h : B_K σ τ) : B_K σ (sL k v τ) := h
theorem A_K_J {σ τ : ex_S} (h : A_K σ τ) : A_J σ τ := And.intro (fun k hk => h.1 k (by omega)) h.2.2
theorem B_K_J {σ τ : ex_S} (h : B_K σ τ) : B_J σ τ := And.intro (fun k hk => h.1 k (by omega)) h.2
theorem kA_run (σ : ex_S) : A_K σ (A_readRun σ) := by
  obtain ⟨q, iw, nu, dg, L, e, hb⟩ := A_rr_f σ 941 (σ.1 2) 1 1 0 0
  unfold A_readRun
  rw [e]
  unfold A_rrF
  split
  · show A_K σ (sI 4 (A_rr257 iw nu) (sI 2 q (sI 5 dg (sL 0 L σ))))
    exact A_K_I (by decide) (A_K_I (by decide) (A_K_I (by decide) (A_K_L (A_K_0 σ))))
  · exact A_K_I (by decide) (A_K_I (by decide) (A_K_L (A_K_0 σ)))
theorem kA_next (σ : ex_S) : A_K σ (A_next σ) := by
  have h : ∀ τ, A_K τ (A_nxt τ) := by
    intro τ
    unfold A_nxt
    simp only [ex_lt]
    repeat' (with_reducible split)
    all_goals (repeat (first | with_reducible exact A_K_0 _ | with_reducible refine A_K_I (by decide) ?_ | with_reducible refine A_K_t (kA_run _) ?_))
  unfold A_next
  exact A_K_t (h _) (A_K_I (by decide) (A_K_0 σ))
theorem kB_rr {τ0 : ex_S} {sm : Int32} : ∀ (k : Nat) (q sp nu al : Int32) (wd : Int64), B_K τ0 (B_rr τ0 sm k q sp nu al wd) := by
  intro k
  induction k with
  | zero =>
    intro q sp nu al wd
    exact B_K_I (by decide) (B_K_I (by decide) (B_K_I (by decide) (B_K_L (B_K_0 τ0))))
  | succ k ih =>
    intro q sp nu al wd
    rw [B_rr_s]
    simp only [ex_lt]
    repeat' (with_reducible split)
    all_goals (first | exact B_rrC_p (P := B_K τ0) (fun _ _ _ _ => ih _ _ _ _ _) | exact B_K_I (by decide) (B_K_I (by decide) (B_K_I (by decide) (B_K_I (by decide) (B_K_L (B_K_0 τ0))))))
theorem kB_run (τ : ex_S) (sm : Int32) : B_K τ (B_run τ sm) := by
  rw [B_run_eq]
  exact B_K_t (kB_rr 941 (τ.1 3) 0 0 1 0) (B_K_I (by decide) (B_K_0 τ))
theorem kB_nxt (τ : ex_S) : B_K τ (B_nxt τ) := by
  unfold B_nxt
  repeat' (first | with_reducible refine np_if (P := B_K τ) (fun _ => ?_) (fun _ => ?_) | with_reducible refine np_lt (P := B_K τ) (fun _ _ => ?_))
  all_goals (first | with_reducible exact kB_run _ _ | (repeat (first | with_reducible exact B_K_0 _ | with_reducible refine B_K_I (by decide) ?_)))
theorem kB_next (σ : ex_S) : B_K σ (B_next σ) := by
  unfold B_next
  exact B_K_t (kB_nxt _) (B_K_I (by decide) (B_K_0 σ))
/-- as A_J, but the rows 1 to 11 are free -/
noncomputable def A_N (σ τ : ex_S) : Prop := (∀ k, (k < 2 ∨ k = 9 ∨ 11 ≤ k) → τ.1 k = σ.1 k) ∧ τ.2.2.1 0 = σ.2.2.1 0 ∧ τ.2.2.1 12 = σ.2.2.1 12 ∧ τ.2.2.2 = σ.2.2.2
/-- as B_J, but the row of the valley is free from 3 on -/
noncomputable def B_N (σ τ : ex_S) : Prop := (∀ k, (k = 2 ∨ k = 4 ∨ k = 9 ∨ 12 ≤ k) → τ.1 k = σ.1 k) ∧ (∀ j, j < 3 → τ.2.2.1 2 j = σ.2.2.1 2 j) ∧ τ.2.2.1 0 = σ.2.2.1 0 ∧ τ.2.2.2 = σ.2.2.2
theorem A_J_N {σ τ : ex_S} (h : A_J σ τ) : A_N σ τ := And.intro h.1 (And.intro (by rw [h.2]) (And.intro (by rw [h.2]) (by rw [h.2])))
theorem B_J_N {σ τ : ex_S} (h : B_J σ τ) : B_N σ τ := And.intro h.1 (And.intro (fun _ _ => by rw [h.2]) (And.intro (by rw [h.2]) (by rw [h.2])))
theorem A_N_t {σ τ υ : ex_S} (h2 : A_N τ υ) (h1 : A_N σ τ) : A_N σ υ := And.intro (fun k hk => (h2.1 k hk).trans (h1.1 k hk)) (And.intro (h2.2.1.trans h1.2.1) (And.intro (h2.2.2.1.trans h1.2.2.1) (h2.2.2.2.trans h1.2.2.2)))
theorem B_N_t {σ τ υ : ex_S} (h2 : B_N τ υ) (h1 : B_N σ τ) : B_N σ υ := And.intro (fun k hk => (h2.1 k hk).trans (h1.1 k hk)) (And.intro (fun j hj => (h2.2.1 j hj).trans (h1.2.1 j hj)) (And.intro (h2.2.2.1.trans h1.2.2.1) (h2.2.2.2.trans h1.2.2.2)))
theorem E_ev_k {a b a' b' : ex_S} (h : E_ev a b) (hA : A_N a a') (hB : B_N b b') : E_ev a' b' := by
  unfold E_ev at h ⊢
  rw [hA.1 0 (by omega), hA.1 1 (by omega), hB.1 2 (by omega), hB.1 4 (by omega), hA.2.1, hA.2.2.2, hB.2.2.1, hB.2.2.2]
  exact h
-- two steps that answer alike
noncomputable def E_R (a b : ex_S) : Prop := E_ev a b ∧ A_INV a ∧ B_INV b ∧ E_T a b
noncomputable def E_Q (P : ex_S → ex_S → Prop) (x y : Int32 × ex_S) : Prop := (x.1 = 0 ∧ y.1 = 0 ∧ x.2.1 10 = y.2.1 10 ∧ x.2.1 9 = y.2.1 9) ∨ (x.1 = 1 ∧ y.1 = 1 ∧ P x.2 y.2)
theorem E_Q_imp {P Q : ex_S → ex_S → Prop} {x y : Int32 × ex_S} (h : E_Q P x y) (hi : ∀ a b, P a b → Q a b) : E_Q Q x y := by
  rcases h with h | h
  · exact Or.inl h
  · exact Or.inr ⟨h.1, h.2.1, hi _ _ h.2.2⟩
theorem E_if0 {α : Type} {x : Int32} {p q : α} (h : x = 0) : (if x = 0 then p else q) = p := if_pos h
theorem E_if1 {α : Type} {x : Int32} {p q : α} (h : x = 1) : (if x = 0 then p else q) = q := if_neg (by rw [h]; exact C_n10)
theorem E_bind {P Q : ex_S → ex_S → Prop} {x y : Int32 × ex_S} {ka kb : ex_S → Int32 × ex_S} (h : E_Q P x y) (hk : ∀ a b, P a b → E_Q Q (ka a) (kb b)) : E_Q Q (ex_bd x (fun r σ => if r = 0 then ((0 : Int32), σ) else ka σ)) (ex_bd y (fun r σ => if r = 0 then ((0 : Int32), σ) else kb σ)) := by
  simp only [ex_bd]
  rcases h with h | h
  · rw [E_if0 (x := x.1) h.1, E_if0 (x := y.1) h.2.1]; exact Or.inl ⟨rfl, rfl, h.2.2⟩
  · rw [E_if1 (x := x.1) h.1, E_if1 (x := y.1) h.2.1]; exact hk _ _ h.2.2
theorem ex_asc {x : Int32 × ex_S} {f g : ex_S → Int32 × ex_S} : ex_bd x (fun r σ => if r = 0 then ((0 : Int32), σ) else ex_bd (f σ) (fun r' σ' => if r' = 0 then ((0 : Int32), σ') else g σ')) = ex_bd (ex_bd x (fun r σ => if r = 0 then ((0 : Int32), σ) else f σ)) (fun r' σ' => if r' = 0 then ((0 : Int32), σ') else g σ') := by
  obtain ⟨r, σ⟩ := x
  by_cases h : r = 0
  · have e1 : ∀ k : ex_S → Int32 × ex_S, ex_bd (r, σ) (fun r σ => if r = 0 then ((0 : Int32), σ) else k σ) = ((0 : Int32), σ) := fun k => if_pos h
    rw [e1, e1]
    rfl
  · have e1 : ∀ k : ex_S → Int32 × ex_S, ex_bd (r, σ) (fun r σ => if r = 0 then ((0 : Int32), σ) else k σ) = k σ := fun k => if_neg h
    rw [e1, e1]
theorem ex_bdp {x : Int32 × ex_S} : ex_bd x (fun r σ => (r, σ)) = x := rfl
theorem E_fail {P : ex_S → ex_S → Prop} {a b : ex_S} {w : Int32} (h : E_T a b) : E_Q P (A_failAs w a) (B_bad w b) := Or.inl ⟨rfl, rfl, h.1, rfl⟩
theorem E_nx {a b : ex_S} (hE : E_ev a b) (hA : A_INV a) (hB : B_INV b) (hp : a.1 2 = b.1 3) : E_R (A_next a) (B_next b) :=
  And.intro (E_ev_k hE (A_J_N (A_K_J (kA_next a))) (B_J_N (B_K_J (kB_next b)))) (And.intro (inv_X4_next a hA) (And.intro (inv_X11_next b hB) (E_next hE hA hp)))
theorem E_T59 {a b : ex_S} (h : E_T a b) : (a.1 4 = 59 ∧ b.1 5 = 3 ∧ b.1 8 = 59 ∧ a.1 2 = b.1 3) ∨ (¬ a.1 4 = 59 ∧ ¬ (b.1 5 = 3 ∧ b.1 8 = 59)) := by
  rcases h.2 with t | t | t | t | t
  · exact Or.inr ⟨by rw [t.1]; decide, by rw [t.2.1]; exact fun q => absurd q.1 (by decide)⟩
  · exact Or.inr ⟨by rw [t.1]; decide, by rw [t.2.1]; exact fun q => absurd q.1 (by decide)⟩
  · exact Or.inr ⟨by rw [t.1]; decide, by rw [t.2.1]; exact fun q => absurd q.1 (by decide)⟩
  · by_cases hk : a.1 4 = 59
    · exact Or.inl ⟨hk, t.2.1, t.2.2.2.1.trans hk, t.2.2.2.2⟩
    · exact Or.inr ⟨hk, fun q => hk (t.2.2.2.1.symm.trans q.2)⟩
  · exact Or.inr ⟨by rw [t.1]; decide, by rw [t.2.1]; exact fun q => absurd q.1 (by decide)⟩
theorem B_isSign_1 {b : ex_S} (h1 : b.1 5 = 3) (h2 : b.1 8 = 59) : B_isSign (59 : Int32) b = 1 := by
  unfold B_isSign
  exact (if_pos h1).trans (if_pos h2)
theorem B_isSign_0 {b : ex_S} (h : ¬ (b.1 5 = 3 ∧ b.1 8 = 59)) : B_isSign (59 : Int32) b = 0 := by
  unfold B_isSign
  by_cases h1 : b.1 5 = 3
  · exact (if_pos h1).trans (if_neg (fun q => h ⟨h1, q⟩))
  · exact if_neg h1
theorem E_sign {a b : ex_S} (h : E_R a b) : E_Q (fun a' b' => E_R a' b' ∧ A_J a a' ∧ B_J b b') (A_takeSign (59 : Int32) a) (B_sign (59 : Int32) b) := by
  unfold A_takeSign B_sign
  simp only [ex_lt, ex_bdp]
  rcases E_T59 h.2.2.2 with t | t
  · rw [if_pos t.1, if_neg (by rw [B_isSign_1 t.2.1 t.2.2.1]; exact C_n10)]
    exact Or.inr ⟨rfl, rfl, E_nx h.1 h.2.1 h.2.2.1 t.2.2.2, A_K_J (kA_next a), B_K_J (kB_next b)⟩
  · rw [if_neg t.1, if_pos (B_isSign_0 t.2)]
    exact E_fail h.2.2.2
theorem E_num {a b : ex_S} {lo hi : Int32} (h : E_R a b) : E_Q (fun a' b' => E_R a' b' ∧ a'.1 7 = b'.1 11 ∧ A_J a a' ∧ B_J b b' ∧ a'.2.1 1 = a.2.1 1 ∧ a'.1 8 = a.1 8) (A_takeNumber lo hi a) (B_takes lo hi b) := by
  unfold A_takeNumber B_takes B_isIn
  simp only [ex_lt, ex_bdp]
  have ht : (a.1 4 = 3 ∧ b.1 5 = 2 ∧ a.1 5 = b.1 8 ∧ a.1 2 = b.1 3) ∨ (¬ a.1 4 = 3 ∧ ¬ b.1 5 = 2) := by
    rcases h.2.2.2.2 with t | t | t | t | t
    · exact Or.inr ⟨by rw [t.1]; decide, by rw [t.2.1]; decide⟩
    · exact Or.inr ⟨by rw [t.1]; decide, by rw [t.2.1]; decide⟩
    · exact Or.inl ⟨t.1, t.2.1, t.2.2.2.1, t.2.2.2.2⟩
    · exact Or.inr ⟨fun q => by have g := t.1; rw [q] at g; exact absurd g (by decide +kernel), by rw [t.2.1]; decide⟩
    · exact Or.inr ⟨by rw [t.1]; decide, by rw [t.2.1]; decide⟩
  rcases ht with t | t
  · rw [if_pos t.1, if_pos t.2.1, ← t.2.2.1]
    by_cases h1 : (a.1 5).toInt < lo.toInt
    · rw [if_pos h1, if_pos h1, if_pos rfl]; exact E_fail h.2.2.2
    · rw [if_neg h1, if_neg h1]
      by_cases h2 : hi.toInt < (a.1 5).toInt
      · rw [if_pos h2, if_pos h2, if_pos rfl]; exact E_fail h.2.2.2
      · rw [if_neg h2, if_neg h2, if_neg C_n10]
        have f := kA_next (sI 7 (a.1 5) a)
        have g := kB_next (sI 11 (a.1 5) b)
        exact Or.inr ⟨rfl, rfl, E_nx (a := sI 7 (a.1 5) a) (b := sI 11 (a.1 5) b) h.1 h.2.1 h.2.2.1 t.2.2.2, (f.1 7 (by omega)).trans (g.1 11 (by omega)).symm, A_J_t (A_K_J f) (A_J_I (by decide) (A_J_0 a)), B_J_t (B_K_J g) (B_J_I (by decide) (B_J_0 b)), f.2.1, f.1 8 (by omega)⟩
  · rw [if_neg t.1, if_neg t.2]
    exact E_fail h.2.2.2
theorem B_isWord_1 {b : ex_S} {w : Int64} (h1 : b.1 5 = 1) (h2 : b.2.1 0 = w) : B_isWord w b = 1 := by
  unfold B_isWord
  exact (if_pos h1).trans (if_pos ((lg_cmp_eq _ _).mpr h2))
theorem B_isWord_0 {b : ex_S} {w : Int64} (h : ¬ (b.1 5 = 1 ∧ b.2.1 0 = w)) : B_isWord w b = 0 := by
  unfold B_isWord
  by_cases h1 : b.1 5 = 1
  · exact (if_pos h1).trans (if_neg (fun q => h ⟨h1, (lg_cmp_eq _ _).mp q⟩))
  · exact if_neg h1
/-- which of the document's words both sides have read -/
theorem E_wd {a b : ex_S} (h : E_T a b) {k : Nat} (hk : k < 22) : (a.1 6 = nI k ∧ B_isWord (ex_wd k) b = 1 ∧ a.1 2 = b.1 3) ∨ (¬ a.1 6 = nI k ∧ B_isWord (ex_wd k) b = 0) := by
  rcases h.2 with t | t | t | t | t
  · exact Or.inr ⟨by rw [t.2.2]; exact fun q => ex_nI1 (by omega) q.symm, B_isWord_0 (by rw [t.2.1]; exact fun q => absurd q.1 (by decide))⟩
  · by_cases hw : b.2.1 0 = ex_wd k
    · exact Or.inl ⟨t.2.2.2.1.trans ((ex_wd_i hk).mpr hw), B_isWord_1 t.2.1 hw, t.2.2.2.2⟩
    · exact Or.inr ⟨fun q => hw ((ex_wd_i hk).mp (t.2.2.2.1.symm.trans q)), B_isWord_0 (fun q => hw q.2)⟩
  · exact Or.inr ⟨by rw [t.2.2.1]; exact fun q => ex_nI1 (by omega) q.symm, B_isWord_0 (by rw [t.2.1]; exact fun q => absurd q.1 (by decide))⟩
  · exact Or.inr ⟨by rw [t.2.2.1]; exact fun q => ex_nI1 (by omega) q.symm, B_isWord_0 (by rw [t.2.1]; exact fun q => absurd q.1 (by decide))⟩
  · exact Or.inr ⟨by rw [t.2.2]; exact fun q => ex_nI1 (by omega) q.symm, B_isWord_0 (by rw [t.2.1]; exact fun q => absurd q.1 (by decide))⟩
theorem E_m1 (x : Int32) : (-1 : Int32) * x = -x := by
  rw [Int32.neg_mul, Int32.one_mul]
theorem E_R_B11 {a b : ex_S} {v : Int32} (h : E_R a b) : E_R a (sI 11 v b) := h
theorem E_way {a b : ex_S} {lo hi : Int32} (h : E_R a b) : E_Q (fun a' b' => E_R a' b' ∧ A_J a a' ∧ B_J b b' ∧ a'.1 8 * a'.1 7 = b'.1 11) (ex_bd (A_takeWay a) (fun r σ => if r = 0 then ((0 : Int32), σ) else A_takeNumber lo hi σ)) (B_takesWay lo hi b) := by
  have w1 := E_wd h.2.2.2 (k := 1) (by decide)
  have w2 := E_wd h.2.2.2 (k := 2) (by decide)
  have go : ∀ v : Int32, ∀ f : Int32 → Int32, (∀ x, v * x = f x) → a.1 2 = b.1 3 → E_Q (fun a' b' => E_R a' b' ∧ A_J a a' ∧ B_J b b' ∧ a'.1 8 * a'.1 7 = b'.1 11) (A_takeNumber lo hi (A_next (sI 8 v a))) (ex_bd (B_takes lo hi (B_next b)) (fun r σ => if r = 0 then ((0 : Int32), σ) else ((1 : Int32), sI 11 (f (σ.1 11)) σ))) := by
    intro v f hvf hp
    have k8 : (A_next (sI 8 v a)).1 8 = v := (kA_next (sI 8 v a)).1 8 (by omega)
    have r := E_num (lo := lo) (hi := hi) (E_nx (a := sI 8 v a) (b := b) h.1 h.2.1 h.2.2.1 hp)
    have fA := A_J_t (A_K_J (kA_next (sI 8 v a))) (A_J_I (by decide) (A_J_0 a))
    have fB := B_K_J (kB_next b)
    obtain ⟨ra, sa, qa⟩ : ∃ r x, A_takeNumber lo hi (A_next (sI 8 v a)) = (r, x) := ex_pair _
    obtain ⟨rb, sb, qb⟩ : ∃ r x, B_takes lo hi (B_next b) = (r, x) := ex_pair _
    rw [qa, qb] at r
    rw [qa, qb]
    simp only [ex_bd]
    rcases r with r | r
    · rw [E_if0 (x := rb) r.2.1]; exact Or.inl ⟨r.1, rfl, r.2.2⟩
    · rw [E_if1 (x := rb) r.2.1]
      exact Or.inr ⟨r.1, rfl, E_R_B11 r.2.2.1, A_J_t r.2.2.2.2.1 fA, B_J_t (B_J_I (by decide) r.2.2.2.2.2.1) fB, by
        show sa.1 8 * sa.1 7 = f (sb.1 11)
        have q8 : sa.1 8 = v := r.2.2.2.2.2.2.2.trans k8
        have q7 : sa.1 7 = sb.1 11 := r.2.2.2.1
        rw [q8, q7, hvf]⟩
  unfold A_takeWay B_takesWay
  simp only [ex_lt, ex_bdp]
  rcases w1 with t1 | t1
  · -- fast
    have n2 : B_isWord (1936486263 : Int64) b = 0 := by
      rcases w2 with t2 | t2
      · exact absurd (ex_nIi (by omega) (by omega) (t1.1.symm.trans t2.1)) (by decide)
      · exact t2.2
    have f1 : B_isWord (1717662580 : Int64) b = 1 := t1.2.1
    have k1 : a.1 6 = 1 := t1.1
    rw [if_pos k1, if_pos k1, n2, if_pos rfl, f1, if_neg C_n10]
    exact go 1 (fun x => x) (fun x => Int32.one_mul x) t1.2.2
  · have k1 : ¬ a.1 6 = 1 := t1.1
    have f1 : B_isWord (1717662580 : Int64) b = 0 := t1.2
    rw [if_neg k1]
    rcases w2 with t2 | t2
    · have k2 : a.1 6 = 2 := t2.1
      have f2 : B_isWord (1936486263 : Int64) b = 1 := t2.2.1
      rw [if_pos k2, if_neg k1, f2, if_neg C_n10]
      have eA : ex_bd ((1 : Int32), A_next (sI 8 (-1) a)) (fun r σ => if r = 0 then ((0 : Int32), σ) else A_takeNumber lo hi σ) = A_takeNumber lo hi (A_next (sI 8 (-1) a)) := by
        simp only [ex_bd]
        exact if_neg C_n10
      have eB : ex_bd (B_takes lo hi (B_next b)) (fun r19 σ20 => if r19 = 0 then ((0 : Int32), σ20) else if (1 : Int32) = 0 then ((1 : Int32), sI 11 (σ20.1 11) σ20) else ((1 : Int32), sI 11 (-σ20.1 11) σ20)) = ex_bd (B_takes lo hi (B_next b)) (fun r σ => if r = 0 then ((0 : Int32), σ) else ((1 : Int32), sI 11 (-σ.1 11) σ)) := by
        simp only [if_neg C_n10]
      rw [eA, eB]
      exact go (-1) (fun x => -x) (fun x => E_m1 x) t2.2.2
    · have k2 : ¬ a.1 6 = 2 := t2.1
      have f2 : B_isWord (1936486263 : Int64) b = 0 := t2.2
      rw [if_neg k2, f2, if_pos rfl, f1, if_pos rfl]
      exact Or.inl ⟨rfl, rfl, h.2.2.2.1, rfl⟩
-- names
theorem E_isName {a b : ex_S} (hE : E_ev a b) (h : E_T a b) : (A_isName a = 0 ∧ B_isName b = 0) ∨ (A_isName a = 1 ∧ B_isName b = 1 ∧ a.2.1 0 = b.2.1 0 ∧ a.1 2 = b.1 3) := by
  have hB0 : ¬ b.1 5 = 1 → B_isName b = 0 := by
    intro q
    unfold B_isName
    rw [if_neg q]
    exact B_nm_0 _ _
  have hA0 : ¬ a.1 4 = 2 → A_isName a = 0 := by
    intro q
    unfold A_isName
    exact if_neg q
  rcases h.2 with t | t | t | t | t
  · exact Or.inl ⟨hA0 (by rw [t.1]; decide), hB0 (by rw [t.2.1]; decide)⟩
  · have e : B_isName b = if ex_find ex_wd (b.2.1 0) 22 0 = -1 then 1 else 0 := by
      unfold B_isName
      rw [if_pos t.2.1, B_nm_1 22 0 (by decide), ex_find_c (g' := ex_wd) 22 0 (fun j _ h2 => hE.2.2.2.2 j (by omega))]
    by_cases hw : ex_find ex_wd (b.2.1 0) 22 0 = -1
    · refine Or.inr ⟨?_, e.trans (if_pos hw), t.2.2.1, t.2.2.2.2⟩
      unfold A_isName
      exact (if_pos t.1).trans (if_pos (t.2.2.2.1.trans hw))
    · refine Or.inl ⟨?_, e.trans (if_neg hw)⟩
      unfold A_isName
      exact (if_pos t.1).trans (if_neg (fun q => hw (t.2.2.2.1.symm.trans q)))
  · exact Or.inl ⟨hA0 (by rw [t.1]; decide), hB0 (by rw [t.2.1]; decide)⟩
  · exact Or.inl ⟨hA0 (fun q => by have g := t.1; rw [q] at g; exact absurd g (by decide +kernel)), hB0 (by rw [t.2.1]; decide)⟩
  · exact Or.inl ⟨hA0 (by rw [t.1]; decide), hB0 (by rw [t.2.1]; decide)⟩
/-- counters, names and settings of both sides -/
noncomputable def E_C (a b : ex_S) : Prop := (a.1 11 = b.2.2.1 2 0 ∧ a.1 12 = b.2.2.1 2 1 ∧ a.1 13 = b.2.2.1 2 2) ∧ (∀ j : Nat, (j : Int) < (a.1 11).toInt → a.2.2.2 1 j = b.2.2.2 0 (15 + j)) ∧ (∀ j : Nat, (j : Int) < (a.1 13).toInt → a.2.2.2 2 j = b.2.2.2 0 (22 + j)) ∧ ((a.2.2.1 12 0 = 0 ↔ B_bitOf (b.1 13) 0 = 0) ∧ (a.2.2.1 12 1 = 0 ↔ B_bitOf (b.1 13) 1 = 0) ∧ (a.2.2.1 12 2 = 0 ↔ B_bitOf (b.1 13) 2 = 0)) ∧ B_ON b
theorem E_C_k {a b a' b' : ex_S} (h : E_C a b) (hA : A_N a a') (hB : B_N b b') : E_C a' b' := by
  unfold E_C B_ON at h ⊢
  rw [hA.1 11 (by omega), hA.1 12 (by omega), hA.1 13 (by omega), hB.1 13 (by omega), hA.2.2.1, hA.2.2.2, hB.2.1 0 (by decide), hB.2.1 1 (by decide), hB.2.1 2 (by decide), hB.2.2.2]
  exact h
theorem ex_ofs {c : Int32} {m j : Nat} (hc : c.toInt = m) (hm : m < 500) (hj : j < 500) : (c + nI j).toNatClampNeg = m + j := by
  have e := nI_toInt (n := j) (by omega)
  have s := ex_sum (a := c) (x := nI j) (by omega) (by omega)
  have k := ex_cl (x := c + nI j) (by omega)
  omega
theorem E_towns {a b : ex_S} (hA : A_INV a) (hC : E_C a b) {x : Int64} (hx : b.2.1 0 = x) : B_find (15 : Int32) ((b.2.2.1 2) 0) b = A_townNamed x a := by
  subst hx
  have k := hA.2.2.1
  unfold B_find A_townNamed
  show ex_find (fun k => b.2.2.2 0 ((15 : Int32) + nI k).toNatClampNeg) (b.2.1 0) ((b.2.2.1 2) 0).toInt.toNat 0 = _
  rw [← hC.1.1]
  refine ex_find_c _ _ (fun j _ h2 => ?_)
  show b.2.2.2 0 ((15 : Int32) + nI j).toNatClampNeg = a.2.2.2 1 j
  rw [ex_ofs (m := 15) (by decide) (by decide) (by omega)]
  exact (hC.2.1 j (by omega)).symm
theorem E_trains {a b : ex_S} (hA : A_INV a) (hC : E_C a b) {x : Int64} (hx : b.2.1 0 = x) : B_find (22 : Int32) ((b.2.2.1 2) 2) b = ex_find (a.2.2.2 2) x (a.1 13).toInt.toNat 0 := by
  subst hx
  have k := hA.2.2.2.2
  unfold B_find
  show ex_find (fun k => b.2.2.2 0 ((22 : Int32) + nI k).toNatClampNeg) (b.2.1 0) ((b.2.2.1 2) 2).toInt.toNat 0 = _
  rw [← hC.1.2.2]
  refine ex_find_c _ _ (fun j _ h2 => ?_)
  show b.2.2.2 0 ((22 : Int32) + nI j).toNatClampNeg = a.2.2.2 2 j
  rw [ex_ofs (m := 22) (by decide) (by decide) (by omega)]
  exact (hC.2.2.1 j (by omega)).symm
theorem ex_find_n {g : Nat → Int64} {x : Int64} {n i : Nat} (h : i + n < 1000) : (ex_find g x n i).toInt < 0 ↔ ex_find g x n i = -1 := by
  have m1 : (-1 : Int32).toInt = -1 := by decide
  rcases ex_find_r (g := g) (x := x) n i with ⟨h1, _⟩ | ⟨j, h1, h2, _, h4⟩
  · rw [h1, m1]; exact ⟨fun _ => rfl, fun _ => by decide⟩
  · rw [h4, nI_toInt (by omega)]
    exact ⟨fun q => absurd q (by omega), fun q => absurd q (ex_nI1 (by omega))⟩
theorem E_fresh {a b : ex_S} {to : Int32} (h : E_R a b) (hC : E_C a b) (hto : 15 ≤ (to).toInt ∧ (to).toInt < 30) : E_Q (fun a' b' => E_R a' b' ∧ A_J a a' ∧ B_J (sQ 0 (vp_updL (b.2.2.2 0) (to).toNatClampNeg (a'.2.1 1)) b) b') (A_takeNewName a) (B_fresh to b) := by
  have kt := h.2.1.2.2.1
  have kn := h.2.1.2.2.2.2
  have m1 : (-1 : Int32).toInt = -1 := by decide
  unfold A_takeNewName B_fresh
  simp only [ex_lt, ex_bdp]
  rcases E_isName h.1 h.2.2.2 with t | t
  · rw [if_pos t.1, if_pos t.2]; exact E_fail h.2.2.2
  · rw [E_if1 (x := A_isName a) t.1, E_if1 (x := B_isName b) t.2.1, t.2.2.1]
    have f1 := E_towns h.2.1 hC (x := b.2.1 0) rfl
    have f2 := E_trains h.2.1 hC (x := b.2.1 0) rfl
    have g1 : (B_find (15 : Int32) ((b.2.2.1 2) 0) b).toInt < 0 ↔ A_townNamed (b.2.1 0) a = -1 := by
      rw [f1]; exact ex_find_n (by omega)
    have g2 : (B_find (22 : Int32) ((b.2.2.1 2) 2) b).toInt < 0 ↔ ex_find (a.2.2.2 2) (b.2.1 0) (a.1 13).toInt.toNat 0 = -1 := by
      rw [f2]; exact ex_find_n (by omega)
    by_cases q1 : (B_find (15 : Int32) ((b.2.2.1 2) 0) b).toInt < 0
    · rw [if_pos q1]
      by_cases q2 : (B_find (22 : Int32) ((b.2.2.1 2) 2) b).toInt < 0
      · have e : A_isTold (b.2.1 0) a = 0 := by
          unfold A_isTold
          exact (if_pos (g2.mp q2)).trans (if_pos (g1.mp q1))
        rw [if_pos q2, if_pos e]
        have f := kA_next (sL 1 (b.2.1 0) a)
        have g := kB_next (sQ 0 (vp_updL (b.2.2.2 0) (to).toNatClampNeg (b.2.1 0)) b)
        have en : (A_next (sL 1 (b.2.1 0) a)).2.1 1 = b.2.1 0 := f.2.1
        have hE : E_ev (sL 1 (b.2.1 0) a) (sQ 0 (vp_updL (b.2.2.2 0) (to).toNatClampNeg (b.2.1 0)) b) := h.1
        refine Or.inr ⟨rfl, rfl, E_nx hE h.2.1 h.2.2.1 t.2.2.2, A_J_t (A_K_J f) (A_J_L (A_J_0 a)), ?_⟩
        show B_J (sQ 0 (vp_updL (b.2.2.2 0) (to).toNatClampNeg ((A_next (sL 1 (b.2.1 0) a)).2.1 1)) b) _
        rw [en]
        exact B_K_J g
      · have e : ¬ A_isTold (b.2.1 0) a = 0 := by
          unfold A_isTold
          rw [if_neg (fun z => q2 (g2.mpr z))]
          exact C_n10
        rw [if_neg q2, if_neg e]; exact E_fail h.2.2.2
    · have e : ¬ A_isTold (b.2.1 0) a = 0 := by
        unfold A_isTold
        by_cases z : ex_find (a.2.2.2 2) (b.2.1 0) (a.1 13).toInt.toNat 0 = -1
        · rw [if_pos z, if_neg (fun z => q1 (g1.mpr z))]; exact C_n10
        · rw [if_neg z]; exact C_n10
      rw [if_neg q1, if_neg e]; exact E_fail h.2.2.2
/-- a town that must be told: fails alike, or the same number -/
theorem E_look {a b : ex_S} (h : E_R a b) (hC : E_C a b) : (A_isName a = 0 ∧ (B_looksAt (15 : Int32) ((b.2.2.1 2) 0) b).1 = 0 ∧ (B_looksAt (15 : Int32) ((b.2.2.1 2) 0) b).2.1 10 = b.1 6 ∧ (B_looksAt (15 : Int32) ((b.2.2.1 2) 0) b).2.1 9 = 1) ∨ (A_isName a = 1 ∧ A_townNamed (a.2.1 0) a = -1 ∧ (B_looksAt (15 : Int32) ((b.2.2.1 2) 0) b).1 = 0 ∧ (B_looksAt (15 : Int32) ((b.2.2.1 2) 0) b).2.1 10 = b.1 6 ∧ (B_looksAt (15 : Int32) ((b.2.2.1 2) 0) b).2.1 9 = 3) ∨ (A_isName a = 1 ∧ ¬ A_townNamed (a.2.1 0) a = -1 ∧ a.1 2 = b.1 3 ∧ B_looksAt (15 : Int32) ((b.2.2.1 2) 0) b = ((1 : Int32), sI 11 (A_townNamed (a.2.1 0) a) b)) := by
  have kt := h.2.1.2.2.1
  unfold B_looksAt
  simp only [ex_lt]
  rcases E_isName h.1 h.2.2.2 with t | t
  · rw [if_pos t.2]
    exact Or.inl ⟨t.1, rfl, rfl, rfl⟩
  · rw [if_neg (by rw [t.2.1]; exact C_n10)]
    have f1 := E_towns h.2.1 hC (x := a.2.1 0) t.2.2.1.symm
    rw [f1]
    have g1 : (A_townNamed (a.2.1 0) a).toInt < 0 ↔ A_townNamed (a.2.1 0) a = -1 := ex_find_n (by omega)
    by_cases q : A_townNamed (a.2.1 0) a = -1
    · rw [if_pos (g1.mpr q)]
      exact Or.inr (Or.inl ⟨t.1, q, rfl, rfl, rfl⟩)
    · rw [if_neg (fun z => q (g1.mp z))]
      exact Or.inr (Or.inr ⟨t.1, q, t.2.2.2, rfl⟩)
theorem E_town1 {a b : ex_S} (h : E_R a b) (hC : E_C a b) : E_Q (fun a' b' => E_R a' b' ∧ a'.1 7 = b'.1 11 ∧ A_J a a' ∧ B_J b b') (A_takeTown (-1 : Int32) a) (B_takesName (15 : Int32) ((b.2.2.1 2) 0) b) := by
  unfold A_takeTown B_takesName
  simp only [ex_lt, ex_bdp]
  have L := E_look h hC
  obtain ⟨rb, sb, qb⟩ : ∃ r x, B_looksAt (15 : Int32) ((b.2.2.1 2) 0) b = (r, x) := ex_pair _
  rw [qb] at L
  rw [qb]
  simp only [ex_bd]
  rcases L with t | t | t
  · rw [E_if0 (x := A_isName a) t.1, E_if0 (x := rb) t.2.1]
    exact Or.inl ⟨rfl, rfl, h.2.2.2.1.trans t.2.2.1.symm, t.2.2.2.symm⟩
  · rw [E_if1 (x := A_isName a) t.1, if_pos t.2.1, E_if0 (x := rb) t.2.2.1]
    exact Or.inl ⟨rfl, rfl, h.2.2.2.1.trans t.2.2.2.1.symm, t.2.2.2.2.symm⟩
  · obtain ⟨t1, t2, t3, t4⟩ := t
    have r4 : rb = 1 := congrArg Prod.fst t4
    have s4 : sb = sI 11 (A_townNamed (a.2.1 0) a) b := congrArg Prod.snd t4
    rw [E_if1 (x := A_isName a) t1, if_neg t2, if_neg t2, E_if1 (x := rb) r4, s4]
    have f := kA_next (sI 7 (A_townNamed (a.2.1 0) a) a)
    have g := kB_next (sI 11 (A_townNamed (a.2.1 0) a) b)
    exact Or.inr ⟨rfl, rfl, E_nx (a := sI 7 (A_townNamed (a.2.1 0) a) a) (b := sI 11 (A_townNamed (a.2.1 0) a) b) h.1 h.2.1 h.2.2.1 t3, (f.1 7 (by omega)).trans (g.1 11 (by omega)).symm, A_J_t (A_K_J f) (A_J_I (by decide) (A_J_0 a)), B_J_t (B_K_J g) (B_J_I (by decide) (B_J_0 b))⟩
theorem A_N_0 (σ : ex_S) : A_N σ σ := And.intro (fun _ _ => rfl) (And.intro rfl (And.intro rfl rfl))
theorem B_N_0 (σ : ex_S) : B_N σ σ := And.intro (fun _ _ => rfl) (And.intro (fun _ _ => rfl) (And.intro rfl rfl))
theorem B_N_h {σ τ : ex_S} {i : Nat} {v : Int32} (hi : 3 ≤ i) (h : B_N σ τ) : B_N σ (sR 2 (upd (τ.2.2.1 2) i v) τ) :=
  And.intro h.1 (And.intro (fun j hj => (show upd (τ.2.2.1 2) i v j = τ.2.2.1 2 j from ex_u (by omega)).trans (h.2.1 j hj)) (And.intro h.2.2.1 h.2.2.2))
theorem E_R_h {a b : ex_S} {i : Nat} {v : Int32} (hi : 3 ≤ i) (h : E_R a b) : E_R a (sR 2 (upd (b.2.2.1 2) i v) b) := And.intro h.1 (And.intro h.2.1 (And.intro (B_INV_h h.2.2.1 hi) h.2.2.2))
theorem sR_get {k : Nat} {f : Nat → Int32} {σ : ex_S} : (sR k f σ).2.2.1 k = f := by rw [sR_1, if_pos rfl]
theorem E_puts {a b : ex_S} {to lo hi : Int32} (h : E_R a b) (hto : 3 ≤ (to).toInt ∧ (to).toInt < 100) : E_Q (fun a' b' => E_R a' b' ∧ A_J a a' ∧ B_N b b' ∧ a'.2.1 1 = a.2.1 1 ∧ (b'.2.2.1 2) (to).toNatClampNeg = a'.1 7 ∧ ∀ j : Nat, ¬ j = (to).toNatClampNeg → b'.2.2.1 2 j = b.2.2.1 2 j) (A_takeNumber lo hi a) (B_puts to lo hi b) := by
  have t3 := ex_to hto
  have r := E_num (lo := lo) (hi := hi) h
  unfold B_puts
  obtain ⟨ra, sa, qa⟩ : ∃ r x, A_takeNumber lo hi a = (r, x) := ex_pair _
  obtain ⟨rb, sb, qb⟩ : ∃ r x, B_takes lo hi b = (r, x) := ex_pair _
  rw [qa, qb] at r
  rw [qa, qb]
  simp only [ex_bd]
  rcases r with r | r
  · rw [E_if0 (x := rb) r.2.1]; exact Or.inl ⟨r.1, rfl, r.2.2⟩
  · rw [E_if1 (x := rb) r.2.1]
    obtain ⟨r1, r2, r3, r4, r5, r6, r7⟩ := r
    refine Or.inr ⟨r1, rfl, E_R_h t3 r3, r5, B_N_h t3 (B_J_N r6), r7.1, ?_, fun j hj => (show upd (sb.2.2.1 2) (to).toNatClampNeg (sb.1 11) j = sb.2.2.1 2 j from ex_u hj).trans (by rw [r6.2])⟩
    show upd (sb.2.2.1 2) (to).toNatClampNeg (sb.1 11) (to).toNatClampNeg = sa.1 7
    rw [ex_u1]
    exact r4.symm
/-- what frames keep of the values -/
noncomputable def A_F (σ τ : ex_S) : Prop := τ.1 12 = σ.1 12 ∧ ∀ r, (r = 3 ∨ r = 4 ∨ r = 5 ∨ r = 6 ∨ r = 11) → τ.2.2.1 r = σ.2.2.1 r
noncomputable def B_F (σ τ : ex_S) : Prop := ∀ j : Nat, (3 ≤ j ∧ j < 6 ∨ 20 ≤ j ∧ j < 68) → τ.2.2.1 2 j = σ.2.2.1 2 j
theorem A_F_0 (σ : ex_S) : A_F σ σ := And.intro rfl (fun _ _ => rfl)
theorem B_F_0 (σ : ex_S) : B_F σ σ := fun _ _ => rfl
theorem A_F_t {σ τ υ : ex_S} (h2 : A_F τ υ) (h1 : A_F σ τ) : A_F σ υ := And.intro (h2.1.trans h1.1) (fun r hr => (h2.2 r hr).trans (h1.2 r hr))
theorem B_F_t {σ τ υ : ex_S} (h2 : B_F τ υ) (h1 : B_F σ τ) : B_F σ υ := fun j hj => (h2 j hj).trans (h1 j hj)
theorem A_J_F {σ τ : ex_S} (h : A_J σ τ) : A_F σ τ := And.intro (h.1 12 (by omega)) (fun r _ => by rw [h.2])
theorem B_J_F {σ τ : ex_S} (h : B_J σ τ) : B_F σ τ := fun j _ => by rw [h.2]
theorem A_F_R {σ τ : ex_S} {k : Nat} {f : Nat → Int32} (hk : ¬ (k = 3 ∨ k = 4 ∨ k = 5 ∨ k = 6 ∨ k = 11)) (h : A_F σ τ) : A_F σ (sR k f τ) := And.intro h.1 (fun r hr => (by rw [sR_1, if_neg (show ¬ r = k by omega)] : (sR k f τ).2.2.1 r = τ.2.2.1 r).trans (h.2 r hr))
theorem A_F_I {σ τ : ex_S} {k : Nat} {v : Int32} (hk : ¬ 12 = k) (h : A_F σ τ) : A_F σ (sI k v τ) := And.intro ((sI_1.trans (if_neg hk)).trans h.1) h.2
theorem B_F_Q {σ τ : ex_S} {k : Nat} {f : Nat → Int64} (h : B_F σ τ) : B_F σ (sQ k f τ) := h
theorem B_F_I {σ τ : ex_S} {k : Nat} {v : Int32} (h : B_F σ τ) : B_F σ (sI k v τ) := h
theorem ex_rgN {a : Nat} {x y : Int32} (hy : y.toInt = a) (ha : a ≤ 1000) (hx : 0 ≤ x.toInt ∧ x.toInt ≤ 1000) : ((y + x).toNatClampNeg : Int) = a + x.toInt := by
  have s9 := ex_sum (a := y) (x := x) (by omega) hx
  rw [ex_cl (by omega), s9, hy]
theorem A_F_Q {σ τ : ex_S} {k : Nat} {f : Nat → Int64} (h : A_F σ τ) : A_F σ (sQ k f τ) := h
theorem B_F_u {σ τ : ex_S} {i : Nat} {v : Int32} (hi : ¬ (3 ≤ i ∧ i < 6 ∨ 20 ≤ i ∧ i < 68)) (h : B_F σ τ) : B_F σ (sR 2 (upd (τ.2.2.1 2) i v) τ) := fun j hj => (show upd (τ.2.2.1 2) i v j = τ.2.2.1 2 j from ex_u (fun q => hi (q ▸ hj))).trans (h j hj)
/-- settings and terms of both sides -/
noncomputable def E_V (a b : ex_S) : Prop := (∀ k : Nat, k < 3 → a.2.2.1 11 k = b.2.2.1 2 (3 + k)) ∧ ∀ j : Nat, (j : Int) < (a.1 12).toInt → a.2.2.1 3 j = b.2.2.1 2 (20 + j) ∧ a.2.2.1 4 j = b.2.2.1 2 (32 + j) ∧ a.2.2.1 5 j = b.2.2.1 2 (44 + j) ∧ a.2.2.1 6 j = b.2.2.1 2 (56 + j) ∧ -30 ≤ (b.2.2.1 2 (56 + j)).toInt ∧ (b.2.2.1 2 (56 + j)).toInt ≤ 30
theorem E_V_k {a b a' b' : ex_S} (h12 : (a.1 12).toInt ≤ 12) (hA : A_F a a') (hB : B_F b b') (h : E_V a b) : E_V a' b' := by
  refine And.intro (fun k hk => ?_) (fun j hj => ?_)
  · rw [hA.2 11 (by omega), hB (3 + k) (by omega)]
    exact h.1 k hk
  · rw [hA.1] at hj
    have g := h.2 j hj
    rw [hA.2 3 (by omega), hA.2 4 (by omega), hA.2 5 (by omega), hA.2 6 (by omega), hB (20 + j) (by omega), hB (32 + j) (by omega), hB (44 + j) (by omega), hB (56 + j) (by omega)]
    exact g
-- lines
theorem E_C_h {a b : ex_S} {i : Nat} {v : Int32} (hi : 3 ≤ i) (h : E_C a b) : E_C a (sR 2 (upd (b.2.2.1 2) i v) b) := E_C_k h (A_N_0 a) (B_N_h hi (B_N_0 b))
/-- a name put at a free place -/
theorem E_C_nm {a b : ex_S} {K : Nat} {x : Int64} (h : E_C a b) (h1 : ∀ j : Nat, (j : Int) < (a.1 11).toInt → ¬ 15 + j = K) (h2 : ∀ j : Nat, (j : Int) < (a.1 13).toInt → ¬ 22 + j = K) : E_C a (sQ 0 (vp_updL (b.2.2.2 0) K x) b) := by
  refine And.intro h.1 (And.intro (fun j hj => ?_) (And.intro (fun j hj => ?_) h.2.2.2))
  · exact (h.2.1 j hj).trans (show b.2.2.2 0 (15 + j) = vp_updL (b.2.2.2 0) K x (15 + j) from (if_neg (h1 j hj)).symm)
  · exact (h.2.2.1 j hj).trans (show b.2.2.2 0 (22 + j) = vp_updL (b.2.2.2 0) K x (22 + j) from (if_neg (h2 j hj)).symm)
theorem ex_7 : (7 : Int32).toInt = 7 := by decide
theorem ex_12 : (12 : Int32).toInt = 12 := by decide
theorem ex_8 : (8 : Int32).toInt = 8 := by decide
theorem E_lt7 {x : Int32} (h : 0 ≤ x.toInt ∧ x.toInt ≤ 7) (hn : ¬ x = (7 : Int32)) : x.toInt < (7 : Int32).toInt := by
  have n := ex_neI hn
  rw [ex_7] at n ⊢
  omega
theorem E_lt12 {x : Int32} (h : 0 ≤ x.toInt ∧ x.toInt ≤ 12) (hn : ¬ x = (12 : Int32)) : x.toInt < (12 : Int32).toInt := by
  have n := ex_neI hn
  rw [ex_12] at n ⊢
  omega
theorem E_lt8 {x : Int32} (h : 0 ≤ x.toInt ∧ x.toInt ≤ 8) (hn : ¬ x = (8 : Int32)) : x.toInt < (8 : Int32).toInt := by
  have n := ex_neI hn
  rw [ex_8] at n ⊢
  omega
/-- what a line leaves: both sides alike -/
noncomputable def E_P (a b : ex_S) (a' b' : ex_S) : Prop := E_R a' b' ∧ E_C a' b' ∧ (b'.1 12 = b.1 12 ∧ a'.1 9 = a.1 9 ∧ b'.1 9 = b.1 9) ∧ (E_V a b → E_V a' b')
theorem E_C_12 {a b : ex_S} {K : Nat} {v : Int32} {f : Nat → Int32} (h : E_C a b) (hK : 3 ≤ K) : E_C (sI 12 ((a.1 12) + (1 : Int32)) (sR 6 f a)) (sR 2 (upd (upd (b.2.2.1 2) K v) 1 (((upd (b.2.2.1 2) K v) 1) + (1 : Int32))) (sR 2 (upd (b.2.2.1 2) K v) b)) := by
  refine And.intro (And.intro ?_ (And.intro ?_ ?_)) h.2
  · show a.1 11 = upd (upd (b.2.2.1 2) K v) 1 (((upd (b.2.2.1 2) K v) 1) + (1 : Int32)) 0
    rw [ex_u (show ¬ 0 = 1 by decide), ex_u (show ¬ 0 = K by omega)]
    exact h.1.1
  · show (a.1 12) + (1 : Int32) = upd (upd (b.2.2.1 2) K v) 1 (((upd (b.2.2.1 2) K v) 1) + (1 : Int32)) 1
    rw [ex_u1, ex_u (show ¬ 1 = K by omega), h.1.2.1]
  · show a.1 13 = upd (upd (b.2.2.1 2) K v) 1 (((upd (b.2.2.1 2) K v) 1) + (1 : Int32)) 2
    rw [ex_u (show ¬ 2 = 1 by decide), ex_u (show ¬ 2 = K by omega)]
    exact h.1.2.2
theorem E_C_11 {a b : ex_S} {K i : Nat} {v x : Int32} {f g : Nat → Int32} {nm : Int64} (h : E_C a b) (hK : 3 ≤ K) (hi : (i : Int) = (a.1 11).toInt) (hl : (a.1 11).toInt < 7) (hn : b.2.2.2 0 (15 + i) = nm) : E_C (sI 11 ((a.1 11) + (1 : Int32)) (sR 2 f (sR 1 g (sQ 1 (vp_updL (a.2.2.2 1) i nm) a)))) (sR 2 (upd (upd (b.2.2.1 2) K v) 0 (((upd (b.2.2.1 2) K v) 0) + (1 : Int32))) (sR 2 (upd (b.2.2.1 2) K v) b)) := by
  have e : ((a.1 11) + (1 : Int32)).toInt = (a.1 11).toInt + 1 := ex_inc (p := a.1 11) (n := 7) (by rw [ex_7]; exact hl)
  refine And.intro (And.intro ?_ (And.intro ?_ ?_)) (And.intro (fun j hj => ?_) h.2.2)
  · show (a.1 11) + (1 : Int32) = upd (upd (b.2.2.1 2) K v) 0 (((upd (b.2.2.1 2) K v) 0) + (1 : Int32)) 0
    rw [ex_u1, ex_u (show ¬ 0 = K by omega), h.1.1]
  · show a.1 12 = upd (upd (b.2.2.1 2) K v) 0 (((upd (b.2.2.1 2) K v) 0) + (1 : Int32)) 1
    rw [ex_u (show ¬ 1 = 0 by decide), ex_u (show ¬ 1 = K by omega)]
    exact h.1.2.1
  · show a.1 13 = upd (upd (b.2.2.1 2) K v) 0 (((upd (b.2.2.1 2) K v) 0) + (1 : Int32)) 2
    rw [ex_u (show ¬ 2 = 0 by decide), ex_u (show ¬ 2 = K by omega)]
    exact h.1.2.2
  · have hj2 : (j : Int) < ((a.1 11) + (1 : Int32)).toInt := hj
    show vp_updL (a.2.2.2 1) i nm j = b.2.2.2 0 (15 + j)
    by_cases hq : j = i
    · rw [hq, hn]; exact if_pos rfl
    · exact (if_neg hq).trans (h.2.1 j (by omega))
theorem E_C_13 {a b : ex_S} {f : Nat → Int32} {i : Nat} (h : E_C a b) (hi : (i : Int) = (a.1 13).toInt) (hl : (a.1 13).toInt < 8) (hn : a.2.2.2 2 i = b.2.2.2 0 (22 + i)) : E_C (sI 13 ((a.1 13) + (1 : Int32)) (sR 10 f a)) (sR 2 (upd (b.2.2.1 2) 2 (((b.2.2.1 2) 2) + (1 : Int32))) b) := by
  have e : ((a.1 13) + (1 : Int32)).toInt = (a.1 13).toInt + 1 := ex_inc (p := a.1 13) (n := 8) (by rw [ex_8]; exact hl)
  refine And.intro (And.intro ?_ (And.intro ?_ ?_)) (And.intro h.2.1 (And.intro (fun j hj => ?_) h.2.2.2))
  · show a.1 11 = upd (b.2.2.1 2) 2 (((b.2.2.1 2) 2) + (1 : Int32)) 0
    rw [ex_u (show ¬ 0 = 2 by decide)]
    exact h.1.1
  · show a.1 12 = upd (b.2.2.1 2) 2 (((b.2.2.1 2) 2) + (1 : Int32)) 1
    rw [ex_u (show ¬ 1 = 2 by decide)]
    exact h.1.2.1
  · show (a.1 13) + (1 : Int32) = upd (b.2.2.1 2) 2 (((b.2.2.1 2) 2) + (1 : Int32)) 2
    rw [ex_u1, h.1.2.2]
  · have hj2 : (j : Int) < ((a.1 13) + (1 : Int32)).toInt := hj
    show a.2.2.2 2 j = b.2.2.2 0 (22 + j)
    by_cases hq : j = i
    · rw [hq]; exact hn
    · exact h.2.2.1 j (by omega)
theorem A_tt0 {a : ex_S} {un : Int32} (h : A_isName a = 0) : A_takeTown un a = A_failAs (1 : Int32) a := by
  unfold A_takeTown
  exact if_pos h
theorem A_tt1 {a : ex_S} {un : Int32} (h1 : A_isName a = 1) (h : A_townNamed (a.2.1 0) a = -1) : A_takeTown un a = A_failAs (3 : Int32) a := by
  unfold A_takeTown
  simp only [ex_lt]
  rw [if_neg (by rw [h1]; exact C_n10)]
  exact if_pos h
theorem A_tt2 {a : ex_S} {un : Int32} (h1 : A_isName a = 1) (h : ¬ A_townNamed (a.2.1 0) a = -1) (h2 : A_townNamed (a.2.1 0) a = un) : A_takeTown un a = A_failAs (3 : Int32) a := by
  unfold A_takeTown
  simp only [ex_lt]
  rw [if_neg (by rw [h1]; exact C_n10), if_neg h]
  exact if_pos h2
theorem A_tt3 {a : ex_S} {un : Int32} (h1 : A_isName a = 1) (h : ¬ A_townNamed (a.2.1 0) a = -1) (h2 : ¬ A_townNamed (a.2.1 0) a = un) : A_takeTown un a = ((1 : Int32), A_next (sI 7 (A_townNamed (a.2.1 0) a) a)) := by
  unfold A_takeTown
  simp only [ex_lt]
  rw [if_neg (by rw [h1]; exact C_n10), if_neg h]
  exact if_neg h2
theorem ex_bd0 {x : Int32 × ex_S} {k : ex_S → Int32 × ex_S} (h : x.1 = 0) : ex_bd x (fun r σ => if r = 0 then ((0 : Int32), σ) else k σ) = ((0 : Int32), x.2) := by
  unfold ex_bd
  exact if_pos h
theorem E_fl {P : ex_S → ex_S → Prop} {x y : Int32 × ex_S} {k : ex_S → Int32 × ex_S} (hy : y.1 = 0) (hx : x.1 = 0) (h : x.2.1 10 = y.2.1 10) (h9 : x.2.1 9 = y.2.1 9) : E_Q P x (ex_bd y (fun r σ => if r = 0 then ((0 : Int32), σ) else k σ)) := by
  rw [ex_bd0 hy]
  exact Or.inl ⟨hx, rfl, h, h9⟩
theorem ex_bd1 {τ : ex_S} {k : ex_S → Int32 × ex_S} : ex_bd ((1 : Int32), τ) (fun r σ => if r = 0 then ((0 : Int32), σ) else k σ) = k τ := by
  unfold ex_bd
  exact if_neg C_n10
theorem E_V_term {a b a' b' : ex_S} {i : Nat} {x3 x4 x5 x6 : Int32} (hi : (i : Int) = (a.1 12).toInt) (hi12 : i < 12) (h12 : (a'.1 12).toInt = (a.1 12).toInt + 1) (r3 : a'.2.2.1 3 = upd (a.2.2.1 3) i x3) (r4 : a'.2.2.1 4 = upd (a.2.2.1 4) i x4) (r5 : a'.2.2.1 5 = upd (a.2.2.1 5) i x5) (r6 : a'.2.2.1 6 = upd (a.2.2.1 6) i x6) (r11 : a'.2.2.1 11 = a.2.2.1 11) (p3 : b'.2.2.1 2 (20 + i) = x3) (p4 : b'.2.2.1 2 (32 + i) = x4) (p5 : b'.2.2.1 2 (44 + i) = x5) (p6 : b'.2.2.1 2 (56 + i) = x6) (ho : ∀ j : Nat, ¬ j = 1 → ¬ j = 20 + i → ¬ j = 32 + i → ¬ j = 44 + i → ¬ j = 56 + i → b'.2.2.1 2 j = b.2.2.1 2 j) (hx6 : -30 ≤ x6.toInt ∧ x6.toInt ≤ 30) (h : E_V a b) : E_V a' b' := by
  refine And.intro (fun k hk => ?_) (fun j hj => ?_)
  · rw [r11, ho (3 + k) (by omega) (by omega) (by omega) (by omega) (by omega)]
    exact h.1 k hk
  · rw [h12] at hj
    by_cases q : j = i
    · subst q
      rw [r3, r4, r5, r6, p3, p4, p5, p6]
      exact ⟨ex_u1, ex_u1, ex_u1, ex_u1, hx6.1, hx6.2⟩
    · have g := h.2 j (by omega)
      rw [r3, r4, r5, r6, ho (20 + j) (by omega) (by omega) (by omega) (by omega) (by omega), ho (32 + j) (by omega) (by omega) (by omega) (by omega) (by omega), ho (44 + j) (by omega) (by omega) (by omega) (by omega) (by omega), ho (56 + j) (by omega) (by omega) (by omega) (by omega) (by omega)]
      exact ⟨(ex_u q).trans g.1, (ex_u q).trans g.2.1, (ex_u q).trans g.2.2.1, (ex_u q).trans g.2.2.2.1, g.2.2.2.2.1, g.2.2.2.2.2⟩
/-- one side's bounds beside what both sides have -/
theorem E_Qand {P : ex_S → ex_S → Prop} {B : ex_S → Prop} {x y : Int32 × ex_S} (h : E_Q P x y) (hB : x.1 = 0 ∨ B x.2) : E_Q (fun a b => P a b ∧ B a) x y := by
  rcases h with h | h
  · exact Or.inl h
  · refine Or.inr ⟨h.1, h.2.1, h.2.2, ?_⟩
    rcases hB with g | g
    · rw [h.1] at g
      exact absurd g (by decide)
    · exact g
theorem A_numB {a : ex_S} {lo hi : Int32} : (A_takeNumber lo hi a).1 = 0 ∨ (lo.toInt ≤ ((A_takeNumber lo hi a).2.1 7).toInt ∧ ((A_takeNumber lo hi a).2.1 7).toInt ≤ hi.toInt ∧ (A_takeNumber lo hi a).2.1 8 = a.1 8) := by
  unfold A_takeNumber
  simp only [ex_lt, ex_bdp]
  by_cases h4 : a.1 4 = (3 : Int32)
  · rw [if_pos h4]
    by_cases h1 : (a.1 5).toInt < lo.toInt
    · rw [if_pos h1]
      exact Or.inl rfl
    · rw [if_neg h1]
      by_cases h2 : hi.toInt < (a.1 5).toInt
      · rw [if_pos h2]
        exact Or.inl rfl
      · rw [if_neg h2]
        have f := kA_next (sI 7 (a.1 5) a)
        have f7 : (A_next (sI 7 (a.1 5) a)).1 7 = a.1 5 := f.1 7 (by omega)
        have f8 : (A_next (sI 7 (a.1 5) a)).1 8 = a.1 8 := f.1 8 (by omega)
        refine Or.inr ⟨?_, ?_, f8⟩
        · show lo.toInt ≤ ((A_next (sI 7 (a.1 5) a)).1 7).toInt
          rw [f7]
          omega
        · show ((A_next (sI 7 (a.1 5) a)).1 7).toInt ≤ hi.toInt
          rw [f7]
          omega
  · rw [if_neg h4]
    exact Or.inl rfl
theorem A_wayW {a : ex_S} : (A_takeWay a).1 = 0 ∨ (A_takeWay a).2.1 8 = 1 ∨ (A_takeWay a).2.1 8 = -1 := by
  have g : ∀ v : Int32, (A_next (sI 8 v a)).1 8 = v := fun v => (kA_next (sI 8 v a)).1 8 (by omega)
  unfold A_takeWay
  simp only [ex_lt, ex_bdp]
  by_cases h1 : a.1 6 = (1 : Int32)
  · rw [if_pos h1, if_pos h1]
    exact Or.inr (Or.inl (g 1))
  · rw [if_neg h1]
    by_cases h2 : a.1 6 = (2 : Int32)
    · rw [if_pos h2, if_neg h1]
      exact Or.inr (Or.inr (g (-1)))
    · rw [if_neg h2]
      exact Or.inl rfl
theorem A_wayB {a : ex_S} {lo hi : Int32} (hlo : 0 ≤ lo.toInt) (hhi : hi.toInt ≤ 1000) : (ex_bd (A_takeWay a) (fun r σ => if r = 0 then ((0 : Int32), σ) else A_takeNumber lo hi σ)).1 = 0 ∨ (-hi.toInt ≤ ((ex_bd (A_takeWay a) (fun r σ => if r = 0 then ((0 : Int32), σ) else A_takeNumber lo hi σ)).2.1 8 * (ex_bd (A_takeWay a) (fun r σ => if r = 0 then ((0 : Int32), σ) else A_takeNumber lo hi σ)).2.1 7).toInt ∧ ((ex_bd (A_takeWay a) (fun r σ => if r = 0 then ((0 : Int32), σ) else A_takeNumber lo hi σ)).2.1 8 * (ex_bd (A_takeWay a) (fun r σ => if r = 0 then ((0 : Int32), σ) else A_takeNumber lo hi σ)).2.1 7).toInt ≤ hi.toInt) := by
  have hw := A_wayW (a := a)
  generalize A_takeWay a = x at hw
  obtain ⟨r, σ⟩ := x
  show (if r = 0 then ((0 : Int32), σ) else A_takeNumber lo hi σ).1 = 0 ∨ (-hi.toInt ≤ ((if r = 0 then ((0 : Int32), σ) else A_takeNumber lo hi σ).2.1 8 * (if r = 0 then ((0 : Int32), σ) else A_takeNumber lo hi σ).2.1 7).toInt ∧ ((if r = 0 then ((0 : Int32), σ) else A_takeNumber lo hi σ).2.1 8 * (if r = 0 then ((0 : Int32), σ) else A_takeNumber lo hi σ).2.1 7).toInt ≤ hi.toInt)
  by_cases h0 : r = 0
  · rw [if_pos h0]
    exact Or.inl rfl
  · rw [if_neg h0]
    rcases A_numB (a := σ) (lo := lo) (hi := hi) with h | ⟨n1, n2, n3⟩
    · exact Or.inl h
    · refine Or.inr ?_
      rw [n3]
      rcases hw with h | h | h
      · exact absurd h h0
      · have h8 : σ.1 8 = 1 := h
        rw [h8, Int32.one_mul]
        omega
      · have h8 : σ.1 8 = -1 := h
        rw [h8, E_m1, Int32.toInt_neg, Int.bmod_eq_of_le (by omega) (by omega)]
        omega
theorem E_term {a b : ex_S} (h : E_R a b) (hC : E_C a b) (hp : a.1 2 = b.1 3) : E_Q (E_P a b) (A_readTerm a) (B_readTerm b) := by
  have k9 := B_k1 h.2.2.1
  unfold A_readTerm B_readTerm
  by_cases h7 : ((b.2.2.1 2) 1) = (12 : Int32)
  · rw [if_pos h7, if_neg (by rw [hC.1.2.1, h7]; exact Int.lt_irrefl _)]
    show E_Q (E_P a b) (A_failAs (4 : Int32) a) (B_bad (4 : Int32) b)
    exact E_fail h.2.2.2
  · rw [if_neg h7, if_pos (by rw [hC.1.2.1]; exact E_lt12 k9 h7)]
    simp only [ex_lt]
    have R1 := E_nx h.1 h.2.1 h.2.2.1 hp
    have nA1 := A_J_N (A_K_J (kA_next a))
    have nB1 := B_J_N (B_K_J (kB_next b))
    have C1 := E_C_k hC nA1 nB1
    have a20 : 3 ≤ (((20 : Int32) + ((b.2.2.1 2) 1))).toNatClampNeg := ex_atN (a := 20) (by decide) (by decide) (by omega)
    have a32 : 3 ≤ ((32 : Int32) + ((b.2.2.1 2) 1)).toInt ∧ ((32 : Int32) + ((b.2.2.1 2) 1)).toInt < 100 := by
      have s9 := ex_sum (a := (32 : Int32)) (x := ((b.2.2.1 2) 1)) (by decide) (by omega)
      have e9 : (32 : Int32).toInt = 32 := by decide
      rw [s9]; omega
    have a44 : 3 ≤ ((44 : Int32) + ((b.2.2.1 2) 1)).toInt ∧ ((44 : Int32) + ((b.2.2.1 2) 1)).toInt < 100 := by
      have s9 := ex_sum (a := (44 : Int32)) (x := ((b.2.2.1 2) 1)) (by decide) (by omega)
      have e9 : (44 : Int32).toInt = 44 := by decide
      rw [s9]; omega
    have a56 : 3 ≤ (((56 : Int32) + ((b.2.2.1 2) 1))).toNatClampNeg := ex_atN (a := 56) (by decide) (by decide) (by omega)
    refine E_bind (E_town1 R1 C1) (fun a2 b2 h2 => ?_)
    have nA2 := A_N_t (A_J_N h2.2.2.1) nA1
    have nB2 := B_N_t (B_J_N h2.2.2.2) nB1
    refine E_bind (E_puts (a := sR 3 (upd (a2.2.2.1 3) ((a.1 12)).toNatClampNeg (a2.1 7)) a2) (E_R_h a20 h2.1) a32) (fun a3 b3 h3 => ?_)
    have nA3 : A_N a a3 := A_N_t (A_J_N h3.2.1) nA2
    have nB3 : B_N b b3 := B_N_t h3.2.2.1 (B_N_h a20 nB2)
    rw [ex_u1, h3.2.2.2.2.1]
    refine E_bind (E_puts (a := sR 4 (upd (a3.2.2.1 4) ((a.1 12)).toNatClampNeg (a3.1 7)) a3) h3.1 a44) (fun a4 b4 h4 => ?_)
    have nA4 : A_N a a4 := A_N_t (A_J_N h4.2.1) nA3
    have nB4 : B_N b b4 := B_N_t h4.2.2.1 nB3
    rw [ex_asc]
    refine E_bind (E_Qand (B := fun a5 => -(30 : Int32).toInt ≤ (a5.1 8 * a5.1 7).toInt ∧ (a5.1 8 * a5.1 7).toInt ≤ (30 : Int32).toInt) (E_way (a := sR 5 (upd (a4.2.2.1 5) ((a.1 12)).toNatClampNeg (a4.1 7)) a4) h4.1) (A_wayB (by decide) (by decide))) (fun a5 b5 hh5 => ?_)
    obtain ⟨h5, hB5⟩ := hh5
    have e30 : (30 : Int32).toInt = 30 := by decide
    rw [e30] at hB5
    have nA5 : A_N a a5 := A_N_t (A_J_N h5.2.1) nA4
    have nB5 : B_N b b5 := B_N_t (B_J_N h5.2.2.1) nB4
    have C5 := E_C_k hC nA5 nB5
    have e12 : a5.1 12 = (b.2.2.1 2) 1 := (nA5.1 12 (by omega)).trans hC.1.2.1
    have hl := E_lt12 k9 h7
    rw [ex_12] at hl
    have u9 : (upd (b5.2.2.1 2) (((56 : Int32) + ((b.2.2.1 2) 1))).toNatClampNeg (b5.1 11)) 1 = (b.2.2.1 2) 1 := (ex_u (by omega)).trans (nB5.2.1 1 (by decide))
    have ei : ((a5.1 12) + (1 : Int32)).toInt = (a5.1 12).toInt + 1 := ex_inc (p := a5.1 12) (n := 12) (by rw [e12, ex_12]; exact hl)
    refine Or.inr ⟨rfl, rfl, And.intro (And.intro h5.1.1 (And.intro (A_INV_12 h5.1.2.1 (by rw [ei, e12]; omega) (by rw [ei, e12]; omega)) (And.intro (B_INV_1u (B_INV_h h5.1.2.2.1 a56) (by rw [u9]; exact hl)) h5.1.2.2.2))) (And.intro (E_C_12 C5 a56) (And.intro ⟨nB5.1 12 (by omega), nA5.1 9 (by omega), nB5.1 9 (by omega)⟩ (fun hV => ?_)))⟩
    obtain ⟨i, hi⟩ : ∃ i, i = (a.1 12).toNatClampNeg := ⟨_, rfl⟩
    have ji : (i : Int) = (a.1 12).toInt := by rw [hi]; exact ex_cl (by rw [hC.1.2.1]; omega)
    have jt : (a.1 12).toInt = ((b.2.2.1 2) 1).toInt := by rw [hC.1.2.1]
    have nn : ∀ (m : Nat) (y : Int32), y.toInt = m → m < 100 → (y + ((b.2.2.1 2) 1)).toNatClampNeg = m + i := by
      intro m y hy hm
      have s9 := ex_sum (a := y) (x := ((b.2.2.1 2) 1)) (by omega) (by omega)
      have c9 := ex_cl (x := y + ((b.2.2.1 2) 1)) (by omega)
      omega
    have n20 := nn 20 20 (by decide) (by decide)
    have n32 := nn 32 32 (by decide) (by decide)
    have n44 := nn 44 44 (by decide) (by decide)
    have n56 := nn 56 56 (by decide) (by decide)
    have ra2 : a2.2.2 = a.2.2 := h2.2.2.1.2.trans (A_K_J (kA_next a)).2
    have ra3 : a3.2.2 = (sR 3 (upd (a2.2.2.1 3) ((a.1 12)).toNatClampNeg (a2.1 7)) a2).2.2 := h3.2.1.2
    have ra4 : a4.2.2 = (sR 4 (upd (a3.2.2.1 4) ((a.1 12)).toNatClampNeg (a3.1 7)) a3).2.2 := h4.2.1.2
    have ra5 : a5.2.2 = (sR 5 (upd (a4.2.2.1 5) ((a.1 12)).toNatClampNeg (a4.1 7)) a4).2.2 := h5.2.1.2
    have w3 : ∀ r, ¬ r = 3 → a3.2.2.1 r = a.2.2.1 r := fun r hr => by rw [ra3, ← ra2, sR_1, if_neg hr]
    have w4 : ∀ r, ¬ r = 4 → a4.2.2.1 r = a3.2.2.1 r := fun r hr => by rw [ra4, sR_1, if_neg hr]
    have w5 : ∀ r, ¬ r = 5 → a5.2.2.1 r = a4.2.2.1 r := fun r hr => by rw [ra5, sR_1, if_neg hr]
    have q3 : a5.2.2.1 3 = upd (a.2.2.1 3) i (a2.1 7) := by rw [w5 3 (by decide), w4 3 (by decide), ra3, sR_get, ra2, hi]
    have q4 : a5.2.2.1 4 = upd (a.2.2.1 4) i (a3.1 7) := by rw [w5 4 (by decide), ra4, sR_get, w3 4 (by decide), hi]
    have q5 : a5.2.2.1 5 = upd (a.2.2.1 5) i (a4.1 7) := by rw [ra5, sR_get, w4 5 (by decide), w3 5 (by decide), hi]
    have q6 : a5.2.2.1 6 = a.2.2.1 6 := by rw [w5 6 (by decide), w4 6 (by decide), w3 6 (by decide)]
    have q11 : a5.2.2.1 11 = a.2.2.1 11 := by rw [w5 11 (by decide), w4 11 (by decide), w3 11 (by decide)]
    have z2 : ∀ j, b2.2.2.1 2 j = b.2.2.1 2 j := fun j => by rw [h2.2.2.2.2, (kB_next b).2]
    have z3 : ∀ j, ¬ j = 32 + i → ¬ j = 20 + i → b3.2.2.1 2 j = b.2.2.1 2 j := fun j g1 g2 => (h3.2.2.2.2.2 j (by omega)).trans ((by rw [sR_get]; exact ex_u (by omega) : (sR 2 (upd (b2.2.2.1 2) (((20 : Int32) + ((b.2.2.1 2) 1))).toNatClampNeg (b2.1 11)) b2).2.2.1 2 j = b2.2.2.1 2 j).trans (z2 j))
    have z4 : ∀ j, ¬ j = 44 + i → b4.2.2.1 2 j = b3.2.2.1 2 j := fun j g1 => h4.2.2.2.2.2 j (by omega)
    have z5 : ∀ j, b5.2.2.1 2 j = b4.2.2.1 2 j := fun j => by rw [h5.2.2.1.2]
    have v2 : b3.2.2.1 2 (20 + i) = a2.1 7 := (h3.2.2.2.2.2 (20 + i) (by omega)).trans ((by rw [sR_get, ← n20]; exact ex_u1 : (sR 2 (upd (b2.2.2.1 2) (((20 : Int32) + ((b.2.2.1 2) 1))).toNatClampNeg (b2.1 11)) b2).2.2.1 2 (20 + i) = b2.1 11).trans h2.2.1.symm)
    have v3 : b3.2.2.1 2 (32 + i) = a3.1 7 := by rw [← n32]; exact h3.2.2.2.2.1
    have v4 : b4.2.2.1 2 (44 + i) = a4.1 7 := by rw [← n44]; exact h4.2.2.2.2.1
    have ze : ∀ j, ¬ j = 1 → ¬ j = 56 + i → upd (upd (b5.2.2.1 2) (((56 : Int32) + ((b.2.2.1 2) 1))).toNatClampNeg (b5.1 11)) 1 (((upd (b5.2.2.1 2) (((56 : Int32) + ((b.2.2.1 2) 1))).toNatClampNeg (b5.1 11)) 1) + (1 : Int32)) j = b5.2.2.1 2 j := fun j g1 g2 => (ex_u g1).trans (ex_u (by omega))
    have ve : upd (upd (b5.2.2.1 2) (((56 : Int32) + ((b.2.2.1 2) 1))).toNatClampNeg (b5.1 11)) 1 (((upd (b5.2.2.1 2) (((56 : Int32) + ((b.2.2.1 2) 1))).toNatClampNeg (b5.1 11)) 1) + (1 : Int32)) (56 + i) = a5.1 8 * a5.1 7 := (ex_u (by omega)).trans (by rw [n56, ex_u1]; exact h5.2.2.2.symm)
    exact E_V_term (i := i) (x3 := a2.1 7) (x4 := a3.1 7) (x5 := a4.1 7) (x6 := a5.1 8 * a5.1 7) ji (by omega) (ei.trans (by rw [e12, jt])) q3 q4 q5 (show upd (a5.2.2.1 6) ((a.1 12)).toNatClampNeg (a5.1 8 * a5.1 7) = upd (a.2.2.1 6) i (a5.1 8 * a5.1 7) by rw [q6, hi]) q11 ((ze (20 + i) (by omega) (by omega)).trans ((z5 _).trans ((z4 _ (by omega)).trans v2))) ((ze (32 + i) (by omega) (by omega)).trans ((z5 _).trans ((z4 _ (by omega)).trans v3))) ((ze (44 + i) (by omega) (by omega)).trans ((z5 _).trans v4)) ve (fun j g1 g2 g3 g4 g5 => (ze j g1 g5).trans ((z5 _).trans ((z4 _ g4).trans (z3 _ g3 g2)))) hB5 hV
theorem E_train {a b : ex_S} (h : E_R a b) (hC : E_C a b) (hp : a.1 2 = b.1 3) : E_Q (E_P a b) (A_readTrain a) (B_readTrain b) := by
  have k9 := B_k2 h.2.2.1
  have k0 := B_k0 h.2.2.1
  unfold A_readTrain B_readTrain
  by_cases h7 : ((b.2.2.1 2) 2) = (8 : Int32)
  · rw [if_pos h7, if_neg (by rw [hC.1.2.2, h7]; exact Int.lt_irrefl _)]
    show E_Q (E_P a b) (A_failAs (4 : Int32) a) (B_bad (4 : Int32) b)
    exact E_fail h.2.2.2
  · rw [if_neg h7, if_pos (by rw [hC.1.2.2]; exact E_lt8 k9 h7)]
    simp only [ex_lt]
    have hl := E_lt8 k9 h7
    rw [ex_8] at hl
    have R1 := E_nx h.1 h.2.1 h.2.2.1 hp
    have nA1 := A_J_N (A_K_J (kA_next a))
    have nB1 := B_J_N (B_K_J (kB_next b))
    have C1 := E_C_k hC nA1 nB1
    have s22 := ex_sum (a := (22 : Int32)) (x := ((b.2.2.1 2) 2)) (by decide) (by omega)
    have e22 : (22 : Int32).toInt = 22 := by decide
    have c22 := ex_cl (x := (22 : Int32) + ((b.2.2.1 2) 2)) (by omega)
    have ci := ex_cl (x := a.1 13) (by rw [hC.1.2.2]; omega)
    have e13 : (a.1 13).toInt = ((b.2.2.1 2) 2).toInt := by rw [hC.1.2.2]
    have e11 : (a.1 11).toInt = ((b.2.2.1 2) 0).toInt := by rw [hC.1.1]
    have a68 : 3 ≤ (((68 : Int32) + ((b.2.2.1 2) 2))).toNatClampNeg := ex_atN (a := 68) (by decide) (by decide) (by omega)
    have a76 : 3 ≤ (((76 : Int32) + ((b.2.2.1 2) 2))).toNatClampNeg := ex_atN (a := 76) (by decide) (by decide) (by omega)
    have a84 : 3 ≤ ((84 : Int32) + ((b.2.2.1 2) 2)).toInt ∧ ((84 : Int32) + ((b.2.2.1 2) 2)).toInt < 100 := by
      have s9 := ex_sum (a := (84 : Int32)) (x := ((b.2.2.1 2) 2)) (by decide) (by omega)
      have e9 : (84 : Int32).toInt = 84 := by decide
      rw [s9]; omega
    have a92 : 3 ≤ ((92 : Int32) + ((b.2.2.1 2) 2)).toInt ∧ ((92 : Int32) + ((b.2.2.1 2) 2)).toInt < 100 := by
      have s9 := ex_sum (a := (92 : Int32)) (x := ((b.2.2.1 2) 2)) (by decide) (by omega)
      have e9 : (92 : Int32).toInt = 92 := by decide
      rw [s9]; omega
    refine E_bind (E_fresh (to := (22 : Int32) + ((b.2.2.1 2) 2)) R1 C1 (by omega)) (fun a2 b2 h2 => ?_)
    have nA2 := A_N_t (A_J_N h2.2.1) nA1
    have x11 : ((A_next a).1 11).toInt = (a.1 11).toInt := by rw [nA1.1 11 (by omega)]
    have x13 : ((A_next a).1 13).toInt = (a.1 13).toInt := by rw [nA1.1 13 (by omega)]
    have C2 : E_C a2 b2 := E_C_k (E_C_nm C1 (fun j hj => by omega) (fun j hj => by omega)) (A_J_N h2.2.1) (B_J_N h2.2.2)
    have nm2 : b2.2.2.2 0 (22 + (a.1 13).toNatClampNeg) = a2.2.1 1 := by
      rw [h2.2.2.2]
      show vp_updL ((B_next b).2.2.2 0) ((22 : Int32) + ((b.2.2.1 2) 2)).toNatClampNeg (a2.2.1 1) (22 + (a.1 13).toNatClampNeg) = a2.2.1 1
      exact if_pos (by omega)
    have R2 : E_R (sQ 2 (vp_updL (a2.2.2.2 2) ((a.1 13)).toNatClampNeg (a2.2.1 1)) a2) b2 := h2.1
    have f13 : (a2.1 13).toInt = (a.1 13).toInt := by rw [nA2.1 13 (by omega)]
    have C2' : E_C (sQ 2 (vp_updL (a2.2.2.2 2) ((a.1 13)).toNatClampNeg (a2.2.1 1)) a2) b2 := by
      refine And.intro C2.1 (And.intro C2.2.1 (And.intro (fun j hj => ?_) C2.2.2.2))
      have hj2 : (j : Int) < (a2.1 13).toInt := hj
      show vp_updL (a2.2.2.2 2) ((a.1 13)).toNatClampNeg (a2.2.1 1) j = b2.2.2.2 0 (22 + j)
      exact (if_neg (by omega)).trans (C2.2.2.1 j hj2)
    refine E_bind (E_town1 R2 C2') (fun a3 b3 h3 => ?_)
    have n3a : A_N (sQ 2 (vp_updL (a2.2.2.2 2) ((a.1 13)).toNatClampNeg (a2.2.1 1)) a2) a3 := A_J_N h3.2.2.1
    have n3b : B_N b2 b3 := B_J_N h3.2.2.2
    have C3 := E_C_k C2' n3a n3b
    have R3 : E_R (sR 7 (upd (a3.2.2.1 7) ((a.1 13)).toNatClampNeg (a3.1 7)) a3) (sR 2 (upd (b3.2.2.1 2) (((68 : Int32) + ((b.2.2.1 2) 2))).toNatClampNeg (b3.1 11)) b3) := E_R_h a68 h3.1
    have C3' : E_C (sR 7 (upd (a3.2.2.1 7) ((a.1 13)).toNatClampNeg (a3.1 7)) a3) (sR 2 (upd (b3.2.2.1 2) (((68 : Int32) + ((b.2.2.1 2) 2))).toNatClampNeg (b3.1 11)) b3) := E_C_h a68 C3
    rw [ex_u1]
    have look := E_look R3 C3'
    have h00 : (upd (b3.2.2.1 2) (((68 : Int32) + ((b.2.2.1 2) 2))).toNatClampNeg (b3.1 11)) 0 = (sR 2 (upd (b3.2.2.1 2) (((68 : Int32) + ((b.2.2.1 2) 2))).toNatClampNeg (b3.1 11)) b3).2.2.1 2 0 := by rw [sR_get]
    rw [h00]
    obtain ⟨bb, hbb⟩ : ∃ x, x = sR 2 (upd (b3.2.2.1 2) (((68 : Int32) + ((b.2.2.1 2) 2))).toNatClampNeg (b3.1 11)) b3 := ⟨_, rfl⟩
    obtain ⟨rb, sb, qb⟩ : ∃ r x, B_looksAt (15 : Int32) (bb.2.2.1 2 0) bb = (r, x) := ex_pair _
    have b6 : bb.1 6 = b3.1 6 := by rw [hbb]; rfl
    rw [← hbb] at look
    rw [← hbb]
    rw [qb] at look
    rw [qb]
    have hun : ∀ r : Int32, (r = a3.1 7 ↔ ((sI 11 r (sR 2 (upd (b3.2.2.1 2) (((68 : Int32) + ((b.2.2.1 2) 2))).toNatClampNeg (b3.1 11)) b3)).1 11) = (((sI 11 r (sR 2 (upd (b3.2.2.1 2) (((68 : Int32) + ((b.2.2.1 2) 2))).toNatClampNeg (b3.1 11)) b3)).2.2.1 2) (((68 : Int32) + ((b.2.2.1 2) 2))).toNatClampNeg)) := by
      intro r
      show r = a3.1 7 ↔ r = upd (b3.2.2.1 2) (((68 : Int32) + ((b.2.2.1 2) 2))).toNatClampNeg (b3.1 11) (((68 : Int32) + ((b.2.2.1 2) 2))).toNatClampNeg
      rw [ex_u1, h3.2.1]
    rcases look with t | t | t
    · rw [A_tt0 t.1, ex_bd0 (x := A_failAs (1 : Int32) _) rfl]
      exact E_fl t.2.1 rfl (h3.1.2.2.2.1.trans (t.2.2.1.trans b6).symm) t.2.2.2.symm
    · rw [A_tt1 t.1 t.2.1, ex_bd0 (x := A_failAs (3 : Int32) _) rfl]
      exact E_fl t.2.2.1 rfl (h3.1.2.2.2.1.trans (t.2.2.2.1.trans b6).symm) t.2.2.2.2.symm
    · have hl3 := t.2.2.2
      subst hbb
      rw [hl3, ex_bd1]
      by_cases hq : A_townNamed ((sR 7 (upd (a3.2.2.1 7) ((a.1 13)).toNatClampNeg (a3.1 7)) a3).2.1 0) (sR 7 (upd (a3.2.2.1 7) ((a.1 13)).toNatClampNeg (a3.1 7)) a3) = a3.1 7
      · rw [if_pos ((hun _).mp hq), A_tt2 t.1 t.2.1 hq, ex_bd0 (x := A_failAs (3 : Int32) _) rfl]
        exact Or.inl ⟨rfl, rfl, h3.1.2.2.2.1, rfl⟩
      · rw [if_neg (fun z => hq ((hun _).mpr z)), A_tt3 t.1 t.2.1 hq, ex_bd1]
        obtain ⟨r, hr⟩ : ∃ r, r = A_townNamed ((sR 7 (upd (a3.2.2.1 7) ((a.1 13)).toNatClampNeg (a3.1 7)) a3).2.1 0) (sR 7 (upd (a3.2.2.1 7) ((a.1 13)).toNatClampNeg (a3.1 7)) a3) := ⟨_, rfl⟩
        rw [← hr]
        have R3' := E_R_h (i := (((76 : Int32) + ((b.2.2.1 2) 2))).toNatClampNeg) (v := r) a76 R3
        have R4 := E_nx (a := sI 7 r (sR 7 (upd (a3.2.2.1 7) ((a.1 13)).toNatClampNeg (a3.1 7)) a3)) (b := sR 2 (upd ((sI 11 r (sR 2 (upd (b3.2.2.1 2) (((68 : Int32) + ((b.2.2.1 2) 2))).toNatClampNeg (b3.1 11)) b3)).2.2.1 2) (((76 : Int32) + ((b.2.2.1 2) 2))).toNatClampNeg r) (sI 11 r (sR 2 (upd (b3.2.2.1 2) (((68 : Int32) + ((b.2.2.1 2) 2))).toNatClampNeg (b3.1 11)) b3))) R3'.1 R3'.2.1 R3'.2.2.1 t.2.2.1
        have n4a : A_N a3 (A_next (sI 7 r (sR 7 (upd (a3.2.2.1 7) ((a.1 13)).toNatClampNeg (a3.1 7)) a3))) := A_N_t (A_J_N (A_K_J (kA_next _))) (A_N_t (A_J_N (A_J_I (by decide) (A_J_0 _))) (A_N_0 a3))
        have n4b : B_N b3 (B_next (sR 2 (upd ((sI 11 r (sR 2 (upd (b3.2.2.1 2) (((68 : Int32) + ((b.2.2.1 2) 2))).toNatClampNeg (b3.1 11)) b3)).2.2.1 2) (((76 : Int32) + ((b.2.2.1 2) 2))).toNatClampNeg r) (sI 11 r (sR 2 (upd (b3.2.2.1 2) (((68 : Int32) + ((b.2.2.1 2) 2))).toNatClampNeg (b3.1 11)) b3)))) := B_N_t (B_J_N (B_K_J (kB_next _))) (B_N_h a76 (B_N_t (B_J_N (B_J_I (by decide) (B_J_0 _))) (B_N_h a68 (B_N_0 b3))))
        refine E_bind (E_puts (a := sR 8 _ (A_next (sI 7 r (sR 7 (upd (a3.2.2.1 7) ((a.1 13)).toNatClampNeg (a3.1 7)) a3)))) R4 a84) (fun a5 b5 h5 => ?_)
        have n5a : A_N a3 a5 := A_N_t (A_J_N h5.2.1) n4a
        have n5b : B_N b3 b5 := B_N_t h5.2.2.1 n4b
        refine E_bind (E_puts (a := sR 9 (upd (a5.2.2.1 9) ((a.1 13)).toNatClampNeg (a5.1 7)) a5) h5.1 a92) (fun a6 b6 h6 => ?_)
        have n6a : A_N a3 a6 := A_N_t (A_J_N h6.2.1) n5a
        have n6b : B_N b3 b6 := B_N_t h6.2.2.1 n5b
        have C6 := E_C_k C3 n6a n6b
        have z13 : a6.1 13 = a.1 13 := (n6a.1 13 (by omega)).trans ((n3a.1 13 (by omega)).trans (nA2.1 13 (by omega)))
        have ei : ((a6.1 13) + (1 : Int32)).toInt = (a6.1 13).toInt + 1 := ex_inc (p := a6.1 13) (n := 8) (by rw [z13, hC.1.2.2, ex_8]; exact hl)
        have h13' : ((b6.2.2.1 2) 2) = ((b.2.2.1 2) 2) := by rw [← C6.1.2.2, z13, hC.1.2.2]
        have nmE : a6.2.2.2 2 ((a.1 13)).toNatClampNeg = b6.2.2.2 0 (22 + ((a.1 13)).toNatClampNeg) := by
          rw [n6a.2.2.2, n3a.2.2.2, n6b.2.2.2, n3b.2.2.2, nm2]
          exact if_pos rfl
        have z12' : b6.1 12 = b.1 12 := (n6b.1 12 (by omega)).trans ((n3b.1 12 (by omega)).trans ((h2.2.2.1 12 (by omega)).trans (nB1.1 12 (by omega))))
        have z9b : b6.1 9 = b.1 9 := (n6b.1 9 (by omega)).trans ((n3b.1 9 (by omega)).trans ((h2.2.2.1 9 (by omega)).trans (nB1.1 9 (by omega))))
        have z9a : a6.1 9 = a.1 9 := (n6a.1 9 (by omega)).trans ((n3a.1 9 (by omega)).trans (nA2.1 9 (by omega)))
        have z12 : b6.1 12 = b.1 12 ∧ a6.1 9 = a.1 9 ∧ b6.1 9 = b.1 9 := ⟨z12', z9a, z9b⟩
        have g68 := ex_rgN (a := 68) (y := 68) (x := ((b.2.2.1 2) 2)) (by decide) (by decide) (by omega)
        have g76 := ex_rgN (a := 76) (y := 76) (x := ((b.2.2.1 2) 2)) (by decide) (by decide) (by omega)
        have g84 := ex_rgN (a := 84) (y := 84) (x := ((b.2.2.1 2) 2)) (by decide) (by decide) (by omega)
        have g92 := ex_rgN (a := 92) (y := 92) (x := ((b.2.2.1 2) 2)) (by decide) (by decide) (by omega)
        have fA2 : A_F a a2 := A_F_t (A_J_F h2.2.1) (A_J_F (A_K_J (kA_next a)))
        have fA3 : A_F a a3 := A_F_t (A_J_F h3.2.2.1) (A_F_Q fA2)
        have fA4 : A_F a (A_next (sI 7 r (sR 7 (upd (a3.2.2.1 7) ((a.1 13)).toNatClampNeg (a3.1 7)) a3))) := A_F_t (A_J_F (A_K_J (kA_next _))) (A_F_I (by decide) (A_F_R (by decide) fA3))
        have fA5 : A_F a a5 := A_F_t (A_J_F h5.2.1) (A_F_R (by decide) fA4)
        have fA6 : A_F a a6 := A_F_t (A_J_F h6.2.1) (A_F_R (by decide) fA5)
        have fB2 : B_F b b2 := B_F_t (B_J_F h2.2.2) (B_F_Q (B_J_F (B_K_J (kB_next b))))
        have fB3 : B_F b b3 := B_F_t (B_J_F h3.2.2.2) fB2
        have fB4 : B_F b (B_next (sR 2 (upd ((sI 11 r (sR 2 (upd (b3.2.2.1 2) (((68 : Int32) + ((b.2.2.1 2) 2))).toNatClampNeg (b3.1 11)) b3)).2.2.1 2) (((76 : Int32) + ((b.2.2.1 2) 2))).toNatClampNeg r) (sI 11 r (sR 2 (upd (b3.2.2.1 2) (((68 : Int32) + ((b.2.2.1 2) 2))).toNatClampNeg (b3.1 11)) b3)))) := B_F_t (B_J_F (B_K_J (kB_next _))) (B_F_u (by omega) (B_F_I (B_F_u (by omega) fB3)))
        have fB5 : B_F b b5 := B_F_t (fun j hj => h5.2.2.2.2.2 j (by omega)) fB4
        have fB6 : B_F b b6 := B_F_t (fun j hj => h6.2.2.2.2.2 j (by omega)) fB5
        refine Or.inr ⟨rfl, rfl, And.intro (And.intro h6.1.1 (And.intro (A_INV_13 h6.1.2.1 (by rw [ei, z13, hC.1.2.2]; omega) (by rw [ei, z13, hC.1.2.2]; omega)) (And.intro (B_INV_2u h6.1.2.2.1 (by rw [h13']; exact hl)) h6.1.2.2.2))) (And.intro (E_C_13 C6 (by rw [z13]; exact ci) (by rw [z13, hC.1.2.2]; exact hl) nmE) (And.intro z12 (E_V_k h.2.1.2.2.2.1.2 (A_F_I (by decide) (A_F_R (by decide) fA6)) (B_F_u (by omega) fB6))))⟩
/-- a setting told for the first time -/
theorem E_C_set {a b : ex_S} {k : Nat} (hk : k < 3) (h : E_C a b) (hb : B_bitOf (b.1 13) (nI k) = 0) : E_C (sR 12 (upd (a.2.2.1 12) k (vp_nar .boolean (1 : Int32))) a) (sI 13 ((b.1 13) ||| ((1 : Int32) <<< ((nI k) &&& 31))) b) := by
  have hn : ¬ vp_nar .boolean (1 : Int32) = 0 := by decide +kernel
  have hk3 : k = 0 ∨ k = 1 ∨ k = 2 := by omega
  have ho := ex_o8 h.2.2.2.2
  refine And.intro h.1 (And.intro h.2.1 (And.intro h.2.2.1 (And.intro ?_ ?_)))
  · show (upd (a.2.2.1 12) k (vp_nar .boolean (1 : Int32)) 0 = 0 ↔ B_bitOf ((b.1 13) ||| ((1 : Int32) <<< ((nI k) &&& 31))) 0 = 0) ∧ (upd (a.2.2.1 12) k (vp_nar .boolean (1 : Int32)) 1 = 0 ↔ B_bitOf ((b.1 13) ||| ((1 : Int32) <<< ((nI k) &&& 31))) 1 = 0) ∧ (upd (a.2.2.1 12) k (vp_nar .boolean (1 : Int32)) 2 = 0 ↔ B_bitOf ((b.1 13) ||| ((1 : Int32) <<< ((nI k) &&& 31))) 2 = 0)
    obtain ⟨b0, b1, b2⟩ := h.2.2.2.1
    obtain ⟨o, e⟩ : ∃ o, o = b.1 13 := ⟨_, rfl⟩
    rw [← e] at b0 b1 b2 hb ho ⊢
    rcases hk3 with rfl | rfl | rfl
    · rw [ex_u1, ex_u (show ¬ 1 = 0 by decide), ex_u (show ¬ 2 = 0 by decide), b1, b2]
      refine ⟨⟨fun q => absurd q hn, fun q => ?_⟩, ?_, ?_⟩
      · exfalso; revert q; rcases ho with rfl | rfl | rfl | rfl | rfl | rfl | rfl | rfl <;> decide +kernel
      · rcases ho with rfl | rfl | rfl | rfl | rfl | rfl | rfl | rfl <;> decide +kernel
      · rcases ho with rfl | rfl | rfl | rfl | rfl | rfl | rfl | rfl <;> decide +kernel
    · rw [ex_u1, ex_u (show ¬ 0 = 1 by decide), ex_u (show ¬ 2 = 1 by decide), b0, b2]
      refine ⟨?_, ⟨fun q => absurd q hn, fun q => ?_⟩, ?_⟩
      · rcases ho with rfl | rfl | rfl | rfl | rfl | rfl | rfl | rfl <;> decide +kernel
      · exfalso; revert q; rcases ho with rfl | rfl | rfl | rfl | rfl | rfl | rfl | rfl <;> decide +kernel
      · rcases ho with rfl | rfl | rfl | rfl | rfl | rfl | rfl | rfl <;> decide +kernel
    · rw [ex_u1, ex_u (show ¬ 0 = 2 by decide), ex_u (show ¬ 1 = 2 by decide), b0, b1]
      refine ⟨?_, ?_, ⟨fun q => absurd q hn, fun q => ?_⟩⟩
      · rcases ho with rfl | rfl | rfl | rfl | rfl | rfl | rfl | rfl <;> decide +kernel
      · rcases ho with rfl | rfl | rfl | rfl | rfl | rfl | rfl | rfl <;> decide +kernel
      · exfalso; revert q; rcases ho with rfl | rfl | rfl | rfl | rfl | rfl | rfl | rfl <;> decide +kernel
  · exact (B_bit h.2.2.2.2 (by rcases hk3 with rfl | rfl | rfl <;> decide) hb).1
theorem E_V_set {a b a' b' : ex_S} {k : Nat} {x : Int32} (hk : k < 3) (h12 : a'.1 12 = a.1 12) (r3 : a'.2.2.1 3 = a.2.2.1 3) (r4 : a'.2.2.1 4 = a.2.2.1 4) (r5 : a'.2.2.1 5 = a.2.2.1 5) (r6 : a'.2.2.1 6 = a.2.2.1 6) (r11 : a'.2.2.1 11 = upd (a.2.2.1 11) k x) (p : b'.2.2.1 2 (3 + k) = x) (ho : ∀ j : Nat, ¬ j = 3 + k → b'.2.2.1 2 j = b.2.2.1 2 j) (h : E_V a b) : E_V a' b' := by
  refine And.intro (fun q hq => ?_) (fun j hj => ?_)
  · rw [r11]
    by_cases hqk : q = k
    · subst hqk
      rw [p]
      exact ex_u1
    · rw [ho (3 + q) (by omega)]
      exact (ex_u hqk).trans (h.1 q hq)
  · rw [h12] at hj
    rw [r3, r4, r5, r6, ho (20 + j) (by omega), ho (32 + j) (by omega), ho (44 + j) (by omega), ho (56 + j) (by omega)]
    exact h.2 j hj
theorem E_set {a b : ex_S} {k : Nat} {to lo hi wh : Int32} (hk : k < 3) (hwh : wh = nI k) (h : E_R a b) (hC : E_C a b) (hp : a.1 2 = b.1 3) (hto : 3 ≤ (to).toInt ∧ (to).toInt < 100) (hto3 : (to).toNatClampNeg = 3 + k) (hlo : ab_lo.getD k 0 = lo) (hhi : ab_hi.getD k 0 = hi) : E_Q (E_P a b) (A_readSetting wh a) (B_once (nI k) to lo hi b) := by
  subst hwh
  have e0 := nI_toInt (n := k) (by omega)
  have ek := nI_clamp (n := k) (by omega)
  have e3 : (3 : Int32).toInt = 3 := by decide
  have hb : a.2.2.1 12 k = 0 ↔ B_bitOf (b.1 13) (nI k) = 0 := by
    have hk3 : k = 0 ∨ k = 1 ∨ k = 2 := by omega
    rcases hk3 with rfl | rfl | rfl
    · exact hC.2.2.2.1.1
    · exact hC.2.2.2.1.2.1
    · exact hC.2.2.2.1.2.2
  unfold A_readSetting B_once
  simp only [ex_lt]
  rw [if_neg (by omega), if_pos (by omega), ek, hlo, hhi]
  by_cases hs : a.2.2.1 12 k = 0
  · rw [if_pos hs, if_pos (hb.mp hs)]
    have hB : B_INV (sI 13 ((b.1 13) ||| ((1 : Int32) <<< ((nI k) &&& 31))) b) := B_INV_I h.2.2.1 (by decide)
    have R1 := E_nx (a := sR 12 (upd (a.2.2.1 12) k (vp_nar .boolean (1 : Int32))) a) (b := sI 13 ((b.1 13) ||| ((1 : Int32) <<< ((nI k) &&& 31))) b) h.1 h.2.1 hB hp
    have C0 := E_C_set hk hC (hb.mp hs)
    have n1 := A_J_N (A_K_J (kA_next (sR 12 (upd (a.2.2.1 12) k (vp_nar .boolean (1 : Int32))) a)))
    have m1 := B_J_N (B_K_J (kB_next (sI 13 ((b.1 13) ||| ((1 : Int32) <<< ((nI k) &&& 31))) b)))
    have r := E_puts (lo := lo) (hi := hi) R1 hto
    rw [ex_bdp]
    obtain ⟨a1, ea⟩ : ∃ x, x = A_next (sR 12 (upd (a.2.2.1 12) k (vp_nar .boolean (1 : Int32))) a) := ⟨_, rfl⟩
    obtain ⟨b1, eb⟩ : ∃ x, x = B_next (sI 13 ((b.1 13) ||| ((1 : Int32) <<< ((nI k) &&& 31))) b) := ⟨_, rfl⟩
    rw [← ea] at n1
    rw [← eb] at m1
    rw [← ea, ← eb] at r
    rw [← ea, ← eb]
    obtain ⟨ra, sa, qa⟩ : ∃ r x, A_takeNumber lo hi a1 = (r, x) := ex_pair _
    obtain ⟨rb, sb, qb⟩ : ∃ r x, B_puts to lo hi b1 = (r, x) := ex_pair _
    rw [qa, qb] at r
    rw [qa, qb]
    simp only [ex_bd]
    rcases r with r | r
    · rw [E_if0 (x := ra) r.1]; exact Or.inl ⟨rfl, r.2.1, r.2.2⟩
    · rw [E_if1 (x := ra) r.1]
      have C1 := E_C_k (E_C_k C0 n1 m1) (A_J_N r.2.2.2.1) r.2.2.2.2.1
      have ra1 : a1.2.2 = (sR 12 (upd (a.2.2.1 12) k (vp_nar .boolean (1 : Int32))) a).2.2 := by rw [ea]; exact (A_K_J (kA_next _)).2
      have rb1 : b1.2.2 = b.2.2 := by rw [eb]; exact (B_K_J (kB_next _)).2
      have rs : ∀ q, ¬ q = 12 → sa.2.2.1 q = a.2.2.1 q := fun q hq => by rw [r.2.2.2.1.2, ra1, sR_1, if_neg hq]
      refine Or.inr ⟨rfl, r.2.1, And.intro r.2.2.1 (And.intro C1 (And.intro ⟨(r.2.2.2.2.1.1 12 (by omega)).trans (m1.1 12 (by omega)), (r.2.2.2.1.1 9 (by omega)).trans (n1.1 9 (by omega)), (r.2.2.2.2.1.1 9 (by omega)).trans (m1.1 9 (by omega))⟩ (fun hV => ?_)))⟩
      exact E_V_set (k := k) (x := sa.1 7) hk ((r.2.2.2.1.1 12 (by omega)).trans (n1.1 12 (by omega))) (rs 3 (by decide)) (rs 4 (by decide)) (rs 5 (by decide)) (rs 6 (by decide)) (show upd (sa.2.2.1 11) k (sa.1 7) = upd (a.2.2.1 11) k (sa.1 7) by rw [rs 11 (by decide)]) (by rw [← hto3]; exact r.2.2.2.2.2.2.1) (fun j hj => (r.2.2.2.2.2.2.2 j (by rw [hto3]; exact hj)).trans (by rw [rb1])) hV
  · rw [if_neg hs, if_neg (fun q => hs (hb.mpr q))]
    show E_Q (E_P a b) (A_failAs (3 : Int32) a) (B_bad (3 : Int32) b)
    exact E_fail h.2.2.2
noncomputable def A_ln (x : Int32 × ex_S) : Int32 × ex_S := ex_bd x (fun r σ => if r = 0 then ((0 : Int32), σ) else A_takeSign (59 : Int32) σ)
noncomputable def B_ln (x : Int32 × ex_S) : Int32 × ex_S := ex_bd x (fun r σ => if r = 0 then ((0 : Int32), σ) else B_sign (59 : Int32) σ)
theorem E_lnP {x y : Int32 × ex_S} {a b : ex_S} (h : E_Q (E_P a b) x y) : E_Q (E_P a b) (A_ln x) (B_ln y) := by
  unfold A_ln B_ln
  refine E_bind h (fun a1 b1 h1 => ?_)
  exact E_Q_imp (E_sign h1.1) (fun a2 b2 h2 => And.intro h2.1 (And.intro (E_C_k h1.2.1 (A_J_N h2.2.1) (B_J_N h2.2.2)) (And.intro ⟨(h2.2.2.1 12 (by omega)).trans h1.2.2.1.1, (h2.2.1.1 9 (by omega)).trans h1.2.2.1.2.1, (h2.2.2.1 9 (by omega)).trans h1.2.2.1.2.2⟩ (fun hV => E_V_k h1.1.2.1.2.2.2.1.2 (A_J_F h2.2.1) (B_J_F h2.2.2) (h1.2.2.2 hV)))))
theorem A_tw0 {a : ex_S} (h1 : ¬ a.1 6 = 1) (h2 : ¬ a.1 6 = 2) : A_takeWay a = A_failAs (1 : Int32) a := by
  unfold A_takeWay
  rw [if_neg h1]
  exact if_neg h2
theorem B_sign_0 {b : ex_S} (h : B_isSign (59 : Int32) b = 0) : B_sign (59 : Int32) b = B_bad (1 : Int32) b := by
  unfold B_sign
  exact if_pos h
theorem E_sgn {P : ex_S → ex_S → Prop} {x : Int32 × ex_S} {b : ex_S} (hx : x.1 = 0) (hb : B_isSign (59 : Int32) b = 0) (h : x.2.1 10 = b.1 6) (h9 : x.2.1 9 = 1) : E_Q P x (B_sign (59 : Int32) b) := by
  rw [B_sign_0 hb]
  exact Or.inl ⟨hx, rfl, h, h9⟩
theorem E_town {a b : ex_S} (h : E_R a b) (hC : E_C a b) (hp : a.1 2 = b.1 3) : E_Q (E_P a b) (A_ln (A_readTown a)) (B_ln (B_readTown b)) := by
  have k9 := B_k0 h.2.2.1
  have k2 := B_k2 h.2.2.1
  unfold A_readTown B_readTown
  by_cases h7 : ((b.2.2.1 2) 0) = (7 : Int32)
  · rw [if_pos h7, if_neg (by rw [hC.1.1, h7]; exact Int.lt_irrefl _)]
    refine E_lnP ?_
    show E_Q (E_P a b) (A_failAs (4 : Int32) a) (B_bad (4 : Int32) b)
    exact E_fail h.2.2.2
  · rw [if_neg h7, if_pos (by rw [hC.1.1]; exact E_lt7 k9 h7)]
    simp only [ex_lt]
    have hl := E_lt7 k9 h7
    rw [ex_7] at hl
    have R1 := E_nx h.1 h.2.1 h.2.2.1 hp
    have nA1 := A_J_N (A_K_J (kA_next a))
    have nB1 := B_J_N (B_K_J (kB_next b))
    have C1 := E_C_k hC nA1 nB1
    have s15 := ex_sum (a := (15 : Int32)) (x := ((b.2.2.1 2) 0)) (by decide) (by omega)
    have e15 : (15 : Int32).toInt = 15 := by decide
    have c15 := ex_cl (x := (15 : Int32) + ((b.2.2.1 2) 0)) (by omega)
    have ci := ex_cl (x := a.1 11) (by rw [hC.1.1]; omega)
    have e11 : (a.1 11).toInt = ((b.2.2.1 2) 0).toInt := by rw [hC.1.1]
    have a13 : 3 ≤ (((13 : Int32) + ((b.2.2.1 2) 0))).toNatClampNeg := ex_atN (a := 13) (by decide) (by decide) (by omega)
    have a6 : 3 ≤ ((6 : Int32) + ((b.2.2.1 2) 0)).toInt ∧ ((6 : Int32) + ((b.2.2.1 2) 0)).toInt < 100 := by
      have s9 := ex_sum (a := (6 : Int32)) (x := ((b.2.2.1 2) 0)) (by decide) (by omega)
      have e9 : (6 : Int32).toInt = 6 := by decide
      rw [s9]; omega
    unfold A_ln B_ln
    rw [← ex_asc, ← ex_asc]
    refine E_bind (E_fresh (to := (15 : Int32) + ((b.2.2.1 2) 0)) R1 C1 (by omega)) (fun a2 b2 h2 => ?_)
    have nA2 := A_N_t (A_J_N h2.2.1) nA1
    have x11 : ((A_next a).1 11).toInt = (a.1 11).toInt := by rw [nA1.1 11 (by omega)]
    have x13 : ((A_next a).1 13).toInt = (a.1 13).toInt := by rw [nA1.1 13 (by omega)]
    have C2 : E_C a2 b2 := E_C_k (E_C_nm C1 (fun j hj => by omega) (fun j hj => by omega)) (A_J_N h2.2.1) (B_J_N h2.2.2)
    have nm2 : b2.2.2.2 0 (15 + (a.1 11).toNatClampNeg) = a2.2.1 1 := by
      rw [h2.2.2.2]
      show vp_updL ((B_next b).2.2.2 0) ((15 : Int32) + ((b.2.2.1 2) 0)).toNatClampNeg (a2.2.1 1) (15 + (a.1 11).toNatClampNeg) = a2.2.1 1
      exact if_pos (by omega)
    have z2 : ∀ j, j < 3 → b2.2.2.1 2 j = b.2.2.1 2 j := by
      intro j hj
      rw [h2.2.2.2]
      exact nB1.2.1 j hj
    rw [← ex_asc, ← ex_asc]
    refine E_bind (E_puts h2.1 a6) (fun a3 b3 h3 => ?_)
    have nA3 : A_N a a3 := A_N_t (A_J_N h3.2.1) nA2
    have C3 := E_C_k C2 (A_J_N h3.2.1) h3.2.2.1
    have nB3 : (∀ k, (k = 2 ∨ k = 4 ∨ k = 9 ∨ 12 ≤ k) → b3.1 k = b.1 k) ∧ (∀ j, j < 3 → b3.2.2.1 2 j = b.2.2.1 2 j) := And.intro (fun k hk => (h3.2.2.1.1 k hk).trans ((h2.2.2.1 k hk).trans (nB1.1 k hk))) (fun j hj => (h3.2.2.1.2.1 j hj).trans (z2 j hj))
    have nm3 : b3.2.2.2 0 (15 + (a.1 11).toNatClampNeg) = a3.2.1 1 := by rw [h3.2.2.1.2.2.2, h3.2.2.2.1]; exact nm2
    have z11 : a3.1 11 = a.1 11 := nA3.1 11 (by omega)
    have u9 : (upd (b3.2.2.1 2) (((13 : Int32) + ((b.2.2.1 2) 0))).toNatClampNeg (0 : Int32)) 0 = (b.2.2.1 2) 0 := (ex_u (by omega)).trans (nB3.2 0 (by decide))
    have hl3 : (a3.1 11).toInt < 7 := by rw [z11, hC.1.1]; exact hl
    have CW : E_C (sI 11 ((a3.1 11) + (1 : Int32)) (sR 2 (upd (a3.2.2.1 2) ((a.1 11)).toNatClampNeg (0 : Int32)) (sR 1 (upd (a3.2.2.1 1) ((a.1 11)).toNatClampNeg (a3.1 7)) (sQ 1 (vp_updL (a3.2.2.2 1) ((a.1 11)).toNatClampNeg (a3.2.1 1)) a3)))) (sR 2 (upd (upd (b3.2.2.1 2) (((13 : Int32) + ((b.2.2.1 2) 0))).toNatClampNeg (0 : Int32)) 0 (((upd (b3.2.2.1 2) (((13 : Int32) + ((b.2.2.1 2) 0))).toNatClampNeg (0 : Int32)) 0) + (1 : Int32))) (sR 2 (upd (b3.2.2.1 2) (((13 : Int32) + ((b.2.2.1 2) 0))).toNatClampNeg (0 : Int32)) b3)) := E_C_11 (x := 0) C3 a13 (by rw [z11]; exact ci) hl3 nm3
    have AU : A_INV (sI 11 ((a3.1 11) + (1 : Int32)) (sR 2 (upd (a3.2.2.1 2) ((a.1 11)).toNatClampNeg (0 : Int32)) (sR 1 (upd (a3.2.2.1 1) ((a.1 11)).toNatClampNeg (a3.1 7)) (sQ 1 (vp_updL (a3.2.2.2 1) ((a.1 11)).toNatClampNeg (a3.2.1 1)) a3)))) := A_INV_t h3.1.2.1 hl3
    have RU : E_R (sI 11 ((a3.1 11) + (1 : Int32)) (sR 2 (upd (a3.2.2.1 2) ((a.1 11)).toNatClampNeg (0 : Int32)) (sR 1 (upd (a3.2.2.1 1) ((a.1 11)).toNatClampNeg (a3.1 7)) (sQ 1 (vp_updL (a3.2.2.2 1) ((a.1 11)).toNatClampNeg (a3.2.1 1)) a3)))) (sR 2 (upd (b3.2.2.1 2) (((13 : Int32) + ((b.2.2.1 2) 0))).toNatClampNeg (0 : Int32)) b3) := And.intro h3.1.1 (And.intro AU (And.intro (B_INV_h h3.1.2.2.1 a13) h3.1.2.2.2))
    have RW : E_R (sI 11 ((a3.1 11) + (1 : Int32)) (sR 2 (upd (a3.2.2.1 2) ((a.1 11)).toNatClampNeg (0 : Int32)) (sR 1 (upd (a3.2.2.1 1) ((a.1 11)).toNatClampNeg (a3.1 7)) (sQ 1 (vp_updL (a3.2.2.2 1) ((a.1 11)).toNatClampNeg (a3.2.1 1)) a3)))) (sR 2 (upd (upd (b3.2.2.1 2) (((13 : Int32) + ((b.2.2.1 2) 0))).toNatClampNeg (0 : Int32)) 0 (((upd (b3.2.2.1 2) (((13 : Int32) + ((b.2.2.1 2) 0))).toNatClampNeg (0 : Int32)) 0) + (1 : Int32))) (sR 2 (upd (b3.2.2.1 2) (((13 : Int32) + ((b.2.2.1 2) 0))).toNatClampNeg (0 : Int32)) b3)) := And.intro h3.1.1 (And.intro AU (And.intro (B_INV_0u (B_INV_h h3.1.2.2.1 a13) (by rw [u9]; exact hl)) h3.1.2.2.2))
    have nB3 := And.intro nB3.1 (And.intro nB3.2 True.intro)
    have g6 := ex_rgN (a := 6) (y := 6) (x := ((b.2.2.1 2) 0)) (by decide) (by decide) (by omega)
    have g13 := ex_rgN (a := 13) (y := 13) (x := ((b.2.2.1 2) 0)) (by decide) (by decide) (by omega)
    have fA2 : A_F a a2 := A_F_t (A_J_F h2.2.1) (A_J_F (A_K_J (kA_next a)))
    have fA3 : A_F a a3 := A_F_t (A_J_F h3.2.1) fA2
    have fB2 : B_F b b2 := B_F_t (B_J_F h2.2.2) (B_F_Q (B_J_F (B_K_J (kB_next b))))
    have fB3 : B_F b b3 := B_F_t (fun j hj => h3.2.2.2.2.2 j (by omega)) fB2
    have fAW : A_F a (sI 11 ((a3.1 11) + (1 : Int32)) (sR 2 (upd (a3.2.2.1 2) ((a.1 11)).toNatClampNeg (0 : Int32)) (sR 1 (upd (a3.2.2.1 1) ((a.1 11)).toNatClampNeg (a3.1 7)) (sQ 1 (vp_updL (a3.2.2.2 1) ((a.1 11)).toNatClampNeg (a3.2.1 1)) a3)))) := A_F_I (by decide) (A_F_R (by decide) (A_F_R (by decide) (A_F_Q fA3)))
    have fBU : B_F b (sR 2 (upd (b3.2.2.1 2) (((13 : Int32) + ((b.2.2.1 2) 0))).toNatClampNeg (0 : Int32)) b3) := B_F_u (by omega) fB3
    have w1 := E_wd RU.2.2.2 (k := 1) (by decide)
    have w2 := E_wd RU.2.2.2 (k := 2) (by decide)
    rcases E_T59 h3.1.2.2.2 with t | t
    · rw [if_pos t.1]
      have wz : ∀ w, B_isWord w (sR 2 (upd (b3.2.2.1 2) (((13 : Int32) + ((b.2.2.1 2) 0))).toNatClampNeg (0 : Int32)) b3) = 0 := fun w => B_isWord_0 (fun q => absurd (show (1 : Int32) = 3 from q.1.symm.trans t.2.1) (by decide))
      rw [wz, if_pos rfl, wz, if_pos rfl, ex_bd1, ex_bd1]
      exact E_Q_imp (E_sign RW) (fun a4 b4 h4 => And.intro h4.1 (And.intro (E_C_k CW (A_J_N h4.2.1) (B_J_N h4.2.2)) (And.intro ⟨(h4.2.2.1 12 (by omega)).trans (nB3.1 12 (by omega)), (h4.2.1.1 9 (by omega)).trans (nA3.1 9 (by omega)), (h4.2.2.1 9 (by omega)).trans (nB3.1 9 (by omega))⟩ (E_V_k h.2.1.2.2.2.1.2 (A_F_t (A_J_F h4.2.1) fAW) (B_F_t (B_J_F h4.2.2) (B_F_u (i := 0) (by omega) fBU))))))
    · rw [if_neg t.1]
      rcases w1 with f | f
      · have f1 : B_isWord (1717662580 : Int64) (sR 2 (upd (b3.2.2.1 2) (((13 : Int32) + ((b.2.2.1 2) 0))).toNatClampNeg (0 : Int32)) b3) = 1 := f.2.1
        rw [f1, if_neg C_n10]
        refine E_lnP ?_
        rw [ex_asc]
        refine E_bind (E_way RU) (fun a4 b4 h4 => Or.inr ⟨rfl, rfl, ?_⟩)
        have u4 : ∀ j, j < 3 → b4.2.2.1 2 j = b3.2.2.1 2 j := by
          intro j hj
          rw [h4.2.2.1.2]
          exact ex_u (by omega)
        have v4 : (upd (b4.2.2.1 2) (((13 : Int32) + ((b.2.2.1 2) 0))).toNatClampNeg (b4.1 11)) 0 = (b.2.2.1 2) 0 := (ex_u (by omega)).trans ((u4 0 (by decide)).trans (nB3.2.1 0 (by decide)))
        have nA4 : A_N (sI 11 ((a3.1 11) + (1 : Int32)) (sR 2 (upd (a3.2.2.1 2) ((a.1 11)).toNatClampNeg (0 : Int32)) (sR 1 (upd (a3.2.2.1 1) ((a.1 11)).toNatClampNeg (a3.1 7)) (sQ 1 (vp_updL (a3.2.2.2 1) ((a.1 11)).toNatClampNeg (a3.2.1 1)) a3)))) (sR 2 (upd (a4.2.2.1 2) ((a.1 11)).toNatClampNeg ((a4.1 8) * (a4.1 7))) a4) := by have q9 := A_J_N h4.2.1; exact q9
        have nB4 : B_N (sR 2 (upd (upd (b3.2.2.1 2) (((13 : Int32) + ((b.2.2.1 2) 0))).toNatClampNeg (0 : Int32)) 0 (((upd (b3.2.2.1 2) (((13 : Int32) + ((b.2.2.1 2) 0))).toNatClampNeg (0 : Int32)) 0) + (1 : Int32))) (sR 2 (upd (b3.2.2.1 2) (((13 : Int32) + ((b.2.2.1 2) 0))).toNatClampNeg (0 : Int32)) b3)) (sR 2 (upd (upd (b4.2.2.1 2) (((13 : Int32) + ((b.2.2.1 2) 0))).toNatClampNeg (b4.1 11)) 0 (((upd (b4.2.2.1 2) (((13 : Int32) + ((b.2.2.1 2) 0))).toNatClampNeg (b4.1 11)) 0) + (1 : Int32))) (sR 2 (upd (b4.2.2.1 2) (((13 : Int32) + ((b.2.2.1 2) 0))).toNatClampNeg (b4.1 11)) b4)) := by
          refine And.intro h4.2.2.1.1 (And.intro (fun j hj => ?_) (And.intro (by show b4.2.2.1 0 = b3.2.2.1 0; rw [h4.2.2.1.2]; rfl) (by show b4.2.2.2 = b3.2.2.2; rw [h4.2.2.1.2]; rfl)))
          show upd (upd (b4.2.2.1 2) (((13 : Int32) + ((b.2.2.1 2) 0))).toNatClampNeg (b4.1 11)) 0 (((upd (b4.2.2.1 2) (((13 : Int32) + ((b.2.2.1 2) 0))).toNatClampNeg (b4.1 11)) 0) + (1 : Int32)) j = upd (upd (b3.2.2.1 2) (((13 : Int32) + ((b.2.2.1 2) 0))).toNatClampNeg (0 : Int32)) 0 (((upd (b3.2.2.1 2) (((13 : Int32) + ((b.2.2.1 2) 0))).toNatClampNeg (0 : Int32)) 0) + (1 : Int32)) j
          by_cases hj0 : j = 0
          · subst hj0
            rw [ex_u1, ex_u1, v4, u9]
          · rw [ex_u hj0, ex_u hj0, ex_u (show ¬ j = (((13 : Int32) + ((b.2.2.1 2) 0))).toNatClampNeg by omega), ex_u (show ¬ j = (((13 : Int32) + ((b.2.2.1 2) 0))).toNatClampNeg by omega)]
            exact u4 j hj
        exact And.intro (And.intro h4.1.1 (And.intro h4.1.2.1 (And.intro (B_INV_0u (B_INV_h h4.1.2.2.1 a13) (by rw [v4]; exact hl)) h4.1.2.2.2))) (And.intro (E_C_k CW nA4 nB4) (And.intro ⟨(h4.2.2.1.1 12 (by omega)).trans (nB3.1 12 (by omega)), (h4.2.1.1 9 (by omega)).trans (nA3.1 9 (by omega)), (h4.2.2.1.1 9 (by omega)).trans (nB3.1 9 (by omega))⟩ (E_V_k h.2.1.2.2.2.1.2 (A_F_R (by decide) (A_F_t (A_J_F h4.2.1) fAW)) (B_F_u (i := 0) (by omega) (B_F_u (by omega) (B_F_t (B_J_F h4.2.2.1) fBU))))))
      · have f1 : B_isWord (1717662580 : Int64) (sR 2 (upd (b3.2.2.1 2) (((13 : Int32) + ((b.2.2.1 2) 0))).toNatClampNeg (0 : Int32)) b3) = 0 := f.2
        rw [f1, if_pos rfl]
        rcases w2 with g | g
        · have g1 : B_isWord (1936486263 : Int64) (sR 2 (upd (b3.2.2.1 2) (((13 : Int32) + ((b.2.2.1 2) 0))).toNatClampNeg (0 : Int32)) b3) = 1 := g.2.1
          rw [g1, if_neg C_n10]
          refine E_lnP ?_
          rw [ex_asc]
          refine E_bind (E_way RU) (fun a4 b4 h4 => Or.inr ⟨rfl, rfl, ?_⟩)
          have u4 : ∀ j, j < 3 → b4.2.2.1 2 j = b3.2.2.1 2 j := by
            intro j hj
            rw [h4.2.2.1.2]
            exact ex_u (by omega)
          have v4 : (upd (b4.2.2.1 2) (((13 : Int32) + ((b.2.2.1 2) 0))).toNatClampNeg (b4.1 11)) 0 = (b.2.2.1 2) 0 := (ex_u (by omega)).trans ((u4 0 (by decide)).trans (nB3.2.1 0 (by decide)))
          have nA4 : A_N (sI 11 ((a3.1 11) + (1 : Int32)) (sR 2 (upd (a3.2.2.1 2) ((a.1 11)).toNatClampNeg (0 : Int32)) (sR 1 (upd (a3.2.2.1 1) ((a.1 11)).toNatClampNeg (a3.1 7)) (sQ 1 (vp_updL (a3.2.2.2 1) ((a.1 11)).toNatClampNeg (a3.2.1 1)) a3)))) (sR 2 (upd (a4.2.2.1 2) ((a.1 11)).toNatClampNeg ((a4.1 8) * (a4.1 7))) a4) := by have q9 := A_J_N h4.2.1; exact q9
          have nB4 : B_N (sR 2 (upd (upd (b3.2.2.1 2) (((13 : Int32) + ((b.2.2.1 2) 0))).toNatClampNeg (0 : Int32)) 0 (((upd (b3.2.2.1 2) (((13 : Int32) + ((b.2.2.1 2) 0))).toNatClampNeg (0 : Int32)) 0) + (1 : Int32))) (sR 2 (upd (b3.2.2.1 2) (((13 : Int32) + ((b.2.2.1 2) 0))).toNatClampNeg (0 : Int32)) b3)) (sR 2 (upd (upd (b4.2.2.1 2) (((13 : Int32) + ((b.2.2.1 2) 0))).toNatClampNeg (b4.1 11)) 0 (((upd (b4.2.2.1 2) (((13 : Int32) + ((b.2.2.1 2) 0))).toNatClampNeg (b4.1 11)) 0) + (1 : Int32))) (sR 2 (upd (b4.2.2.1 2) (((13 : Int32) + ((b.2.2.1 2) 0))).toNatClampNeg (b4.1 11)) b4)) := by
            refine And.intro h4.2.2.1.1 (And.intro (fun j hj => ?_) (And.intro (by show b4.2.2.1 0 = b3.2.2.1 0; rw [h4.2.2.1.2]; rfl) (by show b4.2.2.2 = b3.2.2.2; rw [h4.2.2.1.2]; rfl)))
            show upd (upd (b4.2.2.1 2) (((13 : Int32) + ((b.2.2.1 2) 0))).toNatClampNeg (b4.1 11)) 0 (((upd (b4.2.2.1 2) (((13 : Int32) + ((b.2.2.1 2) 0))).toNatClampNeg (b4.1 11)) 0) + (1 : Int32)) j = upd (upd (b3.2.2.1 2) (((13 : Int32) + ((b.2.2.1 2) 0))).toNatClampNeg (0 : Int32)) 0 (((upd (b3.2.2.1 2) (((13 : Int32) + ((b.2.2.1 2) 0))).toNatClampNeg (0 : Int32)) 0) + (1 : Int32)) j
            by_cases hj0 : j = 0
            · subst hj0
              rw [ex_u1, ex_u1, v4, u9]
            · rw [ex_u hj0, ex_u hj0, ex_u (show ¬ j = (((13 : Int32) + ((b.2.2.1 2) 0))).toNatClampNeg by omega), ex_u (show ¬ j = (((13 : Int32) + ((b.2.2.1 2) 0))).toNatClampNeg by omega)]
              exact u4 j hj
          exact And.intro (And.intro h4.1.1 (And.intro h4.1.2.1 (And.intro (B_INV_0u (B_INV_h h4.1.2.2.1 a13) (by rw [v4]; exact hl)) h4.1.2.2.2))) (And.intro (E_C_k CW nA4 nB4) (And.intro ⟨(h4.2.2.1.1 12 (by omega)).trans (nB3.1 12 (by omega)), (h4.2.1.1 9 (by omega)).trans (nA3.1 9 (by omega)), (h4.2.2.1.1 9 (by omega)).trans (nB3.1 9 (by omega))⟩ (E_V_k h.2.1.2.2.2.1.2 (A_F_R (by decide) (A_F_t (A_J_F h4.2.1) fAW)) (B_F_u (i := 0) (by omega) (B_F_u (by omega) (B_F_t (B_J_F h4.2.2.1) fBU))))))
        · have g1 : B_isWord (1936486263 : Int64) (sR 2 (upd (b3.2.2.1 2) (((13 : Int32) + ((b.2.2.1 2) 0))).toNatClampNeg (0 : Int32)) b3) = 0 := g.2
          rw [g1, if_pos rfl, ex_bd1, A_tw0 f.1 g.1, ex_bd0 (x := A_failAs (1 : Int32) _) rfl, ex_bd0 rfl]
          exact E_sgn rfl (B_isSign_0 t.2) h3.1.2.2.2.1 rfl
-- a line and its end
theorem E_line {a b : ex_S} (h : E_R a b) (hC : E_C a b) : E_Q (E_P a b) (A_ln (A_readLine a)) (B_ln (B_line b)) := by
  have w0 := E_wd h.2.2.2 (k := 0) (by decide)
  have w3 := E_wd h.2.2.2 (k := 3) (by decide)
  have w4 := E_wd h.2.2.2 (k := 4) (by decide)
  have w5 := E_wd h.2.2.2 (k := 5) (by decide)
  have w6 := E_wd h.2.2.2 (k := 6) (by decide)
  have w7 := E_wd h.2.2.2 (k := 7) (by decide)
  have ne : ∀ i j : Nat, i < 22 → j < 22 → ¬ i = j → a.1 6 = nI i → ¬ a.1 6 = nI j := fun i j hi hj hn q1 q2 => hn (ex_nIi (by omega) (by omega) (q1.symm.trans q2))
  unfold A_readLine B_line
  simp only [ex_lt, ex_bdp]
  rcases w0 with f0 | f0
  · have c0 : a.1 6 = 0 := f0.1
    have d0 : B_isWord (1953462126 : Int64) b = 1 := f0.2.1
    rw [if_pos c0, d0, if_neg C_n10]
    exact E_town h hC f0.2.2
  have c0 : ¬ a.1 6 = 0 := f0.1
  have d0 : B_isWord (1953462126 : Int64) b = 0 := f0.2
  rw [if_neg c0, d0, if_pos rfl]
  refine E_lnP ?_
  rcases w3 with f3 | f3
  · have c1 : ¬ a.1 6 = 1 := ne 3 1 (by decide) (by decide) (by decide) f3.1
    have c2 : ¬ a.1 6 = 2 := ne 3 2 (by decide) (by decide) (by decide) f3.1
    have c3 : a.1 6 = 3 := f3.1
    have d3 : B_isWord (1952805485 : Int64) b = 1 := f3.2.1
    rw [if_neg c1, if_neg c2, if_pos c3, d3, if_neg C_n10]
    exact E_term h hC f3.2.2
  have c3 : ¬ a.1 6 = 3 := f3.1
  have d3 : B_isWord (1952805485 : Int64) b = 0 := f3.2
  rw [d3, if_pos rfl]
  rcases w4 with f4 | f4
  · have c1 : ¬ a.1 6 = 1 := ne 4 1 (by decide) (by decide) (by decide) f4.1
    have c2 : ¬ a.1 6 = 2 := ne 4 2 (by decide) (by decide) (by decide) f4.1
    have c4 : a.1 6 = 4 := f4.1
    have d4 : B_isWord (500135192942 : Int64) b = 1 := f4.2.1
    rw [if_neg c1, if_neg c2, if_neg c3, if_pos c4, d4, if_neg C_n10]
    exact E_train h hC f4.2.2
  have c4 : ¬ a.1 6 = 4 := f4.1
  have d4 : B_isWord (500135192942 : Int64) b = 0 := f4.2
  rw [d4, if_pos rfl]
  rcases w5 with f5 | f5
  · have c1 : ¬ a.1 6 = 1 := ne 5 1 (by decide) (by decide) (by decide) f5.1
    have c2 : ¬ a.1 6 = 2 := ne 5 2 (by decide) (by decide) (by decide) f5.1
    have c5 : a.1 6 = 5 := f5.1
    have d5 : B_isWord (465625246068 : Int64) b = 1 := f5.2.1
    rw [if_neg c1, if_neg c2, if_neg c3, if_neg c4, if_pos c5, d5, if_neg C_n10]
    exact E_set (k := 0) (by decide) (by rw [c5]; decide) h hC f5.2.2 (by decide) (by decide) rfl rfl
  have c5 : ¬ a.1 6 = 5 := f5.1
  have d5 : B_isWord (465625246068 : Int64) b = 0 := f5.2
  rw [d5, if_pos rfl]
  rcases w6 with f6 | f6
  · have c1 : ¬ a.1 6 = 1 := ne 6 1 (by decide) (by decide) (by decide) f6.1
    have c2 : ¬ a.1 6 = 2 := ne 6 2 (by decide) (by decide) (by decide) f6.1
    have c6 : a.1 6 = 6 := f6.1
    have d6 : B_isWord (109299962373989 : Int64) b = 1 := f6.2.1
    rw [if_neg c1, if_neg c2, if_neg c3, if_neg c4, if_neg c5, if_pos c6, d6, if_neg C_n10]
    exact E_set (k := 1) (by decide) (by rw [c6]; decide) h hC f6.2.2 (by decide) (by decide) rfl rfl
  have c6 : ¬ a.1 6 = 6 := f6.1
  have d6 : B_isWord (109299962373989 : Int64) b = 0 := f6.2
  rw [d6, if_pos rfl]
  rcases w7 with f7 | f7
  · have c1 : ¬ a.1 6 = 1 := ne 7 1 (by decide) (by decide) (by decide) f7.1
    have c2 : ¬ a.1 6 = 2 := ne 7 2 (by decide) (by decide) (by decide) f7.1
    have c7 : a.1 6 = 7 := f7.1
    have d7 : B_isWord (440006570868 : Int64) b = 1 := f7.2.1
    rw [if_neg c1, if_neg c2, if_neg c3, if_neg c4, if_neg c5, if_neg c6, if_pos c7, d7, if_neg C_n10]
    exact E_set (k := 2) (by decide) (by rw [c7]; decide) h hC f7.2.2 (by decide) (by decide) rfl rfl
  have c7 : ¬ a.1 6 = 7 := f7.1
  have d7 : B_isWord (440006570868 : Int64) b = 0 := f7.2
  rw [d7, if_pos rfl, if_neg c3, if_neg c4, if_neg c5, if_neg c6, if_neg c7]
  by_cases c1 : a.1 6 = 1
  · rw [if_pos c1]; exact E_fail h.2.2.2
  · rw [if_neg c1]
    by_cases c2 : a.1 6 = 2
    · rw [if_pos c2]; exact E_fail h.2.2.2
    · rw [if_neg c2]; exact E_fail h.2.2.2
-- the loop
noncomputable def A_fin (x : Int32 × ex_S) : Int32 := ex_bd x (fun r τ => if r = -1 then -1 - τ.1 10 else r)
theorem A_fin_m {τ : ex_S} : A_fin ((-1 : Int32), τ) = -1 - τ.1 10 := by
  unfold A_fin ex_bd
  exact if_pos (show ((-1 : Int32), τ).1 = -1 from rfl)
theorem A_ln_use {x : Int32 × ex_S} {K : ex_S → Int32 × ex_S} : ex_bd x (fun r σ => if r = 0 then ((-1 : Int32), σ) else ex_bd (A_takeSign (59 : Int32) σ) (fun r' σ' => if r' = 0 then ((-1 : Int32), σ') else K σ')) = ex_bd (A_ln x) (fun r' σ' => if r' = 0 then ((-1 : Int32), σ') else K σ') := by
  obtain ⟨r, σ⟩ := x
  by_cases h : r = 0
  · have e : A_ln (r, σ) = ((0 : Int32), σ) := if_pos h
    rw [e]
    exact (if_pos h).trans rfl
  · have e : A_ln (r, σ) = A_takeSign (59 : Int32) σ := if_neg h
    rw [e]
    exact if_neg h
theorem B_ln_use {x : Int32 × ex_S} {K : ex_S → Int32} : ex_bd x (fun r σ => if r = 0 then ((-1 : Int32) - (σ.1 10)) else ex_bd (B_sign (59 : Int32) σ) (fun r' σ' => if r' = 0 then ((-1 : Int32) - (σ'.1 10)) else K σ')) = ex_bd (B_ln x) (fun r' σ' => if r' = 0 then ((-1 : Int32) - (σ'.1 10)) else K σ') := by
  obtain ⟨r, σ⟩ := x
  by_cases h : r = 0
  · have e : B_ln (r, σ) = ((0 : Int32), σ) := if_pos h
    rw [e]
    exact (if_pos h).trans rfl
  · have e : B_ln (r, σ) = B_sign (59 : Int32) σ := if_neg h
    rw [e]
    exact if_neg h
theorem B_ln_cnt {b : ex_S} (hI : B_INV b) (hO : B_ON b) (h : ¬ (B_ln (B_line b)).1 = 0) : B_cnt (B_ln (B_line b)).2 = B_cnt b + 1 := by
  by_cases h1 : (B_line b).1 = 0
  · exact absurd (congrArg Prod.fst (show B_ln (B_line b) = ((0 : Int32), (B_line b).2) from ex_bd0 h1)) h
  · have e : B_ln (B_line b) = B_sign (59 : Int32) (B_line b).2 := by
      unfold B_ln ex_bd
      exact if_neg h1
    obtain ⟨r14, σ15, q⟩ : ∃ r x, B_sign (59 : Int32) (B_line b).2 = (r, x) := ex_pair _
    obtain ⟨r9, σ9, q9⟩ : ∃ r x, B_line b = (r, x) := ex_pair _
    rw [e, q]
    rw [q9] at q h1
    exact (cnt_sign q).1.trans (cnt_line hI hO q9 h1).1
theorem E_ri : ∀ (kb ka n : Nat) (a b : ex_S), E_R a b → E_C a b → 30 - B_cnt b < kb → kb ≤ ka → n + kb < 900 → b.1 12 = nI n → A_fin (A_ri ka n a) = B_ri kb b := by
  intro kb
  induction kb with
  | zero => intro ka n a b h hC h1; exfalso; have h9 := B_cnt_le h.2.2.1; omega
  | succ kb ih =>
    intro ka n a b h hC h1 h2 h3 h4
    obtain ⟨k, rfl⟩ : ∃ k, ka = k + 1 := ⟨ka - 1, by omega⟩
    rw [A_ri_s, B_ri_s]
    simp only [ex_lt]
    have he : (A_atEnd a = 1 ∧ b.1 5 = 0) ∨ (A_atEnd a = 0 ∧ ¬ b.1 5 = 0) := by
      unfold A_atEnd
      rcases h.2.2.2.2 with t | t | t | t | t
      · exact Or.inl ⟨if_pos t.1, t.2.1⟩
      · exact Or.inr ⟨if_neg (by rw [t.1]; decide), by rw [t.2.1]; decide⟩
      · exact Or.inr ⟨if_neg (by rw [t.1]; decide), by rw [t.2.1]; decide⟩
      · exact Or.inr ⟨if_neg (fun q => by have g := t.1; rw [q] at g; exact absurd g (by decide +kernel)), by rw [t.2.1]; decide⟩
      · exact Or.inr ⟨if_neg (by rw [t.1]; decide), by rw [t.2.1]; decide⟩
    rcases he with t | t
    · rw [if_neg (by rw [t.1]; exact C_n10), if_pos t.2, h4]
      exact if_neg (ex_nI1 (by omega))
    · rw [if_pos t.1, if_neg t.2, A_ln_use, B_ln_use]
      have r := E_line h hC
      have hc := B_ln_cnt h.2.2.1 hC.2.2.2.2
      simp only [ex_bd]
      rcases r with r | r
      · rw [E_if0 r.1, E_if0 r.2.1, ← r.2.2.1, A_fin_m]
      · rw [E_if1 r.1, E_if1 r.2.1]
        have hc1 := hc (by rw [r.2.1]; exact C_n10)
        have e12 : ((B_ln (B_line b)).2.1 12) + (1 : Int32) = nI (n + 1) := by
          rw [r.2.2.2.2.1.1, h4]
          exact Int32.toInt_inj.mp (by rw [ex_inc (p := nI n) (n := nI 2000) (by rw [nI_toInt (by omega), nI_toInt (by omega)]; omega), nI_toInt (by omega), nI_toInt (by omega)]; omega)
        rw [e12]
        exact ih k (n + 1) _ _ r.2.2.1 r.2.2.2.1 (by show 30 - B_cnt (B_ln (B_line b)).2 < _; rw [hc1]; omega) (by omega) (by omega) rfl
theorem E_valley {a b : ex_S} (hs : a.1 0 = b.1 1) (hn : 0 ≤ (a.1 0).toInt ∧ (a.1 0).toInt ≤ 940) (hb : ∀ j : Nat, (j : Int) < (a.1 0).toInt → a.2.2.1 0 j = b.2.2.1 0 j &&& 255) (hwA : ∀ j, j < 22 → a.2.2.2 0 j = ex_wd j) (hwB : ∀ j, j < 22 → b.2.2.2 1 j = ex_wd j) : A_valley a = B_valley b := by
  unfold A_valley A_readInto B_valley
  simp only [ex_lt]
  have hn2 : 0 ≤ (b.1 1).toInt ∧ (b.1 1).toInt ≤ 940 := by rw [← hs]; exact hn
  have B0 : B_INV (B_clears (sI 13 (0 : Int32) (sI 12 (0 : Int32) (sI 9 (0 : Int32) (B_taken (900 : Int32) (sI 0 (0 : Int32) b)))))) := B_INV_0 hn2
  have z : vp_nar .boolean (0 : Int32) = 0 := by decide +kernel
  obtain ⟨a0, ha0⟩ : ∃ a0, a0 = (sI 10 (0 : Int32) (sI 9 (0 : Int32) (sI 2 (0 : Int32) (sI 1 (900 : Int32) (sR 12 (upd (upd (upd ((A_makeEmpty a).2.2.1 12) 0 (vp_nar .boolean (0 : Int32))) 1 (vp_nar .boolean (0 : Int32))) 2 (vp_nar .boolean (0 : Int32))) (sR 12 (upd (upd ((A_makeEmpty a).2.2.1 12) 0 (vp_nar .boolean (0 : Int32))) 1 (vp_nar .boolean (0 : Int32))) (sR 12 (upd ((A_makeEmpty a).2.2.1 12) 0 (vp_nar .boolean (0 : Int32))) (A_makeEmpty a)))))))) := ⟨_, rfl⟩
  obtain ⟨b0, hb0⟩ : ∃ b0, b0 = B_clears (sI 13 (0 : Int32) (sI 12 (0 : Int32) (sI 9 (0 : Int32) (B_taken (900 : Int32) (sI 0 (0 : Int32) b))))) := ⟨_, rfl⟩
  have A0 : A_INV a0 := by rw [ha0]; exact A_IN0_b (inv_X8_makeEmpty a hn)
  have hE : E_ev a0 b0 := by
    rw [ha0, hb0]
    exact And.intro hs (And.intro rfl (And.intro hb (And.intro hwA hwB)))
  have hC : E_C a0 b0 := by
    rw [ha0, hb0]
    refine And.intro (And.intro rfl (And.intro rfl rfl)) (And.intro (fun j hj => ?_) (And.intro (fun j hj => ?_) (And.intro ?_ ?_)))
    · exfalso
      have hj2 : (j : Int) < (0 : Int32).toInt := hj
      have e0 : (0 : Int32).toInt = 0 := by decide
      omega
    · exfalso
      have hj2 : (j : Int) < (0 : Int32).toInt := hj
      have e0 : (0 : Int32).toInt = 0 := by decide
      omega
    · exact And.intro (iff_of_true z (show B_bitOf (0 : Int32) (0 : Int32) = 0 from by decide +kernel)) (And.intro (iff_of_true z (show B_bitOf (0 : Int32) (1 : Int32) = 0 from by decide +kernel)) (iff_of_true z (show B_bitOf (0 : Int32) (2 : Int32) = 0 from by decide +kernel)))
    · show 0 ≤ (0 : Int32).toInt ∧ (0 : Int32).toInt ≤ 7
      decide
  have hp : a0.1 2 = b0.1 3 := by rw [ha0, hb0]; rfl
  have R := E_nx hE A0 (by rw [hb0]; exact B0) hp
  have C := E_C_k hC (A_J_N (A_K_J (kA_next a0))) (B_J_N (B_K_J (kB_next b0)))
  have h12 : (B_next b0).1 12 = nI 0 := by rw [(kB_next b0).1 12 (by omega), hb0]; rfl
  have r := E_ri 31 901 0 (A_next a0) (B_next b0) R C (by have h9 := B_cnt_lo R.2.2.1; omega) (by omega) (by omega) h12
  rw [ha0, hb0] at r
  exact r
/-- both read to the end, or both fail; what they have read is the same -/
theorem E_rs : ∀ (kb ka n : Nat) (a b : ex_S), E_R a b → E_C a b → E_V a b → a.1 9 = b.1 9 → 30 - B_cnt b < kb → kb ≤ ka → n + kb < 900 → ((A_ri ka n a).1 = -1 ∧ (B_rs kb b).1 = 0 ∧ (A_ri ka n a).2.1 9 = (B_rs kb b).2.1 9) ∨ (¬ (A_ri ka n a).1 = -1 ∧ (B_rs kb b).1 = 1 ∧ E_C (A_ri ka n a).2 (B_rs kb b).2 ∧ E_V (A_ri ka n a).2 (B_rs kb b).2 ∧ (A_ri ka n a).2.1 9 = (B_rs kb b).2.1 9) := by
  intro kb
  induction kb with
  | zero => intro ka n a b h hC hV h99 h1; exfalso; have h9 := B_cnt_le h.2.2.1; omega
  | succ kb ih =>
    intro ka n a b h hC hV h99 h1 h2 h3
    obtain ⟨k, rfl⟩ : ∃ k, ka = k + 1 := ⟨ka - 1, by omega⟩
    rw [A_ri_s, B_rs_s]
    simp only [ex_lt]
    have he : (A_atEnd a = 1 ∧ b.1 5 = 0) ∨ (A_atEnd a = 0 ∧ ¬ b.1 5 = 0) := by
      unfold A_atEnd
      rcases h.2.2.2.2 with t | t | t | t | t
      · exact Or.inl ⟨if_pos t.1, t.2.1⟩
      · exact Or.inr ⟨if_neg (by rw [t.1]; decide), by rw [t.2.1]; decide⟩
      · exact Or.inr ⟨if_neg (by rw [t.1]; decide), by rw [t.2.1]; decide⟩
      · exact Or.inr ⟨if_neg (fun q => by have g := t.1; rw [q] at g; exact absurd g (by decide +kernel)), by rw [t.2.1]; decide⟩
      · exact Or.inr ⟨if_neg (by rw [t.1]; decide), by rw [t.2.1]; decide⟩
    rcases he with t | t
    · rw [if_neg (by rw [t.1]; exact C_n10), if_pos t.2]
      exact Or.inr ⟨ex_nI1 (by omega), rfl, hC, hV, h99⟩
    · rw [if_pos t.1, if_neg t.2, A_ln_use, ex_asc]
      have r := E_line h hC
      have hc := B_ln_cnt h.2.2.1 hC.2.2.2.2
      have eB : ex_bd (B_line b) (fun r σ => if r = 0 then ((0 : Int32), σ) else B_sign (59 : Int32) σ) = B_ln (B_line b) := rfl
      rw [eB]
      simp only [ex_bd]
      rcases r with r | r
      · rw [E_if0 r.1, E_if0 r.2.1]
        exact Or.inl ⟨rfl, rfl, r.2.2.2⟩
      · rw [E_if1 r.1, E_if1 r.2.1]
        have hc1 := hc (by rw [r.2.1]; exact C_n10)
        exact ih k (n + 1) _ _ r.2.2.1 r.2.2.2.1 (r.2.2.2.2.2 hV) (r.2.2.2.2.1.2.1.trans (h99.trans r.2.2.2.2.1.2.2.symm)) (by show 30 - B_cnt (B_ln (B_line b)).2 < _; rw [hc1]; omega) (by omega) (by omega)
/-- valley: both fail, or both have read the same -/
theorem E_vs {a b : ex_S} (hs : a.1 0 = b.1 1) (hn : 0 ≤ (a.1 0).toInt ∧ (a.1 0).toInt ≤ 940) (hb : ∀ j : Nat, (j : Int) < (a.1 0).toInt → a.2.2.1 0 j = b.2.2.1 0 j &&& 255) (hwA : ∀ j, j < 22 → a.2.2.2 0 j = ex_wd j) (hwB : ∀ j, j < 22 → b.2.2.2 1 j = ex_wd j) : ((A_readInto a).1 = -1 ∧ (B_vs b).1 = 0 ∧ (A_readInto a).2.1 9 = (B_vs b).2.1 9) ∨ (¬ (A_readInto a).1 = -1 ∧ (B_vs b).1 = 1 ∧ E_C (A_readInto a).2 (B_vs b).2 ∧ E_V (A_readInto a).2 (B_vs b).2 ∧ (A_readInto a).2.1 9 = (B_vs b).2.1 9) := by
  unfold A_readInto B_vs
  simp only [ex_lt]
  have hn2 : 0 ≤ (b.1 1).toInt ∧ (b.1 1).toInt ≤ 940 := by rw [← hs]; exact hn
  have B0 : B_INV (B_clears (sI 13 (0 : Int32) (sI 12 (0 : Int32) (sI 9 (0 : Int32) (B_taken (900 : Int32) (sI 0 (0 : Int32) b)))))) := B_INV_0 hn2
  have z : vp_nar .boolean (0 : Int32) = 0 := by decide +kernel
  obtain ⟨a0, ha0⟩ : ∃ a0, a0 = (sI 10 (0 : Int32) (sI 9 (0 : Int32) (sI 2 (0 : Int32) (sI 1 (900 : Int32) (sR 12 (upd (upd (upd ((A_makeEmpty a).2.2.1 12) 0 (vp_nar .boolean (0 : Int32))) 1 (vp_nar .boolean (0 : Int32))) 2 (vp_nar .boolean (0 : Int32))) (sR 12 (upd (upd ((A_makeEmpty a).2.2.1 12) 0 (vp_nar .boolean (0 : Int32))) 1 (vp_nar .boolean (0 : Int32))) (sR 12 (upd ((A_makeEmpty a).2.2.1 12) 0 (vp_nar .boolean (0 : Int32))) (A_makeEmpty a)))))))) := ⟨_, rfl⟩
  obtain ⟨b0, hb0⟩ : ∃ b0, b0 = B_clears (sI 13 (0 : Int32) (sI 12 (0 : Int32) (sI 9 (0 : Int32) (B_taken (900 : Int32) (sI 0 (0 : Int32) b))))) := ⟨_, rfl⟩
  have A0 : A_INV a0 := by rw [ha0]; exact A_IN0_b (inv_X8_makeEmpty a hn)
  have hE : E_ev a0 b0 := by
    rw [ha0, hb0]
    exact And.intro hs (And.intro rfl (And.intro hb (And.intro hwA hwB)))
  have hC : E_C a0 b0 := by
    rw [ha0, hb0]
    refine And.intro (And.intro rfl (And.intro rfl rfl)) (And.intro (fun j hj => ?_) (And.intro (fun j hj => ?_) (And.intro ?_ ?_)))
    · exfalso
      have hj2 : (j : Int) < (0 : Int32).toInt := hj
      have e0 : (0 : Int32).toInt = 0 := by decide
      omega
    · exfalso
      have hj2 : (j : Int) < (0 : Int32).toInt := hj
      have e0 : (0 : Int32).toInt = 0 := by decide
      omega
    · exact And.intro (iff_of_true z (show B_bitOf (0 : Int32) (0 : Int32) = 0 from by decide +kernel)) (And.intro (iff_of_true z (show B_bitOf (0 : Int32) (1 : Int32) = 0 from by decide +kernel)) (iff_of_true z (show B_bitOf (0 : Int32) (2 : Int32) = 0 from by decide +kernel)))
    · show 0 ≤ (0 : Int32).toInt ∧ (0 : Int32).toInt ≤ 7
      decide
  have hp : a0.1 2 = b0.1 3 := by rw [ha0, hb0]; rfl
  have R := E_nx hE A0 (by rw [hb0]; exact B0) hp
  have C := E_C_k hC (A_J_N (A_K_J (kA_next a0))) (B_J_N (B_K_J (kB_next b0)))
  have hV : E_V a0 b0 := by
    rw [ha0, hb0]
    refine And.intro (fun k hk => ?_) (fun j hj => ?_)
    · have hk3 : k = 0 ∨ k = 1 ∨ k = 2 := by omega
      rcases hk3 with rfl | rfl | rfl <;> rfl
    · exfalso
      have hj2 : (j : Int) < (0 : Int32).toInt := hj
      have e0 : (0 : Int32).toInt = 0 := by decide
      omega
  have z12 : (a0.1 12).toInt ≤ 12 := by rw [ha0]; show (0 : Int32).toInt ≤ 12; decide
  have V := E_V_k z12 (A_J_F (A_K_J (kA_next a0))) (B_J_F (B_K_J (kB_next b0))) hV
  have K9 : (A_next a0).1 9 = (B_next b0).1 9 := ((kA_next a0).1 9 (by omega)).trans (((by rw [ha0, hb0]; rfl : a0.1 9 = b0.1 9)).trans ((kB_next b0).1 9 (by omega)).symm)
  have r := E_rs 31 901 0 (A_next a0) (B_next b0) R C V K9 (by have h9 := B_cnt_lo R.2.2.1; omega) (by omega) (by omega)
  rw [ha0, hb0] at r
  exact r
-- feed keeps the tapes alike
theorem E_b8 (y : Int32) : y.toInt8.toInt32 &&& 255 = y &&& 255 := by
  have hn : y.toBitVec.toNat % 256 < 256 := Nat.mod_lt _ (by decide)
  have e : y.toInt8 = (nI (y.toBitVec.toNat % 256)).toInt8 := by
    apply Int8.toBitVec_inj.mp
    show y.toBitVec.signExtend 8 = (nI (y.toBitVec.toNat % 256)).toBitVec.signExtend 8
    rw [BitVec.signExtend_eq_setWidth_of_le _ (by decide), BitVec.signExtend_eq_setWidth_of_le _ (by decide)]
    apply BitVec.eq_of_toNat_eq
    rw [BitVec.toNat_setWidth, BitVec.toNat_setWidth, pk_tn (by omega)]
    omega
  rw [e, sc_k8 _ hn, pk_and y 8 (by decide)]
theorem E_byte (v s : Int32) (k : Nat) (hk : k = 24 ∨ k = 16 ∨ k = 8 ∨ k = 0) (h1 : ((s.toUInt32 &&& Int32.toUInt32 31).toBitVec % 32).toNat = k) (h2 : ((s &&& 31).toBitVec.smod 32).toNat = k) : ((v.toUInt32 >>> (s.toUInt32 &&& Int32.toUInt32 31)).toInt32 &&& 255) = (vp_nar .byte ((v >>> (s &&& 31)).toInt8.toInt32) &&& 255) := by
  rw [pk_vb, E_b8, pk_and _ 8 (by decide), pk_and _ 8 (by decide), pk_ushr v s k h1]
  refine congrArg nI ?_
  have e : (v >>> (s &&& 31)).toBitVec.toInt = v.toBitVec.toInt >>> k := pk_shr v (s &&& 31) k h2
  rw [Int.shiftRight_eq_div_pow, BitVec.toInt_eq_toNat_cond, BitVec.toInt_eq_toNat_cond] at e
  have b1 := (v >>> (s &&& 31)).toBitVec.isLt
  have b2 := v.toBitVec.isLt
  rcases hk with rfl | rfl | rfl | rfl <;> split at e <;> split at e <;> omega
/-- as many bytes on both tapes, the same ones -/
noncomputable def E_J (a b : ex_S) : Prop := a.1 0 = b.1 1 ∧ (∀ j : Nat, (j : Int) < (a.1 0).toInt → a.2.2.1 0 j = b.2.2.1 0 j &&& 255)
theorem E_upd {f g : Nat → Int32} {n m : Int} {k : Nat} {x y : Int32} (h : ∀ j : Nat, (j : Int) < n → f j = g j &&& 255) (hk : (k : Int) = n) (hm : m = n + 1) (hx : x = y &&& 255) : ∀ j : Nat, (j : Int) < m → upd f k x j = upd g k y j &&& 255 := by
  intro j hj
  by_cases hq : j = k
  · subst hq
    rw [ex_u1, ex_u1]
    exact hx
  · rw [ex_u hq, ex_u hq]
    exact h j (by omega)
theorem E_put {a b : ex_S} (v : Int32) (hn : 0 ≤ (a.1 0).toInt ∧ (a.1 0).toInt + 4 ≤ 940) (h : E_J a b) : E_J (A_put v a) (B_four v b) := by
  have e4 := ex_4 hn
  have c0 := ex_cl (x := a.1 0) hn.1
  have c1 := ex_cl (x := (a.1 0) + (1 : Int32)) (by omega)
  have c2 := ex_cl (x := ((a.1 0) + (1 : Int32)) + (1 : Int32)) (by omega)
  have c3 := ex_cl (x := (((a.1 0) + (1 : Int32)) + (1 : Int32)) + (1 : Int32)) (by omega)
  unfold A_put B_four
  rw [← h.1]
  refine And.intro rfl ?_
  exact E_upd (E_upd (E_upd (E_upd h.2 c0 (m := (a.1 0).toInt + 1) rfl (E_byte v 24 24 (by decide) (by decide +kernel) (by decide +kernel))) (by omega) (m := (a.1 0).toInt + 2) (by omega) (E_byte v 16 16 (by decide) (by decide +kernel) (by decide +kernel))) (by omega) (m := (a.1 0).toInt + 3) (by omega) (E_byte v 8 8 (by decide) (by decide +kernel) (by decide +kernel))) (by omega) (e4.2.2.2.trans (by omega)) (E_byte v 0 0 (by decide) (by decide +kernel) (by decide +kernel))
theorem A_feed_le {a : ex_S} {v1 v2 v3 v4 v5 : Int32} (hn : 0 ≤ (a.1 0).toInt ∧ (a.1 0).toInt ≤ 940) : ((A_feed v1 v2 v3 v4 v5 a).2.1 0).toInt ≤ 940 := by
  unfold A_feed
  simp only [ex_lt]
  by_cases hq : ((940 : Int32)).toInt < (((a.1 0) + (20 : Int32))).toInt
  · rw [if_pos hq]
    exact hn.2
  · rw [if_neg hq]
    have e20 := ex_20 hn
    have e940 : (940 : Int32).toInt = 940 := by decide
    have n1 := inv_X4_put v1 a (by omega)
    have n2 := inv_X4_put v2 (A_put v1 a) (by omega)
    have n3 := inv_X4_put v3 (A_put v2 (A_put v1 a)) (by omega)
    have n4 := inv_X4_put v4 (A_put v3 (A_put v2 (A_put v1 a))) (by omega)
    have n5 := inv_X4_put v5 (A_put v4 (A_put v3 (A_put v2 (A_put v1 a)))) (by omega)
    show ((A_put v5 (A_put v4 (A_put v3 (A_put v2 (A_put v1 a))))).1 0).toInt ≤ 940
    omega
theorem E_feed {a b : ex_S} (v1 v2 v3 v4 v5 : Int32) (hn : 0 ≤ (a.1 0).toInt ∧ (a.1 0).toInt ≤ 940) (h : E_J a b) : E_J (A_feed v1 v2 v3 v4 v5 a).2 (B_feed v1 v2 v3 v4 v5 b).2 := by
  unfold A_feed B_feed
  simp only [ex_lt]
  have h0 : E_J a (sI 0 (0 : Int32) b) := h
  rw [← h.1]
  by_cases hq : ((940 : Int32)).toInt < (((a.1 0) + (20 : Int32))).toInt
  · rw [if_pos hq, if_pos hq]
    exact h0
  · rw [if_neg hq, if_neg hq]
    have e20 := ex_20 hn
    have e940 : (940 : Int32).toInt = 940 := by decide
    have n1 := inv_X4_put v1 a (by omega)
    have n2 := inv_X4_put v2 (A_put v1 a) (by omega)
    have n3 := inv_X4_put v3 (A_put v2 (A_put v1 a)) (by omega)
    have n4 := inv_X4_put v4 (A_put v3 (A_put v2 (A_put v1 a))) (by omega)
    exact E_put v5 (by omega) (E_put v4 (by omega) (E_put v3 (by omega) (E_put v2 (by omega) (E_put v1 (by omega) h0))))
