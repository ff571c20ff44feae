/-! What stands around the law at its entry. -/
abbrev ab_gv : Jvm.Cond := Jvm.Cond.and given_1 narrow_1
theorem ab_st0 : ∀ q ∈ ab_str, Cond.stringRef q.1 q.2.1 q.2.2 ∈ lw_tbl := by decide +kernel
theorem ab_st2 : ∀ q ∈ ab_str, Cond.exactly (.string q.1 q.2.1) "java/lang/String" ∈ flatC ab_gv := by decide +kernel
noncomputable def ab_b6t : List Nat := [67, 195, 208, 219, 231, 244]
noncomputable def ab_tm (i : Nat) : Term := .string (ab_str.getD i ("", 0, "")).1 (ab_str.getD i ("", 0, "")).2.1
theorem t6_ln : ∀ i, i < 6 → ab_len.getD i 0 < 2 ^ 31 := by decide +kernel
theorem t6_ex : ∀ i, i < 6 → Cond.exactly (ab_tm i) "java/lang/String" ∈ flatC ab_gv := by decide +kernel
theorem t6_co : ∀ i, i < 6 → Cond.eq (.field (ab_tm i) "java/lang/String" "coder" "B") (.int 0) ∈ flatC ab_gv := by decide +kernel
theorem t6_ar : ∀ i, i < 6 → Cond.arrayOf (.field (ab_tm i) "java/lang/String" "value" "[B") .byte ∈ flatC ab_gv := by decide +kernel
theorem t6_le : ∀ i, i < 6 → Cond.eq (.length (.field (ab_tm i) "java/lang/String" "value" "[B")) (.int (Int32.ofNat (ab_len.getD i 0))) ∈ flatC ab_gv := by decide +kernel
theorem t6_el : ∀ i, i < 6 → ∀ j, j < ab_len.getD i 0 → (flatC ab_gv)[ab_b6t.getD i 0 + j]? = some (Cond.eq (.elem (.field (ab_tm i) "java/lang/String" "value" "[B") (.int (Int32.ofNat j))) (.int ((ab_bys.getD i []).getD j 0))) := by decide +kernel
theorem t6_ne : ∀ i, i < 6 → ∀ j, j < 6 → i ≠ j → Cond.not (Cond.eq (ab_tm i) (ab_tm j)) ∈ flatC ab_gv ∨ Cond.not (Cond.eq (ab_tm j) (ab_tm i)) ∈ flatC ab_gv := by decide +kernel
theorem t6_at : ∀ i, i < 6 → ab_str[i]? = some (ab_str.getD i ("", 0, "")) := by decide +kernel
theorem ab_gm (w : Cond) (h : w ∈ flatC ab_gv) {args : Array Value} {s : State} (hg : ab_gv.before args s = true) : w.before args s = true := flat_of_before _ hg w h
theorem ab_kn {args : Array Value} {s : State} (htg : ∀ w ∈ ab_TG, w.before args s = true) : ∀ x ∈ vwCl, ∃ (cC : ClassId) (iS : Nat → Nat), u_Kn s x.1 x.2.1 x.2.2 cC iS :=
  List.forall_mem_cons.mpr ⟨⟨_, _, (u_known (ws := ab_TG) (C := RX0) (T := TX0) (N := 10) (n := 10) htg hin_X0 (htg _ (ab_in (tk_2 91 (by decide +kernel)) (by decide +kernel)))).choose_spec.choose_spec⟩, List.forall_mem_cons.mpr ⟨⟨_, _, (u_known (ws := ab_TG) (C := RX1) (T := TX1) (N := 2) (n := 2) htg hin_X1 (htg _ (ab_in (tk_2 50 (by decide +kernel)) (by decide +kernel)))).choose_spec.choose_spec⟩, List.forall_mem_cons.mpr ⟨⟨_, _, (u_known (ws := ab_TG) (C := RX2) (T := TX2) (N := 4) (n := 4) htg hin_X2 (htg _ (ab_in (tk_2 174 (by decide +kernel)) (by decide +kernel)))).choose_spec.choose_spec⟩, List.forall_mem_cons.mpr ⟨⟨_, _, (u_known (ws := ab_TG) (C := RX3) (T := TX3) (N := 2) (n := 2) htg hin_X3 (htg _ (ab_in (tk_2 158 (by decide +kernel)) (by decide +kernel)))).choose_spec.choose_spec⟩, List.forall_mem_cons.mpr ⟨⟨_, _, (u_known (ws := ab_TG) (C := RX4) (T := TX4) (N := 15) (n := 15) htg hin_X4 (htg _ (ab_in (tk_1 33 (by decide +kernel)) (by decide +kernel)))).choose_spec.choose_spec⟩, List.forall_mem_cons.mpr ⟨⟨_, _, (u_known (ws := ab_TG) (C := RX5) (T := TX5) (N := 5) (n := 5) htg hin_X5 (htg _ (ab_in (tk_2 134 (by decide +kernel)) (by decide +kernel)))).choose_spec.choose_spec⟩, List.forall_mem_cons.mpr ⟨⟨_, _, (u_known (ws := ab_TG) (C := RX6) (T := TX6) (N := 5) (n := 5) htg hin_X6 (htg _ (ab_in (tk_2 67 (by decide +kernel)) (by decide +kernel)))).choose_spec.choose_spec⟩, List.forall_mem_cons.mpr ⟨⟨_, _, (u_known (ws := ab_TG) (C := RX7) (T := TX7) (N := 7) (n := 7) htg hin_X7 (htg _ (ab_in (tk_2 14 (by decide +kernel)) (by decide +kernel)))).choose_spec.choose_spec⟩, List.forall_mem_cons.mpr ⟨⟨_, _, (u_known (ws := ab_TG) (C := RX8) (T := TX8) (N := 16) (n := 16) htg hin_X8 (htg _ (ab_in (tk_1 165 (by decide +kernel)) (by decide +kernel)))).choose_spec.choose_spec⟩, List.forall_mem_cons.mpr ⟨⟨_, _, (u_known (ws := ab_TG) (C := RX9) (T := TX9) (N := 1) (n := 1) htg hin_X9 (htg _ (ab_in (tk_1 152 (by decide +kernel)) (by decide +kernel)))).choose_spec.choose_spec⟩, List.forall_mem_cons.mpr ⟨⟨_, _, (u_known (ws := ab_TG) (C := RX10) (T := TX10) (N := 17) (n := 17) htg hin_X10 (htg _ (ab_in (tk_1 25 (by decide +kernel)) (by decide +kernel)))).choose_spec.choose_spec⟩, List.forall_mem_cons.mpr ⟨⟨_, _, (u_known (ws := ab_TG) (C := RX11) (T := TX11) (N := 51) (n := 51) htg hin_X11 (htg _ (ab_in (tk_5 236 (by decide +kernel)) (by decide +kernel)))).choose_spec.choose_spec⟩, fun _ h => nomatch h⟩⟩⟩⟩⟩⟩⟩⟩⟩⟩⟩⟩
theorem ab_D0 {args : Array Value} {s : State} (htg : ∀ w ∈ ab_TG, w.before args s = true) : ∃ D : va_G, va_K D vwCl [] s := by
  have h0 : ∀ c : Nat, ∃ q : ClassId × (Nat → Nat), ∀ x : vw_C, vwCl[c]? = some x → u_Kn s x.1 x.2.1 x.2.2 q.1 q.2 := by
    intro c
    cases hc : vwCl[c]? with
    | none => exact ⟨(0, fun _ => 0), fun x hx => by cases hx⟩
    | some x =>
      obtain ⟨cC, iS, h⟩ := ab_kn htg x (List.mem_of_getElem? hc)
      exact ⟨(cC, iS), fun y hy => by cases hy; exact h⟩
  obtain ⟨f, hf⟩ := Classical.axiomOfChoice h0
  exact ⟨(fun c => (f c).1, fun c => (f c).2), fun c q hq => hf c q hq, fun k q hk => by simp at hk⟩
theorem ab_X0 {s : State} {b L : Nat} {xs : Nat → Int32} (hts : ∀ w ∈ lw_tbl, w.before #[Value.ref b] s = true) (hX : va_X b L xs s s.heap) (hbl : b < s.heap.size) (hgv : ab_gv.before #[Value.ref b] s = true) : ∃ (X : ab_X) (D : va_G), X.1 = (b, L, s.heap.size) ∧ X.2.1 = xs ∧ ab_EX X D s s.heap := by
  have htg : ∀ w ∈ ab_TG, w.before #[Value.ref b] s = true := fun w h => hts w (List.mem_filter.mp h).1
  obtain ⟨D, hK⟩ := ab_D0 htg
  have hA : ∀ a : Nat, a < s.heap.size → ¬ (fun q : Nat => s.heap.size ≤ q) a := fun a h => Nat.not_le.mpr h
  -- the texts
  have hs0 : ∀ i : Nat, ∃ a : Nat, ∀ q : String × Nat × String, ab_str[i]? = some q → vk_R q.1 q.2.1 q.2.2 a s := by
    intro i
    cases hc : ab_str[i]? with
    | none => exact ⟨0, fun q hq => by cases hq⟩
    | some q =>
      have hm := List.mem_of_getElem? hc
      obtain ⟨a, c, cA, kA, q1, -⟩ := Cond.exactly_spec (args := #[Value.ref b]) (first := s) (o := none) (s := s) (idx := []) (t := .string q.1 q.2.1) (cls := "java/lang/String") (ab_gm _ (ab_st2 q hm) hgv)
      exact ⟨a, fun q' hq' => by cases hq'; exact vk_R.of (hts _ (ab_st0 q hm)) q1⟩
  obtain ⟨ad, had⟩ := Classical.axiomOfChoice hs0
  obtain ⟨adK, adV, hSS, hev⟩ := vk_Sof (args := #[Value.ref b]) (s := s) (N := 6) (tm := ab_tm) (len := ab_len) (byt := ab_bys) (A := fun q : Nat => s.heap.size ≤ q) t6_ln (fun i hi => ab_gm _ (t6_ex i hi) hgv) (fun i hi => ab_gm _ (t6_co i hi) hgv) (fun i hi => ab_gm _ (t6_ar i hi) hgv) (fun i hi => ab_gm _ (t6_le i hi) hgv) (fun i hi j hj => ab_gm _ (List.mem_of_getElem? (t6_el i hi j hj)) hgv) (fun i j hi hj hij => (t6_ne i hi j hj hij).elim (fun h => Or.inl (ab_gm _ h hgv)) (fun h => Or.inr (ab_gm _ h hgv))) hA
  have e6 : ∀ i, i < 6 → ad i = adK i := by
    intro i hi
    have h1 := (had i _ (t6_at i hi)).2
    have h2 := hev i hi
    have h3 : (Term.string (ab_str.getD i ("", 0, "")).1 (ab_str.getD i ("", 0, "")).2.1).eval #[] s none [] s = (ab_tm i).eval #[Value.ref b] s none [] s := rfl
    rw [h3, h2] at h1
    exact (Value.ref.inj (Option.some.inj h1)).symm
  have hSS' : vk_S 6 ab_len ab_bys ad adV (fun q : Nat => s.heap.size ≤ q) s s.heap := by
    refine ⟨fun i hi => ?_, fun i j hi hj h => hSS.2 i j hi hj (by rw [← e6 i hi, ← e6 j hj]; exact h)⟩
    rw [e6 i hi]
    exact hSS.1 i hi
  -- the statics
  have zCS : va_Z "java/lang/String" "COMPACT_STRINGS" "Z" (.int 1) (fun q : Nat => s.heap.size ≤ q) s s.heap := va_Zof (args := #[Value.ref b]) (hts _ (tk_1 48 (by decide +kernel))) (hts _ (tk_1 3 (by decide +kernel))) (va_eqt (ab_gm (Cond.eq (.static "java/lang/String" "COMPACT_STRINGS" "Z") (.int 1)) (by decide +kernel) hgv)) hA
  have zSF := va_Zqof (args := #[Value.ref b]) (s := s) (C := "jdk/internal/util/Preconditions") (n := "SIOOBE_FORMATTER") (d := "Ljava/util/function/BiFunction;") (A := fun q : Nat => s.heap.size ≤ q) (hts _ (tk_1 64 (by decide +kernel))) (hts _ (tk_1 5 (by decide +kernel))) (ab_gm (Cond.isRef (.static "jdk/internal/util/Preconditions" "SIOOBE_FORMATTER" "Ljava/util/function/BiFunction;")) (by decide +kernel) hgv) hA
  have zSF' : ∃ v : Value, v.category = 1 ∧ va_Z "jdk/internal/util/Preconditions" "SIOOBE_FORMATTER" "Ljava/util/function/BiFunction;" v (fun q : Nat => s.heap.size ≤ q) s s.heap := by
    rcases zSF with h | ⟨t, h⟩
    · exact ⟨.null, rfl, h⟩
    · exact ⟨.ref t, rfl, h⟩
  obtain ⟨v, hv, hZ⟩ := zSF'
  obtain ⟨t, ht, hT⟩ := va_Tof (args := #[Value.ref b]) (s := s) (tm := .static "SundialTreaty$ValleyText" "HIGHEST" "[I") (ty := .int) (N := 3) (f := fun j => .int (ab_hi.getD j 0)) (A := fun q : Nat => s.heap.size ≤ q) (by decide) (ab_gm (Cond.arrayOf (.static "SundialTreaty$ValleyText" "HIGHEST" "[I") .int) (by decide +kernel) hgv) (va_eqt (ab_gm (Cond.eq (.length (.static "SundialTreaty$ValleyText" "HIGHEST" "[I")) (.int (Int32.ofNat 3))) (by decide +kernel) hgv)) (fun j hj => by
    rcases (show j = 0 ∨ j = 1 ∨ j = 2 by omega) with rfl | rfl | rfl
    · exact va_eqt (ab_gm (Cond.eq (.elem (.static "SundialTreaty$ValleyText" "HIGHEST" "[I") (.int (Int32.ofNat 0))) (.int (ab_hi.getD 0 0))) (by decide +kernel) hgv)
    · exact va_eqt (ab_gm (Cond.eq (.elem (.static "SundialTreaty$ValleyText" "HIGHEST" "[I") (.int (Int32.ofNat 1))) (.int (ab_hi.getD 1 0))) (by decide +kernel) hgv)
    · exact va_eqt (ab_gm (Cond.eq (.elem (.static "SundialTreaty$ValleyText" "HIGHEST" "[I") (.int (Int32.ofNat 2))) (.int (ab_hi.getD 2 0))) (by decide +kernel) hgv)) hA
  have zHI : va_Z "SundialTreaty$ValleyText" "HIGHEST" "[I" (.ref t) (fun q : Nat => s.heap.size ≤ q) s s.heap := va_Zof (args := #[Value.ref b]) (hts _ (tk_1 158 (by decide +kernel))) (hts _ (tk_1 7 (by decide +kernel))) ht hA
  obtain ⟨t2, ht2, hT2⟩ := va_Tof (args := #[Value.ref b]) (s := s) (tm := .static "SundialTreaty$ValleyText" "LEAST" "[I") (ty := .int) (N := 3) (f := fun j => .int (ab_lo.getD j 0)) (A := fun q : Nat => s.heap.size ≤ q) (by decide) (ab_gm (Cond.arrayOf (.static "SundialTreaty$ValleyText" "LEAST" "[I") .int) (by decide +kernel) hgv) (va_eqt (ab_gm (Cond.eq (.length (.static "SundialTreaty$ValleyText" "LEAST" "[I")) (.int (Int32.ofNat 3))) (by decide +kernel) hgv)) (fun j hj => by
    rcases (show j = 0 ∨ j = 1 ∨ j = 2 by omega) with rfl | rfl | rfl
    · exact va_eqt (ab_gm (Cond.eq (.elem (.static "SundialTreaty$ValleyText" "LEAST" "[I") (.int (Int32.ofNat 0))) (.int (ab_lo.getD 0 0))) (by decide +kernel) hgv)
    · exact va_eqt (ab_gm (Cond.eq (.elem (.static "SundialTreaty$ValleyText" "LEAST" "[I") (.int (Int32.ofNat 1))) (.int (ab_lo.getD 1 0))) (by decide +kernel) hgv)
    · exact va_eqt (ab_gm (Cond.eq (.elem (.static "SundialTreaty$ValleyText" "LEAST" "[I") (.int (Int32.ofNat 2))) (.int (ab_lo.getD 2 0))) (by decide +kernel) hgv)) hA
  have zLO : va_Z "SundialTreaty$ValleyText" "LEAST" "[I" (.ref t2) (fun q : Nat => s.heap.size ≤ q) s s.heap := va_Zof (args := #[Value.ref b]) (hts _ (tk_3 117 (by decide +kernel))) (hts _ (tk_1 7 (by decide +kernel))) ht2 hA
  have zU := vx_Zqof (args := #[Value.ref b]) (s := s) (C := Bundle.tN) (n := "UNASSIGNED_STACK") (d := Bundle.steD) (A := fun q : Nat => s.heap.size ≤ q) (hts _ (tk_5 94 (by decide +kernel))) (hts _ (tk_1 17 (by decide +kernel))) (ab_gm (Cond.isRef (.static Bundle.tN "UNASSIGNED_STACK" Bundle.steD)) (by decide +kernel) hgv) hA
  have zN := vx_Zqof (args := #[Value.ref b]) (s := s) (C := Bundle.tN) (n := "SUPPRESSED_SENTINEL") (d := Bundle.listD) (A := fun q : Nat => s.heap.size ≤ q) (hts _ (tk_5 96 (by decide +kernel))) (hts _ (tk_1 17 (by decide +kernel))) (ab_gm (Cond.isRef (.static Bundle.tN "SUPPRESSED_SENTINEL" Bundle.listD)) (by decide +kernel) hgv) hA
  refine ⟨((b, L, s.heap.size), xs, ad, adV, fun i => if i = 0 then t else t2, v), D, rfl, rfl, Nat.le_refl _, hK, fun w hw hn => va_Nw.of (ab_nest_tab hn) (hts w hw), ⟨hX, hbl⟩, hv, fun i q hq => had i q hq, hSS', zCS, hZ, zHI, hT, zU, zN, va_AO.of (hts _ (tk_2 56 (by decide +kernel))), va_AO.of (hts _ (tk_2 173 (by decide +kernel))), zLO, hT2⟩
