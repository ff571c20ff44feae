/-! The law, from its entry to its end. -/
section
variable {p : Program} {l : Launch} {e : Env} {s : State} {m : MethodId} {below : List Frame} {meth : Method} {c : Code} {b L : Nat} {xs : Nat → Int32} {X : ab_X} {D : va_G} {z0 : ab_Z}
/-- the end with 1 on the stack -/
theorem ab_lend (C0 : lw_At p s m meth c b L xs) (hXs : X.1.2.2 = s.heap.size) {S : ab_S} {k : Nat} (h1 : ab_e1 (k, S) = true) (hd : k = 1 → decode code S.2.1 = .ok (.ireturn, 1)) : ab_ok p l e room_1 s m #[Value.ref b] below meth c (lw_Z below #[Value.ref b] s) 7 X D z0 S := by
  intro z ws H locs ls cst hR hl hs
  obtain ⟨⟨env, nl, aw, cl, sl⟩, pc, lv, st⟩ := S
  simp only [ab_e1] at h1
  split at h1
  · rename_i c1
    rw [Bool.and_eq_true, Bool.and_eq_true, Bool.and_eq_true, ab_ie_iff] at h1
    obtain ⟨⟨⟨g1, g2⟩, g3⟩, g4⟩ := h1
    subst g1
    obtain ⟨x, r, rfl, p1, p2⟩ := ab_st1 hs
    cases r with
    | cons _ _ => simp at p2
    | nil =>
      have e1 : x = .int 1 := by
        have h9 : ab_ev X z (.inl (none, 1)) = some (.int 1) := by
          simp only [ab_ev, ab_evI, Option.map_some]; rfl
        exact Option.some.inj (p1.symm.trans h9)
      subst e1
      refine va_forget (fun q hq => ?_) ?_
      · have h9 := hR.2.2.2.2.2.2.1.2.2 q hq
        rw [← hXs]; exact h9
      · refine W.widen (k := 600002) (n := 7302232) (Nat.le_of_ble_eq_true g3) (Nat.le_of_ble_eq_true g4) ?_
        exact lw_ret C0.1 C0.2.1 C0.2.2.1 C0.2.2.2.2.2.2.2.2.1 (hd (Nat.eq_of_beq_eq_true g2))
  · cases h1
theorem ab_allE_mem : ∀ {r : List (Nat × ab_S)}, ab_allE r = true → ∀ q ∈ r, ab_e1 q = true
  | [], _, q, h => by cases h
  | a :: r, h, q, hq => by
    simp only [ab_allE, Bool.and_eq_true] at h
    rcases List.mem_cons.mp hq with rfl | hq
    · exact h.1
    · exact ab_allE_mem h.2 q hq
/-- a case that the kernel has run -/
theorem ab_caseok (C0 : lw_At p s m meth c b L xs) (hXs : X.1.2.2 = s.heap.size) (hT : ∀ bb ∈ tb_LB, ∀ q ∈ bb, ab_tv p l e room_1 s m #[Value.ref b] below meth c (lw_Z below #[Value.ref b] s) cL_law 7 X D z0 (ab_eval ab_MEL 6000 10) (fun _ => False) q) {lo hi k0 k1 : Int} {pc : Nat} (h : ab_cas lo hi k0 k1 pc = true) : ab_ok p l e room_1 s m #[Value.ref b] below meth c (lw_Z below #[Value.ref b] s) 7 X D z0 (ab_sk lo hi k0 k1 pc) := by
  unfold ab_cas ab_gd at h
  split at h
  · cases h
  · rename_i r hr
    refine ab_run_ok hT hr (fun k pc S hS hpc hf => ?_) _ List.mem_cons_self
    subst hpc
    obtain ⟨f, bb, hb1, hb2⟩ := hf
    have htv := hT bb hb1 _ hb2
    refine ab_lend C0 hXs (ab_allE_mem h _ hS) (fun hk => ?_)
    subst hk
    exact htv
/-- the first int below or above a number -/
theorem ab_cut {lo hi k0 k1 : Int} {pc : Nat} {Q : State → Prop} {args : Array Value} {R : Room} (mid mid' : Int) (hm : mid + 1 = mid') (h1 : ab_ok p l e R s m args below meth c Q 7 X D z0 (ab_sk lo mid k0 k1 pc)) (h2 : ab_ok p l e R s m args below meth c Q 7 X D z0 (ab_sk mid' hi k0 k1 pc)) : ab_ok p l e R s m args below meth c Q 7 X D z0 (ab_sk lo hi k0 k1 pc) := by
  intro z ws H locs ls cst hR hl hs
  obtain ⟨x, hx, a1, a2⟩ := hR.1.2 1 (lo, hi) rfl
  have hset : ∀ lo' hi' : Int, lo' ≤ x.toInt → x.toInt ≤ hi' → ab_eR (ab_sk lo' hi' k0 k1 pc).1.1 z.1 := by
    intro lo' hi' b1 b2
    refine ⟨hR.1.1, fun v q hq => ?_⟩
    match v, hq with
    | 0, hq => exact hR.1.2 0 q hq
    | 1, hq => cases hq; exact ⟨x, hx, b1, b2⟩
    | v + 2, hq => exact hR.1.2 (v + 2) q hq
  by_cases hc : x.toInt ≤ mid
  · exact h1 z ws H locs ls cst (hR.ref (hset lo mid a1 hc)) hl hs
  · exact h2 z ws H locs ls cst (hR.ref (hset mid' hi (by omega) a2)) hl hs
set_option maxRecDepth 100000 in
set_option maxHeartbeats 4000000 in
theorem ab_ends (C0 : lw_At p s m meth c b L xs) (hXs : X.1.2.2 = s.heap.size) (hT : ∀ bb ∈ tb_LB, ∀ q ∈ bb, ab_tv p l e room_1 s m #[Value.ref b] below meth c (lw_Z below #[Value.ref b] s) cL_law 7 X D z0 (ab_eval ab_MEL 6000 10) (fun _ => False) q) : ∀ q ∈ ab_outA, ab_ok p l e room_1 s m #[Value.ref b] below meth c (lw_Z below #[Value.ref b] s) 7 X D z0 q.2 :=
  List.forall_mem_cons.mpr ⟨ab_caseok C0 hXs hT ca_40, 
  List.forall_mem_cons.mpr ⟨ab_caseok C0 hXs hT ca_39, 
  List.forall_mem_cons.mpr ⟨ab_caseok C0 hXs hT ca_38, 
  List.forall_mem_cons.mpr ⟨ab_caseok C0 hXs hT ca_37, 
  List.forall_mem_cons.mpr ⟨ab_caseok C0 hXs hT ca_36, 
  List.forall_mem_cons.mpr ⟨ab_caseok C0 hXs hT ca_35, 
  List.forall_mem_cons.mpr ⟨ab_caseok C0 hXs hT ca_34, 
  List.forall_mem_cons.mpr ⟨ab_caseok C0 hXs hT ca_33, 
  List.forall_mem_cons.mpr ⟨ab_caseok C0 hXs hT ca_32, 
  List.forall_mem_cons.mpr ⟨ab_caseok C0 hXs hT ca_31, 
  List.forall_mem_cons.mpr ⟨ab_caseok C0 hXs hT ca_30, 
  List.forall_mem_cons.mpr ⟨ab_caseok C0 hXs hT ca_29, 
  List.forall_mem_cons.mpr ⟨ab_caseok C0 hXs hT ca_28, 
  List.forall_mem_cons.mpr ⟨ab_caseok C0 hXs hT ca_27, 
  List.forall_mem_cons.mpr ⟨ab_caseok C0 hXs hT ca_26, 
  List.forall_mem_cons.mpr ⟨ab_caseok C0 hXs hT ca_25, 
  List.forall_mem_cons.mpr ⟨ab_caseok C0 hXs hT ca_24, 
  List.forall_mem_cons.mpr ⟨ab_caseok C0 hXs hT ca_23, 
  List.forall_mem_cons.mpr ⟨ab_caseok C0 hXs hT ca_22, 
  List.forall_mem_cons.mpr ⟨ab_caseok C0 hXs hT ca_21, 
  List.forall_mem_cons.mpr ⟨ab_cut 0 1 (by decide) (ab_caseok C0 hXs hT ca_20_0) (ab_cut 9 10 (by decide) (ab_caseok C0 hXs hT ca_20_1) (ab_cut 17 18 (by decide) (ab_caseok C0 hXs hT ca_20_2) (ab_cut 24 25 (by decide) (ab_caseok C0 hXs hT ca_20_3) (ab_cut 30 31 (by decide) (ab_caseok C0 hXs hT ca_20_4) (ab_cut 35 36 (by decide) (ab_caseok C0 hXs hT ca_20_5) (ab_cut 40 41 (by decide) (ab_caseok C0 hXs hT ca_20_6) (ab_cut 45 46 (by decide) (ab_caseok C0 hXs hT ca_20_7) (ab_cut 50 51 (by decide) (ab_caseok C0 hXs hT ca_20_8) (ab_cut 55 56 (by decide) (ab_caseok C0 hXs hT ca_20_9) (ab_cut 60 61 (by decide) (ab_caseok C0 hXs hT ca_20_10) (ab_caseok C0 hXs hT ca_20_11))))))))))), 
  List.forall_mem_cons.mpr ⟨ab_caseok C0 hXs hT ca_19, 
  List.forall_mem_cons.mpr ⟨ab_caseok C0 hXs hT ca_18, 
  List.forall_mem_cons.mpr ⟨ab_caseok C0 hXs hT ca_17, 
  List.forall_mem_cons.mpr ⟨ab_caseok C0 hXs hT ca_16, 
  List.forall_mem_cons.mpr ⟨ab_caseok C0 hXs hT ca_15, 
  List.forall_mem_cons.mpr ⟨ab_caseok C0 hXs hT ca_14, 
  List.forall_mem_cons.mpr ⟨ab_cut 0 1 (by decide) (ab_caseok C0 hXs hT ca_13_0) (ab_cut 9 10 (by decide) (ab_caseok C0 hXs hT ca_13_1) (ab_cut 17 18 (by decide) (ab_caseok C0 hXs hT ca_13_2) (ab_cut 24 25 (by decide) (ab_caseok C0 hXs hT ca_13_3) (ab_cut 30 31 (by decide) (ab_caseok C0 hXs hT ca_13_4) (ab_cut 35 36 (by decide) (ab_caseok C0 hXs hT ca_13_5) (ab_cut 40 41 (by decide) (ab_caseok C0 hXs hT ca_13_6) (ab_cut 45 46 (by decide) (ab_caseok C0 hXs hT ca_13_7) (ab_cut 50 51 (by decide) (ab_caseok C0 hXs hT ca_13_8) (ab_cut 55 56 (by decide) (ab_caseok C0 hXs hT ca_13_9) (ab_cut 60 61 (by decide) (ab_caseok C0 hXs hT ca_13_10) (ab_caseok C0 hXs hT ca_13_11))))))))))), 
  List.forall_mem_cons.mpr ⟨ab_caseok C0 hXs hT ca_12, 
  List.forall_mem_cons.mpr ⟨ab_caseok C0 hXs hT ca_11, 
  List.forall_mem_cons.mpr ⟨ab_caseok C0 hXs hT ca_10, 
  List.forall_mem_cons.mpr ⟨ab_caseok C0 hXs hT ca_9, 
  List.forall_mem_cons.mpr ⟨ab_caseok C0 hXs hT ca_8, 
  List.forall_mem_cons.mpr ⟨ab_caseok C0 hXs hT ca_7, 
  List.forall_mem_cons.mpr ⟨ab_caseok C0 hXs hT ca_6, 
  List.forall_mem_cons.mpr ⟨ab_caseok C0 hXs hT ca_5, 
  List.forall_mem_cons.mpr ⟨ab_caseok C0 hXs hT ca_4, 
  List.forall_mem_cons.mpr ⟨ab_caseok C0 hXs hT ca_3, 
  List.forall_mem_cons.mpr ⟨ab_caseok C0 hXs hT ca_2, 
  List.forall_mem_cons.mpr ⟨ab_caseok C0 hXs hT ca_1, 
  List.forall_mem_cons.mpr ⟨ab_caseok C0 hXs hT ca_0, 
  List.forall_mem_cons.mpr ⟨ab_caseok C0 hXs hT ca_41, 
  List.forall_mem_cons.mpr ⟨ab_lend C0 hXs (k := 1) (S := ab_sn) (by decide +kernel) (fun _ => by decide +kernel), fun _ h => nomatch h⟩⟩⟩⟩⟩⟩⟩⟩⟩⟩⟩⟩⟩⟩⟩⟩⟩⟩⟩⟩⟩⟩⟩⟩⟩⟩⟩⟩⟩⟩⟩⟩⟩⟩⟩⟩⟩⟩⟩⟩⟩⟩⟩
end
set_option maxRecDepth 100000 in
set_option maxHeartbeats 4000000 in
theorem ab_sndall {l : Launch} {X : ab_X} {D : va_G} : ∀ M ∈ ab_MEL, ab_snd l X D ab_MEL M :=
  List.forall_mem_cons.mpr ⟨sn_X10_init, 
  List.forall_mem_cons.mpr ⟨sn_X4_init, 
  List.forall_mem_cons.mpr ⟨sn_J0_length_8abf5, 
  List.forall_mem_cons.mpr ⟨sn_J0_coder_7d493, 
  List.forall_mem_cons.mpr ⟨sn_J0_charAt_5068e, 
  List.forall_mem_cons.mpr ⟨sn_J0_isLatin1_aae02, 
  List.forall_mem_cons.mpr ⟨sn_J1_charAt_3b067, 
  List.forall_mem_cons.mpr ⟨sn_J0_checkIndex_df160, 
  List.forall_mem_cons.mpr ⟨sn_J3_checkIndex_8e157, 
  List.forall_mem_cons.mpr ⟨sn_X9_init, 
  List.forall_mem_cons.mpr ⟨sn_X8_init, 
  List.forall_mem_cons.mpr ⟨sn_X7_init, 
  List.forall_mem_cons.mpr ⟨sn_X1_init, 
  List.forall_mem_cons.mpr ⟨sn_X6_init, 
  List.forall_mem_cons.mpr ⟨sn_X0_init, 
  List.forall_mem_cons.mpr ⟨sn_X5_init, 
  List.forall_mem_cons.mpr ⟨sn_X3_init, 
  List.forall_mem_cons.mpr ⟨sn_X2_init, 
  List.forall_mem_cons.mpr ⟨sn_X11_init, 
  List.forall_mem_cons.mpr ⟨sn_X11_clears, 
  List.forall_mem_cons.mpr ⟨sn_X10_feed, 
  List.forall_mem_cons.mpr ⟨sn_X4_put, 
  List.forall_mem_cons.mpr ⟨sn_X11_feed, 
  List.forall_mem_cons.mpr ⟨sn_X11_four, 
  List.forall_mem_cons.mpr ⟨sn_X10_end, 
  List.forall_mem_cons.mpr ⟨sn_X11_end, 
  List.forall_mem_cons.mpr ⟨sn_X10_valley, 
  List.forall_mem_cons.mpr ⟨sn_X9_readInto, 
  List.forall_mem_cons.mpr ⟨sn_X8_makeEmpty, 
  List.forall_mem_cons.mpr ⟨sn_X4_begin, 
  List.forall_mem_cons.mpr ⟨sn_X4_next, 
  List.forall_mem_cons.mpr ⟨sn_X4_atEnd, 
  List.forall_mem_cons.mpr ⟨sn_X7_beginIn, 
  List.forall_mem_cons.mpr ⟨sn_X11_valley, 
  List.forall_mem_cons.mpr ⟨sn_X11_taken, 
  List.forall_mem_cons.mpr ⟨sn_X11_next, 
  List.forall_mem_cons.mpr ⟨sn_X11_peek, 
  List.forall_mem_cons.mpr ⟨sn_X10_fault, 
  List.forall_mem_cons.mpr ⟨sn_X11_fault, 
  List.forall_mem_cons.mpr ⟨sn_L_town, 
  List.forall_mem_cons.mpr ⟨sn_X10_town, 
  List.forall_mem_cons.mpr ⟨sn_X10_hasTown, 
  List.forall_mem_cons.mpr ⟨sn_X11_town, 
  List.forall_mem_cons.mpr ⟨sn_X11_isTown, 
  List.forall_mem_cons.mpr ⟨sn_X11_isIn, 
  List.forall_mem_cons.mpr ⟨sn_X11_throwsIf, 
  List.forall_mem_cons.mpr ⟨sn_X11_thrown, 
  List.forall_mem_cons.mpr ⟨sn_L_due, 
  List.forall_mem_cons.mpr ⟨sn_X10_due, 
  List.forall_mem_cons.mpr ⟨sn_X11_due, 
  List.forall_mem_cons.mpr ⟨sn_L_train, 
  List.forall_mem_cons.mpr ⟨sn_X10_train, 
  List.forall_mem_cons.mpr ⟨sn_X10_hasTrain, 
  List.forall_mem_cons.mpr ⟨sn_X11_train, 
  List.forall_mem_cons.mpr ⟨sn_X11_isTrain, 
  List.forall_mem_cons.mpr ⟨sn_L_shows, 
  List.forall_mem_cons.mpr ⟨sn_X10_shows, 
  List.forall_mem_cons.mpr ⟨sn_X11_shows, 
  List.forall_mem_cons.mpr ⟨sn_L_now, 
  List.forall_mem_cons.mpr ⟨sn_X10_now, 
  List.forall_mem_cons.mpr ⟨sn_X10_bendsAdded, 
  List.forall_mem_cons.mpr ⟨sn_X10_added, 
  List.forall_mem_cons.mpr ⟨sn_X7_breachBits, 
  List.forall_mem_cons.mpr ⟨sn_X10_minutesOff, 
  List.forall_mem_cons.mpr ⟨sn_X11_now, 
  List.forall_mem_cons.mpr ⟨sn_X11_sumOf, 
  List.forall_mem_cons.mpr ⟨sn_X11_breachSet, 
  List.forall_mem_cons.mpr ⟨sn_X10_bend, 
  List.forall_mem_cons.mpr ⟨sn_X11_bend, 
  List.forall_mem_cons.mpr ⟨sn_X10_shade, 
  List.forall_mem_cons.mpr ⟨sn_X11_shade, 
  List.forall_mem_cons.mpr ⟨sn_X10_clear, 
  List.forall_mem_cons.mpr ⟨sn_X11_clear, 
  List.forall_mem_cons.mpr ⟨sn_X10_freeze, 
  List.forall_mem_cons.mpr ⟨sn_X1_keep, 
  List.forall_mem_cons.mpr ⟨sn_X7_copyFrom, 
  List.forall_mem_cons.mpr ⟨sn_X7_springBack, 
  List.forall_mem_cons.mpr ⟨sn_X11_freeze, 
  List.forall_mem_cons.mpr ⟨sn_X11_keep, 
  List.forall_mem_cons.mpr ⟨sn_X11_freezes, 
  List.forall_mem_cons.mpr ⟨sn_X10_days, 
  List.forall_mem_cons.mpr ⟨sn_X7_passDays, 
  List.forall_mem_cons.mpr ⟨sn_X7_passDay, 
  List.forall_mem_cons.mpr ⟨sn_X11_days, 
  List.forall_mem_cons.mpr ⟨sn_X11_goesOn, 
  List.forall_mem_cons.mpr ⟨sn_X10_undo, 
  List.forall_mem_cons.mpr ⟨sn_X1_takeBack, 
  List.forall_mem_cons.mpr ⟨sn_X11_undo, 
  List.forall_mem_cons.mpr ⟨sn_L_noonLong, 
  List.forall_mem_cons.mpr ⟨sn_X10_noonLong, 
  List.forall_mem_cons.mpr ⟨sn_X11_noonLong, 
  List.forall_mem_cons.mpr ⟨sn_X11_sorts, 
  List.forall_mem_cons.mpr ⟨sn_L_oneNoon, 
  List.forall_mem_cons.mpr ⟨sn_X10_oneNoon, 
  List.forall_mem_cons.mpr ⟨sn_X7_middleNoon, 
  List.forall_mem_cons.mpr ⟨sn_X11_oneNoon, 
  List.forall_mem_cons.mpr ⟨sn_X10_even, 
  List.forall_mem_cons.mpr ⟨sn_X11_even, 
  List.forall_mem_cons.mpr ⟨sn_X11_absolute, 
  List.forall_mem_cons.mpr ⟨sn_L_evenAt, 
  List.forall_mem_cons.mpr ⟨sn_X10_evenAt, 
  List.forall_mem_cons.mpr ⟨sn_X11_evenAt, 
  List.forall_mem_cons.mpr ⟨sn_X10_kept, 
  List.forall_mem_cons.mpr ⟨sn_X7_bendToDues, 
  List.forall_mem_cons.mpr ⟨sn_X11_kept, 
  List.forall_mem_cons.mpr ⟨sn_X11_tries, 
  List.forall_mem_cons.mpr ⟨sn_X11_movesToDues, 
  List.forall_mem_cons.mpr ⟨sn_X11_back, 
  List.forall_mem_cons.mpr ⟨sn_X10_worst, 
  List.forall_mem_cons.mpr ⟨sn_X11_worst, 
  List.forall_mem_cons.mpr ⟨sn_L_spare, 
  List.forall_mem_cons.mpr ⟨sn_X10_spare, 
  List.forall_mem_cons.mpr ⟨sn_X11_spare, 
  List.forall_mem_cons.mpr ⟨sn_X10_route, 
  List.forall_mem_cons.mpr ⟨sn_X11_route, 
  List.forall_mem_cons.mpr ⟨sn_X10_routeAt, 
  List.forall_mem_cons.mpr ⟨sn_X11_routeAt, 
  List.forall_mem_cons.mpr ⟨sn_X10_shadows, 
  List.forall_mem_cons.mpr ⟨sn_X11_shadows, 
  List.forall_mem_cons.mpr ⟨sn_L_votes, 
  List.forall_mem_cons.mpr ⟨sn_X10_votes, 
  List.forall_mem_cons.mpr ⟨sn_X11_votes, 
  List.forall_mem_cons.mpr ⟨sn_X10_nearer, 
  List.forall_mem_cons.mpr ⟨sn_X7_comeNearer, 
  List.forall_mem_cons.mpr ⟨sn_X11_nearer, 
  List.forall_mem_cons.mpr ⟨sn_L_nearerAt, 
  List.forall_mem_cons.mpr ⟨sn_X10_nearerAt, 
  List.forall_mem_cons.mpr ⟨sn_X11_nearerAt, 
  List.forall_mem_cons.mpr ⟨sn_X10_right, 
  List.forall_mem_cons.mpr ⟨sn_X11_right, 
  List.forall_mem_cons.mpr ⟨sn_X10_turns, 
  List.forall_mem_cons.mpr ⟨sn_X11_turns, 
  List.forall_mem_cons.mpr ⟨sn_X10_motto, 
  List.forall_mem_cons.mpr ⟨sn_X11_motto, 
  List.forall_mem_cons.mpr ⟨sn_X10_byteAt, 
  List.forall_mem_cons.mpr ⟨sn_X11_byteAt, 
  List.forall_mem_cons.mpr ⟨sn_X10_drawn, 
  List.forall_mem_cons.mpr ⟨sn_X11_drawn, 
  List.forall_mem_cons.mpr ⟨sn_X10_odds, 
  List.forall_mem_cons.mpr ⟨sn_X11_odds, 
  List.forall_mem_cons.mpr ⟨sn_X10_book, 
  List.forall_mem_cons.mpr ⟨sn_X0_read, 
  List.forall_mem_cons.mpr ⟨sn_X0_judge, 
  List.forall_mem_cons.mpr ⟨sn_X11_book, 
  List.forall_mem_cons.mpr ⟨sn_X10_told, 
  List.forall_mem_cons.mpr ⟨sn_X11_told, 
  List.forall_mem_cons.mpr ⟨sn_X10_sentence, 
  List.forall_mem_cons.mpr ⟨sn_X6_read, 
  List.forall_mem_cons.mpr ⟨sn_X6_readCond, 
  List.forall_mem_cons.mpr ⟨sn_X6_readAll, 
  List.forall_mem_cons.mpr ⟨sn_X6_readOne, 
  List.forall_mem_cons.mpr ⟨sn_X6_beginsOne, 
  List.forall_mem_cons.mpr ⟨sn_X4_failAs, 
  List.forall_mem_cons.mpr ⟨sn_X11_sentence, 
  List.forall_mem_cons.mpr ⟨sn_X11_operand, 
  List.forall_mem_cons.mpr ⟨sn_X11_isWord, 
  List.forall_mem_cons.mpr ⟨sn_X11_isSign, 
  List.forall_mem_cons.mpr ⟨sn_X11_leafOf, 
  List.forall_mem_cons.mpr ⟨sn_X11_bad, 
  List.forall_mem_cons.mpr ⟨sn_X10_said, 
  List.forall_mem_cons.mpr ⟨sn_X11_said, 
  List.forall_mem_cons.mpr ⟨sn_X10_image, 
  List.forall_mem_cons.mpr ⟨sn_X8_copyFrom, 
  List.forall_mem_cons.mpr ⟨sn_X6_copyFrom, 
  List.forall_mem_cons.mpr ⟨sn_X11_image, 
  List.forall_mem_cons.mpr ⟨sn_X10_restore, 
  List.forall_mem_cons.mpr ⟨sn_X11_restore, 
  List.forall_mem_cons.mpr ⟨sn_X10_count, 
  List.forall_mem_cons.mpr ⟨sn_X8_limit, 
  List.forall_mem_cons.mpr ⟨sn_X8_change, 
  List.forall_mem_cons.mpr ⟨sn_X8_frost, 
  List.forall_mem_cons.mpr ⟨sn_X11_count, fun _ h => nomatch h⟩⟩⟩⟩⟩⟩⟩⟩⟩⟩⟩⟩⟩⟩⟩⟩⟩⟩⟩⟩⟩⟩⟩⟩⟩⟩⟩⟩⟩⟩⟩⟩⟩⟩⟩⟩⟩⟩⟩⟩⟩⟩⟩⟩⟩⟩⟩⟩⟩⟩⟩⟩⟩⟩⟩⟩⟩⟩⟩⟩⟩⟩⟩⟩⟩⟩⟩⟩⟩⟩⟩⟩⟩⟩⟩⟩⟩⟩⟩⟩⟩⟩⟩⟩⟩⟩⟩⟩⟩⟩⟩⟩⟩⟩⟩⟩⟩⟩⟩⟩⟩⟩⟩⟩⟩⟩⟩⟩⟩⟩⟩⟩⟩⟩⟩⟩⟩⟩⟩⟩⟩⟩⟩⟩⟩⟩⟩⟩⟩⟩⟩⟩⟩⟩⟩⟩⟩⟩⟩⟩⟩⟩⟩⟩⟩⟩⟩⟩⟩⟩⟩⟩⟩⟩⟩⟩⟩⟩⟩⟩⟩⟩⟩⟩⟩⟩⟩⟩⟩⟩⟩⟩
