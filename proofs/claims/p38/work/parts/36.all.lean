/-! The whole. -/
set_option maxHeartbeats 4000000 in
theorem whole_start {p : Program} {e : Env} {s : State} {m : MethodId} {below : List Frame} {meth : Method} {c : Code} (l : Launch) (hflags : l.flags = flags0) {b L : Nat} {xs : Nat → Int32} (hL : L ≤ 3072) (C0 : lw_At p s m meth c b L xs) : W p l e room_1 s m #[Value.ref b] below meth c s.heap [] 0 0 (lw_Z below #[Value.ref b] s) (entryFrame m ([Value.ref b] : List Value).toArray 7) := by
  obtain ⟨X, D, hX1, hX2, hE⟩ := ab_X0 C0.2.2.2.2.2.1 C0.2.2.2.2.2.2.1 C0.2.2.2.2.2.2.2.1 C0.2.2.2.2.2.2.2.2.2
  have hst : l.stackTraces = false := by unfold Launch.stackTraces; rw [hflags]; decide +kernel
  have K : ab_cal l X D 45 ab_MEL lw_cal := by
    have h9 := ab_all2 hst (X := X) (D := D) (ME := ab_ME2) (fuel := 1000000) (by rw [ab_me2]; exact ab_sndall) ab_small 32 45 (by decide)
    rw [ab_me2] at h9
    exact h9
  have C : ab_cx p room_1 s m #[Value.ref b] c code RL 7 X D := ⟨C0.1, C0.2.1, C0.2.2.2.1, C0.2.2.2.2.1, fun w hw => C0.2.2.2.2.2.1 w (List.mem_filter.mp hw).1, hE, Nat.le_of_ble_eq_true rfl, Nat.le_of_ble_eq_true rfl⟩
  have hb : X.1.1 = b := by rw [hX1]
  have hd1 : 16 * (45 + 1) ≤ room_1.frames := Nat.le_of_ble_eq_true rfl
  have hd2 : 200 * (45 + 1) ≤ room_1.locals := Nat.le_of_ble_eq_true rfl
  have hok : ab_ok p l e room_1 s m #[Value.ref b] below meth c (lw_Z below #[Value.ref b] s) 7 X D (([], [], []), [], []) ab_f0 := by
    obtain ⟨os, ho, hEs⟩ := ab_alR_gd fr_0
    refine ab_run_ok (sn_LA K C hd1 hd2 (A := 601024) (B := 7293034) (Nat.le_refl _) (Nat.le_refl _)) ho (fun k pc S hS _ _ => ?_) _ List.mem_cons_self
    have h1 := List.all_eq_true.mp hEs (k, S) hS
    unfold ab_f1e at h1
    split at h1
    · rename_i env nl aw cl sl pc' lv st heq
      cases heq
      rw [Bool.and_eq_true, Bool.and_eq_true, Bool.and_eq_true, Bool.and_eq_true, Bool.and_eq_true, Bool.and_eq_true, Bool.and_eq_true, Bool.and_eq_true, Bool.and_eq_true, Bool.and_eq_true] at h1
      obtain ⟨⟨⟨⟨⟨⟨⟨c1, c2⟩, c3⟩, c4⟩, c5⟩, c6⟩, c7⟩, c8, c9, c10, c11⟩ := h1
      have c1 := Nat.eq_of_beq_eq_true c1
      subst c1
      intro z ws H locs ls cst hR hl hs
      dsimp only at hR hl hs ⊢
      cases st with
      | cons _ _ => cases c2
      | nil =>
        cases cst with
        | cons _ _ => simp at hs
        | nil =>
          obtain ⟨z', ws', e1, e2, hR'⟩ := ab_perm (mz := 2) (envT := ab_lT.1) (rho := nI 0 :: List.replicate 2 0) (fun v h1 h2 => by
            match v, h1, h2 with
            | 0, h1, _ => first | rfl | omega
            | 1, h1, _ => first | rfl | omega
            | 2, h1, _ => first | rfl | omega
            | v + 3, _, h2 => omega) hR c7 c6 ⟨rfl, fun v q hq => by
            match v, hq with
            | 0, hq => cases hq; exact ⟨_, rfl, by decide, by decide⟩
            | 1, hq => cases hq; exact ⟨_, rfl, by decide, by decide⟩
            | 2, hq => cases hq; exact ⟨_, rfl, by decide, by decide⟩
            | v + 3, hq => cases hq⟩
          have hl' : ab_lR X z' 7 ls ab_lvT := ⟨hl.1, hl.2.1, ab_pmVs_ok e2 (by rw [e1]; rfl) hl c5⟩
          have hJ' : ∀ x, z'.1[1]? = some x → lw_JJ ws' x := by
            intro x hx
            have hx0 : x = 0 := by
              rw [e1] at hx
              cases hx
              rfl
            subst hx0
            refine And.intro (And.intro (fun j hj => ?_) ?_) (lw_JX_ini hR hR' e2 c7 c10 c11)
            · exfalso
              have e0 : (0 : Int32).toInt = 0 := by decide
              omega
            have hw0 := hR.2.2.2.1.1.2
            obtain ⟨aw1, cw1, fw1, k1, m1⟩ := lw_wd_ok hw0 c8
            obtain ⟨aw2, cw2, fw2, k2, m2⟩ := lw_wd_ok hw0 c9
            have hw' := hR'.2.2.2.1.1.2
            obtain ⟨d3, ov3, hc3⟩ := lw_flk_ok lw_R4L (k := 38) (t := 1) (n := 22) (by decide)
            obtain ⟨d4, ov4, hc4⟩ := lw_flk_ok lw_R4L (k := 150) (t := 1) (n := 22) (by decide)
            obtain ⟨aw3, cw3, fw3, k3⟩ := lw_sh1 hw' hc3
            obtain ⟨aw4, cw4, fw4, k4⟩ := lw_sh1 hw' hc4
            have ea : aw3 = aw1 := by
              have g := e2 38 3 rfl
              rw [cu_ad hR'.2.2.1 k3, cu_ad hR.2.2.1 k1] at g
              exact Option.some.inj g
            have eb : aw4 = aw2 := by
              have g := e2 150 148 rfl
              rw [cu_ad hR'.2.2.1 k4, cu_ad hR.2.2.1 k2] at g
              exact Option.some.inj g
            subst ea eb
            refine ⟨fun j hj => ?_, fun j hj => ?_⟩
            · rw [cu_q_of k3, jc_rowq hR'.2.2.2.2.1 hR.2.2.2.2.1 k3 k1 j hj hj]
              exact m1 j hj
            · rw [cu_q_of k4, jc_rowq hR'.2.2.2.2.1 hR.2.2.2.2.1 k4 k2 j hj hj]
              exact m2 j hj
          refine W.widen (k := 167) (n := 5221) (Nat.le_of_ble_eq_true c3) (Nat.le_of_ble_eq_true c4) ?_
          exact ab_lloop C0 hX1 hX2 hL C K (by decide) hd1 hd2 512 0 167 5221 (by omega) (by omega) (by omega) (by omega) z' ws' H locs ls (by rw [e1]; rfl) hR' hJ' hl'
    · cases h1
  refine ab_first (as := [.inr (.inr (1, 0))]) (z := ([], [], [])) (ws := []) (aw := ([], [])) (nl := 0) (env := []) hE ⟨⟨rfl, fun v q hq => by simp at hq⟩, rfl, rfl, ⟨fun i j p q h => by simp at h, fun k q h => by simp at h⟩, trivial⟩ ?_ ⟨⟨rfl, fun k c hk => by simp at hk⟩, fun f hf => by cases hf⟩ (fun k q h => by simp at h) (by decide) hok
  simp only [List.map_cons, List.map_nil, ab_ev, ab_evR, hb]
set_option maxHeartbeats 4000000 in
theorem lw_walk (l : Launch) (hflags : l.flags = flags0) (b : Addr) (xs : List Int32) : MetFree l x (headSpec (Jvm.Cond.code x code maxLocals ret :: tables_1) room_1) (lw_P b xs) (fun _ _ _ _ _ => True) lw_Q := by
  refine MetFree.of_bodyS (code := code) (maxLocals := maxLocals) (ret := ret) (by decide) ?_ ?_
  · intro args s m h hn
    obtain ⟨meth, c, h1, h2, h3, h4, h5, h6, -, -⟩ := Cond.code_spec hn (atoms_spec (ws := Jvm.Cond.code x code maxLocals ret :: tables_1) h _ List.mem_cons_self)
    exact ⟨meth, c, h1, h2, h3, h4, h5, h6⟩
  · intro p e s m args below meth c s₁ B hml0 hP _
    obtain ⟨rfl, hx, hbd, hgv⟩ := hP
    obtain ⟨scr, harrAt, hlist, hof, hsmall⟩ := hx
    obtain ⟨hcb, hkn, -, -⟩ := State.arrayAt?_spec harrAt
    have hown : s.vm.findClass R_law = some m.cls := findClass_of_methodNamed B.named
    have hts0 : ∀ c ∈ (Jvm.Cond.code x code maxLocals ret :: tables_1), c.before #[Value.ref b] s = true := atoms_spec (ws := Jvm.Cond.code x code maxLocals ret :: tables_1) B.pre
    have hts : ∀ w ∈ lw_tbl, w.before #[Value.ref b] s = true := k2_hts_sels lw_privs (fun w hw => hts0 w (List.mem_cons_of_mem _ hw)) lw_privs_ok
    have hml : c.maxLocals = 7 := B.maxLocals_eq (hts0 _ List.mem_cons_self)
    have X₀ : Stand p l e room_1 s m #[Value.ref b] below meth c s₁ [] 0 0 := Stand.of_body B
    have hh0 : s₁.heap = s.heap := by rw [B.state]; rfl
    have hsz : scr.slots.size = xs.length := by rw [← Array.length_toList, hlist, List.length_map]
    have hval : ∀ j : Nat, j < xs.length → scr.slots[j]? = some (.int (xs.getD j 0)) := fun j hj => by
      rw [← Array.getElem?_toList, hlist]
      simp [hj]
    have hbl : b < s.heap.size := (Array.getElem?_eq_some_iff.mp hcb).1
    have hX : va_X b xs.length (fun j => xs.getD j 0) s s.heap := ⟨scr, hcb, hof, hkn, hsz, hval⟩
    have K : W p l e room_1 s m #[Value.ref b] below meth c s₁.heap [] 0 0 (lw_Z below #[Value.ref b] s) (entryFrame m ([Value.ref b] : List Value).toArray 7) := by
      rw [hh0]
      exact whole_start l hflags hbd ⟨B.exec, B.bytes, B.returns, hml, hown, hts, hX, hbl, B.notSynchronized, hgv⟩
    obtain ⟨t, a1, o, b1, b2, b3⟩ := K s₁ rfl X₀
    exact ⟨t, o, a1, b1, b2, b3⟩
theorem lw_pre_spec {args : Array Value} {s : State} (h : (Jvm.Cond.and given_1 narrow_1).before args s = true) (hr : rest_1_c.before args s = true) : ∃ (b : Addr) (xs : List Int32), lw_P b xs args s := by
  have hs := flat_of_before _ h
  have hq := flat_of_before _ hr
  have hc : (Cond.count 1).before args s = true := hs _ (by decide +kernel)
  have harr : (Cond.arrayOf (.arg 0) .int).before args s = true := hs _ (by decide +kernel)
  have hle : (Cond.le (.length (.arg 0)) (.int 3072)).before args s = true := hs _ (by decide +kernel)
  have hlen : (Cond.isInt (.length (.arg 0))).before args s = true := hq _ (by decide +kernel)
  have hall : (Cond.all (.arg 0) (.isInt (.elem (.arg 0) (.index 0)))).before args s = true := hq _ (by decide +kernel)
  obtain ⟨b, xs, hb, hx⟩ := State.ints_of_pre rfl harr hlen hall
  have hsm : xs.length < 2 ^ 31 := hx.choose_spec.2.2.2
  have hev : (Term.length (.arg 0)).eval args s none [] s = some (.int xs.length.toInt32) := hx.length_eval hb
  have hv := Cond.le_ints hev (show (Term.int 3072).eval args s none [] s = some (.int 3072) from rfl)
  have hd : xs.length.toInt32 ≤ 3072 := by
    simpa [Cond.before, Cond.holds, hv] using hle
  have hN : xs.length ≤ 3072 := (Int32.ofNat_le_ofNat hsm (by decide)).mp (show Int32.ofNat xs.length ≤ Int32.ofNat 3072 from hd)
  exact ⟨b, xs, Cond.one_arg hc (show args[0]? = some (.ref b) from hb), hx, hN, h⟩
theorem lw_comes (l : Launch) (hflags : l.flags = flags0) : Comes l x (Jvm.Cond.code x code maxLocals ret :: tables_1) room_1 (fun tb e args s => Calls_1 tb e args s ∧ rest_1 tb e args s ∧ Pre_1 tb e args s)
    (fun _ _ args s o t => lw_Q args s o t) := by
  intro p e ha hc hk s m args below hf hfit hheap happ hpre
  obtain ⟨b, xs, hP⟩ := lw_pre_spec hpre.2.2 hpre.2.1
  obtain ⟨k, o, h1, h2, h3, hQ⟩ := lw_walk l hflags b xs p e ha hc hk s m args below hf ((Spec.applies_iff_loose hf).mp happ).1 hP trivial
  exact ⟨k, o, h1, h2, h3, hQ⟩
theorem lw_frame {s t : State} {o : Outcome} {args : Array Value} (h : Framed s o t [] 601024 7293034) :
    Framed s o t (fieldLocs frame_1_writes args s ++ arrayLocs frame_1_arrays args s ++ staticLocs frame_1_statics s) 601024 7293034 := h
theorem lw_limb (L : Cond) (hL : ∀ (args : Array Value) (s t : State), L.after args s (.returned (some (.int 1))) t = true) :
    ArmFor flags0 classFile x code maxLocals ret World_1 tables_1 room_1 Calls_1 rest_1 Pre_1
      (fun tb e a s o t => postC L tb e a s o t ∧ Framed s o t (fieldLocs frame_1_writes a s ++ arrayLocs frame_1_arrays a s ++ staticLocs frame_1_statics s) 601024 7293034) := by
  intro l hflags _ _ p e ha hc hk s m args below hf hfit hheap happ hpre
  obtain ⟨k, o, h1, h2, h3, rfl, hF⟩ := lw_comes l hflags p e ha hc hk s m args below hf hfit hheap happ hpre
  exact ⟨k, _, h1, h2, h3, hL args s _, lw_frame hF⟩
theorem i_vc : Claimed_1_1 ∧ Claimed_1_2 := ⟨lw_limb limb_1_1 (fun args s t => by simp [limb_1_1, Cond.after, Cond.holds, Cond.value]), lw_limb limb_1_2 (fun args s t => Cond.after_iff.mpr (by
  first | (rw [show limb_1_2 = Cond.eq .result (.int 1) from rfl, Cond.eq_ints (x := 1) (y := 1) rfl rfl]; simp; done) | (simp [limb_1_2, Cond.value, Term.eval]; done)))⟩
