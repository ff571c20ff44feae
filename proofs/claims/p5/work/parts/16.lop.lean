/-! Loops by templates and measures. -/
/-- what a context promises: its cells; at the end: how many of the first variables are carried along, where its variables stand, their intervals, facts; the answer's interval -/
abbrev ab_Q : Type := List ab_C × (Nat × List (Nat × Nat × Nat) × ab_E × List ab_Y) × Int × Int
noncomputable def ab_gh : Nat → Nat → List ab_I
  | _, 0 => []
  | i, n + 1 => (some i, 0) :: ab_gh (i + 1) n
noncomputable def ab_xlo (cs : List ab_C) (q : Nat × Nat × Nat) : Bool := match q with
  | (1, _, _) => true
  | (2, c, j) => (match ab_get cs c with
    | some (.inr (_, n, _, _, _)) => Nat.blt j n
    | _ => false)
  | _ => false
noncomputable def ab_xok (env : ab_E) (aw : ab_H) (q : ab_Q) (ra : List ab_I) : Bool := match ab_sg aw [] q.2.1.2.1 with
  | some ls => q.2.1.2.1.all (ab_xlo aw.1) && ab_lenK env 0 (fun n => Nat.ble q.2.1.1 n && ab_subE env n ls q.2.1.2.2.1) && ab_subFx (ab_gh 0 q.2.1.1 ++ (ls ++ ra)) aw.2 q.2.1.2.2.2
  | none => false
noncomputable def ab_pst (fl : List Bool) (ret : Option FieldType) (q : ab_Q) (mc ms : Nat) (o : Nat × ab_S) : Bool := match o with
  | (n, ((env, _, aw, cl, sl), _, _, st)) => ab_subCf env [] fl aw.1 q.1 && (match n with
    | 1 => (match ret, st with
      | some ty, [.inl a] => ab_fit ty env (.inl a) && ab_ivK env a (fun x y => ab_le q.2.2.1 x && ab_le y q.2.2.2) && Nat.ble cl mc && Nat.ble sl ms && ab_xok env aw q [a]
      | _, _ => false)
    | 2 => (match ret, st with
      | none, [] => Nat.ble cl mc && Nat.ble sl ms && ab_xok env aw q []
      | _, _ => false)
    | 3 => (match st with
      | [] => Nat.ble (cl + 1) mc && Nat.ble (sl + 6) ms
      | _ => false)
    | _ => false)
noncomputable def ab_mOk (m : Option (Int × List Int)) (env : ab_E) (fx : List ab_Y) (m' : Int × List Int) (sg : List ab_I) : Bool := match m with
  | none => true
  | some m => ab_mch2 env fx sg m' m
noncomputable def ab_cutB (fl : List Bool) (gn : Nat) (m : Option (Int × List Int)) (S : ab_S) : List ab_T → Bool
  | [] => false
  | (env, nl, aw, pc, lv, loc, llc, m0, cs) :: r => bif ab_subSf fl S (env, nl, aw, pc, lv, loc, llc, m0, cs) (fun sg => ab_ghB 0 gn sg && ab_mOk m S.1.1 S.1.2.2.1.2 (m0, cs) sg) then true else ab_cutB fl gn m S r
noncomputable def ab_eds (fl : List Bool) (cuts : List ab_T) (m : Option (Int × List Int)) (ret : Option FieldType) (q : ab_Q) (mc ms : Nat) : List (Nat × ab_S) → Bool
  | [] => true
  | (n, S) :: r => (bif Nat.beq n 4 then ab_cutB fl q.2.1.1 m S cuts else ab_pst fl ret q mc ms (n, S)) && ab_eds fl cuts m ret q mc ms r
/-- from a template to templates and ends -/
noncomputable def ab_ckT (tab : ab_tab) (cal : ab_K) (fuel : Nat) (fl : List Bool) (cuts : List ab_T) (ret : Option FieldType) (q : ab_Q) (mc ms : Nat) (T : ab_T) : Bool := match T with
  | (env, nl, aw, pc, lv, _, _, m0, cs) => Nat.ble cs.length env.length && (match ab_fd tab pc with
    | some (4, f) => (match f cal env nl aw 0 0 lv [] with
      | some r => (match ab_run tab cal fuel r [] with
        | some os => ab_eds fl cuts (some (m0, cs)) ret q mc ms os
        | none => false)
      | none => false)
    | _ => false)
noncomputable def ab_ckA (tab : ab_tab) (cal : ab_K) (fuel : Nat) (fl : List Bool) (cuts : List ab_T) (ret : Option FieldType) (q : ab_Q) (mc ms : Nat) : List ab_T → Bool
  | [] => true
  | T :: r => ab_ckT tab cal fuel fl cuts ret q mc ms T && ab_ckA tab cal fuel fl cuts ret q mc ms r
theorem ab_ckA_ok {tab : ab_tab} {cal : ab_K} {fuel : Nat} {fl : List Bool} {cuts : List ab_T} {ret : Option FieldType} {q : ab_Q} {mc ms : Nat} : ∀ {l : List ab_T}, ab_ckA tab cal fuel fl cuts ret q mc ms l = true → ∀ T ∈ l, ab_ckT tab cal fuel fl cuts ret q mc ms T = true
  | [], _, T, h => by cases h
  | a :: r, h, T, hT => by
    simp only [ab_ckA, Bool.and_eq_true] at h
    rcases List.mem_cons.mp hT with rfl | hT
    · exact h.1
    · exact ab_ckA_ok h.2 T hT
theorem ab_eds_ok {fl : List Bool} {cuts : List ab_T} {m : Option (Int × List Int)} {ret : Option FieldType} {q : ab_Q} {mc ms : Nat} : ∀ {os : List (Nat × ab_S)}, ab_eds fl cuts m ret q mc ms os = true → ∀ n S, (n, S) ∈ os → (n = 4 ∧ ab_cutB fl q.2.1.1 m S cuts = true) ∨ (n ≠ 4 ∧ ab_pst fl ret q mc ms (n, S) = true)
  | [], _, n, S, h => by cases h
  | (a, b) :: r, h, n, S, hS => by
    simp only [ab_eds, Bool.and_eq_true] at h
    rcases List.mem_cons.mp hS with e | hS
    · cases e
      have h1 := h.1
      cases hb : Nat.beq a 4
      · rw [hb, cond_false] at h1
        exact Or.inr ⟨fun e => (by rw [e] at hb; cases hb), h1⟩
      · rw [hb, cond_true] at h1
        exact Or.inl ⟨Nat.eq_of_beq_eq_true hb, h1⟩
    · exact ab_eds_ok h.2 n S hS
theorem ab_cutB_ok {fl : List Bool} {gn : Nat} {m : Option (Int × List Int)} {S : ab_S} : ∀ {cuts : List ab_T}, ab_cutB fl gn m S cuts = true → ∃ T ∈ cuts, ab_subSf fl S T (fun sg => ab_ghB 0 gn sg && ab_mOk m S.1.1 S.1.2.2.1.2 (T.2.2.2.2.2.2.2.1, T.2.2.2.2.2.2.2.2) sg) = true
  | [], h => by cases h
  | (env, nl, aw, pc, lv, loc, llc, m0, cs) :: r, h => by
    simp only [ab_cutB] at h
    cases hb : (ab_subSf fl S (env, nl, aw, pc, lv, loc, llc, m0, cs) (fun sg => ab_ghB 0 gn sg && ab_mOk m S.1.1 S.1.2.2.1.2 (m0, cs) sg))
    · rw [hb, cond_false] at h
      obtain ⟨T, h1, h2⟩ := ab_cutB_ok h
      exact ⟨T, List.mem_cons_of_mem _ h1, h2⟩
    · exact ⟨_, List.mem_cons_self, hb⟩
theorem ab_subCf_len {fl : List Bool} {S : ab_S} {T : ab_T} {k : List ab_I → Bool} (h : ab_subSf fl S T k = true) : S.1.2.2.1.1.length = fl.length := by
  obtain ⟨⟨env, nl, aw, cl, sl⟩, pc, lv, st⟩ := S
  obtain ⟨envT, nlT, awT, pcT, lvT, loc, llc, m0, ms⟩ := T
  simp only [ab_subSf] at h
  rw [Bool.and_eq_true] at h
  have h7 := h.2
  rw [ab_sgK_eq] at h7
  split at h7
  · rename_i sg hsg
    rw [Bool.and_eq_true, Bool.and_eq_true, Bool.and_eq_true, Bool.and_eq_true] at h7
    exact (ab_subCf_ok h7.1.1.2).1
  · cases h7
section
variable {p : Program} {l : Launch} {e : Env} {R : Room} {s : State} {m : MethodId} {args : Array Value} {below : List Frame} {meth : Method} {c : Code} {Q : State → Prop} {cc : ByteArray} {own : String} {nL : Nat} {X : ab_X} {D : va_G} {cal : ab_K} {th : Nat → Prop} {tab : ab_tab} {cuts : List ab_T} {ret : Option FieldType} {q : ab_Q} {mc ms fuel : Nat} {wf : va_W × List (List Bool)} {gv : List Int32} {adr : List Nat}
/-- a template is right -/
noncomputable def ab_okT (p : Program) (l : Launch) (e : Env) (R : Room) (s : State) (m : MethodId) (args : Array Value) (below : List Frame) (meth : Method) (c : Code) (Q : State → Prop) (nL : Nat) (X : ab_X) (D : va_G) (wf : va_W × List (List Bool)) (gn : Nat) (gv : List Int32) (adr : List Nat) (n : Nat) (T : ab_T) : Prop :=
  ∀ (z : ab_Z) (ws : va_W) (H : Heap) (locs : List Loc) (ls : Array Slot), (T.2.2.2.2.2.2.2.1 + ab_dot T.2.2.2.2.2.2.2.2 z.1).toNat < n → ab_ghp gn gv z.1 → z.2.2 = adr → ab_R X D s (z, wf) T.1 T.2.1 T.2.2.1 z ws H locs → ab_lR X z nL ls T.2.2.2.2.1 → W p l e R s m args below meth c H locs 0 0 Q (F0 m T.2.2.2.1 ls [])
/-- the ends of a run that comes to templates of smaller measure, or ends well -/
theorem ab_outs_ok {os : List (Nat × ab_S)} {mm : Option (Int × List Int)} {z : ab_Z} {n : Nat} (hbs : ab_bas X s adr q.1 wf) (hGl : adr.length = q.1.length) (hag : ∀ T ∈ cuts, ∀ (j : Nat) (g : ab_C), q.1[j]? = some g → ab_any g = false → T.2.2.1.1[j]? = some g) (hz : z.2.2 = adr) (hgz : ab_ghp q.2.1.1 gv z.1)
    (hend : ∀ (zz : ab_Z) (k : Nat) (S : ab_S), ab_ghp q.2.1.1 gv zz.1 → ab_pst (q.1.map ab_any) ret q mc ms (k, S) = true → (∃ f, ∃ b ∈ tab, (S.2.1, k, f) ∈ b) → ab_ok p l e R s m args below meth c Q nL X D (zz, wf) S)
    (hck : ab_eds (q.1.map ab_any) cuts mm ret q mc ms os = true) (hcut : ∀ T ∈ cuts, ab_okT p l e R s m args below meth c Q nL X D wf q.2.1.1 gv adr n T)
    (hmm : ∀ m0, mm = some m0 → m0.2.length ≤ z.1.length ∧ (m0.1 + ab_dot m0.2 z.1).toNat < n + 1) (hmn : mm = none → ∀ T ∈ cuts, ∀ k, ab_okT p l e R s m args below meth c Q nL X D wf q.2.1.1 gv adr k T) : ∀ k pc S, (k, S) ∈ os → S.2.1 = pc → (∃ f, ∃ b ∈ tab, (pc, k, f) ∈ b) → ab_ok p l e R s m args below meth c Q nL X D (z, wf) S := by
  intro k pc S hS hpc hf
  subst hpc
  rcases ab_eds_ok hck k S hS with ⟨rfl, h1⟩ | ⟨-, h1⟩
  · obtain ⟨T, hT, h2⟩ := ab_cutB_ok h1
    intro z1 ws1 H1 locs1 ls1 cst1 hR1 hl1 hs1
    obtain ⟨⟨t, ht⟩, -, ⟨ta, hta⟩⟩ := hR1.2.2.2.2.2.2.2.2.1
    have hz1 : z1.2.2 = adr := by
      have e1 := hR1.num
      rw [ab_subCf_len h2, List.length_map] at e1
      dsimp only at hta
      rw [hta, hz] at e1 ⊢
      rw [List.length_append, hGl] at e1
      have : ta = [] := List.eq_nil_of_length_eq_zero (by omega)
      rw [this, List.append_nil]
    have hg1 : ab_ghp q.2.1.1 gv z1.1 := by dsimp only at ht; rw [ht]; exact hgz.ext
    obtain ⟨z', sg, g1, g2, g3, g4, g5, g6, g7, g8, g9⟩ := ab_subSf_ok h2 (by rw [hz1]; exact hbs) (hag T hT) hR1 hl1
    rw [Bool.and_eq_true] at g5
    obtain ⟨g5a, g5⟩ := g5
    have hg' : ab_ghp q.2.1.1 gv z'.1 := by
      obtain ⟨k1, k2⟩ := ab_ghB_ok g5a g3
      exact ⟨k1, fun j hj => by rw [k2 j hj, Nat.zero_add]; exact hg1.2 j hj⟩
    rw [g6] at hs1
    cases cst1 with
    | cons _ _ => simp at hs1
    | nil =>
      rw [g7, g8, g9]
      cases mm with
      | none => exact hmn rfl T hT _ z' ws1 H1 locs1 ls1 (Nat.lt_succ_self _) hg' (g4.trans hz1) g1 g2
      | some m0 =>
        obtain ⟨k1, k2⟩ := ab_mch2_ok hR1.1 hR1.2.2.2.1.2 g5 g3
        obtain ⟨b1, b2⟩ := hmm m0 rfl
        rw [ht, ab_dot_app b1] at k2
        exact hcut T hT z' ws1 H1 locs1 ls1 (by dsimp only at k1 k2 ⊢; omega) hg' (g4.trans hz1) g1 g2
  · exact hend z k S hgz h1 hf
theorem ab_loop (hbs : ab_bas X s adr q.1 wf) (hGl : adr.length = q.1.length) (hag : ∀ T ∈ cuts, ∀ (j : Nat) (g : ab_C), q.1[j]? = some g → ab_any g = false → T.2.2.1.1[j]? = some g) (hT : ∀ z0 : ab_Z0, ∀ b ∈ tab, ∀ qq ∈ b, ab_tv p l e R s m args below meth c Q cc nL X D z0 cal th qq)
    (hend : ∀ (zz : ab_Z) (k : Nat) (S : ab_S), ab_ghp q.2.1.1 gv zz.1 → ab_pst (q.1.map ab_any) ret q mc ms (k, S) = true → (∃ f, ∃ b ∈ tab, (S.2.1, k, f) ∈ b) → ab_ok p l e R s m args below meth c Q nL X D (zz, wf) S)
    (hck : ∀ T ∈ cuts, ab_ckT tab cal fuel (q.1.map ab_any) cuts ret q mc ms T = true) : ∀ (n : Nat), ∀ T ∈ cuts, ab_okT p l e R s m args below meth c Q nL X D wf q.2.1.1 gv adr n T
  | 0, T, hTm => fun z ws H locs ls h => absurd h (Nat.not_lt_zero _)
  | n + 1, T, hTm => by
    have ih := ab_loop hbs hGl hag hT hend hck n
    have hc := hck T hTm
    intro z ws H locs ls hmu hgz hz hR hl
    obtain ⟨env, nl, aw, pc, lv, loc, llc, m0, cs⟩ := T
    simp only [ab_ckT, Bool.and_eq_true] at hc
    obtain ⟨hc1, hc2⟩ := hc
    dsimp only at hmu hR hl ⊢
    split at hc2
    · rename_i f hf
      obtain ⟨b, hb1, hb2⟩ := ab_fd_mem hf
      split at hc2
      · rename_i r hr
        split at hc2
        · rename_i os hos
          have hrow : ab_so p l e R s m args below meth c Q nL X D (z, wf) cal pc f := hT (z, wf) b hb1 _ hb2
          refine hrow env nl aw 0 0 lv [] r hr (fun S hS => ?_) z ws H locs ls [] hR hl rfl
          refine ab_run_ok (hT (z, wf)) hos (ab_outs_ok (z := z) (n := n) hbs hGl hag hz hgz hend hc2 ih (fun m9 e9 => ?_) (fun e9 => by cases e9)) S hS
          cases e9
          exact ⟨by rw [hR.1.1]; exact Nat.le_of_ble_eq_true hc1, hmu⟩
        · cases hc2
      · cases hc2
    · cases hc2
end
