/-! Loops by templates and measures. -/
/-- what a context promises: its cells, its facts at the end, the answer's interval -/
abbrev ab_Q : Type := List ab_C × List ab_Y × Int × Int
noncomputable def ab_pst (ret : Option FieldType) (q : ab_Q) (mc ms : Nat) (o : Nat × ab_S) : Bool := match o with
  | (n, ((env, _, aw, cl, sl), _, _, st)) => ab_subCs env [] aw.1 q.1 && ab_subFx [] aw.2 q.2.1 && (match n with
    | 1 => (match ret, st with
      | some ty, [.inl a] => ab_fit ty env (.inl a) && ab_ivK env a (fun x y => ab_le q.2.2.1 x && ab_le y q.2.2.2) && Nat.ble cl mc && Nat.ble sl ms
      | _, _ => false)
    | 2 => (match ret, st with
      | none, [] => Nat.ble cl mc && Nat.ble sl ms
      | _, _ => false)
    | 3 => (match st with
      | [] => Nat.ble (cl + 1) mc && Nat.ble (sl + 6) ms
      | _ => false)
    | _ => false)
noncomputable def ab_mOk (m : Option (Int × List Int)) (env : ab_E) (fx : List ab_Y) (m' : Int × List Int) (sg : List ab_I) : Bool := match m with
  | none => true
  | some m => ab_mch2 env fx sg m' m
noncomputable def ab_cutB (m : Option (Int × List Int)) (S : ab_S) : List ab_T → Bool
  | [] => false
  | (env, nl, aw, pc, lv, loc, llc, m0, cs) :: r => bif ab_subS S (env, nl, aw, pc, lv, loc, llc, m0, cs) (ab_mOk m S.1.1 S.1.2.2.1.2 (m0, cs)) then true else ab_cutB m S r
noncomputable def ab_eds (cuts : List ab_T) (m : Option (Int × List Int)) (ret : Option FieldType) (q : ab_Q) (mc ms : Nat) : List (Nat × ab_S) → Bool
  | [] => true
  | (n, S) :: r => (bif Nat.beq n 4 then ab_cutB m S cuts else ab_pst ret q mc ms (n, S)) && ab_eds cuts m ret q mc ms r
/-- from a template to templates and ends -/
noncomputable def ab_ckT (tab : ab_tab) (cal : ab_K) (fuel : Nat) (cuts : List ab_T) (ret : Option FieldType) (q : ab_Q) (mc ms : Nat) (T : ab_T) : Bool := match T with
  | (env, nl, aw, pc, lv, _, _, m0, cs) => Nat.ble cs.length env.length && (match ab_fd tab pc with
    | some (4, f) => (match f cal env nl aw 0 0 lv [] with
      | some r => (match ab_run tab cal fuel r [] with
        | some os => ab_eds cuts (some (m0, cs)) ret q mc ms os
        | none => false)
      | none => false)
    | _ => false)
noncomputable def ab_ckA (tab : ab_tab) (cal : ab_K) (fuel : Nat) (cuts : List ab_T) (ret : Option FieldType) (q : ab_Q) (mc ms : Nat) : List ab_T → Bool
  | [] => true
  | T :: r => ab_ckT tab cal fuel cuts ret q mc ms T && ab_ckA tab cal fuel cuts ret q mc ms r
theorem ab_ckA_ok {tab : ab_tab} {cal : ab_K} {fuel : Nat} {cuts : List ab_T} {ret : Option FieldType} {q : ab_Q} {mc ms : Nat} : ∀ {l : List ab_T}, ab_ckA tab cal fuel cuts ret q mc ms l = true → ∀ T ∈ l, ab_ckT tab cal fuel cuts ret q mc ms T = true
  | [], _, T, h => by cases h
  | a :: r, h, T, hT => by
    simp only [ab_ckA, Bool.and_eq_true] at h
    rcases List.mem_cons.mp hT with rfl | hT
    · exact h.1
    · exact ab_ckA_ok h.2 T hT
theorem ab_eds_ok {cuts : List ab_T} {m : Option (Int × List Int)} {ret : Option FieldType} {q : ab_Q} {mc ms : Nat} : ∀ {os : List (Nat × ab_S)}, ab_eds cuts m ret q mc ms os = true → ∀ n S, (n, S) ∈ os → (n = 4 ∧ ab_cutB m S cuts = true) ∨ (n ≠ 4 ∧ ab_pst ret q mc ms (n, S) = true)
  | [], _, n, S, h => by cases h
  | (a, b) :: r, h, n, S, hS => by
    simp only [ab_eds, Bool.and_eq_true] at h
    rcases List.mem_cons.mp hS with e | hS
    · cases e
      have h1 := h.1
      cases hb : Nat.beq a 4
      · rw [hb, cond_false] at h1
        exact Or.inr ⟨fun e => (by rw [e] at hb; cases hb), h1⟩
      · rw [hb, cond_true] at h1
        exact Or.inl ⟨Nat.eq_of_beq_eq_true hb, h1⟩
    · exact ab_eds_ok h.2 n S hS
theorem ab_cutB_ok {m : Option (Int × List Int)} {S : ab_S} : ∀ {cuts : List ab_T}, ab_cutB m S cuts = true → ∃ T ∈ cuts, ab_subS S T (ab_mOk m S.1.1 S.1.2.2.1.2 (T.2.2.2.2.2.2.2.1, T.2.2.2.2.2.2.2.2)) = true
  | [], h => by cases h
  | (env, nl, aw, pc, lv, loc, llc, m0, cs) :: r, h => by
    simp only [ab_cutB] at h
    cases hb : (ab_subS S (env, nl, aw, pc, lv, loc, llc, m0, cs) (ab_mOk m S.1.1 S.1.2.2.1.2 (m0, cs)))
    · rw [hb, cond_false] at h
      obtain ⟨T, h1, h2⟩ := ab_cutB_ok h
      exact ⟨T, List.mem_cons_of_mem _ h1, h2⟩
    · exact ⟨_, List.mem_cons_self, hb⟩
section
variable {p : Program} {l : Launch} {e : Env} {R : Room} {s : State} {m : MethodId} {args : Array Value} {below : List Frame} {meth : Method} {c : Code} {Q : State → Prop} {cc : ByteArray} {own : String} {nL : Nat} {X : ab_X} {D : va_G} {cal : ab_K} {th : Nat → Prop} {tab : ab_tab} {cuts : List ab_T} {ret : Option FieldType} {q : ab_Q} {mc ms fuel : Nat} {wf : va_W × List (List Bool)}
/-- a template is right -/
noncomputable def ab_okT (p : Program) (l : Launch) (e : Env) (R : Room) (s : State) (m : MethodId) (args : Array Value) (below : List Frame) (meth : Method) (c : Code) (Q : State → Prop) (nL : Nat) (X : ab_X) (D : va_G) (wf : va_W × List (List Bool)) (n : Nat) (T : ab_T) : Prop :=
  ∀ (z : ab_Z) (ws : va_W) (H : Heap) (locs : List Loc) (ls : Array Slot), (T.2.2.2.2.2.2.2.1 + ab_dot T.2.2.2.2.2.2.2.2 z.1).toNat < n → ab_R X D s (z, wf) T.1 T.2.1 T.2.2.1 z ws H locs → ab_lR X z nL ls T.2.2.2.2.1 → W p l e R s m args below meth c H locs 0 0 Q (F0 m T.2.2.2.1 ls [])
/-- the ends of a run that comes to templates of smaller measure, or ends well -/
theorem ab_outs_ok {os : List (Nat × ab_S)} {mm : Option (Int × List Int)} {z : ab_Z} {n : Nat} (hend : ∀ (zz : ab_Z) (k : Nat) (S : ab_S), ab_pst ret q mc ms (k, S) = true → (∃ f, ∃ b ∈ tab, (S.2.1, k, f) ∈ b) → ab_ok p l e R s m args below meth c Q nL X D (zz, wf) S)
    (hck : ab_eds cuts mm ret q mc ms os = true) (hcut : ∀ T ∈ cuts, ab_okT p l e R s m args below meth c Q nL X D wf n T)
    (hmm : ∀ m0, mm = some m0 → m0.2.length ≤ z.1.length ∧ (m0.1 + ab_dot m0.2 z.1).toNat < n + 1) (hmn : mm = none → ∀ T ∈ cuts, ∀ k, ab_okT p l e R s m args below meth c Q nL X D wf k T) : ∀ k pc S, (k, S) ∈ os → S.2.1 = pc → (∃ f, ∃ b ∈ tab, (pc, k, f) ∈ b) → ab_ok p l e R s m args below meth c Q nL X D (z, wf) S := by
  intro k pc S hS hpc hf
  subst hpc
  rcases ab_eds_ok hck k S hS with ⟨rfl, h1⟩ | ⟨-, h1⟩
  · obtain ⟨T, hT, h2⟩ := ab_cutB_ok h1
    intro z1 ws1 H1 locs1 ls1 cst1 hR1 hl1 hs1
    obtain ⟨z', sg, g1, g2, g3, g4, g5, g6, g7, g8, g9⟩ := ab_subS_ok h2 hR1 hl1
    rw [g6] at hs1
    cases cst1 with
    | cons _ _ => simp at hs1
    | nil =>
      rw [g7, g8, g9]
      cases mm with
      | none => exact hmn rfl T hT _ z' ws1 H1 locs1 ls1 (Nat.lt_succ_self _) g1 g2
      | some m0 =>
        obtain ⟨k1, k2⟩ := ab_mch2_ok hR1.1 hR1.2.2.2.1.2 g5 g3
        obtain ⟨b1, b2⟩ := hmm m0 rfl
        obtain ⟨⟨t, ht⟩, -, -⟩ := hR1.2.2.2.2.2.2.2.2.1
        rw [ht, ab_dot_app b1] at k2
        exact hcut T hT z' ws1 H1 locs1 ls1 (by dsimp only at k1 k2 ⊢; omega) g1 g2
  · exact hend z k S h1 hf
theorem ab_loop (hT : ∀ z0 : ab_Z0, ∀ b ∈ tab, ∀ qq ∈ b, ab_tv p l e R s m args below meth c Q cc nL X D z0 cal th qq)
    (hend : ∀ (zz : ab_Z) (k : Nat) (S : ab_S), ab_pst ret q mc ms (k, S) = true → (∃ f, ∃ b ∈ tab, (S.2.1, k, f) ∈ b) → ab_ok p l e R s m args below meth c Q nL X D (zz, wf) S)
    (hck : ∀ T ∈ cuts, ab_ckT tab cal fuel cuts ret q mc ms T = true) : ∀ (n : Nat), ∀ T ∈ cuts, ab_okT p l e R s m args below meth c Q nL X D wf n T
  | 0, T, hTm => fun z ws H locs ls h => absurd h (Nat.not_lt_zero _)
  | n + 1, T, hTm => by
    have ih := ab_loop hT hend hck n
    have hc := hck T hTm
    intro z ws H locs ls hmu hR hl
    obtain ⟨env, nl, aw, pc, lv, loc, llc, m0, cs⟩ := T
    simp only [ab_ckT, Bool.and_eq_true] at hc
    obtain ⟨hc1, hc2⟩ := hc
    dsimp only at hmu hR hl ⊢
    split at hc2
    · rename_i f hf
      obtain ⟨b, hb1, hb2⟩ := ab_fd_mem hf
      split at hc2
      · rename_i r hr
        split at hc2
        · rename_i os hos
          have hrow : ab_so p l e R s m args below meth c Q nL X D (z, wf) cal pc f := hT (z, wf) b hb1 _ hb2
          refine hrow env nl aw 0 0 lv [] r hr (fun S hS => ?_) z ws H locs ls [] hR hl rfl
          refine ab_run_ok (hT (z, wf)) hos (ab_outs_ok (z := z) (n := n) hend hc2 ih (fun m9 e9 => ?_) (fun e9 => by cases e9)) S hS
          cases e9
          exact ⟨by rw [hR.1.1]; exact Nat.le_of_ble_eq_true hc1, hmu⟩
        · cases hc2
      · cases hc2
    · cases hc2
end
