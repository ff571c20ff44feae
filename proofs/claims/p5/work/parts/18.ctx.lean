/-! Contexts: a call of a method by its context, its contract. -/
/-- rank; the template at the entry: variables, longs, facts, arguments, where the variables stand, longs' locals; cells and ends; templates (of their cells only those that may be written); does it throw -/
abbrev ab_SM : Type := Nat × (ab_E × Nat × List ab_Y × List ab_V × List (Nat × Nat × Nat) × List Nat) × ab_Q × List ab_T × Bool
/-- the variables of the entry, put where they stand -/
noncomputable def ab_eput : Nat → List (Nat × Nat × Nat) → List ab_C → List ab_C
  | _, [], cs => cs
  | b, (0, _, _) :: r, cs => ab_eput (b + 1) r cs
  | b, (1, c, k) :: r, cs => (match ab_get cs c with
    | some (.inl (ci, fs)) => (match ab_get fs k with
      | some (fl, _) => ab_setK fs k (fl, .inl (.inl (some b, 0))) (fun fs => ab_setK cs c (.inl (ci, fs)) (fun cs => ab_fn (b + 1) (fun b => ab_eput b r cs)))
      | none => [])
    | _ => [])
  | b, (_ + 2, c, j) :: r, cs => (match ab_get cs c with
    | some (.inr (t, n, fl, d, ov)) => ab_putK ov j (.inl (.inl (some b, 0))) (fun ov => ab_setK cs c (.inr (t, n, fl, d, ov)) (fun cs => ab_fn (b + 1) (fun b => ab_eput b r cs)))
    | _ => [])
noncomputable def ab_l0 (l : List (Nat × Nat × Nat)) : Bool := l.all (fun q => Nat.beq q.1 0)
theorem ab_eput_0 : ∀ {l : List (Nat × Nat × Nat)} {b : Nat} {cs : List ab_C}, ab_l0 l = true → ab_eput b l cs = cs
  | [], b, cs, _ => rfl
  | (0, c, k) :: r, b, cs, h => by
    simp only [ab_l0, List.all_cons, Bool.and_eq_true] at h
    exact ab_eput_0 (l := r) h.2
  | (1, c, k) :: r, b, cs, h => by simp [ab_l0] at h
  | (n + 2, c, k) :: r, b, cs, h => by simp [ab_l0] at h
noncomputable def ab_smH (m : ab_SM) : List ab_C := ab_eput 0 m.2.1.2.2.2.2.1 m.2.2.1.1
noncomputable def ab_smT (m : ab_SM) : ab_T := (m.2.1.1, m.2.1.2.1, (ab_smH m, m.2.1.2.2.1), 0, ab_ent 0 m.2.1.2.2.2.1, m.2.1.2.2.2.2.1, m.2.1.2.2.2.2.2, 0, [])
noncomputable def ab_smS (m : ab_SM) : ab_S := ((m.2.1.1, m.2.1.2.1, (ab_smH m, m.2.1.2.2.1), 0, 0), 0, ab_ent 0 m.2.1.2.2.2.1, [])
/-- facts that speak of no row that the context may write -/
noncomputable def ab_kfn (G : List ab_C) : Nat → List ab_I → Bool
  | 0, _ => true
  | n + 1, (none, c) :: r => ab_le 0 c && ab_le c 2147483647 && (match ab_get G c.toNat with
    | some (.inr (_, _, false, _, _)) => true
    | _ => false) && ab_kfn G n r
  | _ + 1, _ => false
noncomputable def ab_kfK {β : Type} (G : List ab_C) : List ab_Y → (List ab_Y → β) → β
  | [], k => k []
  | (kd, l) :: r, k => bif ab_kfn G (ab_nc kd) l then ab_kfK G r (fun t => k ((kd, l) :: t)) else ab_kfK G r k
theorem ab_kfK_eq {β : Type} (G : List ab_C) : ∀ (l : List ab_Y) (k : List ab_Y → β), ab_kfK G l k = k (l.filter (fun f => ab_kfn G (ab_nc f.1) f.2))
  | [], k => rfl
  | (kd, l) :: r, k => by
    simp only [ab_kfK, List.filter]
    cases ab_kfn G (ab_nc kd) l
    · simp only [cond_false]; exact ab_kfK_eq G r k
    · simp only [cond_true]; exact ab_kfK_eq G r _
/-- the ends' variables, put where they stand -/
noncomputable def ab_xput : Nat → List (Nat × Nat × Nat) → List ab_C → Option (List ab_C)
  | _, [], cs => some cs
  | b, (1, c, k) :: r, cs => (match ab_get cs c with
    | some (.inl (ci, fs)) => (match ab_get fs k with
      | some (fl, _) => ab_setK fs k (fl, .inl (.inl (some b, 0))) (fun fs => ab_setK cs c (.inl (ci, fs)) (fun cs => ab_fn (b + 1) (fun b => ab_xput b r cs)))
      | none => none)
    | _ => none)
  | b, (2, c, j) :: r, cs => (match ab_get cs c with
    | some (.inr (t, n, fl, d, ov)) => ab_putK ov j (.inl (.inl (some b, 0))) (fun ov => ab_setK cs c (.inr (t, n, fl, d, ov)) (fun cs => ab_fn (b + 1) (fun b => ab_xput b r cs)))
    | _ => none)
  | _, _ :: _, _ => none
noncomputable def ab_rnL (sg : List ab_I) : List ab_I → Option (List ab_I)
  | [] => some []
  | b :: t => (match ab_rn sg b with
    | some a => (match ab_rnL sg t with
      | some l => some (a :: l)
      | none => none)
    | none => none)
noncomputable def ab_rnFs (sg : List ab_I) : List ab_Y → Option (List ab_Y)
  | [] => some []
  | (kd, l) :: r => (match ab_rnL sg l with
    | some l' => (match ab_rnFs sg r with
      | some t => some ((kd, l') :: t)
      | none => none)
    | none => none)
noncomputable def ab_catK {α β : Type} (l t : List α) (k : List α → β) : β := List.rec (motive := fun _ => (List α → β) → β) (fun k => k t) (fun a _ ih k => ih (fun q => k (a :: q))) l k
theorem ab_catK_eq {α β : Type} : ∀ (l t : List α) (k : List α → β), ab_catK l t k = k (l ++ t)
  | [], t, k => rfl
  | a :: l, t, k => ab_catK_eq l t (fun q => k (a :: q))
/-- behind the call: surroundings env1 (with the answer), b of them; ra: the answer -/
noncomputable def ab_smX (m : ab_SM) (env1 : ab_E) (b : Nat) (ra sg : List ab_I) (cs : List ab_C) (kf : List ab_Y) (k : ab_E → ab_H → Option (List ab_O)) : Option (List ab_O) := match ab_xput b m.2.2.1.2.1.2.1 cs with
  | some cs2 => (match ab_rnFs (sg.take m.2.2.1.2.1.1 ++ (ab_gh b m.2.2.1.2.1.2.1.length ++ ra)) m.2.2.1.2.1.2.2.2 with
    | some f2 => ab_catK env1 m.2.2.1.2.1.2.2.1 (fun env2 => ab_catK f2 kf (fun fx => k env2 (cs2, fx)))
    | none => none)
  | none => none
noncomputable def ab_smO (ret : Option FieldType) (m : ab_SM) (env : ab_E) (nl : Nat) (cs : List ab_C) (sg : List ab_I) (kf : List ab_Y) : Option (List ab_O) := ab_lenK env 0 (fun n => match ret with
  | some _ => ab_appK env (m.2.2.1.2.2.1, m.2.2.1.2.2.2) (fun env1 => ab_fn (n + 1) (fun b => ab_smX m env1 b [(some n, 0)] sg cs kf (fun env2 h => some ((1, some (.inl (some n, 0)), (env2, nl, h, 0, 0)) :: (bif m.2.2.2.2 then [(3, none, (env, nl, (cs, kf), 0, 0))] else [])))))
  | none => ab_smX m env n [] sg cs kf (fun env2 h => some ((2, none, (env2, nl, h, 0, 0)) :: (bif m.2.2.2.2 then [(3, none, (env, nl, (cs, kf), 0, 0))] else []))))
noncomputable def ab_eqLI : List ab_I → List ab_I → Bool
  | [], [] => true
  | a :: r, b :: t => ab_eqI a b && ab_eqLI r t
  | _, _ => false
theorem ab_eqLI_eq : ∀ {l t : List ab_I}, ab_eqLI l t = true → l = t
  | [], [], _ => rfl
  | [], _ :: _, h => by simp [ab_eqLI] at h
  | _ :: _, [], h => by simp [ab_eqLI] at h
  | a :: r, b :: t, h => by
    simp only [ab_eqLI, Bool.and_eq_true] at h
    rw [ab_eqI_eq h.1, ab_eqLI_eq h.2]
noncomputable def ab_smK (ret : Option FieldType) (m : ab_SM) (env : ab_E) (nl : Nat) (aw : ab_H) (as : List ab_V) : Option (List ab_O) :=
  ab_sgK (ab_refs aw.1 m.2.2.1.1, aw.2) (ab_ent 0 as) m.2.1.2.2.2.2.1 (fun sg => bif ab_subS ((env, nl, (ab_refs aw.1 m.2.2.1.1, aw.2), 0, 0), 0, ab_ent 0 as, []) (ab_smT m) (ab_eqLI sg) then (match ab_mgs aw.1 m.2.2.1.1 with
    | some cs => ab_kfK m.2.2.1.1 aw.2 (fun kf => ab_smO ret m env nl cs sg kf)
    | none => none) else none) none
noncomputable def ab_mxT (fl : List Bool) (G : List ab_C) (T : ab_T) : ab_T := (T.1, T.2.1, (ab_mix fl G T.2.2.1.1, T.2.2.1.2), T.2.2.2)
noncomputable def ab_mxsK {β : Type} (fl : List Bool) (G : List ab_C) : List ab_T → (List ab_T → β) → β
  | [], k => k []
  | (env, nl, (tl, fx), r) :: ts, k => ab_mixK fl G tl (fun cs => ab_mxsK fl G ts (fun t => k ((env, nl, (cs, fx), r) :: t)))
theorem ab_mxsK_eq {β : Type} (fl : List Bool) (G : List ab_C) : ∀ (l : List ab_T) (k : List ab_T → β), ab_mxsK fl G l k = k (l.map (ab_mxT fl G))
  | [], k => rfl
  | (env, nl, (tl, fx), r) :: ts, k => by
    simp only [ab_mxsK, ab_mixK_eq, List.map_cons]
    exact ab_mxsK_eq fl G ts _
/-- a context that was checked -/
noncomputable def ab_smC (tab : ab_tab) (cal : ab_K) (fuel : Nat) (ret : Option FieldType) (mc ms kd : Nat) (m : ab_SM) : Bool := ab_anyK m.2.2.1.1 (fun fl => ab_mxsK fl m.2.2.1.1 m.2.2.2.1 (fun cuts => (match ab_run tab cal fuel [ab_smS m] [] with
  | some os => ab_eds fl cuts none ret m.2.2.1 mc ms os
  | none => false) && ab_ckA tab cal fuel fl cuts ret m.2.2.1 mc ms cuts && m.2.2.1.1.all ab_nvC && Nat.ble m.2.2.1.2.1.1 m.2.1.1.length && (ab_l0 m.2.1.2.2.2.2.1 || ab_subCs m.2.1.1 [] (ab_smH m) m.2.2.1.1) && (m.2.2.2.2 || Nat.beq kd 0)))
theorem ab_smH_ok {m : ab_SM} (h : (ab_l0 m.2.1.2.2.2.2.1 || ab_subCs m.2.1.1 [] (ab_smH m) m.2.2.1.1) = true) {X : ab_X} {z : ab_Z} {s : State} (hR : ab_eR m.2.1.1 z.1) : m.2.2.1.1.length = (ab_smH m).length ∧ ∀ (k : Nat) (g : ab_C), m.2.2.1.1[k]? = some g → ∃ c, (ab_smH m)[k]? = some c ∧ ∀ e, ab_cR X z s c e → ab_cR X z s g e ∧ ab_flg g = ab_flg c := by
  cases h0 : ab_l0 m.2.1.2.2.2.2.1
  · rw [h0, Bool.false_or] at h
    obtain ⟨c1, -, c3⟩ := ab_subCs_ok (X := X) (s := s) hR (⟨rfl, fun u a h => by simp at h⟩ : ab_vr z z []) h
    exact ⟨c1, c3⟩
  · have : ab_smH m = m.2.2.1.1 := ab_eput_0 h0
    rw [this]
    exact ⟨rfl, fun k g hk => ⟨g, hk, fun e he => ⟨he, rfl⟩⟩⟩
/-- what stands in the world at a field, or at a place -/
noncomputable def ab_lcw (ws : va_W) (q : Nat × Nat × Nat) (x : Int32) : Prop := match q with
  | (1, c, k) => ∃ (a ci : Nat) (vs : List Value), ws[c]? = some (a, .inr (ci, vs)) ∧ vs[k]? = some (.int x)
  | (2, c, j) => ∃ (a : Nat) (cA : ClassId) (n : Nat) (y : ab_ct), ws[c]? = some (a, .inl (cA, n, y)) ∧ ab_cv y j = .int x
  | _ => False
theorem ab_lc_w {X : ab_X} {z : ab_Z} {s : State} {aw : ab_H} {ws : va_W} (hw : ∀ (k : Nat) (c : ab_C), aw.1[k]? = some c → ∃ q, ws[k]? = some q ∧ ab_cR X z s c q.2) {lv : List (Nat × ab_V)} {q : Nat × Nat × Nat} {a : ab_I} (h : ab_lcg aw lv q = some a) (ho : ab_xlo aw.1 q = true) : ∃ x, ab_evI z.1 a = some x ∧ ab_lcw ws q x := by
  obtain ⟨t, c, k⟩ := q
  match t, h, ho with
  | 0, h, ho => cases ho
  | 1, h, _ =>
    simp only [ab_lcg, ab_lc, ab_get_eq] at h
    split at h
    · rename_i ci fs hc
      split at h
      · rename_i fl a' hk
        cases h
        obtain ⟨⟨ad, e⟩, h1, vs, h2, h3, h4⟩ := hw c _ hc
        dsimp only at h2
        subst h2
        have hkl : k < vs.length := by
          rw [← h3]; exact (List.getElem?_eq_some_iff.mp hk).1
        have h5 := h4 k _ _ hk (List.getElem?_eq_getElem hkl)
        obtain ⟨y, hy, h6⟩ := ab_evi (show ab_ev X z (.inl a) = some vs[k] from h5)
        exact ⟨y, h6, ad, ci, vs, h1, by rw [List.getElem?_eq_getElem hkl, hy]⟩
      · cases h
    · cases h
  | 2, h, ho =>
    simp only [ab_lcg, ab_lc, ab_get_eq] at h
    simp only [ab_xlo, ab_get_eq] at ho
    split at h
    · rename_i t' n fl d ov hc
      rw [hc] at ho
      have hj : k < n := Nat.le_of_ble_eq_true ho
      split at h
      · rename_i a' ha
        cases h
        obtain ⟨⟨ad, e⟩, h1, cA, y, h2, h3, h4, h5⟩ := hw c _ hc
        dsimp only at h2
        subst h2
        have h6 := h5 k hj
        dsimp only at h6
        rw [ha] at h6
        obtain ⟨x, hx, h7⟩ := ab_evi (show ab_ev X z (.inl a) = some (ab_cv y k) from h6)
        exact ⟨x, h7, ad, cA, _, y, h1, hx⟩
      · cases h
    · cases h
  | _ + 3, h, ho => cases ho
theorem ab_xput_ok {X : ab_X} {zu : ab_Z} {t : State} {ws : va_W} : ∀ {xl : List (Nat × Nat × Nat)} {b : Nat} {cs cs2 : List ab_C}, ab_xput b xl cs = some cs2 → (cs.length = ws.length ∧ ∀ (k : Nat) (c : ab_C), cs[k]? = some c → ∃ q, ws[k]? = some q ∧ ab_cR X zu t c q.2) →
    (∀ (i : Nat) (q : Nat × Nat × Nat), xl[i]? = some q → ∃ x, zu.1[b + i]? = some x ∧ ab_lcw ws q x) → (cs2.length = ws.length ∧ ∀ (k : Nat) (c : ab_C), cs2[k]? = some c → ∃ q, ws[k]? = some q ∧ ab_cR X zu t c q.2) ∧ cs2.map ab_flg = cs.map ab_flg
  | [], b, cs, cs2, h, hw, _ => by
    simp only [ab_xput, Option.some.injEq] at h
    subst h
    exact ⟨hw, rfl⟩
  | (0, c, k) :: r, b, cs, cs2, h, _, _ => by simp [ab_xput] at h
  | (n + 3, c, k) :: r, b, cs, cs2, h, _, _ => by simp [ab_xput] at h
  | (1, c, k) :: r, b, cs, cs2, h, hw, hx => by
    obtain ⟨x, hx1, ad, ci0, vs, hx2, hx3⟩ := hx 0 _ rfl
    simp only [ab_xput, ab_get_eq, ab_setK_eq, ab_fn_eq] at h
    split at h
    · rename_i ci fs hc
      split at h
      · rename_i fl w0 hk
        obtain ⟨q, h1, vs1, h2, h3, h4⟩ := hw.2 c _ hc
        rw [hx2] at h1
        cases h1
        dsimp only at h2
        simp only [Sum.inr.injEq, Prod.mk.injEq] at h2
        obtain ⟨hci, rfl⟩ := h2
        have hcl : c < cs.length := (List.getElem?_eq_some_iff.mp hc).1
        have hkl : k < fs.length := (List.getElem?_eq_some_iff.mp hk).1
        have hev : ab_evI zu.1 (some b, 0) = some x := by
          simp only [Nat.add_zero] at hx1
          simp only [ab_evI, hx1, Option.map_some]; simp
        obtain ⟨i1, i2⟩ := ab_xput_ok h (ws := ws) (X := X) (zu := zu) (t := t) ⟨by rw [List.length_set]; exact hw.1, fun kk cc hkk => by
          rw [List.getElem?_set] at hkk
          split at hkk
          · rename_i hck
            subst hck
            simp only [hcl, if_true, Option.some.injEq] at hkk
            subst hkk
            refine ⟨_, hx2, vs, by show (Sum.inr (ci0, vs) : va_E) = Sum.inr (ci, vs); rw [hci], by rw [List.length_set]; exact h3, fun j f v hf hv => ?_⟩
            rw [List.getElem?_set] at hf
            split at hf
            · rename_i hkj
              subst hkj
              simp only [hkl, if_true, Option.some.injEq] at hf
              subst hf
              rw [hx3] at hv
              cases hv
              exact ab_evc hev
            · exact h4 j f v hf hv
          · exact hw.2 kk cc hkk⟩ (fun i q hi => by
            obtain ⟨x', a1, a2⟩ := hx (i + 1) q (by simpa using hi)
            exact ⟨x', by rw [show b + 1 + i = b + (i + 1) by omega]; exact a1, a2⟩)
        refine ⟨i1, i2.trans ?_⟩
        exact ab_map_set_same hc (by
          simp only [ab_flg]
          exact ab_map_set_same hk rfl)
      · cases h
    · cases h
  | (2, c, j) :: r, b, cs, cs2, h, hw, hx => by
    obtain ⟨x, hx1, ad, cA0, n0, y0, hx2, hx3⟩ := hx 0 _ rfl
    simp only [ab_xput, ab_get_eq, ab_setK_eq, ab_putK_eq, ab_fn_eq] at h
    split at h
    · rename_i t' n fl d ov hc
      obtain ⟨q, h1, cA, y, h2, h3, h4, h5⟩ := hw.2 c _ hc
      rw [hx2] at h1
      cases h1
      dsimp only at h2 h3 h4 h5
      simp only [Sum.inl.injEq, Prod.mk.injEq] at h2
      obtain ⟨rfl, rfl, rfl⟩ := h2
      have hcl : c < cs.length := (List.getElem?_eq_some_iff.mp hc).1
      have hev : ab_evI zu.1 (some b, 0) = some x := by
        simp only [Nat.add_zero] at hx1
        simp only [ab_evI, hx1, Option.map_some]; simp
      obtain ⟨i1, i2⟩ := ab_xput_ok h (ws := ws) (X := X) (zu := zu) (t := t) ⟨by rw [List.length_set]; exact hw.1, fun kk cc hkk => by
        rw [List.getElem?_set] at hkk
        split at hkk
        · rename_i hck
          subst hck
          simp only [hcl, if_true, Option.some.injEq] at hkk
          subst hkk
          refine ⟨_, hx2, cA0, y0, rfl, h3, h4, fun jj hj => ?_⟩
          dsimp only
          rw [ab_at_put]
          by_cases hjj : jj = j
          · rw [if_pos hjj, hjj, hx3]
            exact ab_evc hev
          · rw [if_neg hjj]
            exact h5 jj hj
        · exact hw.2 kk cc hkk⟩ (fun i q hi => by
          obtain ⟨x', a1, a2⟩ := hx (i + 1) q (by simpa using hi)
          exact ⟨x', by rw [show b + 1 + i = b + (i + 1) by omega]; exact a1, a2⟩)
      exact ⟨i1, i2.trans (ab_map_set_same hc rfl)⟩
    · cases h
theorem ab_rnL_ok {sg : List ab_I} {rho V : List Int32} (hs : ∀ (u : Nat) (a : ab_I), sg[u]? = some a → ∃ x, ab_evI rho a = some x ∧ V[u]? = some x) : ∀ {l l' : List ab_I} {xs : List Int32}, ab_rnL sg l = some l' → l.map (ab_evI V) = xs.map some → l'.map (ab_evI rho) = xs.map some
  | [], l', xs, h, e => by
    simp only [ab_rnL, Option.some.injEq] at h
    subst h
    exact e
  | b :: t, l', [], h, e => by simp at e
  | b :: t, l', x :: xs, h, e => by
    simp only [ab_rnL] at h
    split at h
    · rename_i a ha
      split at h
      · rename_i l0 hl
        cases h
        simp only [List.map_cons, List.cons.injEq] at e ⊢
        refine ⟨?_, ab_rnL_ok hs hl e.2⟩
        obtain ⟨v, c⟩ := b
        cases v with
        | none =>
          simp only [ab_rn, Option.some.injEq] at ha
          subst ha
          exact e.1
        | some u =>
          simp only [ab_rn, ab_get_eq] at ha
          cases hc : ab_ie c 0
          · rw [hc] at ha; cases ha
          · rw [hc, cond_true] at ha
            rw [ab_ie_iff] at hc
            subst hc
            obtain ⟨x', g1, g2⟩ := hs u a ha
            have := ab_evI_v0 e.1
            rw [this] at g2
            cases g2
            exact g1
      · cases h
    · cases h
theorem ab_rnFs_ok {sg : List ab_I} {zu zV : ab_Z} {ws : va_W} (hs : ∀ (u : Nat) (a : ab_I), sg[u]? = some a → ∃ x, ab_evI zu.1 a = some x ∧ zV.1[u]? = some x) : ∀ {fx f2 : List ab_Y}, ab_rnFs sg fx = some f2 → (∀ f ∈ fx, ab_fs zV ws f) → ∀ f ∈ f2, ab_fs zu ws f
  | [], f2, h, _, f, hf => by
    simp only [ab_rnFs, Option.some.injEq] at h
    subst h
    cases hf
  | (kd, l) :: r, f2, h, hh, f, hf => by
    simp only [ab_rnFs] at h
    split at h
    · rename_i l' hl
      split at h
      · rename_i t ht
        cases h
        rcases List.mem_cons.mp hf with rfl | hf
        · obtain ⟨xs, e1, e2⟩ := hh _ List.mem_cons_self
          exact ⟨xs, ab_rnL_ok hs hl e1, e2⟩
        · exact ab_rnFs_ok hs ht (fun g hg => hh g (List.mem_cons_of_mem _ hg)) f hf
      · cases h
    · cases h
theorem ab_kfn_ok {G : List ab_C} {ws ws1 : va_W} (hfr : ∀ (k : Nat) (t9 n9 : Nat) (d9 : ab_w) (ov9 : List (Nat × Nat × ab_w)), G[k]? = some (.inr (t9, n9, false, d9, ov9)) → ab_arr ws1 k = ab_arr ws k) {rho : List Int32} : ∀ {n : Nat} {l : List ab_I} {xs : List Int32}, ab_kfn G n l = true → l.map (ab_evI rho) = xs.map some → ∀ x ∈ xs.take n, ab_arr ws1 x.toNatClampNeg = ab_arr ws x.toNatClampNeg
  | 0, _, _, _, _, x, hx => by simp at hx
  | n + 1, [], xs, h, _, _, _ => by simp [ab_kfn] at h
  | n + 1, (some v, c) :: r, xs, h, _, _, _ => by simp [ab_kfn] at h
  | n + 1, (none, c) :: r, [], h, e, _, _ => by simp at e
  | n + 1, (none, c) :: r, y :: xs, h, e, x, hx => by
    simp only [ab_kfn, Bool.and_eq_true, ab_le_iff, ab_get_eq] at h
    obtain ⟨⟨⟨h1, h2⟩, h3⟩, h4⟩ := h
    simp only [List.map_cons, List.cons.injEq] at e
    obtain ⟨e1, e2⟩ := e
    rw [List.take_succ_cons] at hx
    rcases List.mem_cons.mp hx with rfl | hx
    · simp only [ab_evI, Option.some.injEq] at e1
      have hc : x.toNatClampNeg = c.toNat := by
        rw [← e1]
        show (Int32.ofInt c).toInt.toNat = c.toNat
        rw [ab_of c (by omega) h2]
      rw [hc]
      split at h3
      · rename_i t9 n9 d9 ov9 hg
        exact hfr _ _ _ _ _ hg
      · cases h3
    · exact ab_kfn_ok hfr h4 e2 x hx
theorem ab_mgF_un : ∀ {fs gs l : List ab_F}, gs.any Prod.fst = false → ab_mgF fs gs = some l → l = fs ∧ gs.length = fs.length
  | [], [], l, _, h => by
    simp only [ab_mgF, Option.some.injEq] at h
    exact ⟨h.symm, rfl⟩
  | [], _ :: _, _, _, h => by simp [ab_mgF] at h
  | _ :: _, [], _, _, h => by simp [ab_mgF] at h
  | (b, w) :: r, (b', w') :: t, l, ha, h => by
    simp only [List.any_cons, Bool.or_eq_false_iff] at ha
    simp only [ab_mgF] at h
    split at h
    · rename_i l0 hl0
      rw [ha.1, cond_false] at h
      cases h
      obtain ⟨i1, i2⟩ := ab_mgF_un ha.2 hl0
      exact ⟨by rw [i1], by simp [i2]⟩
    · cases h
/-- what the context may not write, the caller knows as before -/
theorem ab_mgC_un {X : ab_X} {z z1 : ab_Z} {s s' : State} {c g c' cS : ab_C} {e e0 : va_E} (ha : ab_any g = false) (h : ab_mgC c g = some c') (hc : ab_cR X z s c e0) (hS : ab_cR X z1 s' cS e) (hfl : ab_flg cS = ab_flg g) (hf : ab_fC (ab_flg g) e e0) : e = e0 ∧ c = c' := by
  have hall := ab_flg_all ha
  unfold ab_mgC at h
  split at h
  · rename_i i fs j gs
    split at h
    · rename_i l hl
      cases h
      obtain ⟨i1, i2⟩ := ab_mgF_un ha hl
      subst i1
      obtain ⟨vs0, rfl, g2, -⟩ := hc
      obtain ⟨vs, rfl, h2⟩ := hf
      rcases cS with oc | ac
      · obtain ⟨vs1, e1, g4, -⟩ := hS
        simp only [Sum.inr.injEq, Prod.mk.injEq] at e1
        obtain ⟨-, rfl⟩ := e1
        have hlen : vs.length = vs0.length := by
          have := congrArg List.length hfl
          simp only [ab_flg, List.length_map] at this
          rw [← g4, ← g2, this, i2]
        have : vs = vs0 := by
          apply List.ext_getElem?
          intro jj
          by_cases hj : jj < gs.length
          · have hj2 : jj < (gs.map Prod.fst).length := by simpa using hj
            refine h2 jj ?_
            show (gs.map Prod.fst)[jj]? = some false
            rw [List.getElem?_eq_getElem hj2]
            exact congrArg some (hall _ (List.getElem_mem hj2))
          · rw [List.getElem?_eq_none (by rw [hlen, ← g2]; have h9 := i2; have h8 := hj; dsimp only at h9 h8 ⊢; omega), List.getElem?_eq_none (by rw [← g2]; have h9 := i2; have h8 := hj; dsimp only at h9 h8 ⊢; omega)]
        rw [this]
        exact ⟨rfl, rfl⟩
      · obtain ⟨cA, x, e1, -⟩ := hS
        cases e1
    · cases h
  · rename_i t1 n fl d ov t2 n2 fl' dg og
    have h9 : fl' = false := ha
    subst h9
    cases hb : (Nat.beq t1 t2 && Nat.beq n n2)
    · rw [hb] at h; cases h
    · rw [hb, cond_true, cond_false] at h
      cases h
      obtain ⟨cA, x, rfl, -⟩ := hc
      exact ⟨hf.1 rfl, rfl⟩
  · cases h
section
variable {p : Program} {l : Launch} {e : Env} {R : Room} {s : State} {m : MethodId} {args : Array Value} {below : List Frame} {meth : Method} {c : Code} {cc : ByteArray} {own : String} {nL : Nat} {X : ab_X} {D : va_G}
variable {M : ab_SM} {ret : Option FieldType} {env : ab_E} {nl : Nat} {aw : ab_H} {z : ab_Z} {ws : va_W} {cs : List ab_C} {mc ms : Nat}
/-- at an end: what the caller knows -/
theorem ab_ctxU (hin : ab_inn X env nl z ws) (hw : ab_wR X z s aw ws) (hmg : ab_mgs aw.1 M.2.2.1.1 = some cs) {FL : List (List Bool)} (hFL : ∃ t, M.2.2.1.1.map ab_flg = FL ++ t) (hFLl : FL.length = aw.1.length)
    {zz z1 : ab_Z} {S : ab_S} {ws1 : va_W} {H1 : Heap} {locs1 : List Loc} (hR1 : ab_R X D s (zz, ws, FL) S.1.1 S.1.2.1 S.1.2.2.1 z1 ws1 H1 locs1) (hsub : ab_subCf S.1.1 [] (M.2.2.1.1.map ab_any) S.1.2.2.1.1 M.2.2.1.1 = true) {zu : ab_Z} (hzu : ab_ext z zu) (hzu2 : zu.2.2 = z.2.2) {t : State} (hvm : s.vm.Alike t.vm) :
    ws1.map Prod.fst = zu.2.2 ∧ ab_e0 (z, ws, aw.1.map ab_flg) (cs, aw.2.filter (fun f => ab_kfn M.2.2.1.1 (ab_nc f.1) f.2)) zu ws1 ∧ ab_wR X zu t (cs, aw.2.filter (fun f => ab_kfn M.2.2.1.1 (ab_nc f.1) f.2)) ws1 := by
  obtain ⟨r1, r2, r3, r4, r5, r6, r7, r8, r9, ⟨tt, rt⟩, r11⟩ := hR1
  obtain ⟨m1, m2, m3⟩ := ab_mgs_at hmg
  have hv0 : ab_vr z1 z1 [] := ⟨rfl, fun u a h => by simp at h⟩
  obtain ⟨c1, c2, c3⟩ := ab_subCf_ok hsub
  have hlen : ws1.length = ws.length := by rw [← r4.1.1, c1, List.length_map, m2, hw.1.1]
  have hadr : ws1.map Prod.fst = ws.map Prod.fst := r11.len hlen
  have hz12 : zu.2.2 = z1.2.2 := by rw [hzu2, ← r3, hadr, hin.2.2.1]
  obtain ⟨t0, ht0⟩ := hFL
  have hflk : ∀ (k : Nat) (g : ab_C), M.2.2.1.1[k]? = some g → FL[k]? = some (ab_flg g) := by
    intro k g hg
    have hk : k < FL.length := by rw [hFLl, ← m2]; exact (List.getElem?_eq_some_iff.mp hg).1
    have h9 : (M.2.2.1.1.map ab_flg)[k]? = some (ab_flg g) := by rw [List.getElem?_map, hg]; rfl
    rw [ht0, List.getElem?_append_left hk] at h9
    exact h9
  have cell : ∀ (k : Nat) (c' : ab_C), cs[k]? = some c' → ∃ c g q q0, aw.1[k]? = some c ∧ M.2.2.1.1[k]? = some g ∧ ws[k]? = some q0 ∧ ws1[k]? = some q ∧ q.1 = q0.1 ∧ ab_fC (ab_flg g) q.2 q0.2 ∧ ab_cR X zu t c' q.2 ∧ ab_flg c' = ab_flg c := by
    intro k c' hk
    obtain ⟨c, g, a1, a2, a3⟩ := m3 k c' hk
    obtain ⟨q0, b1, b2⟩ := hw.1.2 k c a1
    obtain ⟨q, d1, d2, d3⟩ := r11 k q0 b1
    have hfc := d3 _ (hflk k g a2)
    cases ha : ab_any g
    · have hkl : k < FL.length := by rw [hFLl]; exact (List.getElem?_eq_some_iff.mp a1).1
      have hsk : (S.1.2.2.1.1.map ab_flg)[k]? = some (ab_flg g) := by
        rw [rt, List.getElem?_append_left hkl]; exact hflk k g a2
      rw [List.getElem?_map] at hsk
      cases hS : S.1.2.2.1.1[k]? with
      | none => rw [hS] at hsk; cases hsk
      | some cS =>
        rw [hS] at hsk
        have hfS : ab_flg cS = ab_flg g := by simpa using hsk
        obtain ⟨q', f1, f2⟩ := r4.1.2 k cS hS
        cases Option.some.inj (f1.symm.trans d1)
        obtain ⟨e9, hcc⟩ := ab_mgC_un ha a3 b2 f2 hfS hfc
        subst hcc
        refine ⟨_, g, _, q0, a1, a2, b1, d1, d2, hfc, ?_, rfl⟩
        rw [e9]
        exact (b2.ext hzu).moved hvm
    · obtain ⟨cS, e1, e2⟩ := c3 k g a2 (by rw [List.getElem?_map, a2]; simp [ha])
      obtain ⟨q', f1, f2⟩ := r4.1.2 k cS e1
      cases Option.some.inj (f1.symm.trans d1)
      have hg9 := ((ab_subC_ok r1 hv0 e2 f2).1).moved hvm
      obtain ⟨x1, x2⟩ := ab_mgC_ok hz12 hzu hvm a3 b2 hg9 hfc
      exact ⟨c, g, _, q0, a1, a2, b1, d1, d2, hfc, x1, x2⟩
  have hflg : cs.map ab_flg = aw.1.map ab_flg := by
    apply List.ext_getElem?
    intro j
    rw [List.getElem?_map, List.getElem?_map]
    cases hj : cs[j]? with
    | none => rw [List.getElem?_eq_none (by rw [← m1]; exact List.getElem?_eq_none_iff.mp hj)]
    | some c' =>
      obtain ⟨c, g, q, q0, a1, -, -, -, -, -, -, a8⟩ := cell j c' hj
      rw [a1]; simp [a8]
  have hback : ∀ (k : Nat) (q0 : Nat × va_E), ws[k]? = some q0 → ∃ c', cs[k]? = some c' := by
    intro k q0 hk
    have hk2 : k < cs.length := by rw [m1, hw.1.1]; exact (List.getElem?_eq_some_iff.mp hk).1
    exact ⟨_, List.getElem?_eq_getElem hk2⟩
  refine ⟨by rw [hadr, hin.2.2.1, hzu2], ⟨hzu, ⟨[], by rw [List.append_nil]; exact hflg⟩, fun k q0 hk => ?_⟩, ⟨by rw [m1, hw.1.1, hlen], fun k c' hk => ?_⟩, fun f hf => ?_⟩
  · obtain ⟨c', hc'⟩ := hback k q0 hk
    obtain ⟨c9, g, q, q0', a1, a2, a3, a4, a5, a6, a7, a8⟩ := cell k c' hc'
    cases Option.some.inj (a3.symm.trans hk)
    refine ⟨q, a4, a5, fun fl hfl => ?_⟩
    have e1 : fl = ab_flg c9 := by
      have h9 : (aw.1.map ab_flg)[k]? = some fl := hfl
      rw [List.getElem?_map, a1] at h9
      cases h9; rfl
    subst e1
    have hmc := (m3 k c' hc')
    obtain ⟨c8, g8, w1, w2, w3⟩ := hmc
    cases Option.some.inj (w1.symm.trans a1)
    cases Option.some.inj (w2.symm.trans a2)
    obtain ⟨q9, y1, y2⟩ := hw.1.2 k _ a1
    cases Option.some.inj (y1.symm.trans hk)
    exact ab_fC_mono w3 y2 a6
  · obtain ⟨c9, g, q, q0', a1, a2, a3, a4, a5, a6, a7, a8⟩ := cell k c' hk
    exact ⟨q, a4, a7⟩
  · obtain ⟨hf1, hf2⟩ := List.mem_filter.mp hf
    obtain ⟨xs, h1, h2⟩ := (hw.2 f hf1).ext hzu
    refine ⟨xs, h1, h2.frame (fun x hx => ?_)⟩
    have hfr : ∀ (k : Nat) (t9 n9 : Nat) (d9 : ab_w) (ov9 : List (Nat × Nat × ab_w)), M.2.2.1.1[k]? = some (.inr (t9, n9, false, d9, ov9)) → ab_arr ws1 k = ab_arr ws k := by
      intro k t9 n9 d9 ov9 hk
      have hkl : k < ws.length := by rw [← hw.1.1, ← m2]; exact (List.getElem?_eq_some_iff.mp hk).1
      obtain ⟨c', hc'⟩ := hback k _ (List.getElem?_eq_getElem hkl)
      obtain ⟨c9, g, q, q0, a1, a2, a3, a4, a5, a6, a7, a8⟩ := cell k c' hc'
      cases Option.some.inj (a2.symm.trans hk)
      unfold ab_arr
      rw [a3, a4]
      obtain ⟨qa, qe⟩ := q
      obtain ⟨pa, pe⟩ := q0
      dsimp only at a5 a6
      cases pe with
      | inr o =>
        obtain ⟨vs, e9, -⟩ := a6
        subst e9
        rfl
      | inl o =>
        have e9 : qe = .inl o := a6.1 rfl
        subst e9
        rw [a5]
    exact ab_kfn_ok hfr hf2 h1 x hx
end
