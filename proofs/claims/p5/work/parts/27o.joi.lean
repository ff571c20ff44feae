/-! Two contracts of one method hold of one end: a thread alone steps in one way. -/
theorem jn_len {t : State} {below : List Frame} {v : Option Value} (h : Ended t below (.returned v)) : t.frames.length = below.length := by
  unfold Ended at h
  cases below with
  | nil => exact congrArg List.length h.2
  | cons f r =>
    cases f with
    | java g =>
      obtain ⟨c, i, len, _, _, h3⟩ := h
      rw [h3]
      rfl
    | native g => rw [h]; rfl
    | proc g => rw [h]; rfl
    | _ => exact congrArg List.length h.2
theorem jn_len1 {t : State} {below : List Frame} {a : Addr} (h : Ended t below (.threw a)) : t.frames.length = below.length + 1 := by
  unfold Ended at h
  rw [h]
  rfl
theorem jn_win {t : State} {below : List Frame} {o : Outcome} (h : Ended t below o) : ¬ Within t below := by
  rintro ⟨above, h1, h2, h3⟩
  cases o with
  | returned v =>
    have e := jn_len h
    rw [h1, List.length_append] at e
    exact h2 (List.eq_nil_of_length_eq_zero (by omega))
  | threw a =>
    unfold Ended at h
    rw [h1] at h
    exact h3 a (List.append_cancel_right (show above ++ below = [.throwing a] ++ below from h))
theorem jn_out {t : State} {below : List Frame} {o1 o2 : Outcome} (h1 : Ended t below o1) (h2 : Ended t below o2) : o1 = o2 := by
  cases o1 with
  | threw a =>
    cases o2 with
    | threw b =>
      unfold Ended at h1 h2
      rw [h1] at h2
      injection h2 with h3 h4
      injection h3 with h5
      rw [h5]
    | returned v =>
      have e1 := jn_len1 h1
      have e2 := jn_len h2
      omega
  | returned v =>
    cases o2 with
    | threw b =>
      have e1 := jn_len h1
      have e2 := jn_len1 h2
      omega
    | returned u =>
      have tl : ∀ {g : List Value}, v.toList ++ g = u.toList ++ g → v = u := by
        intro g h
        have h9 := List.append_cancel_right h
        cases v <;> cases u <;> simp at h9 <;> simp [h9]
      unfold Ended at h1 h2
      cases below with
      | nil => rw [h1.1, h2.1]
      | cons f r =>
        cases f with
        | java g =>
          obtain ⟨c, i, len, _, _, h3⟩ := h1
          obtain ⟨c', i', len', _, _, h4⟩ := h2
          rw [h3] at h4
          injection h4 with h5 h6
          injection h5 with h7
          exact congrArg Outcome.returned (tl (congrArg JFrame.stack h7))
        | native g =>
          rw [h1] at h2
          injection h2 with h5 h6
          injection h5 with h7
          have h8 := congrArg NFrame.answer h7
          simpa using h8
        | proc g =>
          rw [h1] at h2
          injection h2 with h5 h6
          injection h5 with h7
          have h8 := congrArg PFrame.answer h7
          simpa using h8
        | _ => rw [h1.1, h2.1]
theorem jn_met {l : Launch} {y : MethodName} {ws : List Cond} {rm : Room} {P1 P2 : Array Value → State → Prop} {Q1 Q2 : Array Value → State → Outcome → State → Prop} {mc ms mc2 ms2 : Nat} {free free2 : Addr → Prop} (h1 : Met l y ws rm P1 Q1 mc ms free) (h2 : Met l y ws rm P2 Q2 mc2 ms2 free2) : Met l y ws rm (fun a s => P1 a s ∧ P2 a s) (fun a s o t => Q1 a s o t ∧ Q2 a s o t) mc ms free := by
  intro p e ha hc hk s m args below hf happ hP hK
  obtain ⟨n1, o1, w1, r1, e1, q1⟩ := h1 p e ha hc hk s m args below hf happ hP.1 trivial
  obtain ⟨n2, o2, w2, r2, e2, q2⟩ := h2 p e ha hc hk s m args below hf happ hP.2 trivial
  have hn : n1 = n2 := by
    rcases Nat.lt_trichotomy n1 n2 with h | h | h
    · exact absurd (w2 n1 h) (jn_win e1)
    · exact h
    · exact absurd (w1 n2 h) (jn_win e2)
  subst hn
  have ho := jn_out e1 e2
  subst ho
  exact ⟨n1, o1, w1, r1, e1, ⟨q1.1, q2.1⟩, q1.2⟩
