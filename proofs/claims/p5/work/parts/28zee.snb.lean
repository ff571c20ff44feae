/-! The sentence: the reference, what it computes. -/
/-- what lies on the stack and among the codes fits -/
noncomputable def SB (σ : ex_S) : Prop := 0 ≤ (σ.1 22).toInt ∧ 0 ≤ (σ.1 24).toInt ∧ (σ.1 22).toInt + (σ.1 24).toInt ≤ 44
theorem ex_m3 {x : Int32} (h : 0 ≤ x.toInt ∧ x.toInt ≤ 44) : ((3 : Int32) * x).toInt = 3 * x.toInt := by
  have e : (3 : Int32).toInt = 3 := by decide
  rw [Int32.toInt_mul, e]
  exact Int.bmod_eq_of_le (by omega) (by omega)
theorem ex_m3a {x y : Int32} {k : Nat} (h : 0 ≤ x.toInt ∧ x.toInt ≤ 44) (hy : y.toInt = k) (hk : k ≤ 2) : (((3 : Int32) * x) + y).toInt = 3 * x.toInt + k := by
  have e := ex_m3 h
  have g := ex_add (x := (3 : Int32) * x) (y := y) (k := k) (by omega) hy (by omega)
  omega
theorem ex_dec1 {x : Int32} (h : 0 < x.toInt) : (x - (1 : Int32)).toInt = x.toInt - 1 := by
  have e : (1 : Int32).toInt = 1 := by decide
  have h1 := ab_i32 x
  rw [Int32.toInt_sub, e]
  exact Int.bmod_eq_of_le (by omega) (by omega)
noncomputable def B_code (what : Int32) (sg : Int32) (nn : Int32) (σ : ex_S) : ex_S :=
  (sI 22 ((σ.1 22) + (1 : Int32)) (sR 3 (upd (upd (upd (σ.2.2.1 3) (((3 : Int32) * (σ.1 22))).toNatClampNeg what) ((((3 : Int32) * (σ.1 22)) + (1 : Int32))).toNatClampNeg sg) ((((3 : Int32) * (σ.1 22)) + (2 : Int32))).toNatClampNeg nn) (sR 3 (upd (upd (σ.2.2.1 3) (((3 : Int32) * (σ.1 22))).toNatClampNeg what) ((((3 : Int32) * (σ.1 22)) + (1 : Int32))).toNatClampNeg sg) (sR 3 (upd (σ.2.2.1 3) (((3 : Int32) * (σ.1 22))).toNatClampNeg what) σ))))
theorem B_code_22 {a b c : Int32} {σ : ex_S} : (B_code a b c σ).1 22 = σ.1 22 + 1 := rfl
theorem B_code_k {a b c : Int32} {σ : ex_S} {k : Nat} (h : ¬ k = 22) : (B_code a b c σ).1 k = σ.1 k := by
  show (bif Nat.beq k 22 then σ.1 22 + 1 else σ.1 k) = σ.1 k
  cases hb : Nat.beq k 22
  · rfl
  · exact absurd (Nat.eq_of_beq_eq_true hb) h
/-- ints from 22 on and row 3 aside, all is as it was -/
noncomputable def B_M (σ τ : ex_S) : Prop := (∀ k, k < 22 ∨ k = 23 ∨ k = 26 → τ.1 k = σ.1 k) ∧ τ.2.1 = σ.2.1 ∧ (∀ j, ¬ j = 3 → τ.2.2.1 j = σ.2.2.1 j) ∧ τ.2.2.2 = σ.2.2.2
theorem B_M_0 (σ : ex_S) : B_M σ σ := ⟨fun _ _ => rfl, rfl, fun _ _ => rfl, rfl⟩
theorem B_M_t {σ τ υ : ex_S} (h1 : B_M σ τ) (h2 : B_M τ υ) : B_M σ υ := ⟨fun k hk => (h2.1 k hk).trans (h1.1 k hk), h2.2.1.trans h1.2.1, fun j hj => (h2.2.2.1 j hj).trans (h1.2.2.1 j hj), h2.2.2.2.trans h1.2.2.2⟩
theorem B_M_I {σ : ex_S} {k : Nat} {v : Int32} (hk : 22 ≤ k ∧ ¬ k = 23 ∧ ¬ k = 26) : B_M σ (sI k v σ) := ⟨fun j hj => sI_1.trans (if_neg (by omega)), rfl, fun _ _ => rfl, rfl⟩
theorem B_M_R {σ : ex_S} {f : Nat → Int32} : B_M σ (sR 3 f σ) := ⟨fun _ _ => rfl, rfl, fun j hj => sR_1.trans (if_neg hj), rfl⟩
theorem B_M_c {a b c : Int32} {σ : ex_S} : B_M σ (B_code a b c σ) := by
  refine ⟨fun k hk => B_code_k (by omega), rfl, fun j hj => ?_, rfl⟩
  show (sR 3 _ (sR 3 _ (sR 3 _ σ))).2.2.1 j = _
  rw [sR_1, if_neg hj, sR_1, if_neg hj, sR_1, if_neg hj]
theorem B_M_INV {σ τ : ex_S} (h : B_M σ τ) (hI : B_INV σ) : B_INV τ := by
  unfold B_INV at hI ⊢
  rw [h.1 2 (by decide), h.1 3 (by decide), h.2.2.1 2 (by decide)]
  exact hI
/-- nots on top of the stack go among the codes -/
noncomputable def B_ns : Nat → ex_S → ex_S
  | 0, σ => σ
  | n + 1, σ => if 0 < (σ.1 24).toInt then (if (σ.2.2.1 4) ((σ.1 24) - (1 : Int32)).toNatClampNeg = (20 : Int32) then B_ns n (B_code (20 : Int32) (0 : Int32) (0 : Int32) (sI 25 ((σ.1 25) - (1 : Int32)) (sI 24 ((σ.1 24) - (1 : Int32)) σ))) else σ) else σ
theorem B_ns_s {n : Nat} {σ : ex_S} : B_ns (n + 1) σ = if 0 < (σ.1 24).toInt then (if (σ.2.2.1 4) ((σ.1 24) - (1 : Int32)).toNatClampNeg = (20 : Int32) then B_ns n (B_code (20 : Int32) (0 : Int32) (0 : Int32) (sI 25 ((σ.1 25) - (1 : Int32)) (sI 24 ((σ.1 24) - (1 : Int32)) σ))) else σ) else σ := rfl
noncomputable def B_nots (σ : ex_S) : ex_S := B_ns (σ.1 24).toInt.toNat σ
/-- ands (and ors, if told so) on top of the stack go among the codes -/
noncomputable def B_js (till : Int32) : Nat → ex_S → ex_S
  | 0, σ => σ
  | n + 1, σ => if 0 < (σ.1 24).toInt then (if ((σ.2.2.1 4) ((σ.1 24) - (1 : Int32)).toNatClampNeg) = (21 : Int32) then B_js till n (B_code ((σ.2.2.1 4) ((σ.1 24) - (1 : Int32)).toNatClampNeg) (0 : Int32) (0 : Int32) (sI 24 ((σ.1 24) - (1 : Int32)) σ)) else if ((σ.2.2.1 4) ((σ.1 24) - (1 : Int32)).toNatClampNeg) = (22 : Int32) then (if till = (22 : Int32) then B_js till n (B_code ((σ.2.2.1 4) ((σ.1 24) - (1 : Int32)).toNatClampNeg) (0 : Int32) (0 : Int32) (sI 24 ((σ.1 24) - (1 : Int32)) σ)) else σ) else σ) else σ
theorem B_js_s {till : Int32} {n : Nat} {σ : ex_S} : B_js till (n + 1) σ = if 0 < (σ.1 24).toInt then (if ((σ.2.2.1 4) ((σ.1 24) - (1 : Int32)).toNatClampNeg) = (21 : Int32) then B_js till n (B_code ((σ.2.2.1 4) ((σ.1 24) - (1 : Int32)).toNatClampNeg) (0 : Int32) (0 : Int32) (sI 24 ((σ.1 24) - (1 : Int32)) σ)) else if ((σ.2.2.1 4) ((σ.1 24) - (1 : Int32)).toNatClampNeg) = (22 : Int32) then (if till = (22 : Int32) then B_js till n (B_code ((σ.2.2.1 4) ((σ.1 24) - (1 : Int32)).toNatClampNeg) (0 : Int32) (0 : Int32) (sI 24 ((σ.1 24) - (1 : Int32)) σ)) else σ) else σ) else σ := rfl
noncomputable def B_joins (till : Int32) (σ : ex_S) : ex_S := B_js till (σ.1 24).toInt.toNat σ
/-- what nots and joins do: entries of the stack become codes -/
noncomputable def B_P (σ τ : ex_S) : Prop := B_M σ τ ∧ SB τ ∧ (τ.1 22).toInt + (τ.1 24).toInt = (σ.1 22).toInt + (σ.1 24).toInt ∧ (τ.1 24).toInt ≤ (σ.1 24).toInt
theorem B_P_0 {σ : ex_S} (h : SB σ) : B_P σ σ := ⟨B_M_0 σ, h, rfl, Int.le_refl _⟩
theorem B_P_1 {σ τ : ex_S} {a : Int32} (h : SB σ) (h1 : 0 < (σ.1 24).toInt) (hm : B_M σ τ) (h22 : τ.1 22 = σ.1 22) (h24 : τ.1 24 = (σ.1 24) - (1 : Int32)) : B_P σ (B_code a (0 : Int32) (0 : Int32) τ) := by
  obtain ⟨i1, i2, i3⟩ := h
  have t9 := ex_dec1 (x := σ.1 24) h1
  have k22 : ((B_code a (0 : Int32) (0 : Int32) τ).1 22).toInt = (σ.1 22).toInt + 1 := by
    rw [B_code_22, h22]
    exact ex_inc (n := 100) (by have e9 : (100 : Int32).toInt = 100 := (by decide); omega)
  have k24 : ((B_code a (0 : Int32) (0 : Int32) τ).1 24).toInt = (σ.1 24).toInt - 1 := by
    rw [B_code_k (by decide), h24]
    exact t9
  exact ⟨B_M_t hm B_M_c, ⟨by omega, by omega, by omega⟩, by omega, by omega⟩
theorem B_P_t {σ τ υ : ex_S} (h1 : B_P σ τ) (h2 : B_P τ υ) : B_P σ υ := ⟨B_M_t h1.1 h2.1, h2.2.1, h2.2.2.1.trans h1.2.2.1, Int.le_trans h2.2.2.2 h1.2.2.2⟩
theorem B_P_ns : ∀ (n : Nat) (σ : ex_S), SB σ → B_P σ (B_ns n σ) := by
  intro n
  induction n with
  | zero => intro σ h; exact B_P_0 h
  | succ n ih =>
    intro σ h
    rw [B_ns_s]
    by_cases h1 : 0 < (σ.1 24).toInt
    · rw [if_pos h1]
      by_cases h2 : (σ.2.2.1 4) ((σ.1 24) - (1 : Int32)).toNatClampNeg = (20 : Int32)
      · rw [if_pos h2]
        have p := B_P_1 (a := (20 : Int32)) (τ := sI 25 ((σ.1 25) - (1 : Int32)) (sI 24 ((σ.1 24) - (1 : Int32)) σ)) h h1 (B_M_t (B_M_I (k := 24) (v := (σ.1 24) - (1 : Int32)) (by decide)) (B_M_I (by decide))) rfl rfl
        exact B_P_t p (ih _ p.2.1)
      · rw [if_neg h2]; exact B_P_0 h
    · rw [if_neg h1]; exact B_P_0 h
theorem B_P_nots {σ : ex_S} (h : SB σ) : B_P σ (B_nots σ) := B_P_ns _ σ h
theorem B_P_js {till : Int32} : ∀ (n : Nat) (σ : ex_S), SB σ → B_P σ (B_js till n σ) := by
  intro n
  induction n with
  | zero => intro σ h; exact B_P_0 h
  | succ n ih =>
    intro σ h
    rw [B_js_s]
    by_cases h1 : 0 < (σ.1 24).toInt
    · rw [if_pos h1]
      have p : ∀ a, B_P σ (B_code a (0 : Int32) (0 : Int32) (sI 24 ((σ.1 24) - (1 : Int32)) σ)) := fun a => B_P_1 h h1 (B_M_I (by decide)) rfl rfl
      by_cases h2 : ((σ.2.2.1 4) ((σ.1 24) - (1 : Int32)).toNatClampNeg) = (21 : Int32)
      · rw [if_pos h2]
        exact B_P_t (p _) (ih _ (p _).2.1)
      · rw [if_neg h2]
        by_cases h3 : ((σ.2.2.1 4) ((σ.1 24) - (1 : Int32)).toNatClampNeg) = (22 : Int32)
        · rw [if_pos h3]
          by_cases h4 : till = (22 : Int32)
          · rw [if_pos h4]
            exact B_P_t (p _) (ih _ (p _).2.1)
          · rw [if_neg h4]; exact B_P_0 h
        · rw [if_neg h3]; exact B_P_0 h
    · rw [if_neg h1]; exact B_P_0 h
theorem B_P_joins {till : Int32} {σ : ex_S} (h : SB σ) : B_P σ (B_joins till σ) := B_P_js _ σ h
theorem B_P_INV {σ τ : ex_S} (h : B_P σ τ) (hI : B_INV σ) : B_INV τ := B_M_INV h.1 hI
theorem inv_X11_nots (σ : ex_S) (h : SB σ) : SB (B_nots σ) := (B_P_nots h).2.1
theorem inv_X11_joins (till : Int32) (σ : ex_S) (h : SB σ) : SB (B_joins till σ) := (B_P_joins h).2.1
theorem inv_X11_code (a b c : Int32) (σ : ex_S) (hI : 0 ≤ (σ.1 22).toInt ∧ (σ.1 22).toInt ≤ 44) : (B_code a b c σ).1 26 = σ.1 26 := B_code_k (by decide)
theorem B_INV_code {a b c : Int32} {σ : ex_S} (h : B_INV σ) : B_INV (B_code a b c σ) := B_M_INV B_M_c h
/-- the reference within a sentence -/
noncomputable def SI (σ : ex_S) : Prop := B_INV σ ∧ (0 ≤ (σ.1 22).toInt ∧ 0 ≤ (σ.1 23).toInt ∧ (σ.1 23).toInt ≤ 20 ∧ 0 ≤ (σ.1 24).toInt) ∧ (σ.1 22).toInt + (σ.1 24).toInt + (if σ.1 26 = 0 then 0 else 1) ≤ 2 * (σ.1 23).toInt
/-- and the towns' number -/
noncomputable def SN (σ : ex_S) : Prop := 0 ≤ (σ.2.2.1 1 0).toInt ∧ (σ.2.2.1 1 0).toInt ≤ 7
theorem SI.sb {σ : ex_S} (h : SI σ) : SB σ := by
  obtain ⟨-, h2, h3⟩ := h
  refine ⟨h2.1, h2.2.2.2, ?_⟩
  split at h3 <;> omega
/-- ints from 22 on and the rows are as they were -/
noncomputable def B_L (σ τ : ex_S) : Prop := (∀ k, 22 ≤ k → τ.1 k = σ.1 k) ∧ τ.2.2 = σ.2.2
theorem B_L_0 (σ : ex_S) : B_L σ σ := ⟨fun _ _ => rfl, rfl⟩
theorem B_L_t {σ τ υ : ex_S} (h1 : B_L σ τ) (h2 : B_L τ υ) : B_L σ υ := ⟨fun k hk => (h2.1 k hk).trans (h1.1 k hk), h2.2.trans h1.2⟩
theorem lB_next (σ : ex_S) : B_L σ (B_next σ) := ⟨fun k hk => (kB_next σ).1 k (by omega), (kB_next σ).2⟩
theorem lB_I {σ : ex_S} {k : Nat} {v : Int32} (hk : k < 22) : B_L σ (sI k v σ) := ⟨fun j hj => sI_1.trans (if_neg (by omega)), rfl⟩
theorem lB_bad (σ : ex_S) {w : Int32} : B_L σ (B_bad w σ).2 := B_L_t (lB_I (by decide)) (lB_I (by decide))
theorem lB_looksAt (σ : ex_S) {f m : Int32} : B_L σ (B_looksAt f m σ).2 := by
  unfold B_looksAt
  simp only [ex_lt, ex_bd]
  repeat' (with_reducible split)
  all_goals (repeat (first
    | with_reducible exact B_L_0 _
    | with_reducible exact lB_bad _
    | with_reducible refine B_L_t (lB_I (by decide)) (lB_bad _)
    | with_reducible exact lB_I (by decide)
    ))
theorem fr_X11_next (σ : ex_S) : B_L σ (B_next σ) := lB_next σ
theorem fr_X11_looksAt (f m : Int32) (σ : ex_S) : B_L σ (B_looksAt f m σ).2 := lB_looksAt σ
theorem fr_X11_bad (w : Int32) (σ : ex_S) : B_L σ (B_bad w σ).2 := lB_bad σ
theorem fr_X11_code (a b c : Int32) (σ : ex_S) : (∀ k, 23 ≤ k → (B_code a b c σ).1 k = σ.1 k) ∧ True := ⟨fun k hk => B_code_k (by omega), trivial⟩
theorem SI_L {σ τ : ex_S} (h : SI σ) (hi : B_INV τ) (hL : B_L σ τ) : SI τ := by
  obtain ⟨-, h2, h3⟩ := h
  refine ⟨hi, ?_, ?_⟩
  · rw [hL.1 22 (by decide), hL.1 23 (by decide), hL.1 24 (by decide)]; exact h2
  · rw [hL.1 22 (by decide), hL.1 23 (by decide), hL.1 24 (by decide), hL.1 26 (by decide)]; exact h3
/-- codes and entries of the stack, ones -/
theorem SI_P {σ τ : ex_S} (h : SI σ) (hP : B_P σ τ) : SI τ := by
  obtain ⟨h1, h2, h3⟩ := h
  obtain ⟨q1, ⟨q2, q3, q4⟩, q5, q6⟩ := hP
  refine ⟨B_M_INV q1 h1, ⟨q2, by rw [q1.1 23 (by decide)]; exact h2.2.1, by rw [q1.1 23 (by decide)]; exact h2.2.2.1, q3⟩, ?_⟩
  rw [q1.1 23 (by decide), q1.1 26 (by decide), q5]; exact h3
noncomputable def B_leafOf (σ : ex_S) : Int32 :=
  ex_lt (B_isWord (491394656372 : Int64) σ) (fun r1 =>
  if r1 = 0 then
    ex_lt (B_isWord (126892147762532 : Int64) σ) (fun r4 =>
    if r4 = 0 then
      ex_lt (B_isWord (108243466675048 : Int64) σ) (fun r7 =>
      if r7 = 0 then
        ex_lt (B_isWord (418363302244 : Int64) σ) (fun r11 =>
        if r11 = 0 then
          ex_lt (B_isWord (1717662580 : Int64) σ) (fun r14 =>
          if r14 = 0 then
            ex_lt (B_isWord (1936486263 : Int64) σ) (fun r17 =>
            if r17 = 0 then
              ex_lt (B_isWord (108243635103086 : Int64) σ) (fun r20 =>
              if r20 = 0 then
                ex_lt (B_isWord (121450625394034 : Int64) σ) (fun r23 =>
                if r23 = 0 then
                  (-1 : Int32)
                else
                  (7 : Int32))
              else
                (6 : Int32))
            else
              (5 : Int32))
          else
            (4 : Int32))
        else
          (3 : Int32))
      else
        (2 : Int32))
    else
      (1 : Int32))
  else
    (0 : Int32))
noncomputable def B_operand (σ : ex_S) : Int32 × ex_S :=
  ex_lt (B_isWord (7237492 : Int64) σ) (fun r1 =>
  ex_lt (B_isSign (40 : Int32) σ) (fun r3 =>
  ex_lt (B_leafOf σ) (fun r5 =>
  if r1 = 0 then
    if r3 = 0 then
      if (r5).toInt < 0 then
        ex_bd (B_bad (1 : Int32) σ) (fun r241 σ242 =>
        (r241, σ242))
      else
        if (σ.1 23) = (20 : Int32) then
          ex_bd (B_bad (4 : Int32) σ) (fun r165 σ166 =>
          (r165, σ166))
        else
          if ((8 : Int32)).toInt < ((σ.1 25)).toInt then
            ex_bd (B_bad (4 : Int32) σ) (fun r236 σ237 =>
            (r236, σ237))
          else
            ex_lt (B_next (sI 23 ((σ.1 23) + (1 : Int32)) σ)) (fun σ171 =>
            if r1 = 0 then
              if r3 = 0 then
                if (r5).toInt < ((3 : Int32)).toInt then
                  ex_lt (B_code r5 (0 : Int32) (0 : Int32) (sI 26 (1 : Int32) σ171)) (fun σ231 =>
                  ((1 : Int32), σ231))
                else
                  if r5 = (3 : Int32) then
                    ex_bd (B_looksAt (0 : Int32) ((σ171.2.2.1 1) 0) (sI 26 (1 : Int32) σ171)) (fun r217 σ218 =>
                    if r217 = 0 then
                      ((0 : Int32), σ218)
                    else
                      ex_lt (B_code r5 (0 : Int32) (σ218.1 11) σ218) (fun σ223 =>
                      ex_lt (B_next σ223) (fun σ227 =>
                      ((1 : Int32), σ227))))
                  else
                    if (σ171.1 5) = (3 : Int32) then
                      if ((σ171.1 8)).toInt < ((60 : Int32)).toInt then
                        ex_bd (B_bad (1 : Int32) (sI 26 (1 : Int32) σ171)) (fun r187 σ188 =>
                        (r187, σ188))
                      else
                        if ((62 : Int32)).toInt < ((σ171.1 8)).toInt then
                          ex_bd (B_bad (1 : Int32) (sI 26 (1 : Int32) σ171)) (fun r212 σ213 =>
                          (r212, σ213))
                        else
                          ex_lt (B_next (sI 26 (1 : Int32) σ171)) (fun σ193 =>
                          if (σ193.1 5) = (2 : Int32) then
                            ex_lt (B_code r5 (σ171.1 8) (σ193.1 8) σ193) (fun σ198 =>
                            ex_lt (B_next σ198) (fun σ202 =>
                            ((1 : Int32), σ202)))
                          else
                            ex_bd (B_bad (1 : Int32) σ193) (fun r206 σ207 =>
                            (r206, σ207)))
                    else
                      ex_bd (B_bad (1 : Int32) (sI 26 (1 : Int32) σ171)) (fun r181 σ182 =>
                      (r181, σ182))
              else
                if r1 = 0 then
                  ((1 : Int32), (sI 25 ((σ171.1 25) + (1 : Int32)) (sI 24 ((σ171.1 24) + (1 : Int32)) (sR 4 (upd (σ171.2.2.1 4) ((σ171.1 24)).toNatClampNeg (23 : Int32)) σ171))))
                else
                  ((1 : Int32), (sI 25 ((σ171.1 25) + (1 : Int32)) (sI 24 ((σ171.1 24) + (1 : Int32)) (sR 4 (upd (σ171.2.2.1 4) ((σ171.1 24)).toNatClampNeg (20 : Int32)) σ171))))
            else
              if r1 = 0 then
                ((1 : Int32), (sI 25 ((σ171.1 25) + (1 : Int32)) (sI 24 ((σ171.1 24) + (1 : Int32)) (sR 4 (upd (σ171.2.2.1 4) ((σ171.1 24)).toNatClampNeg (23 : Int32)) σ171))))
              else
                ((1 : Int32), (sI 25 ((σ171.1 25) + (1 : Int32)) (sI 24 ((σ171.1 24) + (1 : Int32)) (sR 4 (upd (σ171.2.2.1 4) ((σ171.1 24)).toNatClampNeg (20 : Int32)) σ171)))))
    else
      if (σ.1 23) = (20 : Int32) then
        ex_bd (B_bad (4 : Int32) σ) (fun r87 σ88 =>
        (r87, σ88))
      else
        if ((8 : Int32)).toInt < ((σ.1 25)).toInt then
          ex_bd (B_bad (4 : Int32) σ) (fun r158 σ159 =>
          (r158, σ159))
        else
          ex_lt (B_next (sI 23 ((σ.1 23) + (1 : Int32)) σ)) (fun σ93 =>
          if r1 = 0 then
            if r3 = 0 then
              if (r5).toInt < ((3 : Int32)).toInt then
                ex_lt (B_code r5 (0 : Int32) (0 : Int32) (sI 26 (1 : Int32) σ93)) (fun σ153 =>
                ((1 : Int32), σ153))
              else
                if r5 = (3 : Int32) then
                  ex_bd (B_looksAt (0 : Int32) ((σ93.2.2.1 1) 0) (sI 26 (1 : Int32) σ93)) (fun r139 σ140 =>
                  if r139 = 0 then
                    ((0 : Int32), σ140)
                  else
                    ex_lt (B_code r5 (0 : Int32) (σ140.1 11) σ140) (fun σ145 =>
                    ex_lt (B_next σ145) (fun σ149 =>
                    ((1 : Int32), σ149))))
                else
                  if (σ93.1 5) = (3 : Int32) then
                    if ((σ93.1 8)).toInt < ((60 : Int32)).toInt then
                      ex_bd (B_bad (1 : Int32) (sI 26 (1 : Int32) σ93)) (fun r110 σ111 =>
                      (r110, σ111))
                    else
                      if ((62 : Int32)).toInt < ((σ93.1 8)).toInt then
                        ex_bd (B_bad (1 : Int32) (sI 26 (1 : Int32) σ93)) (fun r134 σ135 =>
                        (r134, σ135))
                      else
                        ex_lt (B_next (sI 26 (1 : Int32) σ93)) (fun σ116 =>
                        if (σ116.1 5) = (2 : Int32) then
                          ex_lt (B_code r5 (σ93.1 8) (σ116.1 8) σ116) (fun σ121 =>
                          ex_lt (B_next σ121) (fun σ125 =>
                          ((1 : Int32), σ125)))
                        else
                          ex_bd (B_bad (1 : Int32) σ116) (fun r129 σ130 =>
                          (r129, σ130)))
                  else
                    ex_bd (B_bad (1 : Int32) (sI 26 (1 : Int32) σ93)) (fun r103 σ104 =>
                    (r103, σ104))
            else
              if r1 = 0 then
                ((1 : Int32), (sI 25 ((σ93.1 25) + (1 : Int32)) (sI 24 ((σ93.1 24) + (1 : Int32)) (sR 4 (upd (σ93.2.2.1 4) ((σ93.1 24)).toNatClampNeg (23 : Int32)) σ93))))
              else
                ((1 : Int32), (sI 25 ((σ93.1 25) + (1 : Int32)) (sI 24 ((σ93.1 24) + (1 : Int32)) (sR 4 (upd (σ93.2.2.1 4) ((σ93.1 24)).toNatClampNeg (20 : Int32)) σ93))))
          else
            if r1 = 0 then
              ((1 : Int32), (sI 25 ((σ93.1 25) + (1 : Int32)) (sI 24 ((σ93.1 24) + (1 : Int32)) (sR 4 (upd (σ93.2.2.1 4) ((σ93.1 24)).toNatClampNeg (23 : Int32)) σ93))))
            else
              ((1 : Int32), (sI 25 ((σ93.1 25) + (1 : Int32)) (sI 24 ((σ93.1 24) + (1 : Int32)) (sR 4 (upd (σ93.2.2.1 4) ((σ93.1 24)).toNatClampNeg (20 : Int32)) σ93)))))
  else
    if (σ.1 23) = (20 : Int32) then
      ex_bd (B_bad (4 : Int32) σ) (fun r10 σ11 =>
      (r10, σ11))
    else
      if ((8 : Int32)).toInt < ((σ.1 25)).toInt then
        ex_bd (B_bad (4 : Int32) σ) (fun r80 σ81 =>
        (r80, σ81))
      else
        ex_lt (B_next (sI 23 ((σ.1 23) + (1 : Int32)) σ)) (fun σ16 =>
        if r1 = 0 then
          if r3 = 0 then
            if (r5).toInt < ((3 : Int32)).toInt then
              ex_lt (B_code r5 (0 : Int32) (0 : Int32) (sI 26 (1 : Int32) σ16)) (fun σ75 =>
              ((1 : Int32), σ75))
            else
              if r5 = (3 : Int32) then
                ex_bd (B_looksAt (0 : Int32) ((σ16.2.2.1 1) 0) (sI 26 (1 : Int32) σ16)) (fun r61 σ62 =>
                if r61 = 0 then
                  ((0 : Int32), σ62)
                else
                  ex_lt (B_code r5 (0 : Int32) (σ62.1 11) σ62) (fun σ67 =>
                  ex_lt (B_next σ67) (fun σ71 =>
                  ((1 : Int32), σ71))))
              else
                if (σ16.1 5) = (3 : Int32) then
                  if ((σ16.1 8)).toInt < ((60 : Int32)).toInt then
                    ex_bd (B_bad (1 : Int32) (sI 26 (1 : Int32) σ16)) (fun r32 σ33 =>
                    (r32, σ33))
                  else
                    if ((62 : Int32)).toInt < ((σ16.1 8)).toInt then
                      ex_bd (B_bad (1 : Int32) (sI 26 (1 : Int32) σ16)) (fun r56 σ57 =>
                      (r56, σ57))
                    else
                      ex_lt (B_next (sI 26 (1 : Int32) σ16)) (fun σ38 =>
                      if (σ38.1 5) = (2 : Int32) then
                        ex_lt (B_code r5 (σ16.1 8) (σ38.1 8) σ38) (fun σ43 =>
                        ex_lt (B_next σ43) (fun σ47 =>
                        ((1 : Int32), σ47)))
                      else
                        ex_bd (B_bad (1 : Int32) σ38) (fun r51 σ52 =>
                        (r51, σ52)))
                else
                  ex_bd (B_bad (1 : Int32) (sI 26 (1 : Int32) σ16)) (fun r26 σ27 =>
                  (r26, σ27))
          else
            if r1 = 0 then
              ((1 : Int32), (sI 25 ((σ16.1 25) + (1 : Int32)) (sI 24 ((σ16.1 24) + (1 : Int32)) (sR 4 (upd (σ16.2.2.1 4) ((σ16.1 24)).toNatClampNeg (23 : Int32)) σ16))))
            else
              ((1 : Int32), (sI 25 ((σ16.1 25) + (1 : Int32)) (sI 24 ((σ16.1 24) + (1 : Int32)) (sR 4 (upd (σ16.2.2.1 4) ((σ16.1 24)).toNatClampNeg (20 : Int32)) σ16))))
        else
          if r1 = 0 then
            ((1 : Int32), (sI 25 ((σ16.1 25) + (1 : Int32)) (sI 24 ((σ16.1 24) + (1 : Int32)) (sR 4 (upd (σ16.2.2.1 4) ((σ16.1 24)).toNatClampNeg (23 : Int32)) σ16))))
          else
            ((1 : Int32), (sI 25 ((σ16.1 25) + (1 : Int32)) (sI 24 ((σ16.1 24) + (1 : Int32)) (sR 4 (upd (σ16.2.2.1 4) ((σ16.1 24)).toNatClampNeg (20 : Int32)) σ16))))))))
noncomputable def B_behind (σ : ex_S) : Int32 × ex_S :=
  ex_lt (B_nots σ) (fun σ1 =>
  ex_lt (B_isWord (6385252 : Int64) σ1) (fun r4 =>
  if r4 = 0 then
    ex_lt (B_isWord (28530 : Int64) σ1) (fun r35 =>
    if r35 = 0 then
      ex_lt (B_joins (22 : Int32) σ1) (fun σ38 =>
      ex_lt (B_isSign (41 : Int32) σ38) (fun r41 =>
      if r41 = 0 then
        ex_bd (B_bad (1 : Int32) σ38) (fun r44 σ45 =>
        (r44, σ45))
      else
        if (σ38.1 24) = 0 then
          ex_bd (B_bad (1 : Int32) σ38) (fun r52 σ53 =>
          (r52, σ53))
        else
          ex_lt (B_next (sI 25 ((σ38.1 25) - (1 : Int32)) (sI 24 ((σ38.1 24) - (1 : Int32)) σ38))) (fun σ49 =>
          ((1 : Int32), σ49))))
    else
      ex_lt (B_isWord (6385252 : Int64) σ1) (fun r56 =>
      if r56 = 0 then
        ex_lt (B_joins (22 : Int32) σ1) (fun σ59 =>
        ex_lt (B_isWord (6385252 : Int64) σ59) (fun r62 =>
        if r62 = 0 then
          ex_lt (B_next (sI 26 (0 : Int32) (sI 24 ((σ59.1 24) + (1 : Int32)) (sR 4 (upd (σ59.2.2.1 4) ((σ59.1 24)).toNatClampNeg (22 : Int32)) σ59)))) (fun σ65 =>
          ((1 : Int32), σ65))
        else
          ex_lt (B_next (sI 26 (0 : Int32) (sI 24 ((σ59.1 24) + (1 : Int32)) (sR 4 (upd (σ59.2.2.1 4) ((σ59.1 24)).toNatClampNeg (21 : Int32)) σ59)))) (fun σ68 =>
          ((1 : Int32), σ68))))
      else
        ex_lt (B_joins (21 : Int32) σ1) (fun σ71 =>
        ex_lt (B_isWord (6385252 : Int64) σ71) (fun r74 =>
        if r74 = 0 then
          ex_lt (B_next (sI 26 (0 : Int32) (sI 24 ((σ71.1 24) + (1 : Int32)) (sR 4 (upd (σ71.2.2.1 4) ((σ71.1 24)).toNatClampNeg (22 : Int32)) σ71)))) (fun σ77 =>
          ((1 : Int32), σ77))
        else
          ex_lt (B_next (sI 26 (0 : Int32) (sI 24 ((σ71.1 24) + (1 : Int32)) (sR 4 (upd (σ71.2.2.1 4) ((σ71.1 24)).toNatClampNeg (21 : Int32)) σ71)))) (fun σ80 =>
          ((1 : Int32), σ80))))))
  else
    ex_lt (B_isWord (6385252 : Int64) σ1) (fun r7 =>
    if r7 = 0 then
      ex_lt (B_joins (22 : Int32) σ1) (fun σ11 =>
      ex_lt (B_isWord (6385252 : Int64) σ11) (fun r14 =>
      if r14 = 0 then
        ex_lt (B_next (sI 26 (0 : Int32) (sI 24 ((σ11.1 24) + (1 : Int32)) (sR 4 (upd (σ11.2.2.1 4) ((σ11.1 24)).toNatClampNeg (22 : Int32)) σ11)))) (fun σ17 =>
        ((1 : Int32), σ17))
      else
        ex_lt (B_next (sI 26 (0 : Int32) (sI 24 ((σ11.1 24) + (1 : Int32)) (sR 4 (upd (σ11.2.2.1 4) ((σ11.1 24)).toNatClampNeg (21 : Int32)) σ11)))) (fun σ20 =>
        ((1 : Int32), σ20))))
    else
      ex_lt (B_joins (21 : Int32) σ1) (fun σ23 =>
      ex_lt (B_isWord (6385252 : Int64) σ23) (fun r26 =>
      if r26 = 0 then
        ex_lt (B_next (sI 26 (0 : Int32) (sI 24 ((σ23.1 24) + (1 : Int32)) (sR 4 (upd (σ23.2.2.1 4) ((σ23.1 24)).toNatClampNeg (22 : Int32)) σ23)))) (fun σ29 =>
        ((1 : Int32), σ29))
      else
        ex_lt (B_next (sI 26 (0 : Int32) (sI 24 ((σ23.1 24) + (1 : Int32)) (sR 4 (upd (σ23.2.2.1 4) ((σ23.1 24)).toNatClampNeg (21 : Int32)) σ23)))) (fun σ32 =>
        ((1 : Int32), σ32)))))))
/-- what the reference's loop answers from a state on, and its end: none where it takes more turns -/
noncomputable def B_it : Nat → ex_S → Option (Int32 × ex_S)
  | 0, _ => none
  | k + 1, τ => if τ.1 26 = 0 then ex_bd (B_operand τ) (fun r υ => if r = 0 then some ((-1 : Int32) - (υ.1 10), υ) else B_it k υ)
      else if τ.1 5 = 0 then (if 0 < ((B_joins (22 : Int32) (B_nots τ)).1 24).toInt then some ((-1 : Int32) - ((B_bad (1 : Int32) (B_joins (22 : Int32) (B_nots τ))).2.1 10), (B_bad (1 : Int32) (B_joins (22 : Int32) (B_nots τ))).2) else some ((B_joins (22 : Int32) (B_nots τ)).1 23, B_joins (22 : Int32) (B_nots τ)))
      else ex_bd (B_behind τ) (fun r υ => if r = 0 then some ((-1 : Int32) - (υ.1 10), υ) else B_it k υ)
theorem B_it_s {k : Nat} {τ : ex_S} : B_it (k + 1) τ = if τ.1 26 = 0 then ex_bd (B_operand τ) (fun r υ => if r = 0 then some ((-1 : Int32) - (υ.1 10), υ) else B_it k υ)
      else if τ.1 5 = 0 then (if 0 < ((B_joins (22 : Int32) (B_nots τ)).1 24).toInt then some ((-1 : Int32) - ((B_bad (1 : Int32) (B_joins (22 : Int32) (B_nots τ))).2.1 10), (B_bad (1 : Int32) (B_joins (22 : Int32) (B_nots τ))).2) else some ((B_joins (22 : Int32) (B_nots τ)).1 23, B_joins (22 : Int32) (B_nots τ)))
      else ex_bd (B_behind τ) (fun r υ => if r = 0 then some ((-1 : Int32) - (υ.1 10), υ) else B_it k υ) := rfl
theorem B_it_o {k : Nat} {τ υ : ex_S} {r : Int32} (h : τ.1 26 = 0) (q : B_operand τ = (r, υ)) : B_it (k + 1) τ = if r = 0 then some ((-1 : Int32) - (υ.1 10), υ) else B_it k υ := B_it_s.trans ((if_pos h).trans (ex_bd_eq q))
theorem B_it_b {k : Nat} {τ υ : ex_S} {r : Int32} (h : ¬ τ.1 26 = 0) (h2 : ¬ τ.1 5 = 0) (q : B_behind τ = (r, υ)) : B_it (k + 1) τ = if r = 0 then some ((-1 : Int32) - (υ.1 10), υ) else B_it k υ := B_it_s.trans ((if_neg h).trans ((if_neg h2).trans (ex_bd_eq q)))
theorem B_it_e {k : Nat} {τ : ex_S} (h : ¬ τ.1 26 = 0) (h2 : τ.1 5 = 0) : B_it (k + 1) τ = if 0 < ((B_joins (22 : Int32) (B_nots τ)).1 24).toInt then some ((-1 : Int32) - ((B_bad (1 : Int32) (B_joins (22 : Int32) (B_nots τ))).2.1 10), (B_bad (1 : Int32) (B_joins (22 : Int32) (B_nots τ))).2) else some ((B_joins (22 : Int32) (B_nots τ)).1 23, B_joins (22 : Int32) (B_nots τ)) := B_it_s.trans ((if_neg h).trans (if_pos h2))
/-- the start -/
noncomputable def B_s0 (σ : ex_S) : ex_S := B_next (sI 26 (0 : Int32) (sI 25 (1 : Int32) (sI 24 (0 : Int32) (sI 23 (0 : Int32) (sI 22 (0 : Int32) (sI 9 (0 : Int32) (B_taken (200 : Int32) (sI 0 (0 : Int32) σ))))))))
/-- falls with each turn -/
noncomputable def B_me (σ : ex_S) : Int := 3 * (21 - (σ.1 23).toInt) + (σ.1 24).toInt + (if σ.1 26 = 0 then 0 else 2)
theorem ex_i20 {x : Int32} (h : 0 ≤ x.toInt ∧ x.toInt ≤ 20) (h2 : ¬ x = (20 : Int32)) : (x + (1 : Int32)).toInt = x.toInt + 1 ∧ x.toInt < 20 := by
  have e20 : (20 : Int32).toInt = 20 := by decide
  have h3 : ¬ x.toInt = 20 := fun q => h2 (Int32.toInt_inj.mp (q.trans e20.symm))
  exact ⟨ex_inc (n := 20) (by omega), by omega⟩
/-- a state behind an operand or what stands behind one -/
noncomputable def B_on (σ τ : ex_S) : Prop := SI τ ∧ SN τ ∧ B_me τ < B_me σ
theorem B_on_L {σ τ υ : ex_S} (h : B_on σ τ) (hi : B_INV υ) (hL : B_L τ υ) : B_on σ υ := by
  refine ⟨SI_L h.1 hi hL, ?_, ?_⟩
  · unfold SN
    rw [hL.2]; exact h.2.1
  · have h3 := h.2.2
    unfold B_me at h3 ⊢
    rw [hL.1 23 (by decide), hL.1 24 (by decide), hL.1 26 (by decide)]; exact h3
theorem B_on_n {σ τ : ex_S} (h : B_on σ τ) : B_on σ (B_next τ) := B_on_L h (inv_X11_next _ h.1.1) (lB_next _)
/-- the number of what is told goes up -/
noncomputable def B_up (σ : ex_S) : ex_S := sI 23 ((σ.1 23) + (1 : Int32)) σ
theorem B_up_i {σ : ex_S} (h : SI σ) (h0 : σ.1 26 = 0) (hN : SN σ) (h2 : ¬ (σ.1 23) = (20 : Int32)) : B_INV (B_next (B_up σ)) ∧ SN (B_next (B_up σ)) ∧ ((B_next (B_up σ)).1 22 = σ.1 22 ∧ ((B_next (B_up σ)).1 23).toInt = (σ.1 23).toInt + 1 ∧ (B_next (B_up σ)).1 24 = σ.1 24) ∧ (σ.1 23).toInt < 20 := by
  have e := ex_i20 ⟨h.2.1.2.1, h.2.1.2.2.1⟩ h2
  have hL := lB_next (B_up σ)
  refine ⟨inv_X11_next _ h.1, ?_, ⟨hL.1 22 (by decide), ?_, hL.1 24 (by decide)⟩, e.2⟩
  · unfold SN
    rw [hL.2]; exact hN
  · rw [hL.1 23 (by decide)]
    exact e.1
/-- not, or a bracket: on the stack -/
theorem B_on_push {σ τ : ex_S} {v d : Int32} (h : SI σ) (h0 : σ.1 26 = 0) (hi : B_INV τ) (hN : SN τ) (h22 : τ.1 22 = σ.1 22) (h23 : (τ.1 23).toInt = (σ.1 23).toInt + 1) (h24 : τ.1 24 = σ.1 24) (h26 : τ.1 26 = 0) (hlt : (σ.1 23).toInt < 20) (k : Nat) : B_on σ (sI 25 d (sI 24 ((τ.1 24) + (1 : Int32)) (sR 4 (upd (τ.2.2.1 4) k v) τ))) := by
  obtain ⟨h1, h2, h3⟩ := h
  rw [if_pos h0] at h3
  have e : ((τ.1 24) + (1 : Int32)).toInt = (τ.1 24).toInt + 1 := ex_inc (n := 100) (by have e9 : (100 : Int32).toInt = 100 := (by decide); rw [h24]; omega)
  rw [h24] at e
  refine ⟨⟨hi, ?_, ?_⟩, hN, ?_⟩
  · show 0 ≤ (τ.1 22).toInt ∧ 0 ≤ (τ.1 23).toInt ∧ (τ.1 23).toInt ≤ 20 ∧ 0 ≤ ((τ.1 24) + (1 : Int32)).toInt
    rw [h22, h24, e]
    omega
  · show (τ.1 22).toInt + ((τ.1 24) + (1 : Int32)).toInt + (if τ.1 26 = 0 then 0 else 1) ≤ 2 * (τ.1 23).toInt
    rw [h22, h24, e, if_pos h26]
    omega
  · unfold B_me
    show 3 * (21 - (τ.1 23).toInt) + ((τ.1 24) + (1 : Int32)).toInt + (if τ.1 26 = 0 then 0 else 2) < _
    rw [h24, e, if_pos h26, if_pos h0]
    omega
/-- one that is whole: a code more -/
theorem B_on_code {σ τ : ex_S} {a b c : Int32} (h : SI σ) (h0 : σ.1 26 = 0) (hi : B_INV τ) (hN : SN τ) (h22 : τ.1 22 = σ.1 22) (h23 : (τ.1 23).toInt = (σ.1 23).toInt + 1) (h24 : τ.1 24 = σ.1 24) (h26 : τ.1 26 = 1) (hlt : (σ.1 23).toInt < 20) : B_on σ (B_code a b c τ) := by
  obtain ⟨h1, h2, h3⟩ := h
  rw [if_pos h0] at h3
  have hn : ¬ τ.1 26 = 0 := by rw [h26]; decide
  have e : ((B_code a b c τ).1 22).toInt = (σ.1 22).toInt + 1 := by
    rw [B_code_22, h22]
    exact ex_inc (n := 100) (by have e9 : (100 : Int32).toInt = 100 := (by decide); omega)
  refine ⟨⟨B_INV_code hi, ?_, ?_⟩, hN, ?_⟩
  · rw [e, B_code_k (by decide), B_code_k (by decide), h24]
    omega
  · rw [e, B_code_k (by decide), B_code_k (by decide), B_code_k (by decide), h24, if_neg hn]
    omega
  · unfold B_me
    rw [B_code_k (by decide), B_code_k (by decide), B_code_k (by decide), h24, if_neg hn, if_pos h0]
    omega
/-- operand, behind: by their steps -/
noncomputable def B_psh (v : Int32) (υ : ex_S) : ex_S := sI 25 ((υ.1 25) + (1 : Int32)) (sI 24 ((υ.1 24) + (1 : Int32)) (sR 4 (upd (υ.2.2.1 4) ((υ.1 24)).toNatClampNeg v) υ))
noncomputable def B_psw (v : Int32) (χ : ex_S) : ex_S := sI 26 (0 : Int32) (sI 24 ((χ.1 24) + (1 : Int32)) (sR 4 (upd (χ.2.2.1 4) ((χ.1 24)).toNatClampNeg v) χ))
noncomputable def B_opM (r5 g : Int32) (χ : ex_S) : Int32 × ex_S := if (χ.1 5) = (2 : Int32) then ((1 : Int32), B_next (B_code r5 g (χ.1 8) χ)) else B_bad (1 : Int32) χ
noncomputable def B_opL (r5 : Int32) (υ : ex_S) : Int32 × ex_S :=
  if (r5).toInt < ((3 : Int32)).toInt then ((1 : Int32), B_code r5 (0 : Int32) (0 : Int32) (sI 26 (1 : Int32) υ))
  else if r5 = (3 : Int32) then ex_bd (B_looksAt (0 : Int32) ((υ.2.2.1 1) 0) (sI 26 (1 : Int32) υ)) (fun r χ => if r = 0 then ((0 : Int32), χ) else ((1 : Int32), B_next (B_code r5 (0 : Int32) (χ.1 11) χ)))
  else if (υ.1 5) = (3 : Int32) then (if ((υ.1 8)).toInt < ((60 : Int32)).toInt then B_bad (1 : Int32) (sI 26 (1 : Int32) υ) else if ((62 : Int32)).toInt < ((υ.1 8)).toInt then B_bad (1 : Int32) (sI 26 (1 : Int32) υ) else B_opM r5 (υ.1 8) (B_next (sI 26 (1 : Int32) υ)))
  else B_bad (1 : Int32) (sI 26 (1 : Int32) υ)
noncomputable def B_opP (r1 : Int32) (υ : ex_S) : Int32 × ex_S := if r1 = 0 then ((1 : Int32), B_psh (23 : Int32) υ) else ((1 : Int32), B_psh (20 : Int32) υ)
noncomputable def B_opT (r1 r3 r5 : Int32) (υ : ex_S) : Int32 × ex_S := if r1 = 0 then (if r3 = 0 then B_opL r5 υ else B_opP r1 υ) else B_opP r1 υ
noncomputable def B_opG (r1 r3 r5 : Int32) (σ : ex_S) : Int32 × ex_S := if (σ.1 23) = (20 : Int32) then B_bad (4 : Int32) σ else if ((8 : Int32)).toInt < ((σ.1 25)).toInt then B_bad (4 : Int32) σ else B_opT r1 r3 r5 (B_next (B_up σ))
noncomputable def B_opH (r1 r3 r5 : Int32) (σ : ex_S) : Int32 × ex_S := if r1 = 0 then (if r3 = 0 then (if (r5).toInt < 0 then B_bad (1 : Int32) σ else B_opG r1 r3 r5 σ) else B_opG r1 r3 r5 σ) else B_opG r1 r3 r5 σ
set_option maxRecDepth 100000 in
theorem B_op_eq (σ : ex_S) : B_operand σ = B_opH (B_isWord (7237492 : Int64) σ) (B_isSign (40 : Int32) σ) (B_leafOf σ) σ := rfl
noncomputable def B_bhC (χ : ex_S) : Int32 × ex_S := if B_isSign (41 : Int32) χ = 0 then B_bad (1 : Int32) χ else if (χ.1 24) = 0 then B_bad (1 : Int32) χ else ((1 : Int32), B_next (sI 25 ((χ.1 25) - (1 : Int32)) (sI 24 ((χ.1 24) - (1 : Int32)) χ)))
noncomputable def B_bhV (χ : ex_S) : Int32 × ex_S := if B_isWord (6385252 : Int64) χ = 0 then ((1 : Int32), B_next (B_psw (22 : Int32) χ)) else ((1 : Int32), B_next (B_psw (21 : Int32) χ))
noncomputable def B_bhW (υ : ex_S) : Int32 × ex_S := if B_isWord (6385252 : Int64) υ = 0 then B_bhV (B_joins (22 : Int32) υ) else B_bhV (B_joins (21 : Int32) υ)
noncomputable def B_bhH (υ : ex_S) : Int32 × ex_S := if B_isWord (6385252 : Int64) υ = 0 then (if B_isWord (28530 : Int64) υ = 0 then B_bhC (B_joins (22 : Int32) υ) else B_bhW υ) else B_bhW υ
set_option maxRecDepth 100000 in
theorem B_bh_eq (σ : ex_S) : B_behind σ = B_bhH (B_nots σ) := rfl
theorem B_op_L {σ υ : ex_S} {r5 : Int32} (h : SI σ) (h0 : σ.1 26 = 0) (hi : B_INV υ) (hN : SN υ) (h22 : υ.1 22 = σ.1 22) (h23 : (υ.1 23).toInt = (σ.1 23).toInt + 1) (h24 : υ.1 24 = σ.1 24) (hlt : (σ.1 23).toInt < 20) : (B_opL r5 υ).1 = 0 ∨ B_on σ (B_opL r5 υ).2 := by
  unfold B_opL
  by_cases c1 : (r5).toInt < ((3 : Int32)).toInt
  · rw [if_pos c1]
    exact Or.inr (B_on_code (τ := sI 26 (1 : Int32) υ) h h0 hi hN h22 h23 h24 rfl hlt)
  · rw [if_neg c1]
    by_cases c2 : r5 = (3 : Int32)
    · rw [if_pos c2]
      have hfm : (0 ≤ (0 : Int32).toInt ∧ 0 ≤ ((υ.2.2.1 1) 0).toInt) ∧ (0 : Int32).toInt + ((υ.2.2.1 1) 0).toInt ≤ 30 := by
        have z9 : (0 : Int32).toInt = 0 := by decide
        obtain ⟨n1, n2⟩ := hN
        rw [z9]
        exact ⟨⟨by omega, by omega⟩, by omega⟩
      have hL := lB_looksAt (sI 26 (1 : Int32) υ) (f := (0 : Int32)) (m := (υ.2.2.1 1) 0)
      have hv := inv_X11_looksAt (0 : Int32) ((υ.2.2.1 1) 0) (sI 26 (1 : Int32) υ) hi hfm
      obtain ⟨r, χ, q⟩ : ∃ r x, B_looksAt (0 : Int32) ((υ.2.2.1 1) 0) (sI 26 (1 : Int32) υ) = (r, x) := ex_pair _
      rw [q] at hL hv
      rw [ex_bd_eq q]
      by_cases c3 : r = 0
      · rw [if_pos c3]; exact Or.inl rfl
      · rw [if_neg c3]
        refine Or.inr (B_on_n (B_on_code h h0 hv ?_ ((hL.1 22 (by decide)).trans h22) ?_ ((hL.1 24 (by decide)).trans h24) (hL.1 26 (by decide)) hlt))
        · unfold SN
          rw [show χ.2.2 = υ.2.2 from hL.2]; exact hN
        · rw [show χ.1 23 = υ.1 23 from hL.1 23 (by decide)]; exact h23
    · rw [if_neg c2]
      by_cases c4 : (υ.1 5) = (3 : Int32)
      · rw [if_pos c4]
        by_cases c5 : ((υ.1 8)).toInt < ((60 : Int32)).toInt
        · rw [if_pos c5]; exact Or.inl rfl
        · rw [if_neg c5]
          by_cases c6 : ((62 : Int32)).toInt < ((υ.1 8)).toInt
          · rw [if_pos c6]; exact Or.inl rfl
          · rw [if_neg c6]
            unfold B_opM
            have hL := lB_next (sI 26 (1 : Int32) υ)
            have hv := inv_X11_next (sI 26 (1 : Int32) υ) hi
            by_cases c7 : ((B_next (sI 26 (1 : Int32) υ)).1 5) = (2 : Int32)
            · rw [if_pos c7]
              refine Or.inr (B_on_n (B_on_code h h0 hv ?_ ((hL.1 22 (by decide)).trans h22) ?_ ((hL.1 24 (by decide)).trans h24) (hL.1 26 (by decide)) hlt))
              · unfold SN
                rw [show (B_next (sI 26 (1 : Int32) υ)).2.2 = υ.2.2 from hL.2]; exact hN
              · rw [show (B_next (sI 26 (1 : Int32) υ)).1 23 = υ.1 23 from hL.1 23 (by decide)]; exact h23
            · rw [if_neg c7]; exact Or.inl rfl
      · rw [if_neg c4]; exact Or.inl rfl
theorem B_op_G {σ : ex_S} {r1 r3 r5 : Int32} (h : SI σ) (h0 : σ.1 26 = 0) (hN : SN σ) : (B_opG r1 r3 r5 σ).1 = 0 ∨ B_on σ (B_opG r1 r3 r5 σ).2 := by
  unfold B_opG
  by_cases c1 : (σ.1 23) = (20 : Int32)
  · rw [if_pos c1]; exact Or.inl rfl
  · rw [if_neg c1]
    by_cases c2 : ((8 : Int32)).toInt < ((σ.1 25)).toInt
    · rw [if_pos c2]; exact Or.inl rfl
    · rw [if_neg c2]
      obtain ⟨u1, u2, ⟨u3, u4, u5⟩, u6⟩ := B_up_i h h0 hN c1
      have u7 : (B_next (B_up σ)).1 26 = 0 := ((lB_next (B_up σ)).1 26 (by decide)).trans h0
      have hP : ∀ v, B_on σ (B_psh v (B_next (B_up σ))) := fun v => B_on_push h h0 u1 u2 u3 u4 u5 u7 u6 _
      have hp : (B_opP r1 (B_next (B_up σ))).1 = 0 ∨ B_on σ (B_opP r1 (B_next (B_up σ))).2 := by
        unfold B_opP
        by_cases c3 : r1 = 0
        · rw [if_pos c3]; exact Or.inr (hP _)
        · rw [if_neg c3]; exact Or.inr (hP _)
      unfold B_opT
      by_cases c3 : r1 = 0
      · rw [if_pos c3]
        by_cases c4 : r3 = 0
        · rw [if_pos c4]; exact B_op_L h h0 u1 u2 u3 u4 u5 u6
        · rw [if_neg c4]; exact hp
      · rw [if_neg c3]; exact hp
theorem inv_X11_operand (σ : ex_S) (h : SI σ ∧ σ.1 26 = 0 ∧ SN σ) : (B_operand σ).1 = 0 ∨ B_on σ (B_operand σ).2 := by
  obtain ⟨h1, h2, h3⟩ := h
  have g : ∀ r1 r3 r5, (B_opG r1 r3 r5 σ).1 = 0 ∨ B_on σ (B_opG r1 r3 r5 σ).2 := fun _ _ _ => B_op_G h1 h2 h3
  rw [B_op_eq]
  unfold B_opH
  by_cases c1 : B_isWord (7237492 : Int64) σ = 0
  · rw [if_pos c1]
    by_cases c2 : B_isSign (40 : Int32) σ = 0
    · rw [if_pos c2]
      by_cases c3 : (B_leafOf σ).toInt < 0
      · rw [if_pos c3]; exact Or.inl rfl
      · rw [if_neg c3]; exact g _ _ _
    · rw [if_neg c2]; exact g _ _ _
  · rw [if_neg c1]; exact g _ _ _
/-- and, or: on the stack; closed -/
theorem B_on_psw {σ χ : ex_S} {v : Int32} (h : SI σ) (h0 : ¬ σ.1 26 = 0) (hN : SN σ) (hP : B_P σ χ) : B_on σ (B_psw v χ) := by
  obtain ⟨h1, h2, h3⟩ := h
  rw [if_neg h0] at h3
  have hi : B_INV χ := B_P_INV hP h1
  obtain ⟨q1, ⟨q2, q3, q4⟩, q5, q6⟩ := hP
  have e : ((χ.1 24) + (1 : Int32)).toInt = (χ.1 24).toInt + 1 := ex_inc (n := 100) (by have e9 : (100 : Int32).toInt = 100 := (by decide); omega)
  have e23 := q1.1 23 (by decide)
  refine ⟨⟨hi, ?_, ?_⟩, ?_, ?_⟩
  · show 0 ≤ (χ.1 22).toInt ∧ 0 ≤ (χ.1 23).toInt ∧ (χ.1 23).toInt ≤ 20 ∧ 0 ≤ ((χ.1 24) + (1 : Int32)).toInt
    rw [e, e23]
    omega
  · show (χ.1 22).toInt + ((χ.1 24) + (1 : Int32)).toInt + (if (0 : Int32) = 0 then 0 else 1) ≤ 2 * (χ.1 23).toInt
    rw [e, e23, if_pos rfl]
    omega
  · show SN χ
    unfold SN
    rw [q1.2.2.1 1 (by decide)]; exact hN
  · unfold B_me
    show 3 * (21 - (χ.1 23).toInt) + ((χ.1 24) + (1 : Int32)).toInt + (if (0 : Int32) = 0 then 0 else 2) < _
    rw [e, e23, if_pos rfl, if_neg h0]
    omega
theorem B_bh_C {σ χ : ex_S} (h : SI σ) (h0 : ¬ σ.1 26 = 0) (hN : SN σ) (hP : B_P σ χ) : (B_bhC χ).1 = 0 ∨ B_on σ (B_bhC χ).2 := by
  unfold B_bhC
  by_cases c1 : B_isSign (41 : Int32) χ = 0
  · rw [if_pos c1]; exact Or.inl rfl
  · rw [if_neg c1]
    by_cases c2 : (χ.1 24) = 0
    · rw [if_pos c2]; exact Or.inl rfl
    · rw [if_neg c2]
      refine Or.inr (B_on_n ?_)
      obtain ⟨h1, h2, h3⟩ := h
      rw [if_neg h0] at h3
      have hi : B_INV χ := B_P_INV hP h1
      obtain ⟨q1, ⟨q2, q3, q4⟩, q5, q6⟩ := hP
      have z : ¬ (χ.1 24).toInt = 0 := fun q => c2 (Int32.toInt_inj.mp (q.trans (by decide)))
      have e := ex_dec1 (x := χ.1 24) (by omega)
      have e23 := q1.1 23 (by decide)
      have e26 := q1.1 26 (by decide)
      refine ⟨⟨hi, ?_, ?_⟩, ?_, ?_⟩
      · show 0 ≤ (χ.1 22).toInt ∧ 0 ≤ (χ.1 23).toInt ∧ (χ.1 23).toInt ≤ 20 ∧ 0 ≤ ((χ.1 24) - (1 : Int32)).toInt
        rw [e, e23]
        omega
      · show (χ.1 22).toInt + ((χ.1 24) - (1 : Int32)).toInt + (if χ.1 26 = 0 then 0 else 1) ≤ 2 * (χ.1 23).toInt
        rw [e, e23, e26, if_neg h0]
        omega
      · show SN χ
        unfold SN
        rw [q1.2.2.1 1 (by decide)]; exact hN
      · unfold B_me
        show 3 * (21 - (χ.1 23).toInt) + ((χ.1 24) - (1 : Int32)).toInt + (if χ.1 26 = 0 then 0 else 2) < _
        rw [e, e23, e26, if_neg h0]
        omega
theorem inv_X11_behind (σ : ex_S) (h : SI σ ∧ ¬ σ.1 26 = 0 ∧ SN σ) : (B_behind σ).1 = 0 ∨ B_on σ (B_behind σ).2 := by
  obtain ⟨h1, h2, h3⟩ := h
  have hn := B_P_nots h1.sb
  have hj : ∀ t, B_P σ (B_joins t (B_nots σ)) := fun t => B_P_t hn (B_P_joins hn.2.1)
  have hv : ∀ t, (B_bhV (B_joins t (B_nots σ))).1 = 0 ∨ B_on σ (B_bhV (B_joins t (B_nots σ))).2 := by
    intro t
    unfold B_bhV
    by_cases c : B_isWord (6385252 : Int64) (B_joins t (B_nots σ)) = 0
    · rw [if_pos c]; exact Or.inr (B_on_n (B_on_psw h1 h2 h3 (hj t)))
    · rw [if_neg c]; exact Or.inr (B_on_n (B_on_psw h1 h2 h3 (hj t)))
  have hw : (B_bhW (B_nots σ)).1 = 0 ∨ B_on σ (B_bhW (B_nots σ)).2 := by
    unfold B_bhW
    by_cases c : B_isWord (6385252 : Int64) (B_nots σ) = 0
    · rw [if_pos c]; exact hv _
    · rw [if_neg c]; exact hv _
  rw [B_bh_eq]
  unfold B_bhH
  by_cases c1 : B_isWord (6385252 : Int64) (B_nots σ) = 0
  · rw [if_pos c1]
    by_cases c2 : B_isWord (28530 : Int64) (B_nots σ) = 0
    · rw [if_pos c2]; exact B_bh_C h1 h2 h3 (hj _)
    · rw [if_neg c2]; exact hw
  · rw [if_neg c1]; exact hw
theorem B_fin {σ υ : ex_S} {r : Int32} {f : Nat → Int32} {w : List ex_E} (h : ∃ M, B_it M (B_s0 σ) = some (r, υ)) (e : w = WT (sR 1 f υ)) : ∃ (N : Nat) (υ : ex_S) (f : Nat → Int32), B_it N (B_s0 σ) = some (r, υ) ∧ w = WT (sR 1 f υ) := by
  obtain ⟨M, hM⟩ := h
  exact ⟨M, υ, f, hM, e⟩
theorem B_me_lo {σ : ex_S} (h : SI σ) : 0 ≤ B_me σ := by
  obtain ⟨-, h2, h3⟩ := h
  unfold B_me
  split <;> omega
noncomputable def B_S0 (σ : ex_S) : Prop := ((0 ≤ (σ.1 1).toInt ∧ (σ.1 1).toInt ≤ 940) ∧ (0 ≤ (σ.2.2.1 2 0).toInt ∧ (σ.2.2.1 2 0).toInt ≤ 7) ∧ (0 ≤ (σ.2.2.1 2 1).toInt ∧ (σ.2.2.1 2 1).toInt ≤ 12) ∧ (0 ≤ (σ.2.2.1 2 2).toInt ∧ (σ.2.2.1 2 2).toInt ≤ 8) ∧ SN σ)
theorem B_INV_s0 {σ : ex_S} (h : B_S0 σ) : B_INV (sI 26 (0 : Int32) (sI 25 (1 : Int32) (sI 24 (0 : Int32) (sI 23 (0 : Int32) (sI 22 (0 : Int32) (sI 9 (0 : Int32) (B_taken (200 : Int32) (sI 0 (0 : Int32) σ)))))))) := by
  unfold B_INV
  show (0 ≤ (σ.1 1).toInt ∧ (σ.1 1).toInt ≤ 940) ∧ (0 ≤ (0 : Int32).toInt ∧ (0 : Int32).toInt ≤ (σ.1 1).toInt) ∧ (0 ≤ (σ.2.2.1 2 0).toInt ∧ (σ.2.2.1 2 0).toInt ≤ 7) ∧ (0 ≤ (σ.2.2.1 2 1).toInt ∧ (σ.2.2.1 2 1).toInt ≤ 12) ∧ (0 ≤ (σ.2.2.1 2 2).toInt ∧ (σ.2.2.1 2 2).toInt ≤ 8)
  have e0 : (0 : Int32).toInt = 0 := by decide
  obtain ⟨h1, h2, h3, h4, -⟩ := h
  rw [e0]
  exact ⟨h1, ⟨by omega, h1.1⟩, h2, h3, h4⟩
theorem SI_s0 {σ : ex_S} (h : B_S0 σ) : SI (B_s0 σ) ∧ SN (B_s0 σ) := by
  have hi := inv_X11_next _ (B_INV_s0 h)
  have hL := lB_next (sI 26 (0 : Int32) (sI 25 (1 : Int32) (sI 24 (0 : Int32) (sI 23 (0 : Int32) (sI 22 (0 : Int32) (sI 9 (0 : Int32) (B_taken (200 : Int32) (sI 0 (0 : Int32) σ))))))))
  have e0 : (0 : Int32).toInt = 0 := by decide
  refine ⟨⟨hi, ?_, ?_⟩, ?_⟩
  · unfold B_s0
    rw [hL.1 22 (by decide), hL.1 23 (by decide), hL.1 24 (by decide)]
    show 0 ≤ (0 : Int32).toInt ∧ 0 ≤ (0 : Int32).toInt ∧ (0 : Int32).toInt ≤ 20 ∧ 0 ≤ (0 : Int32).toInt
    decide
  · unfold B_s0
    rw [hL.1 22 (by decide), hL.1 23 (by decide), hL.1 24 (by decide), hL.1 26 (by decide)]
    show (0 : Int32).toInt + (0 : Int32).toInt + (if (0 : Int32) = 0 then 0 else 1) ≤ 2 * (0 : Int32).toInt
    rw [if_pos rfl]
    decide
  · unfold B_s0 SN
    rw [hL.2]; exact h.2.2.2.2
