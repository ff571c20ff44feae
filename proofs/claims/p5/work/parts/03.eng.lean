/-! The abstract machine: ints as constants or 'variable + constant' with an interval for each variable, cells by their numbers. Written with continuations, so that the kernel holds evaluated data. -/
abbrev ab_I : Type := Option Nat × Int
abbrev ab_L : Type := ab_I ⊕ Nat
abbrev ab_V : Type := ab_I ⊕ (ab_L ⊕ (Nat × Nat))
/-- what a field or a place of a row holds: a value; an int of an interval; some long; a reference to one of the cells -/
abbrev ab_w : Type := ab_V ⊕ ((Int × Int) ⊕ Option (List Nat))
/-- with it: may it be written -/
abbrev ab_F : Type := Bool × ab_w
/-- an object: class, fields; a row: type, length, may it be written, what its places hold if no range tells, ranges -/
abbrev ab_C : Type := (Nat × List ab_F) ⊕ (Nat × Nat × Bool × ab_w × List (Nat × Nat × ab_w))
/-- a fact: its kind, what it speaks of -/
abbrev ab_Y : Type := Nat × List ab_I
abbrev ab_H : Type := List ab_C × List ab_Y
abbrev ab_E : Type := List (Int × Int)
abbrev ab_G : Type := ab_E × Nat × ab_H × Nat × Nat
abbrev ab_S : Type := ab_G × Nat × List (Nat × ab_V) × List ab_V
abbrev ab_O : Type := Nat × Option ab_V × ab_G
abbrev ab_K : Type := Nat → ab_G → List ab_V → Option (List ab_O)
abbrev ab_A : Type := Option (List ab_S)
abbrev ab_P : Type := ab_K → ab_E → Nat → ab_H → Nat → Nat → List (Nat × ab_V) → List ab_V → ab_A
section
variable {α β : Type}
noncomputable def ab_fn (n : Nat) (k : Nat → β) : β := match n with
  | 0 => k 0
  | m + 1 => k (Nat.succ m)
theorem ab_fn_eq (n : Nat) (k : Nat → β) : ab_fn n k = k n := by cases n <;> rfl
noncomputable def ab_fi (c : Int) (k : Int → β) : β := match c with
  | .ofNat n => ab_fn n (fun n => k (.ofNat n))
  | .negSucc n => ab_fn n (fun n => k (.negSucc n))
theorem ab_fi_eq (c : Int) (k : Int → β) : ab_fi c k = k c := by cases c <;> simp only [ab_fi, ab_fn_eq]
noncomputable def ab_le (a b : Int) : Bool := match b - a with
  | .ofNat _ => true
  | .negSucc _ => false
theorem ab_le_iff {a b : Int} : ab_le a b = true ↔ a ≤ b := by
  unfold ab_le
  cases h : b - a with
  | ofNat n => simp; have h1 : b - a = (n : Int) := h; omega
  | negSucc n => simp; have h1 : b - a = -((n : Int) + 1) := by rw [h]; rfl
                 omega
theorem ab_le_false {a b : Int} : ab_le a b = false ↔ b < a := by
  have h := @ab_le_iff a b
  cases hc : ab_le a b
  · rw [hc] at h; simp at h ⊢; omega
  · rw [hc] at h; simp at h ⊢; omega
noncomputable def ab_ie (a b : Int) : Bool := ab_le a b && ab_le b a
theorem ab_ie_iff {a b : Int} : ab_ie a b = true ↔ a = b := by
  unfold ab_ie; rw [Bool.and_eq_true, ab_le_iff, ab_le_iff]; omega
noncomputable def ab_mx (a b : Int) : Int := bif ab_le a b then b else a
noncomputable def ab_mn (a b : Int) : Int := bif ab_le a b then a else b
theorem ab_mx_le {a b x : Int} (h1 : a ≤ x) (h2 : b ≤ x) : ab_mx a b ≤ x := by unfold ab_mx; cases ab_le a b <;> assumption
theorem ab_mn_le {a b x : Int} (h1 : x ≤ a) (h2 : x ≤ b) : x ≤ ab_mn a b := by unfold ab_mn; cases ab_le a b <;> assumption
noncomputable def ab_get (l : List α) : Nat → Option α := List.rec (motive := fun _ => Nat → Option α) (fun _ => none) (fun a _ ih n => Nat.rec (motive := fun _ => Option α) (some a) (fun m _ => ih m) n) l
theorem ab_get_eq : ∀ (l : List α) (n : Nat), ab_get l n = l[n]?
  | [], n => by simp; rfl
  | a :: l, 0 => rfl
  | a :: l, n + 1 => by rw [List.getElem?_cons_succ, ← ab_get_eq l n]; rfl
noncomputable def ab_setK (l : List α) : Nat → α → (List α → β) → β := fun n x => List.rec (motive := fun _ => Nat → (List α → β) → β) (fun _ k => k []) (fun a l ih n k => Nat.rec (motive := fun _ => β) (k (x :: l)) (fun m _ => ih m (fun t => k (a :: t))) n) l n
theorem ab_setK_eq : ∀ (l : List α) (n : Nat) (x : α) (k : List α → β), ab_setK l n x k = k (l.set n x)
  | [], n, x, k => by rw [List.set_nil]; rfl
  | a :: l, 0, x, k => rfl
  | a :: l, n + 1, x, k => by rw [List.set_cons_succ]; exact ab_setK_eq l n x (fun t => k (a :: t))
noncomputable def ab_appK (l : List α) (x : α) (k : List α → β) : β := List.rec (motive := fun _ => (List α → β) → β) (fun k => k [x]) (fun a _ ih k => ih (fun t => k (a :: t))) l k
theorem ab_appK_eq : ∀ (l : List α) (x : α) (k : List α → β), ab_appK l x k = k (l ++ [x])
  | [], x, k => rfl
  | a :: l, x, k => ab_appK_eq l x (fun t => k (a :: t))
noncomputable def ab_lenK (l : List α) : Nat → (Nat → β) → β := List.rec (motive := fun _ => Nat → (Nat → β) → β) (fun n k => k n) (fun _ _ ih n k => ab_fn (Nat.succ n) (fun n => ih n k)) l
theorem ab_lenK_eq : ∀ (l : List α) (n : Nat) (k : Nat → β), ab_lenK l n k = k (n + l.length)
  | [], n, k => rfl
  | a :: l, n, k => by
    have h : ab_lenK (a :: l) n k = ab_fn (Nat.succ n) (fun n => ab_lenK l n k) := rfl
    rw [h, ab_fn_eq, ab_lenK_eq l, List.length_cons]; congr 1; omega
/-- the interval of an int -/
noncomputable def ab_ivK (env : ab_E) (a : ab_I) (k : Int → Int → β) : β := match a with
  | (none, c) => bif ab_le (-2147483648) c && ab_le c 2147483647 then k c c else k (-2147483648) 2147483647
  | (some v, c) => match ab_get env v with
    | none => k (-2147483648) 2147483647
    | some (lo, hi) => bif ab_le (-2147483648) (lo + c) && ab_le (hi + c) 2147483647 then ab_fi (lo + c) (fun lo => ab_fi (hi + c) (fun hi => k lo hi)) else k (-2147483648) 2147483647
noncomputable def ab_iv (env : ab_E) (a : ab_I) : Int × Int := ab_ivK env a (fun lo hi => (lo, hi))
theorem ab_ivK_eq (env : ab_E) (a : ab_I) (k : Int → Int → β) : ab_ivK env a k = k (ab_iv env a).1 (ab_iv env a).2 := by
  obtain ⟨v, c⟩ := a
  cases v with
  | none => simp only [ab_iv, ab_ivK]; cases (ab_le (-2147483648) c && ab_le c 2147483647) <;> rfl
  | some v =>
    simp only [ab_iv, ab_ivK]
    cases ab_get env v with
    | none => rfl
    | some q => obtain ⟨lo, hi⟩ := q; simp only [ab_fi_eq]; cases (ab_le (-2147483648) (lo + c) && ab_le (hi + c) 2147483647) <;> rfl
/-- the environment where the int lies in an interval; none: it can't -/
noncomputable def ab_rfK (env : ab_E) (a : ab_I) (lo hi : Int) (k : Option ab_E → β) : β := match a with
  | (none, c) => bif ab_le (-2147483648) c && ab_le c 2147483647 then (bif ab_le lo c && ab_le c hi then k (some env) else k none) else k (some env)
  | (some v, c) => match ab_get env v with
    | none => k (some env)
    | some (l0, h0) => bif ab_le (-2147483648) (l0 + c) && ab_le (h0 + c) 2147483647 then
        ab_fi (ab_mx l0 (lo - c)) (fun l1 => ab_fi (ab_mn h0 (hi - c)) (fun h1 => bif ab_le l1 h1 then ab_setK env v (l1, h1) (fun e => k (some e)) else k none))
      else k (some env)
noncomputable def ab_rf (env : ab_E) (a : ab_I) (lo hi : Int) : Option ab_E := ab_rfK env a lo hi (fun o => o)
theorem ab_rfK_eq (env : ab_E) (a : ab_I) (lo hi : Int) (k : Option ab_E → β) : ab_rfK env a lo hi k = k (ab_rf env a lo hi) := by
  obtain ⟨v, c⟩ := a
  cases v with
  | none => simp only [ab_rf, ab_rfK]; cases (ab_le (-2147483648) c && ab_le c 2147483647) <;> cases (ab_le lo c && ab_le c hi) <;> rfl
  | some v =>
    simp only [ab_rf, ab_rfK]
    cases ab_get env v with
    | none => rfl
    | some q =>
      obtain ⟨l0, h0⟩ := q
      simp only [ab_fi_eq, ab_setK_eq]
      cases (ab_le (-2147483648) (l0 + c) && ab_le (h0 + c) 2147483647) <;> cases (ab_le (ab_mx l0 (lo - c)) (ab_mn h0 (hi - c))) <;> rfl
noncomputable def ab_eqI (a b : ab_I) : Bool := match a, b with
  | (none, c), (none, d) => ab_ie c d
  | (some v, c), (some w, d) => Nat.beq v w && ab_ie c d
  | _, _ => false
theorem ab_eqI_eq {a b : ab_I} (h : ab_eqI a b = true) : a = b := by
  obtain ⟨v, c⟩ := a
  obtain ⟨w, d⟩ := b
  cases v <;> cases w <;> simp only [ab_eqI, Bool.and_eq_true, ab_ie_iff, Bool.false_eq_true] at h
  · rw [h]
  · rw [Nat.eq_of_beq_eq_true h.1, h.2]
noncomputable def ab_o1 (o : Option ab_E) (k : List ab_E → β) : β := match o with
  | none => k []
  | some e => k [e]
noncomputable def ab_both (env : ab_E) (a : ab_I) (la ha : Int) (b : ab_I) (lb hb : Int) (k : List ab_E → β) : β :=
  ab_rfK env a la ha (fun o => match o with
    | none => k []
    | some e => ab_rfK e b lb hb (fun o => ab_o1 o k))
/-- where a < b; where b ≤ a; where they are one; where they aren't -/
noncomputable def ab_ltK (env : ab_E) (a b : ab_I) (k : List ab_E → β) : β := ab_ivK env a (fun xl _ => ab_ivK env b (fun _ yh => ab_both env a xl (yh - 1) b (xl + 1) yh k))
noncomputable def ab_geK (env : ab_E) (a b : ab_I) (k : List ab_E → β) : β := ab_ivK env a (fun _ xh => ab_ivK env b (fun yl _ => ab_both env a yl xh b yl xh k))
noncomputable def ab_eqK (env : ab_E) (a b : ab_I) (k : List ab_E → β) : β := bif ab_eqI a b then k [env] else ab_ivK env a (fun xl xh => ab_ivK env b (fun yl yh => ab_both env a yl yh b xl xh k))
noncomputable def ab_twoK (env : ab_E) (a : ab_I) (l y h : Int) (k : List ab_E → β) : β := ab_rfK env a l (y - 1) (fun o1 => ab_rfK env a (y + 1) h (fun o2 => ab_o1 o1 (fun r1 => ab_o1 o2 (fun r2 => match r1 with
  | [] => k r2
  | e :: _ => k (e :: r2)))))
noncomputable def ab_neK (env : ab_E) (a b : ab_I) (k : List ab_E → β) : β := bif ab_eqI a b then k [] else ab_ivK env a (fun xl xh => ab_ivK env b (fun yl yh =>
  bif ab_ie yl yh then ab_twoK env a xl yl xh k else bif ab_ie xl xh then ab_twoK env b yl xl yh k else k [env]))
/-- a condition's two sides; eq 0, ne 1, lt 2, ge 3, gt 4, le 5 -/
noncomputable def ab_brK (n : Nat) (env : ab_E) (a b : ab_I) (k : List ab_E → List ab_E → β) : β := match n with
  | 0 => ab_eqK env a b (fun t => ab_neK env a b (fun f => k t f))
  | 1 => ab_neK env a b (fun t => ab_eqK env a b (fun f => k t f))
  | 2 => ab_ltK env a b (fun t => ab_geK env a b (fun f => k t f))
  | 3 => ab_geK env a b (fun t => ab_ltK env a b (fun f => k t f))
  | 4 => ab_ltK env b a (fun t => ab_geK env b a (fun f => k t f))
  | _ => ab_geK env b a (fun t => ab_ltK env b a (fun f => k t f))
/-- an int of one value as a constant -/
noncomputable def ab_cnK (env : ab_E) (a : ab_I) (k : ab_I → β) : β := ab_ivK env a (fun lo hi => bif ab_ie lo hi then k (none, lo) else k a)
noncomputable def ab_frK (env : ab_E) (lo hi : Int) (k : ab_E → ab_I → β) : β := ab_lenK env 0 (fun n => ab_appK env (lo, hi) (fun e => k e (some n, 0)))
theorem ab_frK_eq (env : ab_E) (lo hi : Int) (k : ab_E → ab_I → β) : ab_frK env lo hi k = k (env ++ [(lo, hi)]) (some env.length, 0) := by
  simp only [ab_frK, ab_lenK_eq, ab_appK_eq, Nat.zero_add]
noncomputable def ab_nmK (c : Int) (k : Int → β) : β := ab_fi (Int.bmod c 4294967296) k
/-- two constants by f; x + y, x - y; else a new variable -/
noncomputable def ab_addK (env : ab_E) (x y : ab_I) (k : ab_E → ab_I → β) : β := ab_cnK env x (fun x => ab_cnK env y (fun y => match x, y with
  | (v, c), (none, d) => ab_nmK (c + d) (fun z => k env (v, z))
  | (none, c), (some w, d) => ab_nmK (c + d) (fun z => k env (some w, z))
  | (some _, _), (some _, _) => ab_frK env (-2147483648) 2147483647 k))
noncomputable def ab_subK (env : ab_E) (x y : ab_I) (k : ab_E → ab_I → β) : β := ab_cnK env x (fun x => ab_cnK env y (fun y => match x, y with
  | (v, c), (none, d) => ab_nmK (c - d) (fun z => k env (v, z))
  | _, (some _, _) => ab_frK env (-2147483648) 2147483647 k))
noncomputable def ab_binK (f : Int32 → Int32 → Int32) (env : ab_E) (x y : ab_I) (k : ab_E → ab_I → β) : β := ab_cnK env x (fun x => ab_cnK env y (fun y => match x, y with
  | (none, c), (none, d) => ab_fi (f (Int32.ofInt c) (Int32.ofInt d)).toInt (fun z => k env (none, z))
  | _, _ => ab_frK env (-2147483648) 2147483647 k))
/-- x & y, y a constant not below 0 -/
noncomputable def ab_andK (env : ab_E) (x y : ab_I) (k : ab_E → ab_I → β) : β := ab_cnK env x (fun x => ab_cnK env y (fun y => match x, y with
  | (none, c), (none, d) => ab_fi (Int32.ofInt c &&& Int32.ofInt d).toInt (fun z => k env (none, z))
  | (some _, _), (none, d) => bif ab_le 0 d && ab_le d 2147483647 then ab_frK env 0 d k else ab_frK env (-2147483648) 2147483647 k
  | _, _ => ab_frK env (-2147483648) 2147483647 k))
/-- what a row's place holds -/
noncomputable def ab_at (d : ab_w) : List (Nat × Nat × ab_w) → Nat → ab_w
  | [], _ => d
  | (a, b, w) :: r, j => bif Nat.ble a j && Nat.ble j b then w else ab_at d r j
noncomputable def ab_atK {β : Type} (d : ab_w) (l : List (Nat × Nat × ab_w)) : Nat → (ab_w → β) → β := List.rec (motive := fun _ => Nat → (ab_w → β) → β) (fun _ k => k d) (fun q _ ih j k => match q with
  | (a, b, w) => bif Nat.ble a j && Nat.ble j b then k w else ih j k) l
theorem ab_atK_eq {β : Type} (d : ab_w) : ∀ (l : List (Nat × Nat × ab_w)) (j : Nat) (k : ab_w → β), ab_atK d l j k = k (ab_at d l j)
  | [], j, k => rfl
  | (a, b, w) :: r, j, k => by
    have h : ab_atK d ((a, b, w) :: r) j k = bif Nat.ble a j && Nat.ble j b then k w else ab_atK d r j k := rfl
    rw [h]
    simp only [ab_at]
    cases (Nat.ble a j && Nat.ble j b)
    · exact ab_atK_eq d r j k
    · rfl
/-- the single place j is told no more -/
noncomputable def ab_delK {β : Type} : List (Nat × Nat × ab_w) → Nat → (List (Nat × Nat × ab_w) → β) → β
  | [], _, k => k []
  | (a, b, w) :: r, j, k => bif Nat.beq a j && Nat.beq b j then ab_delK r j k else ab_delK r j (fun t => k ((a, b, w) :: t))
noncomputable def ab_del (l : List (Nat × Nat × ab_w)) (j : Nat) : List (Nat × Nat × ab_w) := ab_delK l j (fun t => t)
theorem ab_delK_eq : ∀ (l : List (Nat × Nat × ab_w)) (j : Nat) {γ : Type} (k : List (Nat × Nat × ab_w) → γ), ab_delK l j k = k (ab_del l j)
  | [], j, _, k => rfl
  | (a, b, w) :: r, j, _, k => by
    simp only [ab_del, ab_delK]
    cases (Nat.beq a j && Nat.beq b j)
    · simp only [cond_false]; rw [ab_delK_eq r j (fun t => k ((a, b, w) :: t)), ab_delK_eq r j (fun t => (a, b, w) :: t)]
    · simp only [cond_true]; rw [ab_delK_eq r j k, ab_delK_eq r j (fun t => t)]
theorem ab_at_del (d : ab_w) : ∀ (l : List (Nat × Nat × ab_w)) (j i : Nat), i ≠ j → ab_at d (ab_del l j) i = ab_at d l i
  | [], j, i, _ => rfl
  | (a, b, w) :: r, j, i, h => by
    have ih := ab_at_del d r j i h
    simp only [ab_del, ab_delK]
    cases hq : (Nat.beq a j && Nat.beq b j)
    · simp only [cond_false]; rw [ab_delK_eq r j]; simp only [ab_at]; rw [ih]
    · simp only [cond_true]; rw [ab_delK_eq r j]
      rw [Bool.and_eq_true] at hq
      have e1 : a = j := Nat.eq_of_beq_eq_true hq.1
      have e2 : b = j := Nat.eq_of_beq_eq_true hq.2
      subst e1
      rw [ih]; simp only [ab_at]
      have h2 : (Nat.ble a i && Nat.ble i b) = false := by
        cases hb : (Nat.ble a i && Nat.ble i b)
        · rfl
        · rw [Bool.and_eq_true] at hb
          have h3 := Nat.le_of_ble_eq_true hb.1
          have h4 := Nat.le_of_ble_eq_true hb.2
          exact absurd (show i = a by omega) h
      rw [h2]; rfl
/-- a range put ahead of all -/
theorem ab_at_rng (d : ab_w) (l : List (Nat × Nat × ab_w)) (a b : Nat) (w : ab_w) (i : Nat) : ab_at d ((a, b, w) :: l) i = if a ≤ i ∧ i ≤ b then w else ab_at d l i := by
  simp only [ab_at]
  by_cases h : a ≤ i ∧ i ≤ b
  · rw [if_pos h, Nat.ble_eq_true_of_le h.1, Nat.ble_eq_true_of_le h.2]; rfl
  · rw [if_neg h]
    have h2 : (Nat.ble a i && Nat.ble i b) = false := by
      cases hb : (Nat.ble a i && Nat.ble i b)
      · rfl
      · rw [Bool.and_eq_true] at hb
        exact absurd ⟨Nat.le_of_ble_eq_true hb.1, Nat.le_of_ble_eq_true hb.2⟩ h
    rw [h2]; rfl
noncomputable def ab_put (l : List (Nat × Nat × ab_w)) (j : Nat) (w : ab_w) : List (Nat × Nat × ab_w) := (j, j, w) :: ab_del l j
noncomputable def ab_putK {β : Type} (l : List (Nat × Nat × ab_w)) (j : Nat) (w : ab_w) (k : List (Nat × Nat × ab_w) → β) : β := ab_delK l j (fun t => k ((j, j, w) :: t))
theorem ab_putK_eq {β : Type} (l : List (Nat × Nat × ab_w)) (j : Nat) (w : ab_w) (k : List (Nat × Nat × ab_w) → β) : ab_putK l j w k = k (ab_put l j w) := by
  simp only [ab_put, ab_putK, ab_delK_eq]
theorem ab_at_put (d : ab_w) (l : List (Nat × Nat × ab_w)) (j : Nat) (w : ab_w) (i : Nat) : ab_at d (ab_put l j w) i = if i = j then w else ab_at d l i := by
  rw [ab_put, ab_at_rng]
  by_cases h : i = j
  · subst h; rw [if_pos ⟨Nat.le_refl _, Nat.le_refl _⟩, if_pos rfl]
  · rw [if_neg (by omega), if_neg h, ab_at_del d l j i h]
/-- an interval that holds all ints told by ranges that meet lo..hi, and by the rest; none: not all are ints -/
noncomputable def ab_wivK {β : Type} (env : ab_E) (w : ab_w) (k : Int → Int → β) (no : β) : β := match w with
  | .inl (.inl a) => ab_ivK env a k
  | .inr (.inl (lo, hi)) => k lo hi
  | _ => no
noncomputable def ab_hulK {β : Type} (env : ab_E) (lo hi : Nat) (l : List (Nat × Nat × ab_w)) : Int → Int → (Int → Int → β) → β → β := List.rec (motive := fun _ => Int → Int → (Int → Int → β) → β → β) (fun x y k _ => k x y) (fun q _ ih x y k no => match q with
  | (a, b, w) => bif Nat.ble a hi && Nat.ble lo b then ab_wivK env w (fun u v => ab_fi (ab_mn x u) (fun x => ab_fi (ab_mx y v) (fun y => ih x y k no))) no else ih x y k no) l
theorem ab_hulK_c {β : Type} {env : ab_E} {lo hi a b : Nat} {w : ab_w} {r : List (Nat × Nat × ab_w)} {x y : Int} {k : Int → Int → β} {no : β} : ab_hulK env lo hi ((a, b, w) :: r) x y k no = bif Nat.ble a hi && Nat.ble lo b then ab_wivK env w (fun u v => ab_fi (ab_mn x u) (fun x => ab_fi (ab_mx y v) (fun y => ab_hulK env lo hi r x y k no))) no else ab_hulK env lo hi r x y k no := rfl
end
