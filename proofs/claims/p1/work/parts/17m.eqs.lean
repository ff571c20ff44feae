/-! Equality of abstract states by a program. -/
def ab_eqL (a b : ab_L) : Bool := match a, b with
  | .inl a, .inl b => ab_eqI a b
  | .inr a, .inr b => Nat.beq a b
  | _, _ => false
theorem ab_eqL_eq {a b : ab_L} (h : ab_eqL a b = true) : a = b := by
  rcases a with a | a <;> rcases b with b | b <;> simp only [ab_eqL, Bool.false_eq_true] at h
  · rw [ab_eqI_eq h]
  · rw [Nat.eq_of_beq_eq_true h]
def ab_eqV (a b : ab_V) : Bool := match a, b with
  | .inl a, .inl b => ab_eqI a b
  | .inr (.inl a), .inr (.inl b) => ab_eqL a b
  | .inr (.inr (t, k)), .inr (.inr (u, j)) => Nat.beq t u && Nat.beq k j
  | _, _ => false
theorem ab_eqV_eq {a b : ab_V} (h : ab_eqV a b = true) : a = b := by
  rcases a with a | a | ⟨t, k⟩ <;> rcases b with b | b | ⟨u, j⟩ <;> simp only [ab_eqV, Bool.false_eq_true, Bool.and_eq_true] at h
  · rw [ab_eqI_eq h]
  · rw [ab_eqL_eq h]
  · rw [Nat.eq_of_beq_eq_true h.1, Nat.eq_of_beq_eq_true h.2]
def ab_eqs {α : Type} (f : α → α → Bool) : List α → List α → Bool
  | [], [] => true
  | a :: l, b :: m => f a b && ab_eqs f l m
  | _, _ => false
theorem ab_eqs_eq {α : Type} {f : α → α → Bool} (hf : ∀ a b, f a b = true → a = b) : ∀ {l m : List α}, ab_eqs f l m = true → l = m
  | [], [], _ => rfl
  | [], _ :: _, h => by simp [ab_eqs] at h
  | _ :: _, [], h => by simp [ab_eqs] at h
  | a :: l, b :: m, h => by
    simp only [ab_eqs, Bool.and_eq_true] at h
    rw [hf a b h.1, ab_eqs_eq hf h.2]
def ab_eqNV (a b : Nat × ab_V) : Bool := Nat.beq a.1 b.1 && ab_eqV a.2 b.2
theorem ab_eqNV_eq (a b : Nat × ab_V) (h : ab_eqNV a b = true) : a = b := by
  simp only [ab_eqNV, Bool.and_eq_true] at h
  exact Prod.ext (Nat.eq_of_beq_eq_true h.1) (ab_eqV_eq h.2)
def ab_eqC (a b : ab_C) : Bool := match a, b with
  | .inl (i, fs), .inl (j, gs) => Nat.beq i j && ab_eqs ab_eqV fs gs
  | .inr (t, n, d, o), .inr (u, m, e, q) => Nat.beq t u && Nat.beq n m && ab_eqV d e && ab_eqs ab_eqNV o q
  | _, _ => false
theorem ab_eqC_eq (a b : ab_C) (h : ab_eqC a b = true) : a = b := by
  rcases a with ⟨i, fs⟩ | ⟨t, n, d, o⟩ <;> rcases b with ⟨j, gs⟩ | ⟨u, m, e, q⟩ <;> simp only [ab_eqC, Bool.false_eq_true, Bool.and_eq_true] at h
  · rw [Nat.eq_of_beq_eq_true h.1, ab_eqs_eq (fun _ _ => ab_eqV_eq) h.2]
  · rw [Nat.eq_of_beq_eq_true h.1.1.1, Nat.eq_of_beq_eq_true h.1.1.2, ab_eqV_eq h.1.2, ab_eqs_eq ab_eqNV_eq h.2]
def ab_eqII (a b : Int × Int) : Bool := ab_ie a.1 b.1 && ab_ie a.2 b.2
theorem ab_eqII_eq (a b : Int × Int) (h : ab_eqII a b = true) : a = b := by
  simp only [ab_eqII, Bool.and_eq_true, ab_ie_iff] at h
  exact Prod.ext h.1 h.2
def ab_eqQ (a b : Nat × ab_S) : Bool := match a, b with
  | (k, ((e, nl, aw, cl, sl), pc, lv, st)), (k', ((e', nl', aw', cl', sl'), pc', lv', st')) => Nat.beq k k' && Nat.beq nl nl' && Nat.beq cl cl' && Nat.beq sl sl' && Nat.beq pc pc' && ab_eqs ab_eqII e e' && ab_eqs ab_eqNV lv lv' && ab_eqs ab_eqV st st' && ab_eqs ab_eqC aw aw'
theorem ab_eqQ_eq (a b : Nat × ab_S) (h : ab_eqQ a b = true) : a = b := by
  obtain ⟨k, ⟨e, nl, aw, cl, sl⟩, pc, lv, st⟩ := a
  obtain ⟨k', ⟨e', nl', aw', cl', sl'⟩, pc', lv', st'⟩ := b
  simp only [ab_eqQ, Bool.and_eq_true] at h
  obtain ⟨⟨⟨⟨⟨⟨⟨⟨h1, h2⟩, h3⟩, h4⟩, h5⟩, h6⟩, h7⟩, h8⟩, h9⟩ := h
  rw [Nat.eq_of_beq_eq_true h1, Nat.eq_of_beq_eq_true h2, Nat.eq_of_beq_eq_true h3, Nat.eq_of_beq_eq_true h4, Nat.eq_of_beq_eq_true h5, ab_eqs_eq ab_eqII_eq h6, ab_eqs_eq ab_eqNV_eq h7, ab_eqs_eq (fun _ _ => ab_eqV_eq) h8, ab_eqs_eq ab_eqC_eq h9]
def ab_is (o : Option (List (Nat × ab_S))) (r : List (Nat × ab_S)) : Bool := match o with
  | none => false
  | some L => ab_eqs ab_eqQ L r
theorem ab_is_eq {o : Option (List (Nat × ab_S))} {r : List (Nat × ab_S)} (h : ab_is o r = true) : o = some r := by
  cases o with
  | none => cases h
  | some L => rw [ab_eqs_eq ab_eqQ_eq h]
