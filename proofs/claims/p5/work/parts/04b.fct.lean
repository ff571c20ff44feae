/-! Facts about rows: what they say. -/
/-- behind i codes (by threes from off on): how many truths lie there; none: the codes are no good -/
noncomputable def fk_rpn (f : Nat → Int32) (off : Nat) : Nat → Option Nat
  | 0 => some 0
  | i + 1 => (match fk_rpn f off i with
    | none => none
    | some d => if (f (off + 3 * i)).toInt = 20 then (if 1 ≤ d then some d else none) else if (f (off + 3 * i)).toInt = 21 ∨ (f (off + 3 * i)).toInt = 22 then (if 2 ≤ d then some (d - 1) else none) else if (f (off + 3 * i)).toInt = 3 then (if 0 ≤ (f (off + 3 * i + 2)).toInt ∧ (f (off + 3 * i + 2)).toInt ≤ 6 then some (d + 1) else none) else some (d + 1))
/-- how many of the first t are 21 or 22 -/
noncomputable def fk_nb (g : Nat → Int32) : Nat → Nat
  | 0 => 0
  | t + 1 => fk_nb g t + (if (g t).toInt = 21 ∨ (g t).toInt = 22 then 1 else 0)
/-- how many of the eight lowest bits are set -/
noncomputable def fk_p8 (u : Int32) : Nat := (List.range 8).countP (fun i => u.toBitVec.getLsbD i)
noncomputable def fk_op (k : Nat) (x y : Int32) : Int32 := match k with
  | 0 => x ||| y
  | 1 => x &&& y
  | 2 => x ^^^ y
  | 3 => x <<< (y &&& 31)
  | _ => x >>> (y &&& 31)
abbrev fk_A : Type := Option (Nat × (Nat → Int32))
noncomputable def fk_tri (off off' st tag hi : Int32) (a b : Int) (nf : Nat) (f : Nat → Int32) (ng : Nat) (g : Nat → Int32) : Prop := ∀ j : Nat, a ≤ (j : Int) → (j : Int) < b → off.toNatClampNeg + st.toNatClampNeg * j < nf → off'.toNatClampNeg + st.toNatClampNeg * j < ng → f (off.toNatClampNeg + st.toNatClampNeg * j) = tag → 0 ≤ (g (off'.toNatClampNeg + st.toNatClampNeg * j)).toInt ∧ (g (off'.toNatClampNeg + st.toNatClampNeg * j)).toInt ≤ hi.toInt
/-- a fact by its kind less 2: its numbers, its two rows. 0: by steps, where one row has a number the other's lies in 0..hi; 1: two rows are alike; 2: codes are good, with n truths behind i of them; 3: the same while a sentence is read; 4: so many bits; 5 on: r is x by y -/
noncomputable def ab_fk (kd : Nat) (ys : List Int32) (rs : List fk_A) : Prop := match kd with
  | 0 => ∃ (off off' st tag a b hi : Int32) (nf : Nat) (f : Nat → Int32) (ng : Nat) (g : Nat → Int32), ys = [off, off', st, tag, a, b, hi] ∧ rs = [some (nf, f), some (ng, g)] ∧ fk_tri off off' st tag hi a.toInt b.toInt nf f ng g
  | 1 => ∃ (n : Nat) (f g : Nat → Int32), rs = [some (n, f), some (n, g)] ∧ ∀ j : Nat, j < n → f j = g j
  | 2 => ∃ (off i n : Int32) (nf : Nat) (f : Nat → Int32) (r2 : fk_A), ys = [off, i, n] ∧ rs = [some (nf, f), r2] ∧ 0 ≤ i.toInt ∧ i.toInt ≤ 45 ∧ 0 ≤ n.toInt ∧ fk_rpn f (off.toNatClampNeg + 1) i.toNatClampNeg = some n.toNatClampNeg ∧ ∀ i' : Nat, i' ≤ 45 → (i' : Int) ≤ (f off.toNatClampNeg).toInt → fk_rpn f (off.toNatClampNeg + 1) i' ≠ none
  | 3 => ∃ (c t w : Int32) (nf : Nat) (f : Nat → Int32) (ng : Nat) (g : Nat → Int32) (d : Nat), ys = [c, t, w] ∧ rs = [some (nf, f), some (ng, g)] ∧ 0 ≤ c.toInt ∧ 0 ≤ t.toInt ∧ 0 ≤ w.toInt ∧ fk_rpn f 0 c.toNatClampNeg = some d ∧ fk_nb g t.toNatClampNeg + w.toNatClampNeg ≤ d
  | 4 => ∃ u d : Int32, ys = [u, d] ∧ d.toInt ≤ fk_p8 u
  | k + 5 => ∃ r x y : Int32, ys = [r, x, y] ∧ r = fk_op k x y
