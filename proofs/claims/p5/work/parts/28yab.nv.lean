/-! The reference's parser leaves the land's names alone. -/
noncomputable def nv (σ : ex_S) : List Int64 := (List.range 15).map (σ.2.2.2 0)
theorem nv_I {k : Nat} {v : Int32} {σ : ex_S} : nv (sI k v σ) = nv σ := rfl
theorem nv_L {k : Nat} {v : Int64} {σ : ex_S} : nv (sL k v σ) = nv σ := rfl
theorem nv_R {k : Nat} {f : Nat → Int32} {σ : ex_S} : nv (sR k f σ) = nv σ := rfl
theorem nv_of {σ τ : ex_S} (h : τ.2.2.2 = σ.2.2.2) : nv τ = nv σ := by
  unfold nv
  rw [h]
theorem nv_at {σ τ : ex_S} (h : nv τ = nv σ) : ∀ j : Nat, j < 15 → τ.2.2.2 0 j = σ.2.2.2 0 j := by
  intro j hj
  have h1 := congrArg (fun l : List Int64 => l[j]?) h
  unfold nv at h1
  simp only [List.getElem?_map, List.getElem?_range hj, Option.map_some, Option.some.injEq] at h1
  exact h1
theorem nv_Q {k : Nat} {x : Int64} {σ : ex_S} (hk : 15 ≤ k) : nv (sQ 0 (vp_updL (σ.2.2.2 0) k x) σ) = nv σ := by
  unfold nv
  refine List.map_congr_left (fun j hj => ?_)
  have hj := List.mem_range.mp hj
  show (if j = k then x else σ.2.2.2 0 j) = _
  exact if_neg (by omega)
theorem nv_next {σ : ex_S} : nv (B_next σ) = nv σ := nv_of (by rw [(kB_next σ).2])
set_option maxHeartbeats 2000000 in
theorem nv_bad (w : Int32) {σ : ex_S} : nv (B_bad w σ).2 = nv σ := by
  unfold B_bad
  try simp only [ex_bd, ex_lt]
  (repeat' (with_reducible split)) <;> first | (simp only [nv_I, nv_L, nv_R, nv_next]) | with_reducible rfl
set_option maxHeartbeats 2000000 in
theorem nv_taken (m : Int32) {σ : ex_S} : nv (B_taken m σ) = nv σ := by
  unfold B_taken
  try simp only [ex_bd, ex_lt]
  (repeat' (with_reducible split)) <;> first | (simp only [nv_I, nv_L, nv_R, nv_next, nv_bad]) | with_reducible rfl
set_option maxHeartbeats 2000000 in
theorem nv_clears {σ : ex_S} : nv (B_clears σ) = nv σ := by
  unfold B_clears
  try simp only [ex_bd, ex_lt]
  (repeat' (with_reducible split)) <;> first | (simp only [nv_I, nv_L, nv_R, nv_next, nv_bad, nv_taken]) | with_reducible rfl
set_option maxHeartbeats 2000000 in
theorem nv_sign (c : Int32) {σ : ex_S} : nv (B_sign c σ).2 = nv σ := by
  unfold B_sign
  try simp only [ex_bd, ex_lt]
  (repeat' (with_reducible split)) <;> first | (simp only [nv_I, nv_L, nv_R, nv_next, nv_bad, nv_taken, nv_clears]) | with_reducible rfl
set_option maxHeartbeats 2000000 in
theorem nv_takes (lo hi : Int32) {σ : ex_S} : nv (B_takes lo hi σ).2 = nv σ := by
  unfold B_takes
  try simp only [ex_bd, ex_lt]
  (repeat' (with_reducible split)) <;> first | (simp only [nv_I, nv_L, nv_R, nv_next, nv_bad, nv_taken, nv_clears, nv_sign]) | with_reducible rfl
set_option maxHeartbeats 2000000 in
theorem nv_takesWay (lo hi : Int32) {σ : ex_S} : nv (B_takesWay lo hi σ).2 = nv σ := by
  unfold B_takesWay
  try simp only [ex_bd, ex_lt]
  (repeat' (with_reducible split)) <;> first | (simp only [nv_I, nv_L, nv_R, nv_next, nv_bad, nv_taken, nv_clears, nv_sign, nv_takes]) | with_reducible rfl
set_option maxHeartbeats 2000000 in
theorem nv_puts (to lo hi : Int32) {σ : ex_S} : nv (B_puts to lo hi σ).2 = nv σ := by
  unfold B_puts
  try simp only [ex_bd, ex_lt]
  (repeat' (with_reducible split)) <;> first | (simp only [nv_I, nv_L, nv_R, nv_next, nv_bad, nv_taken, nv_clears, nv_sign, nv_takes, nv_takesWay]) | with_reducible rfl
theorem nv_fresh (to : Int32) (hto : 15 ≤ (to).toInt ∧ (to).toInt < 30) {σ : ex_S} : nv (B_fresh to σ).2 = nv σ := by
  have hk : 15 ≤ (to).toNatClampNeg := by
    have c := ex_cl (x := to) (by omega)
    omega
  have hq : nv (B_next (sQ 0 (vp_updL (σ.2.2.2 0) (to).toNatClampNeg (σ.2.1 0)) σ)) = nv σ := nv_next.trans (nv_Q hk)
  unfold B_fresh
  simp only [ex_bd, ex_lt]
  (repeat' (with_reducible split)) <;> first | with_reducible exact hq | (simp only [nv_I, nv_L, nv_R, nv_next, nv_bad, nv_taken, nv_clears, nv_sign, nv_takes, nv_takesWay, nv_puts]) | with_reducible rfl
set_option maxHeartbeats 2000000 in
theorem nv_looksAt (fr ma : Int32) {σ : ex_S} : nv (B_looksAt fr ma σ).2 = nv σ := by
  unfold B_looksAt
  try simp only [ex_bd, ex_lt]
  (repeat' (with_reducible split)) <;> first | (simp only [nv_I, nv_L, nv_R, nv_next, nv_bad, nv_taken, nv_clears, nv_sign, nv_takes, nv_takesWay, nv_puts]) | with_reducible rfl
set_option maxHeartbeats 2000000 in
theorem nv_takesName (fr ma : Int32) {σ : ex_S} : nv (B_takesName fr ma σ).2 = nv σ := by
  unfold B_takesName
  try simp only [ex_bd, ex_lt]
  (repeat' (with_reducible split)) <;> first | (simp only [nv_I, nv_L, nv_R, nv_next, nv_bad, nv_taken, nv_clears, nv_sign, nv_takes, nv_takesWay, nv_puts, nv_looksAt]) | with_reducible rfl
set_option maxHeartbeats 2000000 in
theorem nv_once (k to lo hi : Int32) {σ : ex_S} : nv (B_once k to lo hi σ).2 = nv σ := by
  unfold B_once
  try simp only [ex_bd, ex_lt]
  (repeat' (with_reducible split)) <;> first | (simp only [nv_I, nv_L, nv_R, nv_next, nv_bad, nv_taken, nv_clears, nv_sign, nv_takes, nv_takesWay, nv_puts, nv_looksAt, nv_takesName]) | with_reducible rfl
set_option maxHeartbeats 2000000 in
theorem nv_readTerm {σ : ex_S} : nv (B_readTerm σ).2 = nv σ := by
  unfold B_readTerm
  try simp only [ex_bd, ex_lt]
  (repeat' (with_reducible split)) <;> first | (simp only [nv_I, nv_L, nv_R, nv_next, nv_bad, nv_taken, nv_clears, nv_sign, nv_takes, nv_takesWay, nv_puts, nv_looksAt, nv_takesName, nv_once]) | with_reducible rfl
set_option maxHeartbeats 2000000 in
theorem nv_readTown {σ : ex_S} (hI : B_INV σ) : nv (B_readTown σ).2 = nv σ := by
  have k9 := B_k0 hI
  unfold B_readTown
  by_cases h : ((σ.2.2.1 2) 0) = (7 : Int32)
  · rw [if_pos h]
    exact nv_bad _
  · rw [if_neg h]
    have n9 := ex_ne7 h
    have hto : 15 ≤ ((15 : Int32) + ((σ.2.2.1 2) 0)).toInt ∧ ((15 : Int32) + ((σ.2.2.1 2) 0)).toInt < 30 := by
      have s9 := ex_sum (a := (15 : Int32)) (x := ((σ.2.2.1 2) 0)) (by decide) (by omega)
      have e9 : (15 : Int32).toInt = 15 := by decide
      rw [s9]
      omega
    have hf : ∀ τ : ex_S, nv (B_fresh ((15 : Int32) + ((σ.2.2.1 2) 0)) τ).2 = nv τ := fun τ => nv_fresh _ hto
    simp only [ex_bd, ex_lt]
    (repeat' (with_reducible split)) <;> first | (simp only [hf, nv_I, nv_L, nv_R, nv_next, nv_bad, nv_taken, nv_clears, nv_sign, nv_takes, nv_takesWay, nv_puts, nv_looksAt, nv_takesName, nv_once, nv_readTerm]) | with_reducible rfl
set_option maxHeartbeats 2000000 in
theorem nv_readTrain {σ : ex_S} (hI : B_INV σ) : nv (B_readTrain σ).2 = nv σ := by
  have k9 := B_k2 hI
  unfold B_readTrain
  by_cases h : ((σ.2.2.1 2) 2) = (8 : Int32)
  · rw [if_pos h]
    exact nv_bad _
  · rw [if_neg h]
    have n9 := ex_ne8 h
    have hto : 15 ≤ ((22 : Int32) + ((σ.2.2.1 2) 2)).toInt ∧ ((22 : Int32) + ((σ.2.2.1 2) 2)).toInt < 30 := by
      have s9 := ex_sum (a := (22 : Int32)) (x := ((σ.2.2.1 2) 2)) (by decide) (by omega)
      have e9 : (22 : Int32).toInt = 22 := by decide
      rw [s9]
      omega
    have hf : ∀ τ : ex_S, nv (B_fresh ((22 : Int32) + ((σ.2.2.1 2) 2)) τ).2 = nv τ := fun τ => nv_fresh _ hto
    simp only [ex_bd, ex_lt]
    (repeat' (with_reducible split)) <;> first | (simp only [hf, nv_I, nv_L, nv_R, nv_next, nv_bad, nv_taken, nv_clears, nv_sign, nv_takes, nv_takesWay, nv_puts, nv_looksAt, nv_takesName, nv_once, nv_readTerm]) | with_reducible rfl
set_option maxHeartbeats 2000000 in
theorem nv_line {σ : ex_S} (hI : B_INV σ) : nv (B_line σ).2 = nv σ := by
  have h1 := nv_readTown hI
  have h2 := nv_readTrain hI
  unfold B_line
  simp only [ex_bd, ex_lt]
  (repeat' (with_reducible split)) <;> first | with_reducible exact h1 | with_reducible exact h2 | (simp only [nv_I, nv_L, nv_R, nv_next, nv_bad, nv_taken, nv_clears, nv_sign, nv_takes, nv_takesWay, nv_puts, nv_looksAt, nv_takesName, nv_once, nv_readTerm]) | with_reducible rfl
theorem nv_rs : ∀ (k : Nat) (σ : ex_S), B_INV σ → nv (B_rs k σ).2 = nv σ := by
  intro k
  induction k with
  | zero => intro σ hI; rfl
  | succ k ih =>
    intro σ hI
    have l := nv_line hI
    have i1 := inv_X11_line σ hI
    have i2 := inv_X11_sign (59 : Int32) (B_line σ).2 i1
    have r := fun υ (h : B_INV υ) => ih (sI 12 ((υ.1 12) + (1 : Int32)) υ) (B_INV_I h (by decide))
    have r2 := r _ i2
    rw [B_rs_s]
    simp only [ex_bd]
    (repeat' (with_reducible split)) <;> first | with_reducible rfl | with_reducible exact l | (simp only [nv_sign]; exact l) | exact r2.trans ((nv_I.trans (nv_sign _)).trans l)
theorem nv_vs {σ : ex_S} (h : 0 ≤ (σ.1 1).toInt ∧ (σ.1 1).toInt ≤ 940) : nv (B_vs σ).2 = nv σ := by
  have i0 := inv_X11_next _ (B_INV_0 h)
  unfold B_vs
  simp only [ex_lt]
  rw [nv_rs _ _ i0, nv_next, nv_clears, nv_I, nv_I, nv_I, nv_taken, nv_I]
