/-! The reference's parser leaves the row s alone. -/
theorem sv_I {k : Nat} {v : Int32} {σ : ex_S} : (sI k v σ).2.2.1 1 = σ.2.2.1 1 := rfl
theorem sv_L {k : Nat} {v : Int64} {σ : ex_S} : (sL k v σ).2.2.1 1 = σ.2.2.1 1 := rfl
theorem sv_Q {k : Nat} {f : Nat → Int64} {σ : ex_S} : (sQ k f σ).2.2.1 1 = σ.2.2.1 1 := rfl
theorem sv_R2 {f : Nat → Int32} {σ : ex_S} : (sR 2 f σ).2.2.1 1 = σ.2.2.1 1 := rfl
theorem sv_R3 {f : Nat → Int32} {σ : ex_S} : (sR 3 f σ).2.2.1 1 = σ.2.2.1 1 := rfl
theorem sv_next {σ : ex_S} : (B_next σ).2.2.1 1 = σ.2.2.1 1 := by rw [(kB_next σ).2]
set_option maxHeartbeats 2000000 in
theorem sv_bad (w : Int32) {σ : ex_S} : (B_bad w σ).2.2.2.1 1 = σ.2.2.1 1 := by
  unfold B_bad
  try simp only [ex_bd, ex_lt]
  (repeat' (with_reducible split)) <;> first | (simp only [sv_I, sv_L, sv_Q, sv_R2, sv_R3, sv_next]) | with_reducible rfl
set_option maxHeartbeats 2000000 in
theorem sv_taken (m : Int32) {σ : ex_S} : (B_taken m σ).2.2.1 1 = σ.2.2.1 1 := by
  unfold B_taken
  try simp only [ex_bd, ex_lt]
  (repeat' (with_reducible split)) <;> first | (simp only [sv_I, sv_L, sv_Q, sv_R2, sv_R3, sv_next, sv_bad]) | with_reducible rfl
set_option maxHeartbeats 2000000 in
theorem sv_clears {σ : ex_S} : (B_clears σ).2.2.1 1 = σ.2.2.1 1 := by
  unfold B_clears
  try simp only [ex_bd, ex_lt]
  (repeat' (with_reducible split)) <;> first | (simp only [sv_I, sv_L, sv_Q, sv_R2, sv_R3, sv_next, sv_bad, sv_taken]) | with_reducible rfl
set_option maxHeartbeats 2000000 in
theorem sv_sign (c : Int32) {σ : ex_S} : (B_sign c σ).2.2.2.1 1 = σ.2.2.1 1 := by
  unfold B_sign
  try simp only [ex_bd, ex_lt]
  (repeat' (with_reducible split)) <;> first | (simp only [sv_I, sv_L, sv_Q, sv_R2, sv_R3, sv_next, sv_bad, sv_taken, sv_clears]) | with_reducible rfl
set_option maxHeartbeats 2000000 in
theorem sv_takes (lo hi : Int32) {σ : ex_S} : (B_takes lo hi σ).2.2.2.1 1 = σ.2.2.1 1 := by
  unfold B_takes
  try simp only [ex_bd, ex_lt]
  (repeat' (with_reducible split)) <;> first | (simp only [sv_I, sv_L, sv_Q, sv_R2, sv_R3, sv_next, sv_bad, sv_taken, sv_clears, sv_sign]) | with_reducible rfl
set_option maxHeartbeats 2000000 in
theorem sv_takesWay (lo hi : Int32) {σ : ex_S} : (B_takesWay lo hi σ).2.2.2.1 1 = σ.2.2.1 1 := by
  unfold B_takesWay
  try simp only [ex_bd, ex_lt]
  (repeat' (with_reducible split)) <;> first | (simp only [sv_I, sv_L, sv_Q, sv_R2, sv_R3, sv_next, sv_bad, sv_taken, sv_clears, sv_sign, sv_takes]) | with_reducible rfl
set_option maxHeartbeats 2000000 in
theorem sv_puts (to lo hi : Int32) {σ : ex_S} : (B_puts to lo hi σ).2.2.2.1 1 = σ.2.2.1 1 := by
  unfold B_puts
  try simp only [ex_bd, ex_lt]
  (repeat' (with_reducible split)) <;> first | (simp only [sv_I, sv_L, sv_Q, sv_R2, sv_R3, sv_next, sv_bad, sv_taken, sv_clears, sv_sign, sv_takes, sv_takesWay]) | with_reducible rfl
set_option maxHeartbeats 2000000 in
theorem sv_fresh (to : Int32) {σ : ex_S} : (B_fresh to σ).2.2.2.1 1 = σ.2.2.1 1 := by
  unfold B_fresh
  try simp only [ex_bd, ex_lt]
  (repeat' (with_reducible split)) <;> first | (simp only [sv_I, sv_L, sv_Q, sv_R2, sv_R3, sv_next, sv_bad, sv_taken, sv_clears, sv_sign, sv_takes, sv_takesWay, sv_puts]) | with_reducible rfl
set_option maxHeartbeats 2000000 in
theorem sv_looksAt (fr ma : Int32) {σ : ex_S} : (B_looksAt fr ma σ).2.2.2.1 1 = σ.2.2.1 1 := by
  unfold B_looksAt
  try simp only [ex_bd, ex_lt]
  (repeat' (with_reducible split)) <;> first | (simp only [sv_I, sv_L, sv_Q, sv_R2, sv_R3, sv_next, sv_bad, sv_taken, sv_clears, sv_sign, sv_takes, sv_takesWay, sv_puts, sv_fresh]) | with_reducible rfl
set_option maxHeartbeats 2000000 in
theorem sv_takesName (fr ma : Int32) {σ : ex_S} : (B_takesName fr ma σ).2.2.2.1 1 = σ.2.2.1 1 := by
  unfold B_takesName
  try simp only [ex_bd, ex_lt]
  (repeat' (with_reducible split)) <;> first | (simp only [sv_I, sv_L, sv_Q, sv_R2, sv_R3, sv_next, sv_bad, sv_taken, sv_clears, sv_sign, sv_takes, sv_takesWay, sv_puts, sv_fresh, sv_looksAt]) | with_reducible rfl
set_option maxHeartbeats 2000000 in
theorem sv_once (k to lo hi : Int32) {σ : ex_S} : (B_once k to lo hi σ).2.2.2.1 1 = σ.2.2.1 1 := by
  unfold B_once
  try simp only [ex_bd, ex_lt]
  (repeat' (with_reducible split)) <;> first | (simp only [sv_I, sv_L, sv_Q, sv_R2, sv_R3, sv_next, sv_bad, sv_taken, sv_clears, sv_sign, sv_takes, sv_takesWay, sv_puts, sv_fresh, sv_looksAt, sv_takesName]) | with_reducible rfl
set_option maxHeartbeats 2000000 in
theorem sv_readTown {σ : ex_S} : (B_readTown σ).2.2.2.1 1 = σ.2.2.1 1 := by
  unfold B_readTown
  try simp only [ex_bd, ex_lt]
  (repeat' (with_reducible split)) <;> first | (simp only [sv_I, sv_L, sv_Q, sv_R2, sv_R3, sv_next, sv_bad, sv_taken, sv_clears, sv_sign, sv_takes, sv_takesWay, sv_puts, sv_fresh, sv_looksAt, sv_takesName, sv_once]) | with_reducible rfl
set_option maxHeartbeats 2000000 in
theorem sv_readTerm {σ : ex_S} : (B_readTerm σ).2.2.2.1 1 = σ.2.2.1 1 := by
  unfold B_readTerm
  try simp only [ex_bd, ex_lt]
  (repeat' (with_reducible split)) <;> first | (simp only [sv_I, sv_L, sv_Q, sv_R2, sv_R3, sv_next, sv_bad, sv_taken, sv_clears, sv_sign, sv_takes, sv_takesWay, sv_puts, sv_fresh, sv_looksAt, sv_takesName, sv_once, sv_readTown]) | with_reducible rfl
set_option maxHeartbeats 2000000 in
theorem sv_readTrain {σ : ex_S} : (B_readTrain σ).2.2.2.1 1 = σ.2.2.1 1 := by
  unfold B_readTrain
  try simp only [ex_bd, ex_lt]
  (repeat' (with_reducible split)) <;> first | (simp only [sv_I, sv_L, sv_Q, sv_R2, sv_R3, sv_next, sv_bad, sv_taken, sv_clears, sv_sign, sv_takes, sv_takesWay, sv_puts, sv_fresh, sv_looksAt, sv_takesName, sv_once, sv_readTown, sv_readTerm]) | with_reducible rfl
set_option maxHeartbeats 2000000 in
theorem sv_line {σ : ex_S} : (B_line σ).2.2.2.1 1 = σ.2.2.1 1 := by
  unfold B_line
  try simp only [ex_bd, ex_lt]
  (repeat' (with_reducible split)) <;> first | (simp only [sv_I, sv_L, sv_Q, sv_R2, sv_R3, sv_next, sv_bad, sv_taken, sv_clears, sv_sign, sv_takes, sv_takesWay, sv_puts, sv_fresh, sv_looksAt, sv_takesName, sv_once, sv_readTown, sv_readTerm, sv_readTrain]) | with_reducible rfl
theorem sv_rs : ∀ (k : Nat) (σ : ex_S), (B_rs k σ).2.2.2.1 1 = σ.2.2.1 1 := by
  intro k
  induction k with
  | zero => intro σ; rfl
  | succ k ih =>
    intro σ
    rw [B_rs_s]
    simp only [ex_bd]
    (repeat' (with_reducible split)) <;> first | (simp only [ih, sv_I, sv_line, sv_sign]) | with_reducible rfl
theorem sv_vs {σ : ex_S} : (B_vs σ).2.2.2.1 1 = σ.2.2.1 1 := by
  unfold B_vs
  simp only [ex_lt]
  rw [sv_rs, sv_next, sv_clears, sv_I, sv_I, sv_I, sv_taken, sv_I]
