/-! The world of due. -/
noncomputable def WD (σ : ex_S) : List ex_E := [.inl (10, [.ref 2000009, .ref 2000000, .ref 1, .ref 2000001, .ref 2000010, .ref 2000002, .ref 2000011, .ref 2000012, .ref 2000003, .ref 2000004, .ref 2000005, .ref 2000006, .ref 2000013, .ref 2000007, .int (σ.1 3300), .ref 2000008, .int (σ.1 3301)]),
  .inl (8, [.int (σ.1 0), .ref 2, .ref 3, .ref 4, .int (σ.1 1), .ref 5, .ref 6, .ref 7, .ref 8, .int (σ.1 2), .ref 9, .ref 10, .ref 11, .ref 12, .ref 13, .ref 14]),
  .inr (1, 7, .inr (.inl (σ.2.2.2 0))),
  .inr (0, 7, .inl (σ.2.2.1 0)),
  .inr (0, 7, .inl (σ.2.2.1 1)),
  .inr (0, 12, .inl (σ.2.2.1 2)),
  .inr (0, 12, .inl (σ.2.2.1 3)),
  .inr (0, 12, .inl (σ.2.2.1 4)),
  .inr (0, 12, .inl (σ.2.2.1 5)),
  .inr (1, 8, .inr (.inl (σ.2.2.2 1))),
  .inr (0, 8, .inl (σ.2.2.1 6)),
  .inr (0, 8, .inl (σ.2.2.1 7)),
  .inr (0, 8, .inl (σ.2.2.1 8)),
  .inr (0, 8, .inl (σ.2.2.1 9)),
  .inr (0, 3, .inl (σ.2.2.1 10)),
  .inr (1, 1, .inr (.inl (σ.2.2.2 5)))]
theorem WD_0 (σ : ex_S) : (WD σ)[0]? = some (.inl (10, [.ref 2000009, .ref 2000000, .ref 1, .ref 2000001, .ref 2000010, .ref 2000002, .ref 2000011, .ref 2000012, .ref 2000003, .ref 2000004, .ref 2000005, .ref 2000006, .ref 2000013, .ref 2000007, .int (σ.1 3300), .ref 2000008, .int (σ.1 3301)])) := rfl
theorem WD_0_14 (σ : ex_S) (v : Int32) : (WD σ).set 0 (.inl (10, ([.ref 2000009, .ref 2000000, .ref 1, .ref 2000001, .ref 2000010, .ref 2000002, .ref 2000011, .ref 2000012, .ref 2000003, .ref 2000004, .ref 2000005, .ref 2000006, .ref 2000013, .ref 2000007, .int (σ.1 3300), .ref 2000008, .int (σ.1 3301)] : List Value).set 14 (.int v))) = WD (sI 3300 v σ) := rfl
theorem WD_0_16 (σ : ex_S) (v : Int32) : (WD σ).set 0 (.inl (10, ([.ref 2000009, .ref 2000000, .ref 1, .ref 2000001, .ref 2000010, .ref 2000002, .ref 2000011, .ref 2000012, .ref 2000003, .ref 2000004, .ref 2000005, .ref 2000006, .ref 2000013, .ref 2000007, .int (σ.1 3300), .ref 2000008, .int (σ.1 3301)] : List Value).set 16 (.int v))) = WD (sI 3301 v σ) := rfl
theorem WD_1 (σ : ex_S) : (WD σ)[1]? = some (.inl (8, [.int (σ.1 0), .ref 2, .ref 3, .ref 4, .int (σ.1 1), .ref 5, .ref 6, .ref 7, .ref 8, .int (σ.1 2), .ref 9, .ref 10, .ref 11, .ref 12, .ref 13, .ref 14])) := rfl
theorem WD_1_0 (σ : ex_S) (v : Int32) : (WD σ).set 1 (.inl (8, ([.int (σ.1 0), .ref 2, .ref 3, .ref 4, .int (σ.1 1), .ref 5, .ref 6, .ref 7, .ref 8, .int (σ.1 2), .ref 9, .ref 10, .ref 11, .ref 12, .ref 13, .ref 14] : List Value).set 0 (.int v))) = WD (sI 0 v σ) := rfl
theorem WD_1_4 (σ : ex_S) (v : Int32) : (WD σ).set 1 (.inl (8, ([.int (σ.1 0), .ref 2, .ref 3, .ref 4, .int (σ.1 1), .ref 5, .ref 6, .ref 7, .ref 8, .int (σ.1 2), .ref 9, .ref 10, .ref 11, .ref 12, .ref 13, .ref 14] : List Value).set 4 (.int v))) = WD (sI 1 v σ) := rfl
theorem WD_1_9 (σ : ex_S) (v : Int32) : (WD σ).set 1 (.inl (8, ([.int (σ.1 0), .ref 2, .ref 3, .ref 4, .int (σ.1 1), .ref 5, .ref 6, .ref 7, .ref 8, .int (σ.1 2), .ref 9, .ref 10, .ref 11, .ref 12, .ref 13, .ref 14] : List Value).set 9 (.int v))) = WD (sI 2 v σ) := rfl
theorem WD_2 (σ : ex_S) : (WD σ)[2]? = some (.inr (1, 7, .inr (.inl (σ.2.2.2 0)))) := rfl
theorem WD_2_s (σ : ex_S) (f : Nat → Int64) : (WD σ).set 2 (.inr (1, 7, .inr (.inl f))) = WD (sQ 0 f σ) := rfl
theorem WD_3 (σ : ex_S) : (WD σ)[3]? = some (.inr (0, 7, .inl (σ.2.2.1 0))) := rfl
theorem WD_3_s (σ : ex_S) (f : Nat → Int32) : (WD σ).set 3 (.inr (0, 7, .inl f)) = WD (sR 0 f σ) := rfl
theorem WD_4 (σ : ex_S) : (WD σ)[4]? = some (.inr (0, 7, .inl (σ.2.2.1 1))) := rfl
theorem WD_4_s (σ : ex_S) (f : Nat → Int32) : (WD σ).set 4 (.inr (0, 7, .inl f)) = WD (sR 1 f σ) := rfl
theorem WD_5 (σ : ex_S) : (WD σ)[5]? = some (.inr (0, 12, .inl (σ.2.2.1 2))) := rfl
theorem WD_5_s (σ : ex_S) (f : Nat → Int32) : (WD σ).set 5 (.inr (0, 12, .inl f)) = WD (sR 2 f σ) := rfl
theorem WD_6 (σ : ex_S) : (WD σ)[6]? = some (.inr (0, 12, .inl (σ.2.2.1 3))) := rfl
theorem WD_6_s (σ : ex_S) (f : Nat → Int32) : (WD σ).set 6 (.inr (0, 12, .inl f)) = WD (sR 3 f σ) := rfl
theorem WD_7 (σ : ex_S) : (WD σ)[7]? = some (.inr (0, 12, .inl (σ.2.2.1 4))) := rfl
theorem WD_7_s (σ : ex_S) (f : Nat → Int32) : (WD σ).set 7 (.inr (0, 12, .inl f)) = WD (sR 4 f σ) := rfl
theorem WD_8 (σ : ex_S) : (WD σ)[8]? = some (.inr (0, 12, .inl (σ.2.2.1 5))) := rfl
theorem WD_8_s (σ : ex_S) (f : Nat → Int32) : (WD σ).set 8 (.inr (0, 12, .inl f)) = WD (sR 5 f σ) := rfl
theorem WD_9 (σ : ex_S) : (WD σ)[9]? = some (.inr (1, 8, .inr (.inl (σ.2.2.2 1)))) := rfl
theorem WD_9_s (σ : ex_S) (f : Nat → Int64) : (WD σ).set 9 (.inr (1, 8, .inr (.inl f))) = WD (sQ 1 f σ) := rfl
theorem WD_10 (σ : ex_S) : (WD σ)[10]? = some (.inr (0, 8, .inl (σ.2.2.1 6))) := rfl
theorem WD_10_s (σ : ex_S) (f : Nat → Int32) : (WD σ).set 10 (.inr (0, 8, .inl f)) = WD (sR 6 f σ) := rfl
theorem WD_11 (σ : ex_S) : (WD σ)[11]? = some (.inr (0, 8, .inl (σ.2.2.1 7))) := rfl
theorem WD_11_s (σ : ex_S) (f : Nat → Int32) : (WD σ).set 11 (.inr (0, 8, .inl f)) = WD (sR 7 f σ) := rfl
theorem WD_12 (σ : ex_S) : (WD σ)[12]? = some (.inr (0, 8, .inl (σ.2.2.1 8))) := rfl
theorem WD_12_s (σ : ex_S) (f : Nat → Int32) : (WD σ).set 12 (.inr (0, 8, .inl f)) = WD (sR 8 f σ) := rfl
theorem WD_13 (σ : ex_S) : (WD σ)[13]? = some (.inr (0, 8, .inl (σ.2.2.1 9))) := rfl
theorem WD_13_s (σ : ex_S) (f : Nat → Int32) : (WD σ).set 13 (.inr (0, 8, .inl f)) = WD (sR 9 f σ) := rfl
theorem WD_14 (σ : ex_S) : (WD σ)[14]? = some (.inr (0, 3, .inl (σ.2.2.1 10))) := rfl
theorem WD_14_s (σ : ex_S) (f : Nat → Int32) : (WD σ).set 14 (.inr (0, 3, .inl f)) = WD (sR 10 f σ) := rfl
theorem WD_15 (σ : ex_S) : (WD σ)[15]? = some (.inr (1, 1, .inr (.inl (σ.2.2.2 5)))) := rfl
theorem WD_15_s (σ : ex_S) (f : Nat → Int64) : (WD σ).set 15 (.inr (1, 1, .inr (.inl f))) = WD (sQ 5 f σ) := rfl
noncomputable def WK (σ : ex_S) : List ex_E := [.inl (11, [.int (σ.1 0), .ref 2000000, .int (σ.1 1), .int (σ.1 2), .int (σ.1 3), .int (σ.1 4), .ref 1, .ref 2000001, .ref 2000002, .ref 2, .ref 2000003, .int (σ.1 5), .int (σ.1 6), .int (σ.1 7), .int (σ.1 8), .int (σ.1 9), .int (σ.1 10), .long (σ.2.1 0), .int (σ.1 11), .int (σ.1 12), .int (σ.1 13), .ref 2000004, .ref 2000005, .int (σ.1 14), .ref 2000006, .ref 2000007, .ref 2000008, .int (σ.1 15), .int (σ.1 16), .ref 2000009, .ref 2000010, .ref 2000011, .ref 2000012, .ref 2000013, .int (σ.1 17), .ref 2000014, .int (σ.1 18), .int (σ.1 19), .int (σ.1 20), .ref 2000015, .int (σ.1 21), .ref 2000016, .int (σ.1 22), .int (σ.1 23), .int (σ.1 24), .int (σ.1 25), .int (σ.1 26), .ref 2000017, .ref 3, .ref 4, .ref 5]),
  .inr (0, 305, .inl (σ.2.2.1 0)),
  .inr (1, 30, .inr (.inl (σ.2.2.2 0))),
  .inr (0, 610, .inl (σ.2.2.1 1)),
  .inr (1, 30, .inr (.inl (σ.2.2.2 1))),
  .inr (3, 2, .inl (σ.2.2.1 2)),
  .inr (1, 1, .inr (.inl (σ.2.2.2 5)))]
theorem WK_0 (σ : ex_S) : (WK σ)[0]? = some (.inl (11, [.int (σ.1 0), .ref 2000000, .int (σ.1 1), .int (σ.1 2), .int (σ.1 3), .int (σ.1 4), .ref 1, .ref 2000001, .ref 2000002, .ref 2, .ref 2000003, .int (σ.1 5), .int (σ.1 6), .int (σ.1 7), .int (σ.1 8), .int (σ.1 9), .int (σ.1 10), .long (σ.2.1 0), .int (σ.1 11), .int (σ.1 12), .int (σ.1 13), .ref 2000004, .ref 2000005, .int (σ.1 14), .ref 2000006, .ref 2000007, .ref 2000008, .int (σ.1 15), .int (σ.1 16), .ref 2000009, .ref 2000010, .ref 2000011, .ref 2000012, .ref 2000013, .int (σ.1 17), .ref 2000014, .int (σ.1 18), .int (σ.1 19), .int (σ.1 20), .ref 2000015, .int (σ.1 21), .ref 2000016, .int (σ.1 22), .int (σ.1 23), .int (σ.1 24), .int (σ.1 25), .int (σ.1 26), .ref 2000017, .ref 3, .ref 4, .ref 5])) := rfl
theorem WK_0_0 (σ : ex_S) (v : Int32) : (WK σ).set 0 (.inl (11, ([.int (σ.1 0), .ref 2000000, .int (σ.1 1), .int (σ.1 2), .int (σ.1 3), .int (σ.1 4), .ref 1, .ref 2000001, .ref 2000002, .ref 2, .ref 2000003, .int (σ.1 5), .int (σ.1 6), .int (σ.1 7), .int (σ.1 8), .int (σ.1 9), .int (σ.1 10), .long (σ.2.1 0), .int (σ.1 11), .int (σ.1 12), .int (σ.1 13), .ref 2000004, .ref 2000005, .int (σ.1 14), .ref 2000006, .ref 2000007, .ref 2000008, .int (σ.1 15), .int (σ.1 16), .ref 2000009, .ref 2000010, .ref 2000011, .ref 2000012, .ref 2000013, .int (σ.1 17), .ref 2000014, .int (σ.1 18), .int (σ.1 19), .int (σ.1 20), .ref 2000015, .int (σ.1 21), .ref 2000016, .int (σ.1 22), .int (σ.1 23), .int (σ.1 24), .int (σ.1 25), .int (σ.1 26), .ref 2000017, .ref 3, .ref 4, .ref 5] : List Value).set 0 (.int v))) = WK (sI 0 v σ) := rfl
theorem WK_0_2 (σ : ex_S) (v : Int32) : (WK σ).set 0 (.inl (11, ([.int (σ.1 0), .ref 2000000, .int (σ.1 1), .int (σ.1 2), .int (σ.1 3), .int (σ.1 4), .ref 1, .ref 2000001, .ref 2000002, .ref 2, .ref 2000003, .int (σ.1 5), .int (σ.1 6), .int (σ.1 7), .int (σ.1 8), .int (σ.1 9), .int (σ.1 10), .long (σ.2.1 0), .int (σ.1 11), .int (σ.1 12), .int (σ.1 13), .ref 2000004, .ref 2000005, .int (σ.1 14), .ref 2000006, .ref 2000007, .ref 2000008, .int (σ.1 15), .int (σ.1 16), .ref 2000009, .ref 2000010, .ref 2000011, .ref 2000012, .ref 2000013, .int (σ.1 17), .ref 2000014, .int (σ.1 18), .int (σ.1 19), .int (σ.1 20), .ref 2000015, .int (σ.1 21), .ref 2000016, .int (σ.1 22), .int (σ.1 23), .int (σ.1 24), .int (σ.1 25), .int (σ.1 26), .ref 2000017, .ref 3, .ref 4, .ref 5] : List Value).set 2 (.int v))) = WK (sI 1 v σ) := rfl
theorem WK_0_3 (σ : ex_S) (v : Int32) : (WK σ).set 0 (.inl (11, ([.int (σ.1 0), .ref 2000000, .int (σ.1 1), .int (σ.1 2), .int (σ.1 3), .int (σ.1 4), .ref 1, .ref 2000001, .ref 2000002, .ref 2, .ref 2000003, .int (σ.1 5), .int (σ.1 6), .int (σ.1 7), .int (σ.1 8), .int (σ.1 9), .int (σ.1 10), .long (σ.2.1 0), .int (σ.1 11), .int (σ.1 12), .int (σ.1 13), .ref 2000004, .ref 2000005, .int (σ.1 14), .ref 2000006, .ref 2000007, .ref 2000008, .int (σ.1 15), .int (σ.1 16), .ref 2000009, .ref 2000010, .ref 2000011, .ref 2000012, .ref 2000013, .int (σ.1 17), .ref 2000014, .int (σ.1 18), .int (σ.1 19), .int (σ.1 20), .ref 2000015, .int (σ.1 21), .ref 2000016, .int (σ.1 22), .int (σ.1 23), .int (σ.1 24), .int (σ.1 25), .int (σ.1 26), .ref 2000017, .ref 3, .ref 4, .ref 5] : List Value).set 3 (.int v))) = WK (sI 2 v σ) := rfl
theorem WK_0_4 (σ : ex_S) (v : Int32) : (WK σ).set 0 (.inl (11, ([.int (σ.1 0), .ref 2000000, .int (σ.1 1), .int (σ.1 2), .int (σ.1 3), .int (σ.1 4), .ref 1, .ref 2000001, .ref 2000002, .ref 2, .ref 2000003, .int (σ.1 5), .int (σ.1 6), .int (σ.1 7), .int (σ.1 8), .int (σ.1 9), .int (σ.1 10), .long (σ.2.1 0), .int (σ.1 11), .int (σ.1 12), .int (σ.1 13), .ref 2000004, .ref 2000005, .int (σ.1 14), .ref 2000006, .ref 2000007, .ref 2000008, .int (σ.1 15), .int (σ.1 16), .ref 2000009, .ref 2000010, .ref 2000011, .ref 2000012, .ref 2000013, .int (σ.1 17), .ref 2000014, .int (σ.1 18), .int (σ.1 19), .int (σ.1 20), .ref 2000015, .int (σ.1 21), .ref 2000016, .int (σ.1 22), .int (σ.1 23), .int (σ.1 24), .int (σ.1 25), .int (σ.1 26), .ref 2000017, .ref 3, .ref 4, .ref 5] : List Value).set 4 (.int v))) = WK (sI 3 v σ) := rfl
theorem WK_0_5 (σ : ex_S) (v : Int32) : (WK σ).set 0 (.inl (11, ([.int (σ.1 0), .ref 2000000, .int (σ.1 1), .int (σ.1 2), .int (σ.1 3), .int (σ.1 4), .ref 1, .ref 2000001, .ref 2000002, .ref 2, .ref 2000003, .int (σ.1 5), .int (σ.1 6), .int (σ.1 7), .int (σ.1 8), .int (σ.1 9), .int (σ.1 10), .long (σ.2.1 0), .int (σ.1 11), .int (σ.1 12), .int (σ.1 13), .ref 2000004, .ref 2000005, .int (σ.1 14), .ref 2000006, .ref 2000007, .ref 2000008, .int (σ.1 15), .int (σ.1 16), .ref 2000009, .ref 2000010, .ref 2000011, .ref 2000012, .ref 2000013, .int (σ.1 17), .ref 2000014, .int (σ.1 18), .int (σ.1 19), .int (σ.1 20), .ref 2000015, .int (σ.1 21), .ref 2000016, .int (σ.1 22), .int (σ.1 23), .int (σ.1 24), .int (σ.1 25), .int (σ.1 26), .ref 2000017, .ref 3, .ref 4, .ref 5] : List Value).set 5 (.int v))) = WK (sI 4 v σ) := rfl
theorem WK_0_11 (σ : ex_S) (v : Int32) : (WK σ).set 0 (.inl (11, ([.int (σ.1 0), .ref 2000000, .int (σ.1 1), .int (σ.1 2), .int (σ.1 3), .int (σ.1 4), .ref 1, .ref 2000001, .ref 2000002, .ref 2, .ref 2000003, .int (σ.1 5), .int (σ.1 6), .int (σ.1 7), .int (σ.1 8), .int (σ.1 9), .int (σ.1 10), .long (σ.2.1 0), .int (σ.1 11), .int (σ.1 12), .int (σ.1 13), .ref 2000004, .ref 2000005, .int (σ.1 14), .ref 2000006, .ref 2000007, .ref 2000008, .int (σ.1 15), .int (σ.1 16), .ref 2000009, .ref 2000010, .ref 2000011, .ref 2000012, .ref 2000013, .int (σ.1 17), .ref 2000014, .int (σ.1 18), .int (σ.1 19), .int (σ.1 20), .ref 2000015, .int (σ.1 21), .ref 2000016, .int (σ.1 22), .int (σ.1 23), .int (σ.1 24), .int (σ.1 25), .int (σ.1 26), .ref 2000017, .ref 3, .ref 4, .ref 5] : List Value).set 11 (.int v))) = WK (sI 5 v σ) := rfl
theorem WK_0_12 (σ : ex_S) (v : Int32) : (WK σ).set 0 (.inl (11, ([.int (σ.1 0), .ref 2000000, .int (σ.1 1), .int (σ.1 2), .int (σ.1 3), .int (σ.1 4), .ref 1, .ref 2000001, .ref 2000002, .ref 2, .ref 2000003, .int (σ.1 5), .int (σ.1 6), .int (σ.1 7), .int (σ.1 8), .int (σ.1 9), .int (σ.1 10), .long (σ.2.1 0), .int (σ.1 11), .int (σ.1 12), .int (σ.1 13), .ref 2000004, .ref 2000005, .int (σ.1 14), .ref 2000006, .ref 2000007, .ref 2000008, .int (σ.1 15), .int (σ.1 16), .ref 2000009, .ref 2000010, .ref 2000011, .ref 2000012, .ref 2000013, .int (σ.1 17), .ref 2000014, .int (σ.1 18), .int (σ.1 19), .int (σ.1 20), .ref 2000015, .int (σ.1 21), .ref 2000016, .int (σ.1 22), .int (σ.1 23), .int (σ.1 24), .int (σ.1 25), .int (σ.1 26), .ref 2000017, .ref 3, .ref 4, .ref 5] : List Value).set 12 (.int v))) = WK (sI 6 v σ) := rfl
theorem WK_0_13 (σ : ex_S) (v : Int32) : (WK σ).set 0 (.inl (11, ([.int (σ.1 0), .ref 2000000, .int (σ.1 1), .int (σ.1 2), .int (σ.1 3), .int (σ.1 4), .ref 1, .ref 2000001, .ref 2000002, .ref 2, .ref 2000003, .int (σ.1 5), .int (σ.1 6), .int (σ.1 7), .int (σ.1 8), .int (σ.1 9), .int (σ.1 10), .long (σ.2.1 0), .int (σ.1 11), .int (σ.1 12), .int (σ.1 13), .ref 2000004, .ref 2000005, .int (σ.1 14), .ref 2000006, .ref 2000007, .ref 2000008, .int (σ.1 15), .int (σ.1 16), .ref 2000009, .ref 2000010, .ref 2000011, .ref 2000012, .ref 2000013, .int (σ.1 17), .ref 2000014, .int (σ.1 18), .int (σ.1 19), .int (σ.1 20), .ref 2000015, .int (σ.1 21), .ref 2000016, .int (σ.1 22), .int (σ.1 23), .int (σ.1 24), .int (σ.1 25), .int (σ.1 26), .ref 2000017, .ref 3, .ref 4, .ref 5] : List Value).set 13 (.int v))) = WK (sI 7 v σ) := rfl
theorem WK_0_14 (σ : ex_S) (v : Int32) : (WK σ).set 0 (.inl (11, ([.int (σ.1 0), .ref 2000000, .int (σ.1 1), .int (σ.1 2), .int (σ.1 3), .int (σ.1 4), .ref 1, .ref 2000001, .ref 2000002, .ref 2, .ref 2000003, .int (σ.1 5), .int (σ.1 6), .int (σ.1 7), .int (σ.1 8), .int (σ.1 9), .int (σ.1 10), .long (σ.2.1 0), .int (σ.1 11), .int (σ.1 12), .int (σ.1 13), .ref 2000004, .ref 2000005, .int (σ.1 14), .ref 2000006, .ref 2000007, .ref 2000008, .int (σ.1 15), .int (σ.1 16), .ref 2000009, .ref 2000010, .ref 2000011, .ref 2000012, .ref 2000013, .int (σ.1 17), .ref 2000014, .int (σ.1 18), .int (σ.1 19), .int (σ.1 20), .ref 2000015, .int (σ.1 21), .ref 2000016, .int (σ.1 22), .int (σ.1 23), .int (σ.1 24), .int (σ.1 25), .int (σ.1 26), .ref 2000017, .ref 3, .ref 4, .ref 5] : List Value).set 14 (.int v))) = WK (sI 8 v σ) := rfl
theorem WK_0_15 (σ : ex_S) (v : Int32) : (WK σ).set 0 (.inl (11, ([.int (σ.1 0), .ref 2000000, .int (σ.1 1), .int (σ.1 2), .int (σ.1 3), .int (σ.1 4), .ref 1, .ref 2000001, .ref 2000002, .ref 2, .ref 2000003, .int (σ.1 5), .int (σ.1 6), .int (σ.1 7), .int (σ.1 8), .int (σ.1 9), .int (σ.1 10), .long (σ.2.1 0), .int (σ.1 11), .int (σ.1 12), .int (σ.1 13), .ref 2000004, .ref 2000005, .int (σ.1 14), .ref 2000006, .ref 2000007, .ref 2000008, .int (σ.1 15), .int (σ.1 16), .ref 2000009, .ref 2000010, .ref 2000011, .ref 2000012, .ref 2000013, .int (σ.1 17), .ref 2000014, .int (σ.1 18), .int (σ.1 19), .int (σ.1 20), .ref 2000015, .int (σ.1 21), .ref 2000016, .int (σ.1 22), .int (σ.1 23), .int (σ.1 24), .int (σ.1 25), .int (σ.1 26), .ref 2000017, .ref 3, .ref 4, .ref 5] : List Value).set 15 (.int v))) = WK (sI 9 v σ) := rfl
theorem WK_0_16 (σ : ex_S) (v : Int32) : (WK σ).set 0 (.inl (11, ([.int (σ.1 0), .ref 2000000, .int (σ.1 1), .int (σ.1 2), .int (σ.1 3), .int (σ.1 4), .ref 1, .ref 2000001, .ref 2000002, .ref 2, .ref 2000003, .int (σ.1 5), .int (σ.1 6), .int (σ.1 7), .int (σ.1 8), .int (σ.1 9), .int (σ.1 10), .long (σ.2.1 0), .int (σ.1 11), .int (σ.1 12), .int (σ.1 13), .ref 2000004, .ref 2000005, .int (σ.1 14), .ref 2000006, .ref 2000007, .ref 2000008, .int (σ.1 15), .int (σ.1 16), .ref 2000009, .ref 2000010, .ref 2000011, .ref 2000012, .ref 2000013, .int (σ.1 17), .ref 2000014, .int (σ.1 18), .int (σ.1 19), .int (σ.1 20), .ref 2000015, .int (σ.1 21), .ref 2000016, .int (σ.1 22), .int (σ.1 23), .int (σ.1 24), .int (σ.1 25), .int (σ.1 26), .ref 2000017, .ref 3, .ref 4, .ref 5] : List Value).set 16 (.int v))) = WK (sI 10 v σ) := rfl
theorem WK_0_17 (σ : ex_S) (v : Int64) : (WK σ).set 0 (.inl (11, ([.int (σ.1 0), .ref 2000000, .int (σ.1 1), .int (σ.1 2), .int (σ.1 3), .int (σ.1 4), .ref 1, .ref 2000001, .ref 2000002, .ref 2, .ref 2000003, .int (σ.1 5), .int (σ.1 6), .int (σ.1 7), .int (σ.1 8), .int (σ.1 9), .int (σ.1 10), .long (σ.2.1 0), .int (σ.1 11), .int (σ.1 12), .int (σ.1 13), .ref 2000004, .ref 2000005, .int (σ.1 14), .ref 2000006, .ref 2000007, .ref 2000008, .int (σ.1 15), .int (σ.1 16), .ref 2000009, .ref 2000010, .ref 2000011, .ref 2000012, .ref 2000013, .int (σ.1 17), .ref 2000014, .int (σ.1 18), .int (σ.1 19), .int (σ.1 20), .ref 2000015, .int (σ.1 21), .ref 2000016, .int (σ.1 22), .int (σ.1 23), .int (σ.1 24), .int (σ.1 25), .int (σ.1 26), .ref 2000017, .ref 3, .ref 4, .ref 5] : List Value).set 17 (.long v))) = WK (sL 0 v σ) := rfl
theorem WK_0_18 (σ : ex_S) (v : Int32) : (WK σ).set 0 (.inl (11, ([.int (σ.1 0), .ref 2000000, .int (σ.1 1), .int (σ.1 2), .int (σ.1 3), .int (σ.1 4), .ref 1, .ref 2000001, .ref 2000002, .ref 2, .ref 2000003, .int (σ.1 5), .int (σ.1 6), .int (σ.1 7), .int (σ.1 8), .int (σ.1 9), .int (σ.1 10), .long (σ.2.1 0), .int (σ.1 11), .int (σ.1 12), .int (σ.1 13), .ref 2000004, .ref 2000005, .int (σ.1 14), .ref 2000006, .ref 2000007, .ref 2000008, .int (σ.1 15), .int (σ.1 16), .ref 2000009, .ref 2000010, .ref 2000011, .ref 2000012, .ref 2000013, .int (σ.1 17), .ref 2000014, .int (σ.1 18), .int (σ.1 19), .int (σ.1 20), .ref 2000015, .int (σ.1 21), .ref 2000016, .int (σ.1 22), .int (σ.1 23), .int (σ.1 24), .int (σ.1 25), .int (σ.1 26), .ref 2000017, .ref 3, .ref 4, .ref 5] : List Value).set 18 (.int v))) = WK (sI 11 v σ) := rfl
theorem WK_0_19 (σ : ex_S) (v : Int32) : (WK σ).set 0 (.inl (11, ([.int (σ.1 0), .ref 2000000, .int (σ.1 1), .int (σ.1 2), .int (σ.1 3), .int (σ.1 4), .ref 1, .ref 2000001, .ref 2000002, .ref 2, .ref 2000003, .int (σ.1 5), .int (σ.1 6), .int (σ.1 7), .int (σ.1 8), .int (σ.1 9), .int (σ.1 10), .long (σ.2.1 0), .int (σ.1 11), .int (σ.1 12), .int (σ.1 13), .ref 2000004, .ref 2000005, .int (σ.1 14), .ref 2000006, .ref 2000007, .ref 2000008, .int (σ.1 15), .int (σ.1 16), .ref 2000009, .ref 2000010, .ref 2000011, .ref 2000012, .ref 2000013, .int (σ.1 17), .ref 2000014, .int (σ.1 18), .int (σ.1 19), .int (σ.1 20), .ref 2000015, .int (σ.1 21), .ref 2000016, .int (σ.1 22), .int (σ.1 23), .int (σ.1 24), .int (σ.1 25), .int (σ.1 26), .ref 2000017, .ref 3, .ref 4, .ref 5] : List Value).set 19 (.int v))) = WK (sI 12 v σ) := rfl
theorem WK_0_20 (σ : ex_S) (v : Int32) : (WK σ).set 0 (.inl (11, ([.int (σ.1 0), .ref 2000000, .int (σ.1 1), .int (σ.1 2), .int (σ.1 3), .int (σ.1 4), .ref 1, .ref 2000001, .ref 2000002, .ref 2, .ref 2000003, .int (σ.1 5), .int (σ.1 6), .int (σ.1 7), .int (σ.1 8), .int (σ.1 9), .int (σ.1 10), .long (σ.2.1 0), .int (σ.1 11), .int (σ.1 12), .int (σ.1 13), .ref 2000004, .ref 2000005, .int (σ.1 14), .ref 2000006, .ref 2000007, .ref 2000008, .int (σ.1 15), .int (σ.1 16), .ref 2000009, .ref 2000010, .ref 2000011, .ref 2000012, .ref 2000013, .int (σ.1 17), .ref 2000014, .int (σ.1 18), .int (σ.1 19), .int (σ.1 20), .ref 2000015, .int (σ.1 21), .ref 2000016, .int (σ.1 22), .int (σ.1 23), .int (σ.1 24), .int (σ.1 25), .int (σ.1 26), .ref 2000017, .ref 3, .ref 4, .ref 5] : List Value).set 20 (.int v))) = WK (sI 13 v σ) := rfl
theorem WK_0_23 (σ : ex_S) (v : Int32) : (WK σ).set 0 (.inl (11, ([.int (σ.1 0), .ref 2000000, .int (σ.1 1), .int (σ.1 2), .int (σ.1 3), .int (σ.1 4), .ref 1, .ref 2000001, .ref 2000002, .ref 2, .ref 2000003, .int (σ.1 5), .int (σ.1 6), .int (σ.1 7), .int (σ.1 8), .int (σ.1 9), .int (σ.1 10), .long (σ.2.1 0), .int (σ.1 11), .int (σ.1 12), .int (σ.1 13), .ref 2000004, .ref 2000005, .int (σ.1 14), .ref 2000006, .ref 2000007, .ref 2000008, .int (σ.1 15), .int (σ.1 16), .ref 2000009, .ref 2000010, .ref 2000011, .ref 2000012, .ref 2000013, .int (σ.1 17), .ref 2000014, .int (σ.1 18), .int (σ.1 19), .int (σ.1 20), .ref 2000015, .int (σ.1 21), .ref 2000016, .int (σ.1 22), .int (σ.1 23), .int (σ.1 24), .int (σ.1 25), .int (σ.1 26), .ref 2000017, .ref 3, .ref 4, .ref 5] : List Value).set 23 (.int v))) = WK (sI 14 v σ) := rfl
theorem WK_0_27 (σ : ex_S) (v : Int32) : (WK σ).set 0 (.inl (11, ([.int (σ.1 0), .ref 2000000, .int (σ.1 1), .int (σ.1 2), .int (σ.1 3), .int (σ.1 4), .ref 1, .ref 2000001, .ref 2000002, .ref 2, .ref 2000003, .int (σ.1 5), .int (σ.1 6), .int (σ.1 7), .int (σ.1 8), .int (σ.1 9), .int (σ.1 10), .long (σ.2.1 0), .int (σ.1 11), .int (σ.1 12), .int (σ.1 13), .ref 2000004, .ref 2000005, .int (σ.1 14), .ref 2000006, .ref 2000007, .ref 2000008, .int (σ.1 15), .int (σ.1 16), .ref 2000009, .ref 2000010, .ref 2000011, .ref 2000012, .ref 2000013, .int (σ.1 17), .ref 2000014, .int (σ.1 18), .int (σ.1 19), .int (σ.1 20), .ref 2000015, .int (σ.1 21), .ref 2000016, .int (σ.1 22), .int (σ.1 23), .int (σ.1 24), .int (σ.1 25), .int (σ.1 26), .ref 2000017, .ref 3, .ref 4, .ref 5] : List Value).set 27 (.int v))) = WK (sI 15 v σ) := rfl
theorem WK_0_28 (σ : ex_S) (v : Int32) : (WK σ).set 0 (.inl (11, ([.int (σ.1 0), .ref 2000000, .int (σ.1 1), .int (σ.1 2), .int (σ.1 3), .int (σ.1 4), .ref 1, .ref 2000001, .ref 2000002, .ref 2, .ref 2000003, .int (σ.1 5), .int (σ.1 6), .int (σ.1 7), .int (σ.1 8), .int (σ.1 9), .int (σ.1 10), .long (σ.2.1 0), .int (σ.1 11), .int (σ.1 12), .int (σ.1 13), .ref 2000004, .ref 2000005, .int (σ.1 14), .ref 2000006, .ref 2000007, .ref 2000008, .int (σ.1 15), .int (σ.1 16), .ref 2000009, .ref 2000010, .ref 2000011, .ref 2000012, .ref 2000013, .int (σ.1 17), .ref 2000014, .int (σ.1 18), .int (σ.1 19), .int (σ.1 20), .ref 2000015, .int (σ.1 21), .ref 2000016, .int (σ.1 22), .int (σ.1 23), .int (σ.1 24), .int (σ.1 25), .int (σ.1 26), .ref 2000017, .ref 3, .ref 4, .ref 5] : List Value).set 28 (.int v))) = WK (sI 16 v σ) := rfl
theorem WK_0_34 (σ : ex_S) (v : Int32) : (WK σ).set 0 (.inl (11, ([.int (σ.1 0), .ref 2000000, .int (σ.1 1), .int (σ.1 2), .int (σ.1 3), .int (σ.1 4), .ref 1, .ref 2000001, .ref 2000002, .ref 2, .ref 2000003, .int (σ.1 5), .int (σ.1 6), .int (σ.1 7), .int (σ.1 8), .int (σ.1 9), .int (σ.1 10), .long (σ.2.1 0), .int (σ.1 11), .int (σ.1 12), .int (σ.1 13), .ref 2000004, .ref 2000005, .int (σ.1 14), .ref 2000006, .ref 2000007, .ref 2000008, .int (σ.1 15), .int (σ.1 16), .ref 2000009, .ref 2000010, .ref 2000011, .ref 2000012, .ref 2000013, .int (σ.1 17), .ref 2000014, .int (σ.1 18), .int (σ.1 19), .int (σ.1 20), .ref 2000015, .int (σ.1 21), .ref 2000016, .int (σ.1 22), .int (σ.1 23), .int (σ.1 24), .int (σ.1 25), .int (σ.1 26), .ref 2000017, .ref 3, .ref 4, .ref 5] : List Value).set 34 (.int v))) = WK (sI 17 v σ) := rfl
theorem WK_0_36 (σ : ex_S) (v : Int32) : (WK σ).set 0 (.inl (11, ([.int (σ.1 0), .ref 2000000, .int (σ.1 1), .int (σ.1 2), .int (σ.1 3), .int (σ.1 4), .ref 1, .ref 2000001, .ref 2000002, .ref 2, .ref 2000003, .int (σ.1 5), .int (σ.1 6), .int (σ.1 7), .int (σ.1 8), .int (σ.1 9), .int (σ.1 10), .long (σ.2.1 0), .int (σ.1 11), .int (σ.1 12), .int (σ.1 13), .ref 2000004, .ref 2000005, .int (σ.1 14), .ref 2000006, .ref 2000007, .ref 2000008, .int (σ.1 15), .int (σ.1 16), .ref 2000009, .ref 2000010, .ref 2000011, .ref 2000012, .ref 2000013, .int (σ.1 17), .ref 2000014, .int (σ.1 18), .int (σ.1 19), .int (σ.1 20), .ref 2000015, .int (σ.1 21), .ref 2000016, .int (σ.1 22), .int (σ.1 23), .int (σ.1 24), .int (σ.1 25), .int (σ.1 26), .ref 2000017, .ref 3, .ref 4, .ref 5] : List Value).set 36 (.int v))) = WK (sI 18 v σ) := rfl
theorem WK_0_37 (σ : ex_S) (v : Int32) : (WK σ).set 0 (.inl (11, ([.int (σ.1 0), .ref 2000000, .int (σ.1 1), .int (σ.1 2), .int (σ.1 3), .int (σ.1 4), .ref 1, .ref 2000001, .ref 2000002, .ref 2, .ref 2000003, .int (σ.1 5), .int (σ.1 6), .int (σ.1 7), .int (σ.1 8), .int (σ.1 9), .int (σ.1 10), .long (σ.2.1 0), .int (σ.1 11), .int (σ.1 12), .int (σ.1 13), .ref 2000004, .ref 2000005, .int (σ.1 14), .ref 2000006, .ref 2000007, .ref 2000008, .int (σ.1 15), .int (σ.1 16), .ref 2000009, .ref 2000010, .ref 2000011, .ref 2000012, .ref 2000013, .int (σ.1 17), .ref 2000014, .int (σ.1 18), .int (σ.1 19), .int (σ.1 20), .ref 2000015, .int (σ.1 21), .ref 2000016, .int (σ.1 22), .int (σ.1 23), .int (σ.1 24), .int (σ.1 25), .int (σ.1 26), .ref 2000017, .ref 3, .ref 4, .ref 5] : List Value).set 37 (.int v))) = WK (sI 19 v σ) := rfl
theorem WK_0_38 (σ : ex_S) (v : Int32) : (WK σ).set 0 (.inl (11, ([.int (σ.1 0), .ref 2000000, .int (σ.1 1), .int (σ.1 2), .int (σ.1 3), .int (σ.1 4), .ref 1, .ref 2000001, .ref 2000002, .ref 2, .ref 2000003, .int (σ.1 5), .int (σ.1 6), .int (σ.1 7), .int (σ.1 8), .int (σ.1 9), .int (σ.1 10), .long (σ.2.1 0), .int (σ.1 11), .int (σ.1 12), .int (σ.1 13), .ref 2000004, .ref 2000005, .int (σ.1 14), .ref 2000006, .ref 2000007, .ref 2000008, .int (σ.1 15), .int (σ.1 16), .ref 2000009, .ref 2000010, .ref 2000011, .ref 2000012, .ref 2000013, .int (σ.1 17), .ref 2000014, .int (σ.1 18), .int (σ.1 19), .int (σ.1 20), .ref 2000015, .int (σ.1 21), .ref 2000016, .int (σ.1 22), .int (σ.1 23), .int (σ.1 24), .int (σ.1 25), .int (σ.1 26), .ref 2000017, .ref 3, .ref 4, .ref 5] : List Value).set 38 (.int v))) = WK (sI 20 v σ) := rfl
theorem WK_0_40 (σ : ex_S) (v : Int32) : (WK σ).set 0 (.inl (11, ([.int (σ.1 0), .ref 2000000, .int (σ.1 1), .int (σ.1 2), .int (σ.1 3), .int (σ.1 4), .ref 1, .ref 2000001, .ref 2000002, .ref 2, .ref 2000003, .int (σ.1 5), .int (σ.1 6), .int (σ.1 7), .int (σ.1 8), .int (σ.1 9), .int (σ.1 10), .long (σ.2.1 0), .int (σ.1 11), .int (σ.1 12), .int (σ.1 13), .ref 2000004, .ref 2000005, .int (σ.1 14), .ref 2000006, .ref 2000007, .ref 2000008, .int (σ.1 15), .int (σ.1 16), .ref 2000009, .ref 2000010, .ref 2000011, .ref 2000012, .ref 2000013, .int (σ.1 17), .ref 2000014, .int (σ.1 18), .int (σ.1 19), .int (σ.1 20), .ref 2000015, .int (σ.1 21), .ref 2000016, .int (σ.1 22), .int (σ.1 23), .int (σ.1 24), .int (σ.1 25), .int (σ.1 26), .ref 2000017, .ref 3, .ref 4, .ref 5] : List Value).set 40 (.int v))) = WK (sI 21 v σ) := rfl
theorem WK_0_42 (σ : ex_S) (v : Int32) : (WK σ).set 0 (.inl (11, ([.int (σ.1 0), .ref 2000000, .int (σ.1 1), .int (σ.1 2), .int (σ.1 3), .int (σ.1 4), .ref 1, .ref 2000001, .ref 2000002, .ref 2, .ref 2000003, .int (σ.1 5), .int (σ.1 6), .int (σ.1 7), .int (σ.1 8), .int (σ.1 9), .int (σ.1 10), .long (σ.2.1 0), .int (σ.1 11), .int (σ.1 12), .int (σ.1 13), .ref 2000004, .ref 2000005, .int (σ.1 14), .ref 2000006, .ref 2000007, .ref 2000008, .int (σ.1 15), .int (σ.1 16), .ref 2000009, .ref 2000010, .ref 2000011, .ref 2000012, .ref 2000013, .int (σ.1 17), .ref 2000014, .int (σ.1 18), .int (σ.1 19), .int (σ.1 20), .ref 2000015, .int (σ.1 21), .ref 2000016, .int (σ.1 22), .int (σ.1 23), .int (σ.1 24), .int (σ.1 25), .int (σ.1 26), .ref 2000017, .ref 3, .ref 4, .ref 5] : List Value).set 42 (.int v))) = WK (sI 22 v σ) := rfl
theorem WK_0_43 (σ : ex_S) (v : Int32) : (WK σ).set 0 (.inl (11, ([.int (σ.1 0), .ref 2000000, .int (σ.1 1), .int (σ.1 2), .int (σ.1 3), .int (σ.1 4), .ref 1, .ref 2000001, .ref 2000002, .ref 2, .ref 2000003, .int (σ.1 5), .int (σ.1 6), .int (σ.1 7), .int (σ.1 8), .int (σ.1 9), .int (σ.1 10), .long (σ.2.1 0), .int (σ.1 11), .int (σ.1 12), .int (σ.1 13), .ref 2000004, .ref 2000005, .int (σ.1 14), .ref 2000006, .ref 2000007, .ref 2000008, .int (σ.1 15), .int (σ.1 16), .ref 2000009, .ref 2000010, .ref 2000011, .ref 2000012, .ref 2000013, .int (σ.1 17), .ref 2000014, .int (σ.1 18), .int (σ.1 19), .int (σ.1 20), .ref 2000015, .int (σ.1 21), .ref 2000016, .int (σ.1 22), .int (σ.1 23), .int (σ.1 24), .int (σ.1 25), .int (σ.1 26), .ref 2000017, .ref 3, .ref 4, .ref 5] : List Value).set 43 (.int v))) = WK (sI 23 v σ) := rfl
theorem WK_0_44 (σ : ex_S) (v : Int32) : (WK σ).set 0 (.inl (11, ([.int (σ.1 0), .ref 2000000, .int (σ.1 1), .int (σ.1 2), .int (σ.1 3), .int (σ.1 4), .ref 1, .ref 2000001, .ref 2000002, .ref 2, .ref 2000003, .int (σ.1 5), .int (σ.1 6), .int (σ.1 7), .int (σ.1 8), .int (σ.1 9), .int (σ.1 10), .long (σ.2.1 0), .int (σ.1 11), .int (σ.1 12), .int (σ.1 13), .ref 2000004, .ref 2000005, .int (σ.1 14), .ref 2000006, .ref 2000007, .ref 2000008, .int (σ.1 15), .int (σ.1 16), .ref 2000009, .ref 2000010, .ref 2000011, .ref 2000012, .ref 2000013, .int (σ.1 17), .ref 2000014, .int (σ.1 18), .int (σ.1 19), .int (σ.1 20), .ref 2000015, .int (σ.1 21), .ref 2000016, .int (σ.1 22), .int (σ.1 23), .int (σ.1 24), .int (σ.1 25), .int (σ.1 26), .ref 2000017, .ref 3, .ref 4, .ref 5] : List Value).set 44 (.int v))) = WK (sI 24 v σ) := rfl
theorem WK_0_45 (σ : ex_S) (v : Int32) : (WK σ).set 0 (.inl (11, ([.int (σ.1 0), .ref 2000000, .int (σ.1 1), .int (σ.1 2), .int (σ.1 3), .int (σ.1 4), .ref 1, .ref 2000001, .ref 2000002, .ref 2, .ref 2000003, .int (σ.1 5), .int (σ.1 6), .int (σ.1 7), .int (σ.1 8), .int (σ.1 9), .int (σ.1 10), .long (σ.2.1 0), .int (σ.1 11), .int (σ.1 12), .int (σ.1 13), .ref 2000004, .ref 2000005, .int (σ.1 14), .ref 2000006, .ref 2000007, .ref 2000008, .int (σ.1 15), .int (σ.1 16), .ref 2000009, .ref 2000010, .ref 2000011, .ref 2000012, .ref 2000013, .int (σ.1 17), .ref 2000014, .int (σ.1 18), .int (σ.1 19), .int (σ.1 20), .ref 2000015, .int (σ.1 21), .ref 2000016, .int (σ.1 22), .int (σ.1 23), .int (σ.1 24), .int (σ.1 25), .int (σ.1 26), .ref 2000017, .ref 3, .ref 4, .ref 5] : List Value).set 45 (.int v))) = WK (sI 25 v σ) := rfl
theorem WK_0_46 (σ : ex_S) (v : Int32) : (WK σ).set 0 (.inl (11, ([.int (σ.1 0), .ref 2000000, .int (σ.1 1), .int (σ.1 2), .int (σ.1 3), .int (σ.1 4), .ref 1, .ref 2000001, .ref 2000002, .ref 2, .ref 2000003, .int (σ.1 5), .int (σ.1 6), .int (σ.1 7), .int (σ.1 8), .int (σ.1 9), .int (σ.1 10), .long (σ.2.1 0), .int (σ.1 11), .int (σ.1 12), .int (σ.1 13), .ref 2000004, .ref 2000005, .int (σ.1 14), .ref 2000006, .ref 2000007, .ref 2000008, .int (σ.1 15), .int (σ.1 16), .ref 2000009, .ref 2000010, .ref 2000011, .ref 2000012, .ref 2000013, .int (σ.1 17), .ref 2000014, .int (σ.1 18), .int (σ.1 19), .int (σ.1 20), .ref 2000015, .int (σ.1 21), .ref 2000016, .int (σ.1 22), .int (σ.1 23), .int (σ.1 24), .int (σ.1 25), .int (σ.1 26), .ref 2000017, .ref 3, .ref 4, .ref 5] : List Value).set 46 (.int v))) = WK (sI 26 v σ) := rfl
theorem WK_1 (σ : ex_S) : (WK σ)[1]? = some (.inr (0, 305, .inl (σ.2.2.1 0))) := rfl
theorem WK_1_s (σ : ex_S) (f : Nat → Int32) : (WK σ).set 1 (.inr (0, 305, .inl f)) = WK (sR 0 f σ) := rfl
theorem WK_2 (σ : ex_S) : (WK σ)[2]? = some (.inr (1, 30, .inr (.inl (σ.2.2.2 0)))) := rfl
theorem WK_2_s (σ : ex_S) (f : Nat → Int64) : (WK σ).set 2 (.inr (1, 30, .inr (.inl f))) = WK (sQ 0 f σ) := rfl
theorem WK_3 (σ : ex_S) : (WK σ)[3]? = some (.inr (0, 610, .inl (σ.2.2.1 1))) := rfl
theorem WK_3_s (σ : ex_S) (f : Nat → Int32) : (WK σ).set 3 (.inr (0, 610, .inl f)) = WK (sR 1 f σ) := rfl
theorem WK_4 (σ : ex_S) : (WK σ)[4]? = some (.inr (1, 30, .inr (.inl (σ.2.2.2 1)))) := rfl
theorem WK_4_s (σ : ex_S) (f : Nat → Int64) : (WK σ).set 4 (.inr (1, 30, .inr (.inl f))) = WK (sQ 1 f σ) := rfl
theorem WK_5 (σ : ex_S) : (WK σ)[5]? = some (.inr (3, 2, .inl (σ.2.2.1 2))) := rfl
theorem WK_5_s (σ : ex_S) (f : Nat → Int32) : (WK σ).set 5 (.inr (3, 2, .inl f)) = WK (sR 2 f σ) := rfl
theorem WK_6 (σ : ex_S) : (WK σ)[6]? = some (.inr (1, 1, .inr (.inl (σ.2.2.2 5)))) := rfl
theorem WK_6_s (σ : ex_S) (f : Nat → Int64) : (WK σ).set 6 (.inr (1, 1, .inr (.inl f))) = WK (sQ 5 f σ) := rfl
theorem bS_isIn {v lo hi : Int32} : B_isIn v lo hi = 0 ∨ B_isIn v lo hi = 1 := by
  unfold B_isIn
  (repeat' split) <;> first | exact Or.inl rfl | exact Or.inr rfl
theorem J_isin0 {α : Type} {v lo hi r : Int32} (h : r = B_isIn v lo hi) (h0 : r = 0) {a b : α} : (if lo.toInt ≤ v.toInt then (if v.toInt ≤ hi.toInt then a else b) else b) = b := by
  unfold B_isIn at h
  by_cases c1 : lo.toInt ≤ v.toInt
  · rw [if_pos c1]
    by_cases c2 : v.toInt ≤ hi.toInt
    · rw [if_neg (by omega), if_neg (by omega)] at h
      rw [h] at h0
      exact absurd h0 (by decide)
    · rw [if_neg c2]
  · rw [if_neg c1]
theorem J_isin1 {α : Type} {v lo hi r : Int32} (h : r = B_isIn v lo hi) (h0 : ¬ r = 0) {a b : α} : (if lo.toInt ≤ v.toInt then (if v.toInt ≤ hi.toInt then a else b) else b) = a := by
  unfold B_isIn at h
  by_cases c1 : lo.toInt ≤ v.toInt
  · rw [if_pos c1]
    by_cases c2 : v.toInt ≤ hi.toInt
    · rw [if_pos c2]
    · rw [if_neg (by omega), if_pos (by omega)] at h
      exact absurd h h0
  · rw [if_pos (by omega)] at h
    exact absurd h h0
noncomputable def D_dueOn (t : Int32) (day : Int32) (σ : ex_S) : Int32 := ex_dn (10000 : Int32) (σ.2.2.1 2) (σ.2.2.1 3) (σ.2.2.1 4) (σ.2.2.1 5) t day (σ.1 1).toInt.toNat 0
noncomputable def J_dueOf (t : Int32) (day : Int32) (σ : ex_S) : Int32 := ex_dn (99 : Int32) (fun j => σ.2.2.1 0 (20 + j)) (fun j => σ.2.2.1 0 (32 + j)) (fun j => σ.2.2.1 0 (44 + j)) (fun j => σ.2.2.1 0 (56 + j)) t day ((σ.2.2.1 0) 1).toInt.toNat 0
noncomputable def J_isTown (t : Int32) (σ : ex_S) : Int32 :=
  ex_lt (B_isIn t (0 : Int32) (((σ.2.2.1 0) 0) - (1 : Int32))) (fun r1 =>
  r1)
noncomputable def J_throwsIf (is : Int32) (σ : ex_S) : Int32 × ex_S :=
  if is = 0 then
    (is, (sI 0 (0 : Int32) σ))
  else
    (is, (sI 0 (1 : Int32) σ))
noncomputable def D_hasTown (t : Int32) (σ : ex_S) : Int32 :=
  if (t).toInt < 0 then
    (0 : Int32)
  else
    if (t).toInt < ((σ.1 0)).toInt then
      (1 : Int32)
    else
      (0 : Int32)
noncomputable def D_due (t : Int32) (day : Int32) (σ : ex_S) : Option Int32 :=
  ex_lt (D_hasTown t σ) (fun r1 =>
  if r1 = 0 then
    none
  else
    if (day).toInt < 0 then
      none
    else
      if (day).toInt < ((400 : Int32)).toInt then
        ex_lt (D_dueOn t day σ) (fun r6 =>
        if r6 = (10000 : Int32) then
          none
        else
          some r6)
      else
        none)
theorem inv_X11_throwsIf (is : Int32) (σ : ex_S) (hI : (0 ≤ (σ.2.2.1 0 1).toInt ∧ (σ.2.2.1 0 1).toInt ≤ 12)) (his : is = 0 ∨ is = 1) : (0 ≤ ((J_throwsIf is σ).2.2.2.1 0 1).toInt ∧ ((J_throwsIf is σ).2.2.2.1 0 1).toInt ≤ 12) := by
  unfold J_throwsIf
  split <;> exact hI
theorem J_thr0 (σ : ex_S) : J_throwsIf (0 : Int32) σ = (0, sI 0 (0 : Int32) σ) := by
  unfold J_throwsIf
  exact if_pos rfl
theorem J_thr1 (σ : ex_S) : J_throwsIf (1 : Int32) σ = (1, sI 0 (1 : Int32) σ) := by
  unfold J_throwsIf
  exact if_neg (by decide)
set_option maxRecDepth 100000 in
set_option maxHeartbeats 4000000 in
theorem m_X8_dueOn {l : Launch} {X : ab_X} {D : va_G} {A : ex_A} (d : Nat) (hd : 1 ≤ d) (t : Int32) (day : Int32) (σ : ex_S) (hI : (0 ≤ (σ.1 1).toInt ∧ (σ.1 1).toInt ≤ 12)) : ex_ctr l X D A d yX8_dueOn cX8_dueOn 4 (some .int) (WD σ) [.ref 1, .int t, .int day] (fun r w => r = D_dueOn t day σ ∧ w = WD σ) := by
  obtain ⟨d, rfl⟩ : ∃ d9, d = d9 + 1 := ⟨d - 1, by omega⟩
  refine ex_meth (own := RX8) rfl (by decide) (Nat.le_of_ble_eq_true rfl) (fun p e R s m below meth c C hr hlk hd1 hd2 => ?_)
  show ex_ok p l e R s m _ below meth c 0 0 _ 4 X D A (WD σ) 0 [(0, .ref 1), (1, .int t), (2, .int day)] []
  refine ex_iconst (n := 0) (v := 0) (np := 1) C (by decide +kernel) (by decide) rfl ?_
  refine ex_istore_n (q := 3) (np := 2) (lv1 := [(3, .int (0 : Int32)), (0, .ref 1), (1, .int t), (2, .int day)]) C (by decide) (by decide +kernel) rfl rfl ?_
  have hI9 := hI
  have hN := ex_nat (x := σ.1 1) (by omega)
  have loop : ∀ (n k : Nat), k + n = (σ.1 1).toInt.toNat → D_dueOn t day σ = ex_dn (10000 : Int32) (σ.2.2.1 2) (σ.2.2.1 3) (σ.2.2.1 4) (σ.2.2.1 5) t day n k → ex_okP p l e R s m below meth c 4 X D A [.ref 1, .int t, .int day] (fun r w => r = D_dueOn t day σ ∧ w = WD σ) (some .int) (WD σ) 2 [(3, .int (nI k)), (2, .int day), (1, .int t), (0, .ref 1)] [] := by
    intro n
    induction n with
    | zero =>
      intro k hk hs
      have hki : (nI k).toInt = (k : Int) := nI_toInt (by omega)
      refine ex_iload_n (q := 3) (x := (nI k)) (np := 3) C (by decide +kernel) rfl rfl ?_
      refine ex_aload_n (q := 0) (x := 1) (np := 4) C (by decide +kernel) rfl rfl ?_
      refine ex_getf (q := 4) (v := .int (σ.1 1)) (np := 7) C hc_X8 hin_X8 (by decide) tg_326 (by decide +kernel) (WD_1 _) rfl rfl ?_
      refine ex_icmp_ge (off := 46) (tgt := 53) (np := 10) C (by decide +kernel) (by decide) rfl (fun h1 => ?_) (fun h1 => ?_)
      · skip
        refine ex_sipush (n := 10000) (v := 10000) (np := 56) C (by decide +kernel) (by decide) rfl ?_
        have E9 : D_dueOn t day σ = (10000 : Int32) := hs
        exact ex_iret C hr hlk (by decide +kernel) rfl (Nat.le_refl _) (Nat.le_refl _) ⟨E9.symm, rfl⟩
      · skip
        exfalso; rw [hki] at h1; omega
    | succ n ih =>
      intro k hk hs
      have hki : (nI k).toInt = (k : Int) := nI_toInt (by omega)
      have hkc : (nI k).toNatClampNeg = k := ex_nk (by omega)
      refine ex_iload_n (q := 3) (x := (nI k)) (np := 3) C (by decide +kernel) rfl rfl ?_
      refine ex_aload_n (q := 0) (x := 1) (np := 4) C (by decide +kernel) rfl rfl ?_
      refine ex_getf (q := 4) (v := .int (σ.1 1)) (np := 7) C hc_X8 hin_X8 (by decide) tg_326 (by decide +kernel) (WD_1 _) rfl rfl ?_
      refine ex_icmp_ge (off := 46) (tgt := 53) (np := 10) C (by decide +kernel) (by decide) rfl (fun h2 => ?_) (fun h2 => ?_)
      · skip
        exfalso; rw [hki] at h2; omega
      · skip
        refine ex_aload_n (q := 0) (x := 1) (np := 11) C (by decide +kernel) rfl rfl ?_
        refine ex_getf (q := 5) (v := .ref 5) (np := 14) C hc_X8 hin_X8 (by decide) tg_329 (by decide +kernel) (WD_1 _) rfl rfl ?_
        refine ex_iload_n (q := 3) (x := (nI k)) (np := 15) C (by decide +kernel) rfl rfl ?_
        refine ex_iald (f := (σ.2.2.1 2)) (kk := ((nI k)).toNatClampNeg) (np := 16) C (by decide +kernel) (WD_5 _) (by rw [hki]; omega) rfl rfl ?_
        refine ex_iload_n (q := 1) (x := t) (np := 17) C (by decide +kernel) rfl rfl ?_
        refine ex_icmp_ne (off := 30) (tgt := 47) (np := 20) C (by decide +kernel) (by decide) rfl (fun h3 => ?_) (fun h3 => ?_)
        · skip
          refine ex_iinc (i := 3) (n := 1) (x := (nI k)) (v := ((nI k) + 1)) (np := 50) (lv1 := [(3, .int ((nI k) + 1)), (2, .int day), (1, .int t), (0, .ref 1)]) C (by decide) (by decide +kernel) rfl (by rfl) rfl rfl ?_
          refine ex_goto (off := (-48)) (tgt := 2) C (by decide +kernel) (by decide) ?_
          refine ex_drop (lv1 := [(3, .int ((nI k) + 1)), (2, .int day), (1, .int t), (0, .ref 1)]) [0, 1, 2, 3] rfl ?_
          rw [← nI_succ]
          exact ih (k + 1) (by omega) (hs.trans (ex_dn_s.trans ((if_neg (by have h9 := h3; rw [hkc] at h9; exact h9)).trans (rfl))))
        · skip
          refine ex_aload_n (q := 0) (x := 1) (np := 21) C (by decide +kernel) rfl rfl ?_
          refine ex_getf (q := 6) (v := .ref 6) (np := 24) C hc_X8 hin_X8 (by decide) tg_331 (by decide +kernel) (WD_1 _) rfl rfl ?_
          refine ex_iload_n (q := 3) (x := (nI k)) (np := 25) C (by decide +kernel) rfl rfl ?_
          refine ex_iald (f := (σ.2.2.1 3)) (kk := ((nI k)).toNatClampNeg) (np := 26) C (by decide +kernel) (WD_6 _) (by rw [hki]; omega) rfl rfl ?_
          refine ex_iload_n (q := 2) (x := day) (np := 27) C (by decide +kernel) rfl rfl ?_
          refine ex_icmp_gt (off := 20) (tgt := 47) (np := 30) C (by decide +kernel) (by decide) rfl (fun h4 => ?_) (fun h4 => ?_)
          · skip
            refine ex_iinc (i := 3) (n := 1) (x := (nI k)) (v := ((nI k) + 1)) (np := 50) (lv1 := [(3, .int ((nI k) + 1)), (2, .int day), (1, .int t), (0, .ref 1)]) C (by decide) (by decide +kernel) rfl (by rfl) rfl rfl ?_
            refine ex_goto (off := (-48)) (tgt := 2) C (by decide +kernel) (by decide) ?_
            refine ex_drop (lv1 := [(3, .int ((nI k) + 1)), (2, .int day), (1, .int t), (0, .ref 1)]) [0, 1, 2, 3] rfl ?_
            rw [← nI_succ]
            exact ih (k + 1) (by omega) (hs.trans (ex_dn_s.trans ((if_pos (by have h9 := h3; rw [hkc] at h9; exact h9)).trans ((if_neg (by have h9 := h4; rw [hkc] at h9; omega)).trans (rfl)))))
          · skip
            refine ex_iload_n (q := 2) (x := day) (np := 31) C (by decide +kernel) rfl rfl ?_
            refine ex_aload_n (q := 0) (x := 1) (np := 32) C (by decide +kernel) rfl rfl ?_
            refine ex_getf (q := 7) (v := .ref 7) (np := 35) C hc_X8 hin_X8 (by decide) tg_333 (by decide +kernel) (WD_1 _) rfl rfl ?_
            refine ex_iload_n (q := 3) (x := (nI k)) (np := 36) C (by decide +kernel) rfl rfl ?_
            refine ex_iald (f := (σ.2.2.1 4)) (kk := ((nI k)).toNatClampNeg) (np := 37) C (by decide +kernel) (WD_7 _) (by rw [hki]; omega) rfl rfl ?_
            refine ex_icmp_gt (off := 10) (tgt := 47) (np := 40) C (by decide +kernel) (by decide) rfl (fun h5 => ?_) (fun h5 => ?_)
            · skip
              refine ex_iinc (i := 3) (n := 1) (x := (nI k)) (v := ((nI k) + 1)) (np := 50) (lv1 := [(3, .int ((nI k) + 1)), (2, .int day), (1, .int t), (0, .ref 1)]) C (by decide) (by decide +kernel) rfl (by rfl) rfl rfl ?_
              refine ex_goto (off := (-48)) (tgt := 2) C (by decide +kernel) (by decide) ?_
              refine ex_drop (lv1 := [(3, .int ((nI k) + 1)), (2, .int day), (1, .int t), (0, .ref 1)]) [0, 1, 2, 3] rfl ?_
              rw [← nI_succ]
              exact ih (k + 1) (by omega) (hs.trans (ex_dn_s.trans ((if_pos (by have h9 := h3; rw [hkc] at h9; exact h9)).trans ((if_pos (by have h9 := h4; rw [hkc] at h9; omega)).trans ((if_neg (by have h9 := h5; rw [hkc] at h9; omega)).trans (rfl))))))
            · skip
              refine ex_aload_n (q := 0) (x := 1) (np := 41) C (by decide +kernel) rfl rfl ?_
              refine ex_getf (q := 8) (v := .ref 8) (np := 44) C hc_X8 hin_X8 (by decide) tg_335 (by decide +kernel) (WD_1 _) rfl rfl ?_
              refine ex_iload_n (q := 3) (x := (nI k)) (np := 45) C (by decide +kernel) rfl rfl ?_
              refine ex_iald (f := (σ.2.2.1 5)) (kk := ((nI k)).toNatClampNeg) (np := 46) C (by decide +kernel) (WD_8 _) (by rw [hki]; omega) rfl rfl ?_
              have E9 : D_dueOn t day σ = ((σ.2.2.1 5) ((nI k)).toNatClampNeg) := (hs.trans (ex_dn_s.trans ((if_pos (by have h9 := h3; rw [hkc] at h9; exact h9)).trans ((if_pos (by have h9 := h4; rw [hkc] at h9; omega)).trans ((if_pos (by have h9 := h5; rw [hkc] at h9; omega)).trans ((by rw [hkc])))))))
              exact ex_iret C hr hlk (by decide +kernel) rfl (Nat.le_refl _) (Nat.le_refl _) ⟨E9.symm, rfl⟩
  refine ex_drop (lv1 := [(3, .int (0 : Int32)), (2, .int day), (1, .int t), (0, .ref 1)]) [0, 3, 2, 1] rfl ?_
  exact loop (σ.1 1).toInt.toNat 0 (by omega) rfl
set_option maxRecDepth 100000 in
set_option maxHeartbeats 4000000 in
theorem m_X11_dueOf {l : Launch} {X : ab_X} {D : va_G} {A : ex_A} (d : Nat) (hd : 2 ≤ d) (t : Int32) (day : Int32) (σ : ex_S) (hI : (0 ≤ (σ.2.2.1 0 1).toInt ∧ (σ.2.2.1 0 1).toInt ≤ 12)) : ex_ctr l X D A d yX11_dueOf cX11_dueOf 4 (some .int) (WK σ) [.ref 0, .int t, .int day] (fun r w => r = J_dueOf t day σ ∧ w = WK σ) := by
  obtain ⟨d, rfl⟩ : ∃ d9, d = d9 + 1 := ⟨d - 1, by omega⟩
  refine ex_meth (own := RX11) rfl (by decide) (Nat.le_of_ble_eq_true rfl) (fun p e R s m below meth c C hr hlk hd1 hd2 => ?_)
  show ex_ok p l e R s m _ below meth c 0 0 _ 4 X D A (WK σ) 0 [(0, .ref 0), (1, .int t), (2, .int day)] []
  refine ex_iconst (n := 0) (v := 0) (np := 1) C (by decide +kernel) (by decide) rfl ?_
  refine ex_istore_n (q := 3) (np := 2) (lv1 := [(3, .int (0 : Int32)), (0, .ref 0), (1, .int t), (2, .int day)]) C (by decide) (by decide +kernel) rfl rfl ?_
  have hI9 := hI
  have hN := ex_nat (x := (σ.2.2.1 0) 1) (by omega)
  have loop : ∀ (n k : Nat), k + n = ((σ.2.2.1 0) 1).toInt.toNat → J_dueOf t day σ = ex_dn (99 : Int32) (fun j => σ.2.2.1 0 (20 + j)) (fun j => σ.2.2.1 0 (32 + j)) (fun j => σ.2.2.1 0 (44 + j)) (fun j => σ.2.2.1 0 (56 + j)) t day n k → ex_okP p l e R s m below meth c 4 X D A [.ref 0, .int t, .int day] (fun r w => r = J_dueOf t day σ ∧ w = WK σ) (some .int) (WK σ) 2 [(3, .int (nI k)), (2, .int day), (1, .int t), (0, .ref 0)] [] := by
    intro n
    induction n with
    | zero =>
      intro k hk hs
      have hki : (nI k).toInt = (k : Int) := nI_toInt (by omega)
      refine ex_iload_n (q := 3) (x := (nI k)) (np := 3) C (by decide +kernel) rfl rfl ?_
      refine ex_aload_n (q := 0) (x := 0) (np := 4) C (by decide +kernel) rfl rfl ?_
      refine ex_getf (q := 6) (v := .ref 1) (np := 7) C hc_X11 hin_X11 (by decide) tg_1385 (by decide +kernel) (WK_0 _) rfl rfl ?_
      refine ex_iconst (n := 1) (v := 1) (np := 8) C (by decide +kernel) (by decide) rfl ?_
      refine ex_iald (f := (σ.2.2.1 0)) (kk := 1) (np := 9) C (by decide +kernel) (WK_1 _) (by decide) (by decide) rfl ?_
      refine ex_icmp_ge (off := 57) (tgt := 66) (np := 12) C (by decide +kernel) (by decide) rfl (fun h1 => ?_) (fun h1 => ?_)
      · skip
        refine ex_bipush (n := 99) (v := 99) (np := 68) C (by decide +kernel) (by decide) rfl ?_
        have E9 : J_dueOf t day σ = (99 : Int32) := hs
        exact ex_iret C hr hlk (by decide +kernel) rfl (Nat.le_refl _) (Nat.le_refl _) ⟨E9.symm, rfl⟩
      · skip
        exfalso; rw [hki] at h1; omega
    | succ n ih =>
      intro k hk hs
      have hki : (nI k).toInt = (k : Int) := nI_toInt (by omega)
      have hkc : (nI k).toNatClampNeg = k := ex_nk (by omega)
      have e20 : (20 : Int32).toInt = 20 := by decide
      have s20 : ((20 : Int32) + nI k).toInt = 20 + k := by have g1 := ex_add (x := (20 : Int32)) (y := nI k) (k := k) (by rw [e20]; decide) hki (by rw [e20]; omega); rw [e20] at g1; exact g1
      have c20 : ((20 : Int32) + nI k).toNatClampNeg = 20 + k := by have c9 := ex_cl (x := (20 : Int32) + nI k) (by rw [s20]; omega); rw [s20] at c9; omega
      have e32 : (32 : Int32).toInt = 32 := by decide
      have s32 : ((32 : Int32) + nI k).toInt = 32 + k := by have g1 := ex_add (x := (32 : Int32)) (y := nI k) (k := k) (by rw [e32]; decide) hki (by rw [e32]; omega); rw [e32] at g1; exact g1
      have c32 : ((32 : Int32) + nI k).toNatClampNeg = 32 + k := by have c9 := ex_cl (x := (32 : Int32) + nI k) (by rw [s32]; omega); rw [s32] at c9; omega
      have e44 : (44 : Int32).toInt = 44 := by decide
      have s44 : ((44 : Int32) + nI k).toInt = 44 + k := by have g1 := ex_add (x := (44 : Int32)) (y := nI k) (k := k) (by rw [e44]; decide) hki (by rw [e44]; omega); rw [e44] at g1; exact g1
      have c44 : ((44 : Int32) + nI k).toNatClampNeg = 44 + k := by have c9 := ex_cl (x := (44 : Int32) + nI k) (by rw [s44]; omega); rw [s44] at c9; omega
      have e56 : (56 : Int32).toInt = 56 := by decide
      have s56 : ((56 : Int32) + nI k).toInt = 56 + k := by have g1 := ex_add (x := (56 : Int32)) (y := nI k) (k := k) (by rw [e56]; decide) hki (by rw [e56]; omega); rw [e56] at g1; exact g1
      have c56 : ((56 : Int32) + nI k).toNatClampNeg = 56 + k := by have c9 := ex_cl (x := (56 : Int32) + nI k) (by rw [s56]; omega); rw [s56] at c9; omega
      refine ex_iload_n (q := 3) (x := (nI k)) (np := 3) C (by decide +kernel) rfl rfl ?_
      refine ex_aload_n (q := 0) (x := 0) (np := 4) C (by decide +kernel) rfl rfl ?_
      refine ex_getf (q := 6) (v := .ref 1) (np := 7) C hc_X11 hin_X11 (by decide) tg_1385 (by decide +kernel) (WK_0 _) rfl rfl ?_
      refine ex_iconst (n := 1) (v := 1) (np := 8) C (by decide +kernel) (by decide) rfl ?_
      refine ex_iald (f := (σ.2.2.1 0)) (kk := 1) (np := 9) C (by decide +kernel) (WK_1 _) (by decide) (by decide) rfl ?_
      refine ex_icmp_ge (off := 57) (tgt := 66) (np := 12) C (by decide +kernel) (by decide) rfl (fun h2 => ?_) (fun h2 => ?_)
      · skip
        exfalso; rw [hki] at h2; omega
      · skip
        refine ex_aload_n (q := 0) (x := 0) (np := 13) C (by decide +kernel) rfl rfl ?_
        refine ex_getf (q := 6) (v := .ref 1) (np := 16) C hc_X11 hin_X11 (by decide) tg_1385 (by decide +kernel) (WK_0 _) rfl rfl ?_
        refine ex_bipush (n := 20) (v := 20) (np := 18) C (by decide +kernel) (by decide) rfl ?_
        refine ex_iload_n (q := 3) (x := (nI k)) (np := 19) C (by decide +kernel) rfl rfl ?_
        refine ex_iadd (v := ((20 : Int32) + (nI k))) (np := 20) C (by decide +kernel) rfl rfl ?_
        refine ex_iald (f := (σ.2.2.1 0)) (kk := (((20 : Int32) + (nI k))).toNatClampNeg) (np := 21) C (by decide +kernel) (WK_1 _) (by rw [s20]; omega) rfl rfl ?_
        refine ex_iload_n (q := 1) (x := t) (np := 22) C (by decide +kernel) rfl rfl ?_
        refine ex_icmp_ne (off := 38) (tgt := 60) (np := 25) C (by decide +kernel) (by decide) rfl (fun h3 => ?_) (fun h3 => ?_)
        · skip
          refine ex_iinc (i := 3) (n := 1) (x := (nI k)) (v := ((nI k) + 1)) (np := 63) (lv1 := [(3, .int ((nI k) + 1)), (2, .int day), (1, .int t), (0, .ref 0)]) C (by decide) (by decide +kernel) rfl (by rfl) rfl rfl ?_
          refine ex_goto (off := (-61)) (tgt := 2) C (by decide +kernel) (by decide) ?_
          refine ex_drop (lv1 := [(3, .int ((nI k) + 1)), (2, .int day), (1, .int t), (0, .ref 0)]) [0, 1, 2, 3] rfl ?_
          rw [← nI_succ]
          exact ih (k + 1) (by omega) (hs.trans (ex_dn_s.trans ((if_neg (by have h9 := h3; rw [c20] at h9; exact h9)).trans (rfl))))
        · skip
          refine ex_iload_n (q := 2) (x := day) (np := 26) C (by decide +kernel) rfl rfl ?_
          refine ex_aload_n (q := 0) (x := 0) (np := 27) C (by decide +kernel) rfl rfl ?_
          refine ex_getf (q := 6) (v := .ref 1) (np := 30) C hc_X11 hin_X11 (by decide) tg_1385 (by decide +kernel) (WK_0 _) rfl rfl ?_
          refine ex_bipush (n := 32) (v := 32) (np := 32) C (by decide +kernel) (by decide) rfl ?_
          refine ex_iload_n (q := 3) (x := (nI k)) (np := 33) C (by decide +kernel) rfl rfl ?_
          refine ex_iadd (v := ((32 : Int32) + (nI k))) (np := 34) C (by decide +kernel) rfl rfl ?_
          refine ex_iald (f := (σ.2.2.1 0)) (kk := (((32 : Int32) + (nI k))).toNatClampNeg) (np := 35) C (by decide +kernel) (WK_1 _) (by rw [s32]; omega) rfl rfl ?_
          refine ex_aload_n (q := 0) (x := 0) (np := 36) C (by decide +kernel) rfl rfl ?_
          refine ex_getf (q := 6) (v := .ref 1) (np := 39) C hc_X11 hin_X11 (by decide) tg_1385 (by decide +kernel) (WK_0 _) rfl rfl ?_
          refine ex_bipush (n := 44) (v := 44) (np := 41) C (by decide +kernel) (by decide) rfl ?_
          refine ex_iload_n (q := 3) (x := (nI k)) (np := 42) C (by decide +kernel) rfl rfl ?_
          refine ex_iadd (v := ((44 : Int32) + (nI k))) (np := 43) C (by decide +kernel) rfl rfl ?_
          refine ex_iald (f := (σ.2.2.1 0)) (kk := (((44 : Int32) + (nI k))).toNatClampNeg) (np := 44) C (by decide +kernel) (WK_1 _) (by rw [s44]; omega) rfl rfl ?_
          refine ex_call_i (np := 47) (fun ws H locs ls hR hsz => ex_runS C (m_X11_isIn d (by omega) (WK σ) day ((σ.2.2.1 0) (((32 : Int32) + (nI k))).toNatClampNeg) ((σ.2.2.1 0) (((44 : Int32) + (nI k))).toNatClampNeg)) hd1 hd2 (by decide) hy_X11_isIn tg_1593 rfl rfl (Nat.le_of_ble_eq_true rfl) tg_1591 tg_1592 tg_158 (by decide +kernel) ws H locs ls hR hsz (Nat.zero_le _) (Nat.zero_le _)) rfl (fun r4 w1 hpo => ?_)
          obtain ⟨q5, rfl⟩ := hpo
          refine ex_if_eq (off := 13) (tgt := 60) (np := 50) C (by decide +kernel) (by decide) rfl (fun h6 => ?_) (fun h6 => ?_)
          · skip
            refine ex_iinc (i := 3) (n := 1) (x := (nI k)) (v := ((nI k) + 1)) (np := 63) (lv1 := [(3, .int ((nI k) + 1)), (2, .int day), (1, .int t), (0, .ref 0)]) C (by decide) (by decide +kernel) rfl (by rfl) rfl rfl ?_
            refine ex_goto (off := (-61)) (tgt := 2) C (by decide +kernel) (by decide) ?_
            refine ex_drop (lv1 := [(3, .int ((nI k) + 1)), (2, .int day), (1, .int t), (0, .ref 0)]) [0, 1, 2, 3] rfl ?_
            rw [← nI_succ]
            exact ih (k + 1) (by omega) (hs.trans (ex_dn_s.trans ((if_pos (by have h9 := h3; rw [c20] at h9; exact h9)).trans (J_isin0 (by have q9 := q5; rw [c32, c44] at q9; exact q9) h6))))
          · skip
            refine ex_aload_n (q := 0) (x := 0) (np := 51) C (by decide +kernel) rfl rfl ?_
            refine ex_getf (q := 6) (v := .ref 1) (np := 54) C hc_X11 hin_X11 (by decide) tg_1385 (by decide +kernel) (WK_0 _) rfl rfl ?_
            refine ex_bipush (n := 56) (v := 56) (np := 56) C (by decide +kernel) (by decide) rfl ?_
            refine ex_iload_n (q := 3) (x := (nI k)) (np := 57) C (by decide +kernel) rfl rfl ?_
            refine ex_iadd (v := ((56 : Int32) + (nI k))) (np := 58) C (by decide +kernel) rfl rfl ?_
            refine ex_iald (f := (σ.2.2.1 0)) (kk := (((56 : Int32) + (nI k))).toNatClampNeg) (np := 59) C (by decide +kernel) (WK_1 _) (by rw [s56]; omega) rfl rfl ?_
            have E9 : J_dueOf t day σ = ((σ.2.2.1 0) (((56 : Int32) + (nI k))).toNatClampNeg) := (hs.trans (ex_dn_s.trans ((if_pos (by have h9 := h3; rw [c20] at h9; exact h9)).trans ((J_isin1 (by have q9 := q5; rw [c32, c44] at q9; exact q9) h6).trans (by rw [c56])))))
            exact ex_iret C hr hlk (by decide +kernel) rfl (Nat.le_refl _) (Nat.le_refl _) ⟨E9.symm, rfl⟩
  refine ex_drop (lv1 := [(3, .int (0 : Int32)), (2, .int day), (1, .int t), (0, .ref 0)]) [0, 3, 2, 1] rfl ?_
  exact loop ((σ.2.2.1 0) 1).toInt.toNat 0 (by omega) rfl
set_option maxRecDepth 100000 in
set_option maxHeartbeats 4000000 in
set_option maxRecDepth 100000 in
set_option maxHeartbeats 4000000 in
theorem m_X11_isTown {l : Launch} {X : ab_X} {D : va_G} {A : ex_A} (d : Nat) (hd : 2 ≤ d) (t : Int32) (σ : ex_S) : ex_ctr l X D A d yX11_isTown cX11_isTown 2 (some .boolean) (WK σ) [.ref 0, .int t] (fun r w => r = J_isTown t σ ∧ w = WK σ) := by
  obtain ⟨d, rfl⟩ : ∃ d9, d = d9 + 1 := ⟨d - 1, by omega⟩
  refine ex_meth (own := RX11) rfl (by decide) (Nat.le_of_ble_eq_true rfl) (fun p e R s m below meth c C hr hlk hd1 hd2 => ?_)
  show ex_ok p l e R s m _ below meth c 0 0 _ 2 X D A (WK σ) 0 [(0, .ref 0), (1, .int t)] []
  refine ex_iload_n (q := 1) (x := t) (np := 1) C (by decide +kernel) rfl rfl ?_
  refine ex_iconst (n := 0) (v := 0) (np := 2) C (by decide +kernel) (by decide) rfl ?_
  refine ex_aload_n (q := 0) (x := 0) (np := 3) C (by decide +kernel) rfl rfl ?_
  refine ex_getf (q := 6) (v := .ref 1) (np := 6) C hc_X11 hin_X11 (by decide) tg_1385 (by decide +kernel) (WK_0 _) rfl rfl ?_
  refine ex_iconst (n := 0) (v := 0) (np := 7) C (by decide +kernel) (by decide) rfl ?_
  refine ex_iald (f := (σ.2.2.1 0)) (kk := 0) (np := 8) C (by decide +kernel) (WK_1 _) (by decide) (by decide) rfl ?_
  refine ex_iconst (n := 1) (v := 1) (np := 9) C (by decide +kernel) (by decide) rfl ?_
  refine ex_isub (v := (((σ.2.2.1 0) 0) - (1 : Int32))) (np := 10) C (by decide +kernel) rfl rfl ?_
  refine ex_call_i (np := 13) (fun ws H locs ls hR hsz => ex_runS C (m_X11_isIn d (by omega) (WK σ) t (0 : Int32) (((σ.2.2.1 0) 0) - (1 : Int32))) hd1 hd2 (by decide) hy_X11_isIn tg_1593 rfl rfl (Nat.le_of_ble_eq_true rfl) tg_1591 tg_1592 tg_158 (by decide +kernel) ws H locs ls hR hsz (Nat.zero_le _) (Nat.zero_le _)) rfl (fun r1 w1 hpo => ?_)
  obtain ⟨q2, rfl⟩ := hpo
  have E9 : J_isTown t σ = r1 := by unfold J_isTown; exact (ex_lt_eq q2).trans (rfl)
  exact ex_iret C hr hlk (by decide +kernel) (ex_nar (by rw [q2]; exact bS_isIn)) (Nat.le_refl _) (Nat.le_refl _) ⟨E9.symm, rfl⟩
set_option maxRecDepth 100000 in
set_option maxHeartbeats 4000000 in
set_option maxRecDepth 100000 in
set_option maxHeartbeats 4000000 in
theorem m_X11_throwsIf {l : Launch} {X : ab_X} {D : va_G} {A : ex_A} (d : Nat) (hd : 1 ≤ d) (is : Int32) (σ : ex_S) (his : is = 0 ∨ is = 1) : ex_ctr l X D A d yX11_throwsIf cX11_throwsIf 2 (some .boolean) (WK σ) [.ref 0, .int is] (fun r w => r = (J_throwsIf is σ).1 ∧ w = WK (J_throwsIf is σ).2) := by
  obtain ⟨d, rfl⟩ : ∃ d9, d = d9 + 1 := ⟨d - 1, by omega⟩
  refine ex_meth (own := RX11) rfl (by decide) (Nat.le_of_ble_eq_true rfl) (fun p e R s m below meth c C hr hlk hd1 hd2 => ?_)
  show ex_ok p l e R s m _ below meth c 0 0 _ 2 X D A (WK σ) 0 [(0, .ref 0), (1, .int is)] []
  refine ex_aload_n (q := 0) (x := 0) (np := 1) C (by decide +kernel) rfl rfl ?_
  refine ex_iload_n (q := 1) (x := is) (np := 2) C (by decide +kernel) rfl rfl ?_
  refine ex_if_eq (off := 7) (tgt := 9) (np := 5) C (by decide +kernel) (by decide) rfl (fun h1 => ?_) (fun h1 => ?_)
  · skip
    refine ex_iconst (n := 0) (v := 0) (np := 10) C (by decide +kernel) (by decide) rfl ?_
    refine ex_putf (q := 0) (w1 := (WK (sI 0 (0 : Int32) σ))) (np := 13) C hc_X11 hin_X11 (by decide) tyX11_ok nmX11 tg_1379 rfl (by decide +kernel) (WK_0 _) (Nat.le_of_ble_eq_true rfl) rfl rfl (WK_0_0 _ _) rfl ?_
    refine ex_iload_n (q := 1) (x := is) (np := 14) C (by decide +kernel) rfl rfl ?_
    have E9 : J_throwsIf is σ = (is, (sI 0 (0 : Int32) σ)) := by unfold J_throwsIf; exact (if_pos h1).trans (rfl)
    exact ex_iret C hr hlk (by decide +kernel) (ex_nar his) (Nat.le_refl _) (Nat.le_refl _) (by rw [E9]; exact ⟨rfl, rfl⟩)
  · skip
    refine ex_iconst (n := 1) (v := 1) (np := 6) C (by decide +kernel) (by decide) rfl ?_
    refine ex_goto (off := 4) (tgt := 10) C (by decide +kernel) (by decide) ?_
    refine ex_putf (q := 0) (w1 := (WK (sI 0 (1 : Int32) σ))) (np := 13) C hc_X11 hin_X11 (by decide) tyX11_ok nmX11 tg_1379 rfl (by decide +kernel) (WK_0 _) (Nat.le_of_ble_eq_true rfl) rfl rfl (WK_0_0 _ _) rfl ?_
    refine ex_iload_n (q := 1) (x := is) (np := 14) C (by decide +kernel) rfl rfl ?_
    have E9 : J_throwsIf is σ = (is, (sI 0 (1 : Int32) σ)) := by unfold J_throwsIf; exact (if_neg h1).trans (rfl)
    exact ex_iret C hr hlk (by decide +kernel) (ex_nar his) (Nat.le_refl _) (Nat.le_refl _) (by rw [E9]; exact ⟨rfl, rfl⟩)
set_option maxRecDepth 100000 in
set_option maxHeartbeats 4000000 in
set_option maxRecDepth 100000 in
set_option maxHeartbeats 4000000 in
theorem m_X10_hasTown {l : Launch} {X : ab_X} {D : va_G} {A : ex_A} (d : Nat) (hd : 1 ≤ d) (t : Int32) (σ : ex_S) : ex_ctr l X D A d yX10_hasTown cX10_hasTown 2 (some .boolean) (WD σ) [.ref 0, .int t] (fun r w => r = D_hasTown t σ ∧ w = WD σ) := by
  obtain ⟨d, rfl⟩ : ∃ d9, d = d9 + 1 := ⟨d - 1, by omega⟩
  refine ex_meth (own := RX10) rfl (by decide) (Nat.le_of_ble_eq_true rfl) (fun p e R s m below meth c C hr hlk hd1 hd2 => ?_)
  show ex_ok p l e R s m _ below meth c 0 0 _ 2 X D A (WD σ) 0 [(0, .ref 0), (1, .int t)] []
  refine ex_iload_n (q := 1) (x := t) (np := 1) C (by decide +kernel) rfl rfl ?_
  refine ex_if_lt (off := 18) (tgt := 19) (np := 4) C (by decide +kernel) (by decide) rfl (fun h1 => ?_) (fun h1 => ?_)
  · skip
    refine ex_iconst (n := 0) (v := 0) (np := 20) C (by decide +kernel) (by decide) rfl ?_
    have E9 : D_hasTown t σ = (0 : Int32) := by unfold D_hasTown; exact (if_pos h1).trans (rfl)
    exact ex_iret C hr hlk (by decide +kernel) rfl (Nat.le_refl _) (Nat.le_refl _) ⟨E9.symm, rfl⟩
  · skip
    refine ex_iload_n (q := 1) (x := t) (np := 5) C (by decide +kernel) rfl rfl ?_
    refine ex_aload_n (q := 0) (x := 0) (np := 6) C (by decide +kernel) rfl rfl ?_
    refine ex_getf (q := 2) (v := .ref 1) (np := 9) C hc_X10 hin_X10 (by decide) tg_586 (by decide +kernel) (WD_0 _) rfl rfl ?_
    refine ex_getfN (q := 0) (v := .int (σ.1 0)) (np := 12) C hc_X8 hin_X8 (by decide) tn_315 (by decide +kernel) (WD_1 _) rfl rfl ?_
    refine ex_icmp_ge (off := 7) (tgt := 19) (np := 15) C (by decide +kernel) (by decide) rfl (fun h2 => ?_) (fun h2 => ?_)
    · skip
      refine ex_iconst (n := 0) (v := 0) (np := 20) C (by decide +kernel) (by decide) rfl ?_
      have E9 : D_hasTown t σ = (0 : Int32) := by unfold D_hasTown; exact (if_neg h1).trans ((if_neg h2).trans (rfl))
      exact ex_iret C hr hlk (by decide +kernel) rfl (Nat.le_refl _) (Nat.le_refl _) ⟨E9.symm, rfl⟩
    · skip
      refine ex_iconst (n := 1) (v := 1) (np := 16) C (by decide +kernel) (by decide) rfl ?_
      refine ex_goto (off := 4) (tgt := 20) C (by decide +kernel) (by decide) ?_
      have E9 : D_hasTown t σ = (1 : Int32) := by unfold D_hasTown; exact (if_neg h1).trans ((if_pos h2).trans (rfl))
      exact ex_iret C hr hlk (by decide +kernel) rfl (Nat.le_refl _) (Nat.le_refl _) ⟨E9.symm, rfl⟩
set_option maxRecDepth 100000 in
set_option maxHeartbeats 4000000 in
theorem m_X10_due {l : Launch} (hst : l.stackTraces = false) {X : ab_X} {D : va_G} {A : ex_A} (d : Nat) (hd : 2 ≤ d) (t : Int32) (day : Int32) (σ : ex_S) (hI : (0 ≤ (σ.1 1).toInt ∧ (σ.1 1).toInt ≤ 12)) : ex_ctrx l X D A d yX10_due cX10_due 4 (some .int) (WD σ) [.ref 0, .int t, .int day] (fun r w => D_due t day σ = some r ∧ w = WD σ) (fun w => D_due t day σ = none ∧ w = WD σ) 1 6 := by
  obtain ⟨d, rfl⟩ : ∃ d9, d = d9 + 1 := ⟨d - 1, by omega⟩
  refine ex_methx (own := RX10) rfl (by decide) (Nat.le_of_ble_eq_true rfl) (fun p e R s m below meth c C hout hr hlk hd1 hd2 hmc hms => ?_)
  show ex_ok p l e R s m _ below meth c 0 0 _ 4 X D A (WD σ) 0 [(0, .ref 0), (1, .int t), (2, .int day)] []
  refine ex_aload_n (q := 0) (x := 0) (np := 1) C (by decide +kernel) rfl rfl ?_
  refine ex_iload_n (q := 1) (x := t) (np := 2) C (by decide +kernel) rfl rfl ?_
  refine ex_call_i (np := 5) (fun ws H locs ls hR hsz => ex_runV (C1 := "") C (m_X10_hasTown d (by omega) t σ) hd1 hd2 (by decide) hy_X10_hasTown tg_759 hc_X10 rfl (WD_0 _) rfl rfl (Nat.le_of_ble_eq_true rfl) rfl tg_756 tg_758 tg_23 tg_143 (by decide +kernel) ws H locs ls hR hsz (Nat.zero_le _) (Nat.zero_le _)) rfl (fun r1 w1 hpo => ?_)
  obtain ⟨q2, rfl⟩ := hpo
  refine ex_if_eq (off := 14) (tgt := 19) (np := 8) C (by decide +kernel) (by decide) rfl (fun h3 => ?_) (fun h3 => ?_)
  · skip
    have E9 : D_due t day σ = none := by unfold D_due; exact (ex_lt_eq q2).trans ((if_pos h3).trans (rfl))
    exact ex_throw C hst rfl hout hlk hmc hms ⟨131, 169, 8, _, rfl, tg_1169, (by decide +kernel), (by decide +kernel), Or.inl ⟨(by decide +kernel), (by decide +kernel), (by decide +kernel)⟩⟩ (Nat.le_refl _) (Nat.le_refl _) ⟨E9, rfl⟩
  · skip
    refine ex_iload_n (q := 2) (x := day) (np := 9) C (by decide +kernel) rfl rfl ?_
    refine ex_if_lt (off := 10) (tgt := 19) (np := 12) C (by decide +kernel) (by decide) rfl (fun h4 => ?_) (fun h4 => ?_)
    · skip
      have E9 : D_due t day σ = none := by unfold D_due; exact (ex_lt_eq q2).trans ((if_neg h3).trans ((if_pos h4).trans (rfl)))
      exact ex_throw C hst rfl hout hlk hmc hms ⟨131, 169, 8, _, rfl, tg_1169, (by decide +kernel), (by decide +kernel), Or.inl ⟨(by decide +kernel), (by decide +kernel), (by decide +kernel)⟩⟩ (Nat.le_refl _) (Nat.le_refl _) ⟨E9, rfl⟩
    · skip
      refine ex_iload_n (q := 2) (x := day) (np := 13) C (by decide +kernel) rfl rfl ?_
      refine ex_sipush (n := 400) (v := 400) (np := 16) C (by decide +kernel) (by decide) rfl ?_
      refine ex_icmp_lt (off := 13) (tgt := 29) (np := 19) C (by decide +kernel) (by decide) rfl (fun h5 => ?_) (fun h5 => ?_)
      · skip
        refine ex_aload_n (q := 0) (x := 0) (np := 30) C (by decide +kernel) rfl rfl ?_
        refine ex_getf (q := 2) (v := .ref 1) (np := 33) C hc_X10 hin_X10 (by decide) tg_586 (by decide +kernel) (WD_0 _) rfl rfl ?_
        refine ex_iload_n (q := 1) (x := t) (np := 34) C (by decide +kernel) rfl rfl ?_
        refine ex_iload_n (q := 2) (x := day) (np := 35) C (by decide +kernel) rfl rfl ?_
        refine ex_call_i (np := 38) (fun ws H locs ls hR hsz => ex_runVN C (m_X8_dueOn d (by omega) t day σ hI) hd1 hd2 (by decide) hy_X8_dueOn tg_840 hc_X8 rfl (WD_1 _) rfl rfl (Nat.le_of_ble_eq_true rfl) tn_870 tg_839 tg_36 tg_150 (by decide +kernel) ws H locs ls hR hsz (Nat.zero_le _) (Nat.zero_le _)) rfl (fun r6 w1 hpo => ?_)
        obtain ⟨q7, rfl⟩ := hpo
        refine ex_istore_n (q := 3) (np := 39) (lv1 := [(3, .int r6), (0, .ref 0), (1, .int t), (2, .int day)]) C (by decide) (by decide +kernel) rfl rfl ?_
        refine ex_iload_n (q := 3) (x := r6) (np := 40) C (by decide +kernel) rfl rfl ?_
        refine ex_sipush (n := 10000) (v := 10000) (np := 43) C (by decide +kernel) (by decide) rfl ?_
        refine ex_icmp_ne (off := 13) (tgt := 56) (np := 46) C (by decide +kernel) (by decide) rfl (fun h8 => ?_) (fun h8 => ?_)
        · skip
          refine ex_iload_n (q := 3) (x := r6) (np := 57) C (by decide +kernel) rfl rfl ?_
          have E9 : D_due t day σ = some r6 := by unfold D_due; exact (ex_lt_eq q2).trans ((if_neg h3).trans ((if_neg h4).trans ((if_pos h5).trans ((ex_lt_eq q7).trans ((if_neg h8).trans (rfl))))))
          exact ex_iretx C hr hlk (by decide +kernel) rfl (Nat.zero_le _) (Nat.zero_le _) ⟨E9, rfl⟩
        · skip
          have E9 : D_due t day σ = none := by unfold D_due; exact (ex_lt_eq q2).trans ((if_neg h3).trans ((if_neg h4).trans ((if_pos h5).trans ((ex_lt_eq q7).trans ((if_pos h8).trans (rfl))))))
          exact ex_throw C hst rfl hout hlk hmc hms ⟨131, 175, 9, _, rfl, tg_1169, (by decide +kernel), (by decide +kernel), Or.inl ⟨(by decide +kernel), (by decide +kernel), (by decide +kernel)⟩⟩ (Nat.le_refl _) (Nat.le_refl _) ⟨E9, rfl⟩
      · skip
        have E9 : D_due t day σ = none := by unfold D_due; exact (ex_lt_eq q2).trans ((if_neg h3).trans ((if_neg h4).trans ((if_neg h5).trans (rfl))))
        exact ex_throw C hst rfl hout hlk hmc hms ⟨131, 169, 8, _, rfl, tg_1169, (by decide +kernel), (by decide +kernel), Or.inl ⟨(by decide +kernel), (by decide +kernel), (by decide +kernel)⟩⟩ (Nat.le_refl _) (Nat.le_refl _) ⟨E9, rfl⟩
set_option maxRecDepth 100000 in
set_option maxHeartbeats 4000000 in
theorem m_L_due {l : Launch} (hst : l.stackTraces = false) {X : ab_X} {D : va_G} {A : ex_A} (d : Nat) (hd : 3 ≤ d) (t : Int32) (day : Int32) (σ : ex_S) (hI : (0 ≤ (σ.1 1).toInt ∧ (σ.1 1).toInt ≤ 12)) : ex_ctrw l X D A d yL_due cL_due 5 (some .int) [(0, 10, 13, 13)] (WD σ) [.ref 0, .int t, .int day, .ref 15] (fun r w => (r = (0 : Int32) ∧ ∃ v : Int32, D_due t day σ = some v ∧ w = WD (sQ 5 (vp_updL (σ.2.2.2 5) 0 v.toInt64) σ)) ∨ (r = (1 : Int32) ∧ D_due t day σ = none ∧ w = WD σ)) 1 6 := by
  obtain ⟨d, rfl⟩ : ∃ d9, d = d9 + 1 := ⟨d - 1, by omega⟩
  refine ex_methw (own := RL) rfl (by decide) (Nat.le_of_ble_eq_true rfl) (fun p e R s m below meth c C htab hr hlk hd1 hd2 hmc hms => ?_)
  show ex_ok p l e R s m _ below meth c 0 0 _ 5 X D A (WD σ) 0 [(0, .ref 0), (1, .int t), (2, .int day), (3, .ref 15)] []
  refine ex_aload_n (q := 3) (x := 15) (np := 1) C (by decide +kernel) rfl rfl ?_
  refine ex_iconst (n := 0) (v := 0) (np := 2) C (by decide +kernel) (by decide) rfl ?_
  refine ex_aload_n (q := 0) (x := 0) (np := 3) C (by decide +kernel) rfl rfl ?_
  refine ex_iload_n (q := 1) (x := t) (np := 4) C (by decide +kernel) rfl rfl ?_
  refine ex_iload_n (q := 2) (x := day) (np := 5) C (by decide +kernel) rfl rfl ?_
  refine ex_callx (j := 0) (cr := [.int t, .int day]) (rest := [.int (0 : Int32), .ref 15]) (hi := 4) (hp := 15) (np2 := 8) (lv1 := [(0, .ref 0), (1, .int t), (2, .int day), (3, .ref 15)]) C (m_X10_due hst d (by omega) t day σ hI) hd1 hd2 (by decide) hy_X10_due tg_1244 hc_X10 rfl (WD_0 _) rfl rfl (by decide) rfl tg_1241 tg_1242 tg_1243 tg_143 (by decide +kernel) (by omega) (by omega) htab (by decide +kernel) (by decide) tg_1164 tn_1171 (by decide) (by decide +kernel) rfl rfl rfl (fun r9 w1 hpo => ?_) (fun w1 hpo => ?_)
  · obtain ⟨hv, rfl⟩ := hpo
    refine ex_i2l (np := 9) C (by decide +kernel) rfl ?_
    refine ex_last (f := (σ.2.2.2 5)) (kk := 0) (w1 := (WD (sQ 5 (vp_updL (σ.2.2.2 5) 0 r9.toInt64) σ))) (np := 10) C (by decide +kernel) (WD_15 _) (by decide) (by decide) (WD_15_s _ _) rfl ?_
    refine ex_goto (off := 7) (tgt := 17) C (by decide +kernel) (by decide) ?_
    refine ex_iconst (n := 0) (v := 0) (np := 18) C (by decide +kernel) (by decide) rfl ?_
    exact ex_iret C hr hlk (by decide +kernel) rfl (by decide) (by decide) (Or.inl ⟨rfl, _, hv, rfl⟩)
  · obtain ⟨hv, rfl⟩ := hpo
    refine ex_iconst (n := 1) (v := 1) (np := 16) C (by decide +kernel) (by decide) rfl ?_
    exact ex_iret C hr hlk (by decide +kernel) rfl (by decide) (by decide) (Or.inr ⟨rfl, hv, rfl⟩)
noncomputable def J_due (t : Int32) (day : Int32) (σ : ex_S) : Int32 × ex_S :=
  ex_lt (J_isTown t σ) (fun r1 =>
  if r1 = 0 then
    ex_bd (J_throwsIf (1 : Int32) σ) (fun r4 σ5 =>
    if r4 = 0 then
      ex_lt (J_dueOf t day σ5) (fun r10 =>
      (r10, σ5))
    else
      ((0 : Int32), σ5))
  else
    ex_lt (B_isIn day (0 : Int32) (399 : Int32)) (fun r12 =>
    if r12 = 0 then
      ex_bd (J_throwsIf (1 : Int32) σ) (fun r15 σ16 =>
      if r15 = 0 then
        ex_lt (J_dueOf t day σ16) (fun r20 =>
        (r20, σ16))
      else
        ((0 : Int32), σ16))
    else
      ex_lt (J_dueOf t day σ) (fun r22 =>
      if r22 = (99 : Int32) then
        ex_bd (J_throwsIf (1 : Int32) σ) (fun r32 σ33 =>
        if r32 = 0 then
          ex_lt (J_dueOf t day σ33) (fun r37 =>
          (r37, σ33))
        else
          ((0 : Int32), σ33))
      else
        ex_bd (J_throwsIf (0 : Int32) σ) (fun r25 σ26 =>
        if r25 = 0 then
          ex_lt (J_dueOf t day σ26) (fun r30 =>
          (r30, σ26))
        else
          ((0 : Int32), σ26)))))
set_option maxRecDepth 100000 in
set_option maxHeartbeats 4000000 in
set_option maxRecDepth 100000 in
set_option maxHeartbeats 4000000 in
theorem m_X11_due {l : Launch} {X : ab_X} {D : va_G} {A : ex_A} (d : Nat) (hd : 3 ≤ d) (t : Int32) (day : Int32) (σ : ex_S) (hI : (0 ≤ (σ.2.2.1 0 1).toInt ∧ (σ.2.2.1 0 1).toInt ≤ 12)) : ex_ctr l X D A d yX11_due cX11_due 3 (some .int) (WK σ) [.ref 0, .int t, .int day] (fun r w => r = (J_due t day σ).1 ∧ w = WK (J_due t day σ).2) := by
  obtain ⟨d, rfl⟩ : ∃ d9, d = d9 + 1 := ⟨d - 1, by omega⟩
  refine ex_meth (own := RX11) rfl (by decide) (Nat.le_of_ble_eq_true rfl) (fun p e R s m below meth c C hr hlk hd1 hd2 => ?_)
  show ex_ok p l e R s m _ below meth c 0 0 _ 3 X D A (WK σ) 0 [(0, .ref 0), (1, .int t), (2, .int day)] []
  refine ex_aload_n (q := 0) (x := 0) (np := 1) C (by decide +kernel) rfl rfl ?_
  refine ex_aload_n (q := 0) (x := 0) (np := 2) C (by decide +kernel) rfl rfl ?_
  refine ex_iload_n (q := 1) (x := t) (np := 3) C (by decide +kernel) rfl rfl ?_
  refine ex_call_i (np := 6) (fun ws H locs ls hR hsz => ex_runV (C1 := "") C (m_X11_isTown d (by omega) t σ) hd1 hd2 (by decide) hy_X11_isTown tg_1640 hc_X11 rfl (WK_0 _) rfl rfl (Nat.le_of_ble_eq_true rfl) rfl tg_1637 tg_1639 tg_102 tg_158 (by decide +kernel) ws H locs ls hR hsz (Nat.zero_le _) (Nat.zero_le _)) rfl (fun r1 w1 hpo => ?_)
  obtain ⟨q2, rfl⟩ := hpo
  refine ex_if_eq (off := 25) (tgt := 31) (np := 9) C (by decide +kernel) (by decide) rfl (fun h3 => ?_) (fun h3 => ?_)
  · skip
    refine ex_iconst (n := 1) (v := 1) (np := 32) C (by decide +kernel) (by decide) rfl ?_
    refine ex_goto (off := 4) (tgt := 36) C (by decide +kernel) (by decide) ?_
    obtain ⟨r4, σ5, q6⟩ : ∃ r x, J_throwsIf (1 : Int32) σ = (r, x) := ex_pair _
    refine ex_call_i (np := 39) (fun ws H locs ls hR hsz => ex_runV (C1 := "") C (m_X11_throwsIf d (by omega) (1 : Int32) σ (by decide)) hd1 hd2 (by decide) hy_X11_throwsIf tg_1644 hc_X11 rfl (WK_0 _) rfl rfl (Nat.le_of_ble_eq_true rfl) rfl tg_1641 tg_1643 tg_103 tg_158 (by decide +kernel) ws H locs ls hR hsz (Nat.zero_le _) (Nat.zero_le _)) rfl (fun r9 w1 hpo => ?_)
    rw [q6] at hpo
    have hp1 : r4 = r9 := hpo.1.symm
    have hp2 := hpo.2
    clear hpo; subst hp1; subst hp2
    have hI7 := inv_X11_throwsIf (1 : Int32) σ hI (by decide); rw [q6] at hI7
    refine ex_if_eq (off := 5) (tgt := 44) (np := 42) C (by decide +kernel) (by decide) rfl (fun h8 => ?_) (fun h8 => ?_)
    · skip
      refine ex_aload_n (q := 0) (x := 0) (np := 45) C (by decide +kernel) rfl rfl ?_
      refine ex_iload_n (q := 1) (x := t) (np := 46) C (by decide +kernel) rfl rfl ?_
      refine ex_iload_n (q := 2) (x := day) (np := 47) C (by decide +kernel) rfl rfl ?_
      refine ex_call_i (np := 50) (fun ws H locs ls hR hsz => ex_runV (C1 := "") C (m_X11_dueOf d (by omega) t day σ5 hI7) hd1 hd2 (by decide) hy_X11_dueOf tg_1660 hc_X11 rfl (WK_0 _) rfl rfl (Nat.le_of_ble_eq_true rfl) rfl tg_1657 tg_1659 tg_107 tg_158 (by decide +kernel) ws H locs ls hR hsz (Nat.zero_le _) (Nat.zero_le _)) rfl (fun r10 w1 hpo => ?_)
      obtain ⟨q11, rfl⟩ := hpo
      have E9 : J_due t day σ = (r10, σ5) := by unfold J_due; exact (ex_lt_eq q2).trans ((if_pos h3).trans ((ex_bd_eq q6).trans ((if_pos h8).trans ((ex_lt_eq q11).trans (rfl)))))
      exact ex_iret C hr hlk (by decide +kernel) rfl (Nat.le_refl _) (Nat.le_refl _) (by rw [E9]; exact ⟨rfl, rfl⟩)
    · skip
      refine ex_iconst (n := 0) (v := 0) (np := 43) C (by decide +kernel) (by decide) rfl ?_
      have E9 : J_due t day σ = ((0 : Int32), σ5) := by unfold J_due; exact (ex_lt_eq q2).trans ((if_pos h3).trans ((ex_bd_eq q6).trans ((if_neg h8).trans (rfl))))
      exact ex_iret C hr hlk (by decide +kernel) rfl (Nat.le_refl _) (Nat.le_refl _) (by rw [E9]; exact ⟨rfl, rfl⟩)
  · skip
    refine ex_iload_n (q := 2) (x := day) (np := 10) C (by decide +kernel) rfl rfl ?_
    refine ex_iconst (n := 0) (v := 0) (np := 11) C (by decide +kernel) (by decide) rfl ?_
    refine ex_sipush (n := 399) (v := 399) (np := 14) C (by decide +kernel) (by decide) rfl ?_
    refine ex_call_i (np := 17) (fun ws H locs ls hR hsz => ex_runS C (m_X11_isIn d (by omega) (WK σ) day (0 : Int32) (399 : Int32)) hd1 hd2 (by decide) hy_X11_isIn tg_1593 rfl rfl (Nat.le_of_ble_eq_true rfl) tg_1591 tg_1592 tg_158 (by decide +kernel) ws H locs ls hR hsz (Nat.zero_le _) (Nat.zero_le _)) rfl (fun r12 w1 hpo => ?_)
    obtain ⟨q13, rfl⟩ := hpo
    refine ex_if_eq (off := 14) (tgt := 31) (np := 20) C (by decide +kernel) (by decide) rfl (fun h14 => ?_) (fun h14 => ?_)
    · skip
      refine ex_iconst (n := 1) (v := 1) (np := 32) C (by decide +kernel) (by decide) rfl ?_
      refine ex_goto (off := 4) (tgt := 36) C (by decide +kernel) (by decide) ?_
      obtain ⟨r15, σ16, q17⟩ : ∃ r x, J_throwsIf (1 : Int32) σ = (r, x) := ex_pair _
      refine ex_call_i (np := 39) (fun ws H locs ls hR hsz => ex_runV (C1 := "") C (m_X11_throwsIf d (by omega) (1 : Int32) σ (by decide)) hd1 hd2 (by decide) hy_X11_throwsIf tg_1644 hc_X11 rfl (WK_0 _) rfl rfl (Nat.le_of_ble_eq_true rfl) rfl tg_1641 tg_1643 tg_103 tg_158 (by decide +kernel) ws H locs ls hR hsz (Nat.zero_le _) (Nat.zero_le _)) rfl (fun r9 w1 hpo => ?_)
      rw [q17] at hpo
      have hp1 : r15 = r9 := hpo.1.symm
      have hp2 := hpo.2
      clear hpo; subst hp1; subst hp2
      have hI18 := inv_X11_throwsIf (1 : Int32) σ hI (by decide); rw [q17] at hI18
      refine ex_if_eq (off := 5) (tgt := 44) (np := 42) C (by decide +kernel) (by decide) rfl (fun h19 => ?_) (fun h19 => ?_)
      · skip
        refine ex_aload_n (q := 0) (x := 0) (np := 45) C (by decide +kernel) rfl rfl ?_
        refine ex_iload_n (q := 1) (x := t) (np := 46) C (by decide +kernel) rfl rfl ?_
        refine ex_iload_n (q := 2) (x := day) (np := 47) C (by decide +kernel) rfl rfl ?_
        refine ex_call_i (np := 50) (fun ws H locs ls hR hsz => ex_runV (C1 := "") C (m_X11_dueOf d (by omega) t day σ16 hI18) hd1 hd2 (by decide) hy_X11_dueOf tg_1660 hc_X11 rfl (WK_0 _) rfl rfl (Nat.le_of_ble_eq_true rfl) rfl tg_1657 tg_1659 tg_107 tg_158 (by decide +kernel) ws H locs ls hR hsz (Nat.zero_le _) (Nat.zero_le _)) rfl (fun r20 w1 hpo => ?_)
        obtain ⟨q21, rfl⟩ := hpo
        have E9 : J_due t day σ = (r20, σ16) := by unfold J_due; exact (ex_lt_eq q2).trans ((if_neg h3).trans ((ex_lt_eq q13).trans ((if_pos h14).trans ((ex_bd_eq q17).trans ((if_pos h19).trans ((ex_lt_eq q21).trans (rfl)))))))
        exact ex_iret C hr hlk (by decide +kernel) rfl (Nat.le_refl _) (Nat.le_refl _) (by rw [E9]; exact ⟨rfl, rfl⟩)
      · skip
        refine ex_iconst (n := 0) (v := 0) (np := 43) C (by decide +kernel) (by decide) rfl ?_
        have E9 : J_due t day σ = ((0 : Int32), σ16) := by unfold J_due; exact (ex_lt_eq q2).trans ((if_neg h3).trans ((ex_lt_eq q13).trans ((if_pos h14).trans ((ex_bd_eq q17).trans ((if_neg h19).trans (rfl))))))
        exact ex_iret C hr hlk (by decide +kernel) rfl (Nat.le_refl _) (Nat.le_refl _) (by rw [E9]; exact ⟨rfl, rfl⟩)
    · skip
      refine ex_aload_n (q := 0) (x := 0) (np := 21) C (by decide +kernel) rfl rfl ?_
      refine ex_iload_n (q := 1) (x := t) (np := 22) C (by decide +kernel) rfl rfl ?_
      refine ex_iload_n (q := 2) (x := day) (np := 23) C (by decide +kernel) rfl rfl ?_
      refine ex_call_i (np := 26) (fun ws H locs ls hR hsz => ex_runV (C1 := "") C (m_X11_dueOf d (by omega) t day σ hI) hd1 hd2 (by decide) hy_X11_dueOf tg_1660 hc_X11 rfl (WK_0 _) rfl rfl (Nat.le_of_ble_eq_true rfl) rfl tg_1657 tg_1659 tg_107 tg_158 (by decide +kernel) ws H locs ls hR hsz (Nat.zero_le _) (Nat.zero_le _)) rfl (fun r22 w1 hpo => ?_)
      obtain ⟨q23, rfl⟩ := hpo
      refine ex_bipush (n := 99) (v := 99) (np := 28) C (by decide +kernel) (by decide) rfl ?_
      refine ex_icmp_ne (off := 7) (tgt := 35) (np := 31) C (by decide +kernel) (by decide) rfl (fun h24 => ?_) (fun h24 => ?_)
      · skip
        refine ex_iconst (n := 0) (v := 0) (np := 36) C (by decide +kernel) (by decide) rfl ?_
        obtain ⟨r25, σ26, q27⟩ : ∃ r x, J_throwsIf (0 : Int32) σ = (r, x) := ex_pair _
        refine ex_call_i (np := 39) (fun ws H locs ls hR hsz => ex_runV (C1 := "") C (m_X11_throwsIf d (by omega) (0 : Int32) σ (by decide)) hd1 hd2 (by decide) hy_X11_throwsIf tg_1644 hc_X11 rfl (WK_0 _) rfl rfl (Nat.le_of_ble_eq_true rfl) rfl tg_1641 tg_1643 tg_103 tg_158 (by decide +kernel) ws H locs ls hR hsz (Nat.zero_le _) (Nat.zero_le _)) rfl (fun r9 w1 hpo => ?_)
        rw [q27] at hpo
        have hp1 : r25 = r9 := hpo.1.symm
        have hp2 := hpo.2
        clear hpo; subst hp1; subst hp2
        have hI28 := inv_X11_throwsIf (0 : Int32) σ hI (by decide); rw [q27] at hI28
        refine ex_if_eq (off := 5) (tgt := 44) (np := 42) C (by decide +kernel) (by decide) rfl (fun h29 => ?_) (fun h29 => ?_)
        · skip
          refine ex_aload_n (q := 0) (x := 0) (np := 45) C (by decide +kernel) rfl rfl ?_
          refine ex_iload_n (q := 1) (x := t) (np := 46) C (by decide +kernel) rfl rfl ?_
          refine ex_iload_n (q := 2) (x := day) (np := 47) C (by decide +kernel) rfl rfl ?_
          refine ex_call_i (np := 50) (fun ws H locs ls hR hsz => ex_runV (C1 := "") C (m_X11_dueOf d (by omega) t day σ26 hI28) hd1 hd2 (by decide) hy_X11_dueOf tg_1660 hc_X11 rfl (WK_0 _) rfl rfl (Nat.le_of_ble_eq_true rfl) rfl tg_1657 tg_1659 tg_107 tg_158 (by decide +kernel) ws H locs ls hR hsz (Nat.zero_le _) (Nat.zero_le _)) rfl (fun r30 w1 hpo => ?_)
          obtain ⟨q31, rfl⟩ := hpo
          have E9 : J_due t day σ = (r30, σ26) := by unfold J_due; exact (ex_lt_eq q2).trans ((if_neg h3).trans ((ex_lt_eq q13).trans ((if_neg h14).trans ((ex_lt_eq q23).trans ((if_neg h24).trans ((ex_bd_eq q27).trans ((if_pos h29).trans ((ex_lt_eq q31).trans (rfl)))))))))
          exact ex_iret C hr hlk (by decide +kernel) rfl (Nat.le_refl _) (Nat.le_refl _) (by rw [E9]; exact ⟨rfl, rfl⟩)
        · skip
          refine ex_iconst (n := 0) (v := 0) (np := 43) C (by decide +kernel) (by decide) rfl ?_
          have E9 : J_due t day σ = ((0 : Int32), σ26) := by unfold J_due; exact (ex_lt_eq q2).trans ((if_neg h3).trans ((ex_lt_eq q13).trans ((if_neg h14).trans ((ex_lt_eq q23).trans ((if_neg h24).trans ((ex_bd_eq q27).trans ((if_neg h29).trans (rfl))))))))
          exact ex_iret C hr hlk (by decide +kernel) rfl (Nat.le_refl _) (Nat.le_refl _) (by rw [E9]; exact ⟨rfl, rfl⟩)
      · skip
        refine ex_iconst (n := 1) (v := 1) (np := 32) C (by decide +kernel) (by decide) rfl ?_
        refine ex_goto (off := 4) (tgt := 36) C (by decide +kernel) (by decide) ?_
        obtain ⟨r32, σ33, q34⟩ : ∃ r x, J_throwsIf (1 : Int32) σ = (r, x) := ex_pair _
        refine ex_call_i (np := 39) (fun ws H locs ls hR hsz => ex_runV (C1 := "") C (m_X11_throwsIf d (by omega) (1 : Int32) σ (by decide)) hd1 hd2 (by decide) hy_X11_throwsIf tg_1644 hc_X11 rfl (WK_0 _) rfl rfl (Nat.le_of_ble_eq_true rfl) rfl tg_1641 tg_1643 tg_103 tg_158 (by decide +kernel) ws H locs ls hR hsz (Nat.zero_le _) (Nat.zero_le _)) rfl (fun r9 w1 hpo => ?_)
        rw [q34] at hpo
        have hp1 : r32 = r9 := hpo.1.symm
        have hp2 := hpo.2
        clear hpo; subst hp1; subst hp2
        have hI35 := inv_X11_throwsIf (1 : Int32) σ hI (by decide); rw [q34] at hI35
        refine ex_if_eq (off := 5) (tgt := 44) (np := 42) C (by decide +kernel) (by decide) rfl (fun h36 => ?_) (fun h36 => ?_)
        · skip
          refine ex_aload_n (q := 0) (x := 0) (np := 45) C (by decide +kernel) rfl rfl ?_
          refine ex_iload_n (q := 1) (x := t) (np := 46) C (by decide +kernel) rfl rfl ?_
          refine ex_iload_n (q := 2) (x := day) (np := 47) C (by decide +kernel) rfl rfl ?_
          refine ex_call_i (np := 50) (fun ws H locs ls hR hsz => ex_runV (C1 := "") C (m_X11_dueOf d (by omega) t day σ33 hI35) hd1 hd2 (by decide) hy_X11_dueOf tg_1660 hc_X11 rfl (WK_0 _) rfl rfl (Nat.le_of_ble_eq_true rfl) rfl tg_1657 tg_1659 tg_107 tg_158 (by decide +kernel) ws H locs ls hR hsz (Nat.zero_le _) (Nat.zero_le _)) rfl (fun r37 w1 hpo => ?_)
          obtain ⟨q38, rfl⟩ := hpo
          have E9 : J_due t day σ = (r37, σ33) := by unfold J_due; exact (ex_lt_eq q2).trans ((if_neg h3).trans ((ex_lt_eq q13).trans ((if_neg h14).trans ((ex_lt_eq q23).trans ((if_pos h24).trans ((ex_bd_eq q34).trans ((if_pos h36).trans ((ex_lt_eq q38).trans (rfl)))))))))
          exact ex_iret C hr hlk (by decide +kernel) rfl (Nat.le_refl _) (Nat.le_refl _) (by rw [E9]; exact ⟨rfl, rfl⟩)
        · skip
          refine ex_iconst (n := 0) (v := 0) (np := 43) C (by decide +kernel) (by decide) rfl ?_
          have E9 : J_due t day σ = ((0 : Int32), σ33) := by unfold J_due; exact (ex_lt_eq q2).trans ((if_neg h3).trans ((ex_lt_eq q13).trans ((if_neg h14).trans ((ex_lt_eq q23).trans ((if_pos h24).trans ((ex_bd_eq q34).trans ((if_neg h36).trans (rfl))))))))
          exact ex_iret C hr hlk (by decide +kernel) rfl (Nat.le_refl _) (Nat.le_refl _) (by rw [E9]; exact ⟨rfl, rfl⟩)
noncomputable def J_thrown (σ : ex_S) : Int32 :=
  (σ.1 0)
set_option maxRecDepth 100000 in
set_option maxHeartbeats 4000000 in
set_option maxRecDepth 100000 in
set_option maxHeartbeats 4000000 in
theorem m_X11_thrown {l : Launch} {X : ab_X} {D : va_G} {A : ex_A} (d : Nat) (hd : 1 ≤ d) (σ : ex_S) : ex_ctr l X D A d yX11_thrown cX11_thrown 1 (some .int) (WK σ) [.ref 0] (fun r w => r = J_thrown σ ∧ w = WK σ) := by
  obtain ⟨d, rfl⟩ : ∃ d9, d = d9 + 1 := ⟨d - 1, by omega⟩
  refine ex_meth (own := RX11) rfl (by decide) (Nat.le_of_ble_eq_true rfl) (fun p e R s m below meth c C hr hlk hd1 hd2 => ?_)
  show ex_ok p l e R s m _ below meth c 0 0 _ 1 X D A (WK σ) 0 [(0, .ref 0)] []
  refine ex_aload_n (q := 0) (x := 0) (np := 1) C (by decide +kernel) rfl rfl ?_
  refine ex_getf (q := 0) (v := .int (σ.1 0)) (np := 4) C hc_X11 hin_X11 (by decide) tg_1379 (by decide +kernel) (WK_0 _) rfl rfl ?_
  have E9 : J_thrown σ = (σ.1 0) := by unfold J_thrown; exact rfl
  exact ex_iret C hr hlk (by decide +kernel) rfl (Nat.le_refl _) (Nat.le_refl _) ⟨E9.symm, rfl⟩
