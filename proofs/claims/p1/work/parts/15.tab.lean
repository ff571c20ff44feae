/-! The methods as tables. -/
def tb_X10_init : ab_tab := [[(0, 0, op_al 0 1), (1, 0, op_oi 4), (4, 0, op_al 0 5), (5, 0, op_new 4 15 [.inr (.inr (0, 0)), .inl (none, 0), .inl (none, 0), .inl (none, 0), .inl (none, 0), .inl (none, 0), .inr (.inl (.inl (none, 0))), .inl (none, 0), .inl (none, 0), .inl (none, 0), .inr (.inl (.inl (none, 0))), .inl (none, 0), .inl (none, 0), .inl (none, 0), .inr (.inr (0, 0))] 141 2556 8), (8, 0, op_dup 9), (9, 0, op_call 6 1 1 2 962 141 2556 12), (12, 0, op_pf (tyX10 0) 10 0 15), (15, 0, op_al 0 16)],
  [(16, 0, op_new 9 1 [.inr (.inr (0, 0))] 141 2556 19), (19, 0, op_dup 20), (20, 0, op_call 11 9 1 1 3 141 2556 23), (23, 0, op_pf (tyX10 1) 10 1 26), (26, 0, op_al 0 27), (27, 0, op_new 8 16 [.inl (none, 0), .inr (.inr (0, 0)), .inr (.inr (0, 0)), .inr (.inr (0, 0)), .inl (none, 0), .inr (.inr (0, 0)), .inr (.inr (0, 0)), .inr (.inr (0, 0)), .inr (.inr (0, 0)), .inl (none, 0), .inr (.inr (0, 0)), .inr (.inr (0, 0)), .inr (.inr (0, 0)), .inr (.inr (0, 0)), .inr (.inr (0, 0)), .inr (.inr (0, 0))] 141 2556 30), (30, 0, op_dup 31), (31, 0, op_call 10 10 1 13 112 141 2556 34)],
  [(34, 0, op_pf (tyX10 2) 10 2 37), (37, 0, op_al 0 38), (38, 0, op_new 8 16 [.inl (none, 0), .inr (.inr (0, 0)), .inr (.inr (0, 0)), .inr (.inr (0, 0)), .inl (none, 0), .inr (.inr (0, 0)), .inr (.inr (0, 0)), .inr (.inr (0, 0)), .inr (.inr (0, 0)), .inl (none, 0), .inr (.inr (0, 0)), .inr (.inr (0, 0)), .inr (.inr (0, 0)), .inr (.inr (0, 0)), .inr (.inr (0, 0)), .inr (.inr (0, 0))] 141 2556 41), (41, 0, op_dup 42), (42, 0, op_call 10 10 1 13 112 141 2556 45), (45, 0, op_pf (tyX10 3) 10 3 48)],
  [(48, 0, op_al 0 49), (49, 0, op_new 7 7 [.inl (none, 0), .inl (none, 0), .inl (none, 0), .inr (.inr (0, 0)), .inr (.inr (0, 0)), .inr (.inr (0, 0)), .inl (none, 0)] 141 2556 52), (52, 0, op_dup 53), (53, 0, op_call 9 11 1 3 21 141 2556 56), (56, 0, op_pf (tyX10 4) 10 4 59), (59, 0, op_al 0 60), (60, 0, op_new 7 7 [.inl (none, 0), .inl (none, 0), .inl (none, 0), .inr (.inr (0, 0)), .inr (.inr (0, 0)), .inr (.inr (0, 0)), .inl (none, 0)] 141 2556 63), (63, 0, op_dup 64)],
  [(64, 0, op_call 9 11 1 3 21 141 2556 67), (67, 0, op_pf (tyX10 5) 10 5 70), (70, 0, op_al 0 71), (71, 0, op_new 1 2 [.inr (.inr (0, 0)), .inl (none, 0)] 141 2556 74), (74, 0, op_dup 75), (75, 0, op_call 3 12 1 33 232 141 2556 78), (78, 0, op_pf (tyX10 6) 10 6 81)],
  [(81, 0, op_al 0 82), (82, 0, op_new 6 5 [.inr (.inr (0, 0)), .inr (.inr (0, 0)), .inr (.inr (0, 0)), .inl (none, 0), .inl (none, 0)] 141 2556 85), (85, 0, op_dup 86), (86, 0, op_call 8 13 1 3 120 141 2556 89), (89, 0, op_pf (tyX10 7) 10 7 92), (92, 0, op_al 0 93), (93, 0, op_new 6 5 [.inr (.inr (0, 0)), .inr (.inr (0, 0)), .inr (.inr (0, 0)), .inl (none, 0), .inl (none, 0)] 141 2556 96)],
  [(96, 0, op_dup 97), (97, 0, op_call 8 13 1 3 120 141 2556 100), (100, 0, op_pf (tyX10 8) 10 8 103), (103, 0, op_al 0 104), (104, 0, op_new 0 10 [.inr (.inr (0, 0)), .inr (.inr (0, 0)), .inr (.inr (0, 0)), .inl (none, 0), .inl (none, 0), .inl (none, 0), .inl (none, 0), .inl (none, 0), .inl (none, 0), .inl (none, 0)] 141 2556 107), (107, 0, op_dup 108), (108, 0, op_call 2 14 1 3 120 141 2556 111), (111, 0, op_pf (tyX10 9) 10 9 114)],
  [(114, 0, op_al 0 115), (115, 0, op_new 5 5 [.inr (.inr (0, 0)), .inr (.inr (0, 0)), .inl (none, 0), .inl (none, 0), .inl (none, 0)] 141 2556 118), (118, 0, op_dup 119), (119, 0, op_call 7 15 1 2 16 141 2556 122), (122, 0, op_pf (tyX10 10) 10 10 125), (125, 0, op_al 0 126), (126, 0, op_new 3 2 [.inr (.inr (0, 0)), .inl (none, 0)] 141 2556 129)],
  [(129, 0, op_dup 130), (130, 0, op_call 5 16 1 1 40 141 2556 133), (133, 0, op_pf (tyX10 11) 10 11 136), (136, 0, op_al 0 137), (137, 0, op_push (.inl (none, 2)) 138), (138, 0, op_na 6 (.inr (.inr (0, 0))) 141 2556 141), (141, 0, op_dup 142), (142, 0, op_push (.inl (none, 0)) 143), (143, 0, op_new 2 4 [.inr (.inr (0, 0)), .inr (.inr (0, 0)), .inr (.inr (0, 0)), .inl (none, 0)] 141 2556 146)],
  [(146, 0, op_dup 147), (147, 0, op_call 4 17 1 22 281 141 2556 150), (150, 0, op_aast 2 151), (151, 0, op_dup 152), (152, 0, op_push (.inl (none, 1)) 153), (153, 0, op_new 2 4 [.inr (.inr (0, 0)), .inr (.inr (0, 0)), .inr (.inr (0, 0)), .inl (none, 0)] 141 2556 156), (156, 0, op_dup 157), (157, 0, op_call 4 17 1 22 281 141 2556 160)],
  [(160, 0, op_aast 2 161), (161, 0, op_pf (tyX10 12) 10 12 164), (164, 0, op_al 0 165), (165, 0, op_push (.inl (none, 7)) 167), (167, 0, op_na 0 (.inl (none, 0)) 141 2556 169), (169, 0, op_pf (tyX10 13) 10 13 172), (172, 0, op_al 0 173), (173, 0, op_push (.inl (none, (-1))) 174), (174, 0, op_pf (tyX10 14) 10 14 177)],
  [(177, 0, op_al 0 178), (178, 0, op_push (.inl (none, 7)) 180), (180, 0, op_na 0 (.inl (none, 0)) 141 2556 182), (182, 0, op_pf (tyX10 15) 10 15 185), (185, 0, op_al 0 186), (186, 0, op_push (.inl (none, (-1))) 187), (187, 0, op_pf (tyX10 16) 10 16 190), (190, 2, op_goto 0)]]
def tb_X4_init : ab_tab := [[(0, 0, op_al 0 1), (1, 0, op_oi 4), (4, 0, op_al 0 5), (5, 0, op_push (.inl (none, 940)) 8), (8, 0, op_na 0 (.inl (none, 0)) 2 962 10), (10, 0, op_pf (tyX4 0) 4 0 13), (13, 0, op_al 0 14), (14, 0, op_push (.inl (none, 0)) 15), (15, 0, op_pf (tyX4 1) 4 1 18)],
  [(18, 0, op_al 0 19), (19, 0, op_push (.inl (none, 0)) 20), (20, 0, op_pf (tyX4 2) 4 2 23), (23, 0, op_al 0 24), (24, 0, op_push (.inl (none, 0)) 25), (25, 0, op_pf (tyX4 3) 4 3 28), (28, 0, op_al 0 29), (29, 0, op_push (.inl (none, 0)) 30), (30, 0, op_pf (tyX4 4) 4 4 33)],
  [(33, 0, op_al 0 34), (34, 0, op_push (.inl (none, 0)) 35), (35, 0, op_pf (tyX4 5) 4 5 38), (38, 0, op_al 0 39), (39, 0, op_push (.inr (.inl (.inl (none, 0)))) 40), (40, 0, op_pf (tyX4 6) 4 6 43), (43, 0, op_al 0 44), (44, 0, op_push (.inl (none, 0)) 45), (45, 0, op_pf (tyX4 7) 4 7 48)],
  [(48, 0, op_al 0 49), (49, 0, op_push (.inl (none, (-1))) 50), (50, 0, op_pf (tyX4 8) 4 8 53), (53, 0, op_al 0 54), (54, 0, op_push (.inl (none, 0)) 55), (55, 0, op_pf (tyX4 9) 4 9 58), (58, 0, op_al 0 59), (59, 0, op_push (.inr (.inl (.inl (none, 0)))) 60), (60, 0, op_pf (tyX4 10) 4 10 63), (63, 0, op_al 0 64)],
  [(64, 0, op_push (.inl (none, 1)) 65), (65, 0, op_pf (tyX4 11) 4 11 68), (68, 0, op_al 0 69), (69, 0, op_push (.inl (none, 0)) 70), (70, 0, op_pf (tyX4 12) 4 12 73), (73, 0, op_al 0 74), (74, 0, op_push (.inl (none, 0)) 75), (75, 0, op_pf (tyX4 13) 4 13 78), (78, 0, op_al 0 79), (79, 0, op_push (.inl (none, 22)) 81)],
  [(81, 0, op_na 1 (.inr (.inl (.inl (none, 0)))) 2 962 83), (83, 0, op_pf (tyX4 14) 4 14 86), (86, 0, op_push (.inl (none, 0)) 87), (87, 0, op_is 1 88), (88, 0, op_push (.inl (none, 0)) 89), (89, 0, op_is 2 90), (90, 0, op_il 2 91), (91, 0, op_push (.inr (.inr (3, 0))) 93), (93, 0, op_call 1 2 1 0 0 2 962 96)],
  [(96, 0, op_icmp 3 154 99), (99, 0, op_il 1 100), (100, 0, op_al 0 101), (101, 0, op_gf 4 14 104), (104, 0, op_len 105), (105, 0, op_icmp 3 154 108), (108, 0, op_push (.inr (.inr (3, 0))) 110), (110, 0, op_il 2 111), (111, 0, op_call 1 4 2 0 0 2 962 114)],
  [(114, 0, op_push (.inl (none, 32)) 116), (116, 0, op_icmp 1 125 119), (119, 0, op_inc 1 1 122), (122, 0, op_goto 148), (125, 0, op_al 0 126), (126, 0, op_gf 4 14 129)],
  [(129, 0, op_il 1 130), (130, 0, op_al 0 131), (131, 0, op_gf 4 14 134), (134, 0, op_il 1 135), (135, 0, op_ald 1 136), (136, 0, op_push (.inl (none, 8)) 138), (138, 0, op_lsh 139), (139, 0, op_push (.inr (.inr (3, 0))) 141), (141, 0, op_il 2 142), (142, 0, op_call 1 4 2 0 0 2 962 145)],
  [(145, 0, op_i2l 146), (146, 0, op_l2 147), (147, 0, op_ast 1 148), (148, 0, op_inc 2 1 151), (151, 0, op_goto 90), (154, 2, op_goto 0)]]
def tb_J0_length_8abf5 : ab_tab := [[(0, 0, op_al 0 1), (1, 0, op_gval 4), (4, 0, op_tlen 5), (5, 0, op_al 0 6), (6, 0, op_call 1 3 1 0 0 0 0 9), (9, 0, op_b2 (ab_binK (fun u v => u >>> (v &&& 31))) 10), (10, 1, op_goto 0)]]
def tb_J0_coder_7d493 : ab_tab := [[(0, 0, op_push (.inl (none, 1)) 3), (3, 0, op_if 0 13 6), (6, 0, op_al 0 7), (7, 0, op_gcod 10), (10, 0, op_goto 14), (14, 1, op_goto 0)]]
def tb_J0_charAt_5068e : ab_tab := [[(0, 0, op_al 0 1), (1, 0, op_call 1 5 1 0 0 0 0 4), (4, 0, op_if 0 16 7), (7, 0, op_al 0 8), (8, 0, op_gval 11), (11, 0, op_il 1 12), (12, 0, op_call 0 6 2 0 0 0 0 15), (15, 1, op_goto 0)],
  [(24, 1, op_goto 0)]]
def tb_J0_isLatin1_aae02 : ab_tab := [[(0, 0, op_push (.inl (none, 1)) 3), (3, 0, op_if 0 17 6), (6, 0, op_al 0 7), (7, 0, op_gcod 10), (10, 0, op_if 1 17 13), (13, 0, op_push (.inl (none, 1)) 14), (14, 0, op_goto 18)],
  [(18, 1, op_goto 0)]]
def tb_J1_charAt_3b067 : ab_tab := [[(0, 0, op_il 1 1), (1, 0, op_al 0 2), (2, 0, op_tlen 3), (3, 0, op_call 0 7 2 0 0 0 0 6), (6, 0, op_al 0 7), (7, 0, op_il 1 8), (8, 0, op_tb 9), (9, 0, op_push (.inl (none, 255)) 12), (12, 0, op_b2 (ab_andK) 13), (13, 0, op_cv 0 65535 14), (14, 1, op_goto 0)]]
def tb_J0_checkIndex_df160 : ab_tab := [[(0, 0, op_il 0 1), (1, 0, op_il 1 2), (2, 0, op_push (.inr (.inr (6, 0))) 5), (5, 0, op_call 0 8 3 0 0 0 0 8), (8, 0, op_pop 9), (9, 2, op_goto 0)]]
def tb_J3_checkIndex_8e157 : ab_tab := [[(0, 0, op_il 0 1), (1, 0, op_if 2 9 4), (4, 0, op_il 0 5), (5, 0, op_il 1 6), (6, 0, op_icmp 2 16 9)],
  [(16, 0, op_il 0 17), (17, 1, op_goto 0)]]
def tb_X9_init : ab_tab := [[(0, 0, op_al 0 1), (1, 0, op_oi 4), (4, 0, op_al 0 5), (5, 0, op_push (.inr (.inr (5, 0))) 8), (8, 0, op_hlen 9), (9, 0, op_na 3 (.inl (none, 0)) 1 3 11), (11, 0, op_pf (tyX9 0) 9 0 14), (14, 2, op_goto 0)]]
def tb_X8_init : ab_tab := [[(0, 0, op_al 0 1), (1, 0, op_oi 4), (4, 0, op_al 0 5), (5, 0, op_push (.inl (none, 0)) 6), (6, 0, op_pf (tyX8 0) 8 0 9), (9, 0, op_al 0 10), (10, 0, op_push (.inl (none, 7)) 12), (12, 0, op_na 1 (.inr (.inl (.inl (none, 0)))) 13 112 14), (14, 0, op_pf (tyX8 1) 8 1 17)],
  [(17, 0, op_al 0 18), (18, 0, op_push (.inl (none, 7)) 20), (20, 0, op_na 0 (.inl (none, 0)) 13 112 22), (22, 0, op_pf (tyX8 2) 8 2 25), (25, 0, op_al 0 26), (26, 0, op_push (.inl (none, 7)) 28), (28, 0, op_na 0 (.inl (none, 0)) 13 112 30), (30, 0, op_pf (tyX8 3) 8 3 33)],
  [(33, 0, op_al 0 34), (34, 0, op_push (.inl (none, 0)) 35), (35, 0, op_pf (tyX8 4) 8 4 38), (38, 0, op_al 0 39), (39, 0, op_push (.inl (none, 12)) 41), (41, 0, op_na 0 (.inl (none, 0)) 13 112 43), (43, 0, op_pf (tyX8 5) 8 5 46), (46, 0, op_al 0 47), (47, 0, op_push (.inl (none, 12)) 49)],
  [(49, 0, op_na 0 (.inl (none, 0)) 13 112 51), (51, 0, op_pf (tyX8 6) 8 6 54), (54, 0, op_al 0 55), (55, 0, op_push (.inl (none, 12)) 57), (57, 0, op_na 0 (.inl (none, 0)) 13 112 59), (59, 0, op_pf (tyX8 7) 8 7 62), (62, 0, op_al 0 63), (63, 0, op_push (.inl (none, 12)) 65)],
  [(65, 0, op_na 0 (.inl (none, 0)) 13 112 67), (67, 0, op_pf (tyX8 8) 8 8 70), (70, 0, op_al 0 71), (71, 0, op_push (.inl (none, 0)) 72), (72, 0, op_pf (tyX8 9) 8 9 75), (75, 0, op_al 0 76), (76, 0, op_push (.inl (none, 8)) 78), (78, 0, op_na 1 (.inr (.inl (.inl (none, 0)))) 13 112 80)],
  [(80, 0, op_pf (tyX8 10) 8 10 83), (83, 0, op_al 0 84), (84, 0, op_push (.inl (none, 8)) 86), (86, 0, op_na 0 (.inl (none, 0)) 13 112 88), (88, 0, op_pf (tyX8 11) 8 11 91), (91, 0, op_al 0 92), (92, 0, op_push (.inl (none, 8)) 94), (94, 0, op_na 0 (.inl (none, 0)) 13 112 96)],
  [(96, 0, op_pf (tyX8 12) 8 12 99), (99, 0, op_al 0 100), (100, 0, op_push (.inl (none, 8)) 102), (102, 0, op_na 0 (.inl (none, 0)) 13 112 104), (104, 0, op_pf (tyX8 13) 8 13 107), (107, 0, op_al 0 108), (108, 0, op_push (.inl (none, 8)) 110), (110, 0, op_na 0 (.inl (none, 0)) 13 112 112)],
  [(112, 0, op_pf (tyX8 14) 8 14 115), (115, 0, op_al 0 116), (116, 0, op_push (.inl (none, 3)) 117), (117, 0, op_na 0 (.inl (none, 0)) 13 112 119), (119, 0, op_dup 120), (120, 0, op_push (.inl (none, 0)) 121), (121, 0, op_push (.inl (none, 3)) 122), (122, 0, op_ast 0 123), (123, 0, op_dup 124), (124, 0, op_push (.inl (none, 1)) 125), (125, 0, op_push (.inl (none, 2)) 126), (126, 0, op_ast 0 127), (127, 0, op_dup 128)],
  [(128, 0, op_push (.inl (none, 2)) 129), (129, 0, op_push (.inl (none, 1)) 130), (130, 0, op_ast 0 131), (131, 0, op_pf (tyX8 15) 8 15 134), (134, 2, op_goto 0)]]
def tb_X7_init : ab_tab := [[(0, 0, op_al 0 1), (1, 0, op_oi 4), (4, 0, op_al 0 5), (5, 0, op_push (.inl (none, 0)) 6), (6, 0, op_pf (tyX7 0) 7 0 9), (9, 0, op_al 0 10), (10, 0, op_push (.inl (none, 0)) 11), (11, 0, op_pf (tyX7 1) 7 1 14), (14, 0, op_al 0 15), (15, 0, op_push (.inl (none, 0)) 16)],
  [(16, 0, op_pf (tyX7 2) 7 2 19), (19, 0, op_al 0 20), (20, 0, op_push (.inl (none, 7)) 22), (22, 0, op_na 0 (.inl (none, 0)) 3 21 24), (24, 0, op_pf (tyX7 3) 7 3 27), (27, 0, op_al 0 28), (28, 0, op_push (.inl (none, 7)) 30), (30, 0, op_na 0 (.inl (none, 0)) 3 21 32)],
  [(32, 0, op_pf (tyX7 4) 7 4 35), (35, 0, op_al 0 36), (36, 0, op_push (.inl (none, 7)) 38), (38, 0, op_na 0 (.inl (none, 0)) 3 21 40), (40, 0, op_pf (tyX7 5) 7 5 43), (43, 0, op_al 0 44), (44, 0, op_push (.inl (none, 0)) 45), (45, 0, op_pf (tyX7 6) 7 6 48)],
  [(48, 2, op_goto 0)]]
def tb_X1_init : ab_tab := [[(0, 0, op_al 0 1), (1, 0, op_oi 4), (4, 0, op_al 0 5), (5, 0, op_push (.inl (none, 8)) 7), (7, 0, op_na 11 (.inr (.inr (0, 0))) 33 232 10), (10, 0, op_pf (tyX1 0) 1 0 13), (13, 0, op_al 0 14), (14, 0, op_push (.inl (none, 0)) 15), (15, 0, op_pf (tyX1 1) 1 1 18)],
  [(18, 0, op_push (.inl (none, 0)) 19), (19, 0, op_is 1 20), (20, 0, op_il 1 21), (21, 0, op_push (.inl (none, 8)) 23), (23, 0, op_icmp 3 45 26), (26, 0, op_al 0 27), (27, 0, op_gf 1 0 30), (30, 0, op_il 1 31), (31, 0, op_new 7 7 [.inl (none, 0), .inl (none, 0), .inl (none, 0), .inr (.inr (0, 0)), .inr (.inr (0, 0)), .inr (.inr (0, 0)), .inl (none, 0)] 33 232 34)],
  [(34, 0, op_dup 35), (35, 0, op_call 9 11 1 3 21 33 232 38), (38, 0, op_aast 7 39), (39, 0, op_inc 1 1 42), (42, 0, op_goto 20), (45, 2, op_goto 0)]]
def tb_X6_init : ab_tab := [[(0, 0, op_al 0 1), (1, 0, op_oi 4), (4, 0, op_al 0 5), (5, 0, op_push (.inl (none, 40)) 7), (7, 0, op_na 0 (.inl (none, 0)) 3 120 9), (9, 0, op_pf (tyX6 0) 6 0 12), (12, 0, op_al 0 13), (13, 0, op_push (.inl (none, 40)) 15), (15, 0, op_na 0 (.inl (none, 0)) 3 120 17)],
  [(17, 0, op_pf (tyX6 1) 6 1 20), (20, 0, op_al 0 21), (21, 0, op_push (.inl (none, 40)) 23), (23, 0, op_na 0 (.inl (none, 0)) 3 120 25), (25, 0, op_pf (tyX6 2) 6 2 28), (28, 0, op_al 0 29), (29, 0, op_push (.inl (none, 0)) 30), (30, 0, op_pf (tyX6 3) 6 3 33)],
  [(33, 0, op_al 0 34), (34, 0, op_push (.inl (none, 0)) 35), (35, 0, op_pf (tyX6 4) 6 4 38), (38, 2, op_goto 0)]]
def tb_X0_init : ab_tab := [[(0, 0, op_al 0 1), (1, 0, op_oi 4), (4, 0, op_al 0 5), (5, 0, op_push (.inl (none, 40)) 7), (7, 0, op_na 0 (.inl (none, 0)) 3 120 9), (9, 0, op_pf (tyX0 0) 0 0 12), (12, 0, op_al 0 13), (13, 0, op_push (.inl (none, 40)) 15), (15, 0, op_na 0 (.inl (none, 0)) 3 120 17)],
  [(17, 0, op_pf (tyX0 1) 0 1 20), (20, 0, op_al 0 21), (21, 0, op_push (.inl (none, 40)) 23), (23, 0, op_na 0 (.inl (none, 0)) 3 120 25), (25, 0, op_pf (tyX0 2) 0 2 28), (28, 0, op_al 0 29), (29, 0, op_push (.inl (none, 0)) 30), (30, 0, op_pf (tyX0 3) 0 3 33)],
  [(33, 0, op_al 0 34), (34, 0, op_push (.inl (none, 0)) 35), (35, 0, op_pf (tyX0 4) 0 4 38), (38, 0, op_al 0 39), (39, 0, op_push (.inl (none, (-1))) 40), (40, 0, op_pf (tyX0 5) 0 5 43), (43, 0, op_al 0 44), (44, 0, op_push (.inl (none, 0)) 45), (45, 0, op_pf (tyX0 6) 0 6 48)],
  [(48, 0, op_al 0 49), (49, 0, op_push (.inl (none, 0)) 50), (50, 0, op_pf (tyX0 7) 0 7 53), (53, 0, op_al 0 54), (54, 0, op_push (.inl (none, 0)) 55), (55, 0, op_pf (tyX0 8) 0 8 58), (58, 0, op_al 0 59), (59, 0, op_push (.inl (none, 0)) 60), (60, 0, op_pf (tyX0 9) 0 9 63), (63, 2, op_goto 0)]]
def tb_X5_init : ab_tab := [[(0, 0, op_al 0 1), (1, 0, op_oi 4), (4, 0, op_al 0 5), (5, 0, op_push (.inl (none, 8)) 7), (7, 0, op_na 0 (.inl (none, 0)) 2 16 9), (9, 0, op_pf (tyX5 0) 5 0 12), (12, 0, op_al 0 13), (13, 0, op_push (.inl (none, 8)) 15), (15, 0, op_na 0 (.inl (none, 0)) 2 16 17)],
  [(17, 0, op_pf (tyX5 1) 5 1 20), (20, 0, op_al 0 21), (21, 0, op_push (.inl (none, 0)) 22), (22, 0, op_pf (tyX5 2) 5 2 25), (25, 0, op_al 0 26), (26, 0, op_push (.inl (none, (-1))) 27), (27, 0, op_pf (tyX5 3) 5 3 30), (30, 0, op_al 0 31), (31, 0, op_push (.inl (none, (-1))) 32)],
  [(32, 0, op_pf (tyX5 4) 5 4 35), (35, 2, op_goto 0)]]
def tb_X3_init : ab_tab := [[(0, 0, op_al 0 1), (1, 0, op_oi 4), (4, 0, op_al 0 5), (5, 0, op_push (.inl (none, 40)) 7), (7, 0, op_na 0 (.inl (none, 0)) 1 40 9), (9, 0, op_pf (tyX3 0) 3 0 12), (12, 0, op_al 0 13), (13, 0, op_push (.inl (none, 0)) 14), (14, 0, op_pf (tyX3 1) 3 1 17)],
  [(17, 2, op_goto 0)]]
def tb_X2_init : ab_tab := [[(0, 0, op_al 0 1), (1, 0, op_oi 4), (4, 0, op_al 0 5), (5, 0, op_new 8 16 [.inl (none, 0), .inr (.inr (0, 0)), .inr (.inr (0, 0)), .inr (.inr (0, 0)), .inl (none, 0), .inr (.inr (0, 0)), .inr (.inr (0, 0)), .inr (.inr (0, 0)), .inr (.inr (0, 0)), .inl (none, 0), .inr (.inr (0, 0)), .inr (.inr (0, 0)), .inr (.inr (0, 0)), .inr (.inr (0, 0)), .inr (.inr (0, 0)), .inr (.inr (0, 0))] 22 281 8), (8, 0, op_dup 9), (9, 0, op_call 10 10 1 13 112 22 281 12), (12, 0, op_pf (tyX2 0) 2 0 15), (15, 0, op_al 0 16)],
  [(16, 0, op_new 7 7 [.inl (none, 0), .inl (none, 0), .inl (none, 0), .inr (.inr (0, 0)), .inr (.inr (0, 0)), .inr (.inr (0, 0)), .inl (none, 0)] 22 281 19), (19, 0, op_dup 20), (20, 0, op_call 9 11 1 3 21 22 281 23), (23, 0, op_pf (tyX2 1) 2 1 26), (26, 0, op_al 0 27), (27, 0, op_new 6 5 [.inr (.inr (0, 0)), .inr (.inr (0, 0)), .inr (.inr (0, 0)), .inl (none, 0), .inl (none, 0)] 22 281 30), (30, 0, op_dup 31), (31, 0, op_call 8 13 1 3 120 22 281 34)],
  [(34, 0, op_pf (tyX2 2) 2 2 37), (37, 0, op_al 0 38), (38, 0, op_push (.inl (none, 0)) 39), (39, 0, op_pf (tyX2 3) 2 3 42), (42, 2, op_goto 0)]]
def tb_X11_init : ab_tab := [[(0, 0, op_al 0 1), (1, 0, op_oi 4), (4, 0, op_al 0 5), (5, 0, op_push (.inl (none, 940)) 8), (8, 0, op_na 2 (.inl (none, 0)) 23 2596 10), (10, 0, op_pf (tyX11 1) 11 1 13), (13, 0, op_al 0 14), (14, 0, op_push (.inl (none, 305)) 17)],
  [(17, 0, op_na 0 (.inl (none, 0)) 23 2596 19), (19, 0, op_pf (tyX11 6) 11 6 22), (22, 0, op_al 0 23), (23, 0, op_push (.inl (none, 100)) 25), (25, 0, op_na 0 (.inl (none, 0)) 23 2596 27), (27, 0, op_pf (tyX11 7) 11 7 30), (30, 0, op_al 0 31), (31, 0, op_push (.inl (none, 135)) 34)],
  [(34, 0, op_na 0 (.inl (none, 0)) 23 2596 36), (36, 0, op_pf (tyX11 8) 11 8 39), (39, 0, op_al 0 40), (40, 0, op_push (.inl (none, 30)) 42), (42, 0, op_na 1 (.inr (.inl (.inl (none, 0)))) 23 2596 44), (44, 0, op_pf (tyX11 9) 11 9 47), (47, 0, op_al 0 48)],
  [(48, 0, op_push (.inl (none, 22)) 50), (50, 0, op_na 1 (.inr (.inl (.inl (none, 0)))) 23 2596 52), (52, 0, op_pf (tyX11 10) 11 10 55), (55, 0, op_al 0 56), (56, 0, op_push (.inl (none, 192)) 59), (59, 0, op_na 0 (.inl (none, 0)) 23 2596 61), (61, 0, op_pf (tyX11 21) 11 21 64)],
  [(64, 0, op_al 0 65), (65, 0, op_push (.inl (none, 24)) 67), (67, 0, op_na 0 (.inl (none, 0)) 23 2596 69), (69, 0, op_pf (tyX11 22) 11 22 72), (72, 0, op_al 0 73), (73, 0, op_push (.inl (none, 7)) 75), (75, 0, op_na 0 (.inl (none, 0)) 23 2596 77), (77, 0, op_pf (tyX11 24) 11 24 80)],
  [(80, 0, op_al 0 81), (81, 0, op_push (.inl (none, 7)) 83), (83, 0, op_na 0 (.inl (none, 0)) 23 2596 85), (85, 0, op_pf (tyX11 25) 11 25 88), (88, 0, op_al 0 89), (89, 0, op_push (.inl (none, 7)) 91), (91, 0, op_na 0 (.inl (none, 0)) 23 2596 93), (93, 0, op_pf (tyX11 26) 11 26 96)],
  [(96, 0, op_al 0 97), (97, 0, op_push (.inl (none, (-1))) 98), (98, 0, op_pf (tyX11 27) 11 27 101), (101, 0, op_al 0 102), (102, 0, op_push (.inl (none, (-1))) 103), (103, 0, op_pf (tyX11 28) 11 28 106), (106, 0, op_al 0 107), (107, 0, op_push (.inl (none, 9)) 109), (109, 0, op_na 0 (.inl (none, 0)) 23 2596 111), (111, 0, op_pf (tyX11 29) 11 29 114)],
  [(114, 0, op_al 0 115), (115, 0, op_push (.inl (none, 9)) 117), (117, 0, op_na 0 (.inl (none, 0)) 23 2596 119), (119, 0, op_pf (tyX11 30) 11 30 122), (122, 0, op_al 0 123), (123, 0, op_push (.inl (none, 9)) 125), (125, 0, op_na 0 (.inl (none, 0)) 23 2596 127), (127, 0, op_pf (tyX11 31) 11 31 130)],
  [(130, 0, op_al 0 131), (131, 0, op_push (.inl (none, 8)) 133), (133, 0, op_na 0 (.inl (none, 0)) 23 2596 135), (135, 0, op_pf (tyX11 32) 11 32 138), (138, 0, op_al 0 139), (139, 0, op_push (.inl (none, 8)) 141), (141, 0, op_na 0 (.inl (none, 0)) 23 2596 143), (143, 0, op_pf (tyX11 33) 11 33 146)],
  [(146, 0, op_al 0 147), (147, 0, op_push (.inl (none, (-1))) 148), (148, 0, op_pf (tyX11 34) 11 34 151), (151, 0, op_al 0 152), (152, 0, op_push (.inl (none, 48)) 154), (154, 0, op_na 2 (.inl (none, 0)) 23 2596 156), (156, 0, op_pf (tyX11 35) 11 35 159), (159, 0, op_al 0 160)],
  [(160, 0, op_push (.inl (none, 4)) 161), (161, 0, op_na 0 (.inl (none, 0)) 23 2596 163), (163, 0, op_pf (tyX11 39) 11 39 166), (166, 0, op_al 0 167), (167, 0, op_push (.inl (none, 45)) 169), (169, 0, op_na 0 (.inl (none, 0)) 23 2596 171), (171, 0, op_pf (tyX11 41) 11 41 174), (174, 0, op_al 0 175), (175, 0, op_push (.inl (none, 45)) 177)],
  [(177, 0, op_na 3 (.inl (none, 0)) 23 2596 179), (179, 0, op_pf (tyX11 47) 11 47 182), (182, 0, op_al 0 183), (183, 0, op_push (.inl (none, 610)) 186), (186, 0, op_na 0 (.inl (none, 0)) 23 2596 188), (188, 0, op_pf (tyX11 48) 11 48 191), (191, 0, op_al 0 192)],
  [(192, 0, op_push (.inl (none, 30)) 194), (194, 0, op_na 1 (.inr (.inl (.inl (none, 0)))) 23 2596 196), (196, 0, op_pf (tyX11 49) 11 49 199), (199, 0, op_al 0 200), (200, 0, op_push (.inl (none, 2)) 201), (201, 0, op_na 3 (.inl (none, 0)) 23 2596 203), (203, 0, op_pf (tyX11 50) 11 50 206), (206, 0, op_al 0 207), (207, 0, op_gf 11 10 210)],
  [(210, 0, op_push (.inl (none, 0)) 211), (211, 0, op_lfr 214), (214, 0, op_ast 1 215), (215, 0, op_al 0 216), (216, 0, op_gf 11 10 219), (219, 0, op_push (.inl (none, 1)) 220), (220, 0, op_lfr 223), (223, 0, op_ast 1 224)],
  [(224, 0, op_al 0 225), (225, 0, op_gf 11 10 228), (228, 0, op_push (.inl (none, 2)) 229), (229, 0, op_lfr 232), (232, 0, op_ast 1 233), (233, 0, op_al 0 234), (234, 0, op_gf 11 10 237), (237, 0, op_push (.inl (none, 3)) 238), (238, 0, op_lfr 241)],
  [(241, 0, op_ast 1 242), (242, 0, op_al 0 243), (243, 0, op_gf 11 10 246), (246, 0, op_push (.inl (none, 4)) 247), (247, 0, op_lfr 250), (250, 0, op_ast 1 251), (251, 0, op_al 0 252), (252, 0, op_gf 11 10 255), (255, 0, op_push (.inl (none, 5)) 256)],
  [(256, 0, op_lfr 259), (259, 0, op_ast 1 260), (260, 0, op_al 0 261), (261, 0, op_gf 11 10 264), (264, 0, op_push (.inl (none, 6)) 266), (266, 0, op_lfr 269), (269, 0, op_ast 1 270), (270, 0, op_al 0 271), (271, 0, op_gf 11 10 274)],
  [(274, 0, op_push (.inl (none, 7)) 276), (276, 0, op_lfr 279), (279, 0, op_ast 1 280), (280, 0, op_al 0 281), (281, 0, op_gf 11 10 284), (284, 0, op_push (.inl (none, 8)) 286), (286, 0, op_lfr 289)],
  [(289, 0, op_ast 1 290), (290, 0, op_al 0 291), (291, 0, op_gf 11 10 294), (294, 0, op_push (.inl (none, 9)) 296), (296, 0, op_lfr 299), (299, 0, op_ast 1 300), (300, 0, op_al 0 301), (301, 0, op_gf 11 10 304)],
  [(304, 0, op_push (.inl (none, 10)) 306), (306, 0, op_lfr 309), (309, 0, op_ast 1 310), (310, 0, op_al 0 311), (311, 0, op_gf 11 10 314), (314, 0, op_push (.inl (none, 11)) 316), (316, 0, op_lfr 319), (319, 0, op_ast 1 320)],
  [(320, 0, op_al 0 321), (321, 0, op_gf 11 10 324), (324, 0, op_push (.inl (none, 12)) 326), (326, 0, op_lfr 329), (329, 0, op_ast 1 330), (330, 0, op_al 0 331), (331, 0, op_gf 11 10 334), (334, 0, op_push (.inl (none, 13)) 336)],
  [(336, 0, op_lfr 339), (339, 0, op_ast 1 340), (340, 0, op_al 0 341), (341, 0, op_gf 11 10 344), (344, 0, op_push (.inl (none, 14)) 346), (346, 0, op_lfr 349), (349, 0, op_ast 1 350), (350, 0, op_al 0 351), (351, 0, op_gf 11 10 354)],
  [(354, 0, op_push (.inl (none, 15)) 356), (356, 0, op_lfr 359), (359, 0, op_ast 1 360), (360, 0, op_al 0 361), (361, 0, op_gf 11 10 364), (364, 0, op_push (.inl (none, 16)) 366), (366, 0, op_lfr 369)],
  [(369, 0, op_ast 1 370), (370, 0, op_al 0 371), (371, 0, op_gf 11 10 374), (374, 0, op_push (.inl (none, 17)) 376), (376, 0, op_lfr 379), (379, 0, op_ast 1 380), (380, 0, op_al 0 381), (381, 0, op_gf 11 10 384)],
  [(384, 0, op_push (.inl (none, 18)) 386), (386, 0, op_lfr 389), (389, 0, op_ast 1 390), (390, 0, op_al 0 391), (391, 0, op_gf 11 10 394), (394, 0, op_push (.inl (none, 19)) 396), (396, 0, op_lfr 399), (399, 0, op_ast 1 400)],
  [(400, 0, op_al 0 401), (401, 0, op_gf 11 10 404), (404, 0, op_push (.inl (none, 20)) 406), (406, 0, op_lfr 409), (409, 0, op_ast 1 410), (410, 0, op_al 0 411), (411, 0, op_gf 11 10 414), (414, 0, op_push (.inl (none, 21)) 416)],
  [(416, 0, op_lfr 419), (419, 0, op_ast 1 420), (420, 0, op_al 0 421), (421, 0, op_call 13 19 1 0 0 23 2596 424), (424, 0, op_push (.inl (none, 0)) 425), (425, 0, op_is 1 426), (426, 0, op_il 1 427), (427, 0, op_push (.inl (none, 100)) 429), (429, 0, op_icmp 3 450 432)],
  [(432, 0, op_al 0 433), (433, 0, op_gf 11 6 436), (436, 0, op_il 1 437), (437, 0, op_al 0 438), (438, 0, op_gf 11 7 441), (441, 0, op_il 1 442), (442, 0, op_ald 0 443), (443, 0, op_ast 0 444), (444, 0, op_inc 1 1 447), (447, 0, op_goto 426)],
  [(450, 2, op_goto 0)]]
def tb_X11_clears : ab_tab := [[(0, 0, op_push (.inl (none, 0)) 1), (1, 0, op_is 1 2), (2, 0, op_il 1 3), (3, 0, op_push (.inl (none, 100)) 5), (5, 0, op_icmp 3 21 8), (8, 0, op_al 0 9), (9, 0, op_gf 11 7 12), (12, 0, op_il 1 13), (13, 0, op_push (.inl (none, 0)) 14), (14, 0, op_ast 0 15), (15, 0, op_inc 1 1 18)],
  [(18, 0, op_goto 2), (21, 0, op_al 0 22), (22, 0, op_gf 11 7 25), (25, 0, op_push (.inl (none, 3)) 26), (26, 0, op_push (.inl (none, 3)) 27), (27, 0, op_ast 0 28), (28, 0, op_al 0 29), (29, 0, op_gf 11 7 32)],
  [(32, 0, op_push (.inl (none, 4)) 33), (33, 0, op_push (.inl (none, 2)) 34), (34, 0, op_ast 0 35), (35, 0, op_al 0 36), (36, 0, op_gf 11 7 39), (39, 0, op_push (.inl (none, 5)) 40), (40, 0, op_push (.inl (none, 1)) 41), (41, 0, op_ast 0 42), (42, 2, op_goto 0)]]
def tb_X10_feed : ab_tab := [[(0, 0, op_al 0 1), (1, 0, op_gf 10 0 4), (4, 0, op_gf 4 1 7), (7, 0, op_push (.inl (none, 20)) 9), (9, 0, op_b2 (ab_addK) 10), (10, 0, op_push (.inl (none, 940)) 13), (13, 0, op_icmp 5 18 16)],
  [(17, 1, op_goto 0), (18, 0, op_al 0 19), (19, 0, op_gf 10 0 22), (22, 0, op_il 1 23), (23, 0, op_call 6 21 2 0 0 0 0 26), (26, 0, op_al 0 27), (27, 0, op_gf 10 0 30), (30, 0, op_il 2 31), (31, 0, op_call 6 21 2 0 0 0 0 34)],
  [(34, 0, op_al 0 35), (35, 0, op_gf 10 0 38), (38, 0, op_il 3 39), (39, 0, op_call 6 21 2 0 0 0 0 42), (42, 0, op_al 0 43), (43, 0, op_gf 10 0 46), (46, 0, op_il 4 48)],
  [(48, 0, op_call 6 21 2 0 0 0 0 51), (51, 0, op_al 0 52), (52, 0, op_gf 10 0 55), (55, 0, op_il 5 57), (57, 0, op_call 6 21 2 0 0 0 0 60), (60, 0, op_al 0 61), (61, 0, op_gf 10 0 64)],
  [(64, 0, op_gf 4 1 67), (67, 1, op_goto 0)]]
def tb_X4_put : ab_tab := [[(0, 0, op_push (.inl (none, 24)) 2), (2, 0, op_is 2 3), (3, 0, op_il 2 4), (4, 0, op_if 2 51 7), (7, 0, op_al 0 8), (8, 0, op_gf 4 1 11), (11, 0, op_al 0 12), (12, 0, op_gf 4 0 15), (15, 0, op_len 16)],
  [(16, 0, op_icmp 3 45 19), (19, 0, op_al 0 20), (20, 0, op_gf 4 0 23), (23, 0, op_al 0 24), (24, 0, op_gf 4 1 27), (27, 0, op_il 1 28), (28, 0, op_il 2 29), (29, 0, op_b2 (ab_binK (fun u v => (u.toUInt32 >>> (v.toUInt32 &&& Int32.toUInt32 31)).toInt32)) 30), (30, 0, op_push (.inl (none, 255)) 33)],
  [(33, 0, op_b2 (ab_andK) 34), (34, 0, op_ast 0 35), (35, 0, op_al 0 36), (36, 0, op_dup 37), (37, 0, op_gf 4 1 40), (40, 0, op_push (.inl (none, 1)) 41), (41, 0, op_b2 (ab_addK) 42), (42, 0, op_pf (tyX4 1) 4 1 45), (45, 0, op_inc 2 (-8) 48)],
  [(48, 0, op_goto 3), (51, 2, op_goto 0)]]
def tb_X11_feed : ab_tab := [[(0, 0, op_al 0 1), (1, 0, op_push (.inl (none, 0)) 2), (2, 0, op_pf (tyX11 0) 11 0 5), (5, 0, op_al 0 6), (6, 0, op_gf 11 2 9), (9, 0, op_push (.inl (none, 20)) 11), (11, 0, op_b2 (ab_addK) 12), (12, 0, op_push (.inl (none, 940)) 15), (15, 0, op_icmp 5 20 18)],
  [(19, 1, op_goto 0), (20, 0, op_al 0 21), (21, 0, op_il 1 22), (22, 0, op_call 13 23 2 0 0 0 0 25), (25, 0, op_al 0 26), (26, 0, op_il 2 27), (27, 0, op_call 13 23 2 0 0 0 0 30), (30, 0, op_al 0 31), (31, 0, op_il 3 32)],
  [(32, 0, op_call 13 23 2 0 0 0 0 35), (35, 0, op_al 0 36), (36, 0, op_il 4 38), (38, 0, op_call 13 23 2 0 0 0 0 41), (41, 0, op_al 0 42), (42, 0, op_il 5 44), (44, 0, op_call 13 23 2 0 0 0 0 47), (47, 0, op_al 0 48)],
  [(48, 0, op_gf 11 2 51), (51, 1, op_goto 0)]]
def tb_X11_four : ab_tab := [[(0, 0, op_push (.inl (none, 24)) 2), (2, 0, op_is 2 3), (3, 0, op_il 2 4), (4, 0, op_if 2 36 7), (7, 0, op_al 0 8), (8, 0, op_gf 11 1 11), (11, 0, op_al 0 12), (12, 0, op_gf 11 2 15), (15, 0, op_il 1 16)],
  [(16, 0, op_il 2 17), (17, 0, op_b2 (ab_binK (fun u v => u >>> (v &&& 31))) 18), (18, 0, op_cv (-128) 127 19), (19, 0, op_ast 2 20), (20, 0, op_al 0 21), (21, 0, op_dup 22), (22, 0, op_gf 11 2 25), (25, 0, op_push (.inl (none, 1)) 26), (26, 0, op_b2 (ab_addK) 27), (27, 0, op_pf (tyX11 2) 11 2 30), (30, 0, op_inc 2 (-8) 33)],
  [(33, 0, op_goto 3), (36, 2, op_goto 0)]]
def tb_X10_end : ab_tab := [[(0, 0, op_il 1 1), (1, 0, op_if 2 15 4), (4, 0, op_il 1 5), (5, 0, op_al 0 6), (6, 0, op_gf 10 0 9), (9, 0, op_gf 4 1 12), (12, 0, op_icmp 5 17 15), (15, 0, op_push (.inl (none, 0)) 16)],
  [(16, 1, op_goto 0), (17, 0, op_al 0 18), (18, 0, op_gf 10 0 21), (21, 0, op_il 1 22), (22, 0, op_pf (tyX4 1) 4 1 25), (25, 0, op_push (.inl (none, 1)) 26), (26, 1, op_goto 0)]]
def tb_X11_end : ab_tab := [[(0, 0, op_al 0 1), (1, 0, op_push (.inl (none, 0)) 2), (2, 0, op_pf (tyX11 0) 11 0 5), (5, 0, op_il 1 6), (6, 0, op_if 2 17 9), (9, 0, op_il 1 10), (10, 0, op_al 0 11), (11, 0, op_gf 11 2 14), (14, 0, op_icmp 5 19 17)],
  [(17, 0, op_push (.inl (none, 0)) 18), (18, 1, op_goto 0), (19, 0, op_al 0 20), (20, 0, op_il 1 21), (21, 0, op_pf (tyX11 2) 11 2 24), (24, 0, op_push (.inl (none, 1)) 25), (25, 1, op_goto 0)]]
def tb_X10_valley : ab_tab := [[(0, 0, op_al 0 1), (1, 0, op_gf 10 1 4), (4, 0, op_al 0 5), (5, 0, op_gf 10 3 8), (8, 0, op_al 0 9), (9, 0, op_gf 10 0 12), (12, 0, op_call 11 27 3 0 0 0 0 15), (15, 0, op_is 1 16)],
  [(16, 0, op_al 0 17), (17, 0, op_gf 10 0 20), (20, 0, op_push (.inl (none, 0)) 21), (21, 0, op_pf (tyX4 1) 4 1 24), (24, 0, op_il 1 25), (25, 0, op_push (.inl (none, (-1))) 26), (26, 0, op_icmp 1 39 29)],
  [(38, 1, op_goto 0), (39, 0, op_al 0 40), (40, 0, op_gf 10 2 43), (43, 0, op_as 2 44), (44, 0, op_al 0 45), (45, 0, op_al 0 46), (46, 0, op_gf 10 3 49)],
  [(49, 0, op_pf (tyX10 2) 10 2 52), (52, 0, op_al 0 53), (53, 0, op_al 2 54), (54, 0, op_pf (tyX10 3) 10 3 57), (57, 0, op_al 0 58), (58, 0, op_gf 10 4 61), (61, 0, op_al 0 62), (62, 0, op_gf 10 2 65)],
  [(65, 0, op_call 9 32 2 0 0 0 0 68), (68, 0, op_al 0 69), (69, 0, op_gf 10 7 72), (72, 0, op_push (.inl (none, 0)) 73), (73, 0, op_pf (tyX6 3) 6 3 76), (76, 0, op_al 0 77), (77, 0, op_gf 10 6 80)],
  [(80, 0, op_push (.inl (none, 0)) 81), (81, 0, op_pf (tyX1 1) 1 1 84), (84, 0, op_il 1 85), (85, 1, op_goto 0)]]
def tb_X9_readInto : ab_tab := [[(0, 0, op_al 1 1), (1, 0, op_call 10 28 1 0 0 0 0 4), (4, 0, op_push (.inl (none, 0)) 5), (5, 0, op_is 3 6), (6, 0, op_il 3 7), (7, 0, op_al 0 8), (8, 0, op_gf 9 0 11), (11, 0, op_len 12), (12, 0, op_icmp 3 28 15), (15, 0, op_al 0 16)],
  [(16, 0, op_gf 9 0 19), (19, 0, op_il 3 20), (20, 0, op_push (.inl (none, 0)) 21), (21, 0, op_ast 3 22), (22, 0, op_inc 3 1 25), (25, 0, op_goto 6), (28, 0, op_al 2 29), (29, 0, op_push (.inl (none, 900)) 32)],
  [(32, 0, op_call 6 29 2 0 0 0 0 35), (35, 0, op_push (.inl (none, 0)) 36), (36, 0, op_is 3 37), (37, 0, op_al 2 38), (38, 0, op_call 6 31 1 0 0 0 0 41), (41, 0, op_if 1 77 44)],
  [],
  [(70, 1, op_goto 0), (77, 0, op_il 3 78), (78, 1, op_goto 0)]]
def tb_X8_makeEmpty : ab_tab := [[(0, 0, op_al 0 1), (1, 0, op_push (.inl (none, 0)) 2), (2, 0, op_pf (tyX8 0) 8 0 5), (5, 0, op_al 0 6), (6, 0, op_push (.inl (none, 0)) 7), (7, 0, op_pf (tyX8 4) 8 4 10), (10, 0, op_al 0 11), (11, 0, op_push (.inl (none, 0)) 12), (12, 0, op_pf (tyX8 9) 8 9 15), (15, 0, op_al 0 16)],
  [(16, 0, op_gf 8 15 19), (19, 0, op_push (.inl (none, 0)) 20), (20, 0, op_push (.inl (none, 3)) 21), (21, 0, op_ast 0 22), (22, 0, op_al 0 23), (23, 0, op_gf 8 15 26), (26, 0, op_push (.inl (none, 1)) 27), (27, 0, op_push (.inl (none, 2)) 28), (28, 0, op_ast 0 29), (29, 0, op_al 0 30), (30, 0, op_gf 8 15 33)],
  [(33, 0, op_push (.inl (none, 2)) 34), (34, 0, op_push (.inl (none, 1)) 35), (35, 0, op_ast 0 36), (36, 2, op_goto 0)]]
def tb_X4_begin : ab_tab := [[(0, 0, op_al 0 1), (1, 0, op_il 1 2), (2, 0, op_pf (tyX4 2) 4 2 5), (5, 0, op_al 0 6), (6, 0, op_push (.inl (none, 0)) 7), (7, 0, op_pf (tyX4 3) 4 3 10), (10, 0, op_al 0 11), (11, 0, op_push (.inl (none, 0)) 12), (12, 0, op_pf (tyX4 12) 4 12 15), (15, 0, op_al 0 16)],
  [(16, 0, op_push (.inl (none, 0)) 17), (17, 0, op_pf (tyX4 13) 4 13 20), (20, 0, op_al 0 21), (21, 0, op_call 6 30 1 0 0 0 0 24), (24, 2, op_goto 0)]]
def tb_X4_next : ab_tab := [[(0, 0, op_al 0 1), (1, 0, op_gf 4 3 4), (4, 0, op_al 0 5), (5, 0, op_gf 4 1 8), (8, 0, op_icmp 3 52 11)],
  [],
  [],
  [(52, 0, op_al 0 53), (53, 0, op_al 0 54), (54, 0, op_gf 4 3 57), (57, 0, op_pf (tyX4 4) 4 4 60), (60, 0, op_al 0 61), (61, 0, op_push (.inl (none, 0)) 62), (62, 0, op_pf (tyX4 5) 4 5 65)],
  [(65, 0, op_al 0 66), (66, 0, op_push (.inl (none, (-1))) 67), (67, 0, op_pf (tyX4 8) 4 8 70), (70, 0, op_al 0 71), (71, 0, op_gf 4 1 74), (74, 0, op_al 0 75), (75, 0, op_gf 4 2 78), (78, 0, op_icmp 5 103 81)],
  [],
  [(103, 0, op_al 0 104), (104, 0, op_gf 4 4 107), (107, 0, op_al 0 108), (108, 0, op_gf 4 1 111), (111, 0, op_icmp 2 122 114)],
  [(114, 0, op_al 0 115), (115, 0, op_push (.inl (none, 1)) 116), (116, 0, op_pf (tyX4 5) 4 5 119), (119, 0, op_goto 187)],
  [],
  [],
  [],
  [(187, 2, op_goto 0)]]
def tb_X4_atEnd : ab_tab := [[(0, 0, op_al 0 1), (1, 0, op_gf 4 5 4), (4, 0, op_push (.inl (none, 1)) 5), (5, 0, op_icmp 1 12 8), (8, 0, op_push (.inl (none, 1)) 9), (9, 0, op_goto 13), (13, 1, op_goto 0)]]
def tb_X7_beginIn : ab_tab := [[(0, 0, op_al 0 1), (1, 0, op_push (.inl (none, 0)) 2), (2, 0, op_pf (tyX7 0) 7 0 5), (5, 0, op_al 0 6), (6, 0, op_push (.inl (none, 0)) 7), (7, 0, op_pf (tyX7 1) 7 1 10), (10, 0, op_al 0 11), (11, 0, op_push (.inl (none, 0)) 12), (12, 0, op_pf (tyX7 2) 7 2 15), (15, 0, op_push (.inl (none, 0)) 16)],
  [(16, 0, op_is 2 17), (17, 0, op_il 2 18), (18, 0, op_push (.inl (none, 7)) 20), (20, 0, op_icmp 3 67 23), (23, 0, op_al 0 24), (24, 0, op_gf 7 3 27), (27, 0, op_il 2 28), (28, 0, op_il 2 29), (29, 0, op_al 1 30), (30, 0, op_gf 8 0 33)],
  [(33, 0, op_icmp 3 45 36), (45, 0, op_push (.inl (none, 0)) 46), (46, 0, op_ast 0 47), (47, 0, op_al 0 48)],
  [(48, 0, op_gf 7 4 51), (51, 0, op_il 2 52), (52, 0, op_push (.inl (none, 0)) 53), (53, 0, op_ast 0 54), (54, 0, op_al 0 55), (55, 0, op_gf 7 5 58), (58, 0, op_il 2 59), (59, 0, op_push (.inl (none, 0)) 60), (60, 0, op_ast 0 61), (61, 0, op_inc 2 1 64)],
  [(64, 0, op_goto 17), (67, 2, op_goto 0)]]
def tb_X11_valley : ab_tab := [[(0, 0, op_al 0 1), (1, 0, op_push (.inl (none, 0)) 2), (2, 0, op_pf (tyX11 0) 11 0 5), (5, 0, op_al 0 6), (6, 0, op_push (.inl (none, 900)) 9), (9, 0, op_call 13 34 2 0 0 0 0 12), (12, 0, op_al 0 13), (13, 0, op_push (.inl (none, 0)) 14), (14, 0, op_pf (tyX11 15) 11 15 17)],
  [(17, 0, op_al 0 18), (18, 0, op_push (.inl (none, 0)) 19), (19, 0, op_pf (tyX11 19) 11 19 22), (22, 0, op_al 0 23), (23, 0, op_push (.inl (none, 0)) 24), (24, 0, op_pf (tyX11 20) 11 20 27), (27, 0, op_al 0 28), (28, 0, op_call 13 19 1 0 0 0 0 31), (31, 0, op_al 0 32)],
  [(32, 0, op_call 13 35 1 0 0 0 0 35), (35, 0, op_al 0 36), (36, 0, op_gf 11 11 39), (39, 0, op_if 0 78 42)],
  [],
  [(64, 1, op_goto 0), (78, 0, op_push (.inl (none, 0)) 79), (79, 0, op_is 1 80)],
  [(80, 0, op_il 1 81), (81, 0, op_push (.inl (none, 305)) 84), (84, 0, op_icmp 3 115 87), (87, 0, op_al 0 88), (88, 0, op_gf 11 6 91), (91, 0, op_il 1 92), (92, 0, op_il 1 93), (93, 0, op_push (.inl (none, 100)) 95), (95, 0, op_icmp 3 107 98)],
  [(98, 0, op_al 0 99), (99, 0, op_gf 11 7 102), (102, 0, op_il 1 103), (103, 0, op_ald 0 104), (104, 0, op_goto 108), (107, 0, op_push (.inl (none, 0)) 108), (108, 0, op_ast 0 109), (109, 0, op_inc 1 1 112)],
  [(112, 0, op_goto 80), (115, 0, op_push (.inl (none, 0)) 116), (116, 0, op_is 1 117), (117, 0, op_il 1 118), (118, 0, op_push (.inl (none, 15)) 120), (120, 0, op_icmp 3 144 123), (123, 0, op_al 0 124), (124, 0, op_gf 11 9 127), (127, 0, op_il 1 128)],
  [(128, 0, op_al 0 129), (129, 0, op_gf 11 9 132), (132, 0, op_push (.inl (none, 15)) 134), (134, 0, op_il 1 135), (135, 0, op_b2 (ab_addK) 136), (136, 0, op_ald 1 137), (137, 0, op_ast 1 138), (138, 0, op_inc 1 1 141), (141, 0, op_goto 117)],
  [(144, 0, op_push (.inl (none, 0)) 145), (145, 0, op_is 1 146), (146, 0, op_il 1 147), (147, 0, op_al 0 148), (148, 0, op_gf 11 6 151), (151, 0, op_push (.inl (none, 0)) 152), (152, 0, op_ald 0 153), (153, 0, op_icmp 3 180 156)],
  [],
  [(180, 0, op_al 0 181), (181, 0, op_push (.inl (none, 0)) 182), (182, 0, op_pf (tyX11 23) 11 23 185), (185, 0, op_al 0 186), (186, 0, op_gf 11 19 189), (189, 1, op_goto 0)]]
def tb_X11_taken : ab_tab := [[(0, 0, op_al 0 1), (1, 0, op_al 0 2), (2, 0, op_gf 11 2 5), (5, 0, op_pf (tyX11 3) 11 3 8), (8, 0, op_al 0 9), (9, 0, op_push (.inl (none, 0)) 10), (10, 0, op_pf (tyX11 2) 11 2 13), (13, 0, op_al 0 14), (14, 0, op_push (.inl (none, 0)) 15), (15, 0, op_pf (tyX11 4) 11 4 18)],
  [(18, 0, op_al 0 19), (19, 0, op_il 1 20), (20, 0, op_pf (tyX11 5) 11 5 23), (23, 2, op_goto 0)]]
def tb_X11_next : ab_tab := [[(0, 0, op_al 0 1), (1, 0, op_call 13 36 1 0 0 0 0 4), (4, 0, op_push (.inl (none, 32)) 6), (6, 0, op_icmp 0 18 9), (9, 0, op_al 0 10), (10, 0, op_call 13 36 1 0 0 0 0 13), (13, 0, op_push (.inl (none, 10)) 15), (15, 0, op_icmp 1 31 18)],
  [(31, 0, op_al 0 32)],
  [(32, 0, op_al 0 33), (33, 0, op_gf 11 4 36), (36, 0, op_pf (tyX11 12) 11 12 39), (39, 0, op_al 0 40), (40, 0, op_push (.inl (none, 0)) 41), (41, 0, op_pf (tyX11 13) 11 13 44), (44, 0, op_al 0 45), (45, 0, op_gf 11 3 48)],
  [(48, 0, op_al 0 49), (49, 0, op_gf 11 5 52), (52, 0, op_icmp 5 80 55)],
  [(79, 2, op_goto 0)],
  [(80, 0, op_al 0 81), (81, 0, op_call 13 36 1 0 0 0 0 84), (84, 0, op_is 1 85), (85, 0, op_il 1 86), (86, 0, op_if 3 95 89), (89, 0, op_al 0 90), (90, 0, op_push (.inl (none, 0)) 91), (91, 0, op_pf (tyX11 11) 11 11 94), (94, 2, op_goto 0)],
  [],
  [],
  [],
  [],
  [(163, 2, op_goto 0)],
  [],
  [],
  [],
  [],
  [],
  [],
  [],
  [],
  [],
  [],
  [(336, 2, op_goto 0)]]
def tb_X11_peek : ab_tab := [[(0, 0, op_al 0 1), (1, 0, op_gf 11 4 4), (4, 0, op_al 0 5), (5, 0, op_gf 11 3 8), (8, 0, op_icmp 3 27 11)],
  [(27, 0, op_push (.inl (none, (-1))) 28), (28, 1, op_goto 0)]]
def tb_X10_fault : ab_tab := [[(0, 0, op_al 0 1), (1, 0, op_gf 10 0 4), (4, 0, op_gf 4 12 7), (7, 1, op_goto 0)]]
def tb_X11_fault : ab_tab := [[(0, 0, op_al 0 1), (1, 0, op_push (.inl (none, 0)) 2), (2, 0, op_pf (tyX11 0) 11 0 5), (5, 0, op_al 0 6), (6, 0, op_gf 11 15 9), (9, 1, op_goto 0)]]
def tb_L_town : ab_tab := [[(0, 0, op_al 3 1), (1, 0, op_push (.inl (none, 0)) 2), (2, 0, op_al 0 3), (3, 0, op_il 1 4), (4, 0, op_il 2 5), (5, 0, op_callx 12 40 3 1 6 1 6 8 4 15), (15, 0, op_push (.inl (none, 1)) 16)],
  [(16, 1, op_goto 0), (18, 1, op_goto 0)]]
def tb_X10_town : ab_tab := [[(0, 0, op_al 0 1), (1, 0, op_il 1 2), (2, 0, op_call 12 41 2 0 0 1 6 5), (5, 0, op_if 1 18 8), (8, 3, op_goto 0)],
  [],
  [],
  [],
  [(77, 1, op_goto 0)],
  [(87, 1, op_goto 0)],
  [(104, 1, op_goto 0)],
  [(125, 1, op_goto 0)],
  [(135, 1, op_goto 0)],
  [(145, 1, op_goto 0), (158, 1, op_goto 0)],
  [(175, 1, op_goto 0)],
  [(189, 1, op_goto 0)]]
def tb_X10_hasTown : ab_tab := [[(0, 0, op_il 1 1), (1, 0, op_if 2 19 4), (4, 0, op_il 1 5), (5, 0, op_al 0 6), (6, 0, op_gf 10 2 9), (9, 0, op_gf 8 0 12), (12, 0, op_icmp 3 19 15)],
  [(19, 0, op_push (.inl (none, 0)) 20), (20, 1, op_goto 0)]]
def tb_X11_town : ab_tab := [[(0, 0, op_al 0 1), (1, 0, op_al 0 2), (2, 0, op_il 1 3), (3, 0, op_call 13 43 2 0 0 0 0 6), (6, 0, op_if 0 19 9)],
  [(19, 0, op_push (.inl (none, 1)) 20), (20, 0, op_goto 24), (24, 0, op_call 13 45 2 0 0 0 0 27), (27, 0, op_if 0 32 30), (30, 0, op_push (.inl (none, 0)) 31), (31, 1, op_goto 0)],
  [],
  [],
  [],
  [(89, 1, op_goto 0)],
  [(99, 1, op_goto 0)],
  [(113, 1, op_goto 0), (127, 1, op_goto 0)],
  [(137, 1, op_goto 0)],
  [(147, 1, op_goto 0), (153, 1, op_goto 0)],
  [(165, 1, op_goto 0)],
  [(179, 1, op_goto 0)]]
def tb_X11_isTown : ab_tab := [[(0, 0, op_il 1 1), (1, 0, op_push (.inl (none, 0)) 2), (2, 0, op_al 0 3), (3, 0, op_gf 11 6 6), (6, 0, op_push (.inl (none, 0)) 7), (7, 0, op_ald 0 8), (8, 0, op_push (.inl (none, 1)) 9), (9, 0, op_b2 (ab_subK) 10), (10, 0, op_call 0 44 3 0 0 0 0 13), (13, 1, op_goto 0)]]
def tb_X11_isIn : ab_tab := [[(0, 0, op_il 0 1), (1, 0, op_il 1 2), (2, 0, op_icmp 2 14 5), (5, 0, op_il 0 6), (6, 0, op_il 2 7), (7, 0, op_icmp 4 14 10), (10, 0, op_push (.inl (none, 1)) 11), (11, 0, op_goto 15), (14, 0, op_push (.inl (none, 0)) 15), (15, 1, op_goto 0)]]
def tb_X11_throwsIf : ab_tab := [[(0, 0, op_al 0 1), (1, 0, op_il 1 2), (2, 0, op_if 0 9 5), (5, 0, op_push (.inl (none, 1)) 6), (6, 0, op_goto 10), (9, 0, op_push (.inl (none, 0)) 10), (10, 0, op_pf (tyX11 0) 11 0 13), (13, 0, op_il 1 14), (14, 1, op_goto 0)]]
def tb_X11_thrown : ab_tab := [[(0, 0, op_al 0 1), (1, 0, op_gf 11 0 4), (4, 1, op_goto 0)]]
def tb_L_due : ab_tab := [[(0, 0, op_al 3 1), (1, 0, op_push (.inl (none, 0)) 2), (2, 0, op_al 0 3), (3, 0, op_il 1 4), (4, 0, op_il 2 5), (5, 0, op_callx 12 48 3 1 6 1 6 8 4 15), (15, 0, op_push (.inl (none, 1)) 16)],
  [(16, 1, op_goto 0), (18, 1, op_goto 0)]]
def tb_X10_due : ab_tab := [[(0, 0, op_al 0 1), (1, 0, op_il 1 2), (2, 0, op_call 12 41 2 0 0 1 6 5), (5, 0, op_if 0 19 8)],
  [(19, 3, op_goto 0)],
  [],
  [(57, 1, op_goto 0)]]
def tb_X11_due : ab_tab := [[(0, 0, op_al 0 1), (1, 0, op_al 0 2), (2, 0, op_il 1 3), (3, 0, op_call 13 43 2 0 0 0 0 6), (6, 0, op_if 0 31 9)],
  [(31, 0, op_push (.inl (none, 1)) 32)],
  [(32, 0, op_goto 36), (36, 0, op_call 13 45 2 0 0 0 0 39), (39, 0, op_if 0 44 42), (42, 0, op_push (.inl (none, 0)) 43), (43, 1, op_goto 0)],
  [(50, 1, op_goto 0)]]
def tb_L_train : ab_tab := [[(0, 0, op_al 3 1), (1, 0, op_push (.inl (none, 0)) 2), (2, 0, op_al 0 3), (3, 0, op_il 1 4), (4, 0, op_il 2 5), (5, 0, op_callx 12 51 3 1 6 1 6 8 4 15), (15, 0, op_push (.inl (none, 1)) 16)],
  [(16, 1, op_goto 0), (18, 1, op_goto 0)]]
def tb_X10_train : ab_tab := [[(0, 0, op_al 0 1), (1, 0, op_il 1 2), (2, 0, op_call 12 52 2 0 0 1 6 5), (5, 0, op_if 1 18 8), (8, 3, op_goto 0)],
  [],
  [],
  [],
  [(69, 1, op_goto 0), (79, 1, op_goto 0)],
  [(89, 1, op_goto 0)],
  [(99, 1, op_goto 0)],
  [(112, 1, op_goto 0), (125, 1, op_goto 0)],
  [],
  [(159, 1, op_goto 0)]]
def tb_X10_hasTrain : ab_tab := [[(0, 0, op_il 1 1), (1, 0, op_if 2 19 4), (4, 0, op_il 1 5), (5, 0, op_al 0 6), (6, 0, op_gf 10 2 9), (9, 0, op_gf 8 9 12), (12, 0, op_icmp 3 19 15)],
  [(19, 0, op_push (.inl (none, 0)) 20), (20, 1, op_goto 0)]]
def tb_X11_train : ab_tab := [[(0, 0, op_al 0 1), (1, 0, op_al 0 2), (2, 0, op_il 1 3), (3, 0, op_call 13 54 2 0 0 0 0 6), (6, 0, op_if 0 19 9)],
  [(19, 0, op_push (.inl (none, 1)) 20), (20, 0, op_goto 24), (24, 0, op_call 13 45 2 0 0 0 0 27), (27, 0, op_if 0 32 30), (30, 0, op_push (.inl (none, 0)) 31), (31, 1, op_goto 0)],
  [],
  [],
  [],
  [(81, 1, op_goto 0), (91, 1, op_goto 0)],
  [(101, 1, op_goto 0), (111, 1, op_goto 0)],
  [(117, 1, op_goto 0), (123, 1, op_goto 0)],
  [(143, 1, op_goto 0)]]
def tb_X11_isTrain : ab_tab := [[(0, 0, op_il 1 1), (1, 0, op_push (.inl (none, 0)) 2), (2, 0, op_al 0 3), (3, 0, op_gf 11 6 6), (6, 0, op_push (.inl (none, 2)) 7), (7, 0, op_ald 0 8), (8, 0, op_push (.inl (none, 1)) 9), (9, 0, op_b2 (ab_subK) 10), (10, 0, op_call 0 44 3 0 0 0 0 13), (13, 1, op_goto 0)]]
def tb_L_shows : ab_tab := [[(0, 0, op_al 3 1), (1, 0, op_push (.inl (none, 0)) 2), (2, 0, op_al 0 3), (3, 0, op_il 1 4), (4, 0, op_il 2 5), (5, 0, op_callx 12 56 3 1 6 1 6 8 4 15), (15, 0, op_push (.inl (none, 1)) 16)],
  [(16, 1, op_goto 0), (18, 1, op_goto 0)]]
def tb_X10_shows : ab_tab := [[(0, 0, op_al 0 1), (1, 0, op_il 1 2), (2, 0, op_call 12 41 2 0 0 1 6 5), (5, 0, op_if 0 30 8)],
  [(30, 3, op_goto 0)],
  [],
  [(54, 1, op_goto 0)]]
def tb_X11_shows : ab_tab := [[(0, 0, op_al 0 1), (1, 0, op_al 0 2), (2, 0, op_il 1 3), (3, 0, op_call 13 43 2 0 0 0 0 6), (6, 0, op_if 0 28 9)],
  [(28, 0, op_push (.inl (none, 1)) 29), (29, 0, op_goto 33)],
  [(33, 0, op_call 13 45 2 0 0 0 0 36), (36, 0, op_if 0 41 39), (39, 0, op_push (.inl (none, 0)) 40), (40, 1, op_goto 0)],
  [(48, 1, op_goto 0)]]
def tb_L_now : ab_tab := [[(0, 0, op_al 2 1), (1, 0, op_push (.inl (none, 0)) 2), (2, 0, op_al 0 3), (3, 0, op_il 1 4), (4, 0, op_callx 12 59 2 1 6 1 6 7 3 13), (7, 0, op_i2l 8), (8, 0, op_ast 1 9), (9, 0, op_goto 15), (13, 0, op_push (.inl (none, 1)) 14), (14, 1, op_goto 0), (15, 0, op_push (.inl (none, 0)) 16)],
  [(16, 1, op_goto 0)]]
def tb_X10_now : ab_tab := [[(0, 0, op_il 1 1), (1, 0, op_tsw 0 6 [44, 52, 57, 69, 77, 89, 101] 106)],
  [],
  [(44, 0, op_al 0 45), (45, 0, op_gf 10 4 48)],
  [(48, 0, op_gf 7 0 51), (51, 1, op_goto 0), (52, 0, op_al 0 53), (53, 0, op_call 12 60 1 0 0 1 6 56), (56, 1, op_goto 0), (57, 0, op_al 0 58), (58, 0, op_gf 10 4 61), (61, 0, op_al 0 62), (62, 0, op_gf 10 2 65)],
  [(65, 0, op_call 9 62 2 0 0 1 6 68), (68, 1, op_goto 0), (69, 0, op_al 0 70), (70, 0, op_gf 10 4 73), (73, 0, op_gf 7 1 76), (76, 1, op_goto 0), (77, 0, op_al 0 78), (78, 0, op_al 0 79), (79, 0, op_gf 10 4 82)],
  [(82, 0, op_gf 7 4 85), (85, 0, op_call 12 61 2 0 0 1 6 88), (88, 1, op_goto 0), (89, 0, op_al 0 90), (90, 0, op_al 0 91), (91, 0, op_gf 10 4 94), (94, 0, op_gf 7 5 97)],
  [(97, 0, op_call 12 61 2 0 0 1 6 100), (100, 1, op_goto 0), (101, 0, op_al 0 102), (102, 0, op_call 12 63 1 0 0 1 6 105), (105, 1, op_goto 0), (106, 3, op_goto 0)]]
def tb_X10_bendsAdded : ab_tab := [[(0, 0, op_al 0 1), (1, 0, op_al 0 2), (2, 0, op_gf 10 4 5), (5, 0, op_gf 7 3 8), (8, 0, op_call 12 61 2 0 0 0 0 11), (11, 1, op_goto 0)]]
def tb_X10_added : ab_tab := [[(0, 0, op_push (.inl (none, 0)) 1), (1, 0, op_is 2 2), (2, 0, op_push (.inl (none, 0)) 3), (3, 0, op_is 3 4), (4, 0, op_il 3 5), (5, 0, op_al 0 6), (6, 0, op_gf 10 2 9), (9, 0, op_gf 8 0 12), (12, 0, op_icmp 3 27 15)],
  [(27, 0, op_il 2 28), (28, 1, op_goto 0)]]
def tb_X7_breachBits : ab_tab := [[(0, 0, op_push (.inl (none, 0)) 1), (1, 0, op_is 2 2), (2, 0, op_push (.inl (none, 0)) 3), (3, 0, op_is 3 4), (4, 0, op_il 3 5), (5, 0, op_al 1 6), (6, 0, op_gf 8 0 9), (9, 0, op_icmp 3 33 12)],
  [],
  [(33, 0, op_il 2 34), (34, 1, op_goto 0)]]
def tb_X10_minutesOff : ab_tab := [[(0, 0, op_push (.inl (none, 0)) 1), (1, 0, op_is 1 2), (2, 0, op_push (.inl (none, 0)) 3), (3, 0, op_is 2 4), (4, 0, op_il 2 5), (5, 0, op_al 0 6), (6, 0, op_gf 10 2 9), (9, 0, op_gf 8 0 12), (12, 0, op_icmp 3 36 15)],
  [],
  [(36, 0, op_il 1 37), (37, 1, op_goto 0)]]
def tb_X11_now : ab_tab := [[(0, 0, op_al 0 1), (1, 0, op_il 1 2), (2, 0, op_push (.inl (none, 0)) 3), (3, 0, op_push (.inl (none, 6)) 5), (5, 0, op_call 0 44 3 0 0 0 0 8), (8, 0, op_if 1 15 11), (11, 0, op_push (.inl (none, 1)) 12), (12, 0, op_goto 16), (15, 0, op_push (.inl (none, 0)) 16)],
  [(16, 0, op_call 13 45 2 0 0 0 0 19), (19, 0, op_if 0 24 22), (22, 0, op_push (.inl (none, 0)) 23), (23, 1, op_goto 0), (24, 0, op_il 1 25), (25, 0, op_tsw 0 5 [64, 72, 79, 84, 92, 99] 106)],
  [],
  [],
  [(64, 0, op_al 0 65), (65, 0, op_gf 11 6 68), (68, 0, op_push (.inl (none, 100)) 70), (70, 0, op_ald 0 71), (71, 1, op_goto 0), (72, 0, op_al 0 73), (73, 0, op_push (.inl (none, 103)) 75), (75, 0, op_call 13 65 2 0 0 0 0 78), (78, 1, op_goto 0), (79, 0, op_al 0 80)],
  [(80, 0, op_call 13 66 1 0 0 0 0 83), (83, 1, op_goto 0), (84, 0, op_al 0 85), (85, 0, op_gf 11 6 88), (88, 0, op_push (.inl (none, 101)) 90), (90, 0, op_ald 0 91), (91, 1, op_goto 0), (92, 0, op_al 0 93), (93, 0, op_push (.inl (none, 110)) 95), (95, 0, op_call 13 65 2 0 0 0 0 98)],
  [(98, 1, op_goto 0), (99, 0, op_al 0 100), (100, 0, op_push (.inl (none, 117)) 102), (102, 0, op_call 13 65 2 0 0 0 0 105), (105, 1, op_goto 0), (106, 0, op_push (.inl (none, 0)) 107), (107, 0, op_is 2 108), (108, 0, op_push (.inl (none, 0)) 109), (109, 0, op_is 3 110), (110, 0, op_il 3 111), (111, 0, op_al 0 112)],
  [(112, 0, op_gf 11 6 115), (115, 0, op_push (.inl (none, 0)) 116), (116, 0, op_ald 0 117), (117, 0, op_icmp 3 141 120)],
  [(141, 0, op_il 2 142), (142, 1, op_goto 0)]]
def tb_X11_sumOf : ab_tab := [[(0, 0, op_push (.inl (none, 0)) 1), (1, 0, op_is 2 2), (2, 0, op_push (.inl (none, 0)) 3), (3, 0, op_is 3 4), (4, 0, op_il 3 5), (5, 0, op_al 0 6), (6, 0, op_gf 11 6 9), (9, 0, op_push (.inl (none, 0)) 10), (10, 0, op_ald 0 11), (11, 0, op_icmp 3 31 14)],
  [(31, 0, op_il 2 32)],
  [(32, 1, op_goto 0)]]
def tb_X11_breachSet : ab_tab := [[(0, 0, op_push (.inl (none, 0)) 1), (1, 0, op_is 1 2), (2, 0, op_push (.inl (none, 0)) 3), (3, 0, op_is 2 4), (4, 0, op_il 2 5), (5, 0, op_al 0 6), (6, 0, op_gf 11 6 9), (9, 0, op_push (.inl (none, 0)) 10), (10, 0, op_ald 0 11), (11, 0, op_icmp 3 38 14)],
  [],
  [(38, 0, op_il 1 39), (39, 1, op_goto 0)]]
def tb_X10_bend : ab_tab := [[(0, 0, op_al 0 1), (1, 0, op_il 1 2), (2, 0, op_call 12 41 2 0 0 0 0 5), (5, 0, op_if 0 24 8)],
  [(24, 0, op_push (.inl (none, (-1))) 25), (25, 1, op_goto 0)],
  [],
  [],
  [(65, 1, op_goto 0)]]
def tb_X11_bend : ab_tab := [[(0, 0, op_al 0 1), (1, 0, op_push (.inl (none, 0)) 2), (2, 0, op_pf (tyX11 0) 11 0 5), (5, 0, op_al 0 6), (6, 0, op_il 1 7), (7, 0, op_call 13 43 2 0 0 0 0 10), (10, 0, op_if 0 28 13)],
  [(28, 0, op_push (.inl (none, (-1))) 29), (29, 1, op_goto 0)],
  [(42, 1, op_goto 0)],
  [(54, 1, op_goto 0)]]
def tb_X10_shade : ab_tab := [[(0, 0, op_al 0 1), (1, 0, op_il 1 2), (2, 0, op_call 12 41 2 0 0 0 0 5), (5, 0, op_if 1 10 8), (8, 0, op_push (.inl (none, (-1))) 9), (9, 1, op_goto 0)],
  [(22, 1, op_goto 0)],
  [(43, 1, op_goto 0)]]
def tb_X11_shade : ab_tab := [[(0, 0, op_al 0 1), (1, 0, op_push (.inl (none, 0)) 2), (2, 0, op_pf (tyX11 0) 11 0 5), (5, 0, op_al 0 6), (6, 0, op_il 1 7), (7, 0, op_call 13 43 2 0 0 0 0 10), (10, 0, op_if 1 15 13), (13, 0, op_push (.inl (none, (-1))) 14), (14, 1, op_goto 0)],
  [(24, 1, op_goto 0)],
  [(43, 1, op_goto 0)]]
def tb_X10_clear : ab_tab := [[(0, 0, op_al 0 1), (1, 0, op_il 1 2), (2, 0, op_call 12 41 2 0 0 0 0 5), (5, 0, op_if 1 10 8), (8, 0, op_push (.inl (none, (-1))) 9), (9, 1, op_goto 0)],
  [(22, 1, op_goto 0)],
  [(43, 1, op_goto 0)]]
def tb_X11_clear : ab_tab := [[(0, 0, op_al 0 1), (1, 0, op_push (.inl (none, 0)) 2), (2, 0, op_pf (tyX11 0) 11 0 5), (5, 0, op_al 0 6), (6, 0, op_il 1 7), (7, 0, op_call 13 43 2 0 0 0 0 10), (10, 0, op_if 1 15 13), (13, 0, op_push (.inl (none, (-1))) 14), (14, 1, op_goto 0)],
  [(24, 1, op_goto 0)],
  [(45, 1, op_goto 0)]]
def tb_X10_freeze : ab_tab := [[(0, 0, op_al 0 1), (1, 0, op_gf 10 6 4), (4, 0, op_al 0 5), (5, 0, op_gf 10 4 8), (8, 0, op_call 3 74 2 0 0 0 0 11), (11, 0, op_al 0 12), (12, 0, op_gf 10 4 15), (15, 0, op_al 0 16)],
  [(16, 0, op_gf 10 2 19), (19, 0, op_call 9 76 2 0 0 0 0 22), (22, 1, op_goto 0)]]
def tb_X1_keep : ab_tab := [[(0, 0, op_al 0 1), (1, 0, op_gf 1 1 4), (4, 0, op_push (.inl (none, 8)) 6), (6, 0, op_icmp 2 60 9)],
  [],
  [],
  [(60, 0, op_al 0 61), (61, 0, op_gf 1 0 64)],
  [(64, 0, op_al 0 65), (65, 0, op_gf 1 1 68), (68, 0, op_aald 7 69), (69, 0, op_al 1 70), (70, 0, op_call 9 75 2 0 0 0 0 73), (73, 0, op_al 0 74), (74, 0, op_dup 75), (75, 0, op_gf 1 1 78), (78, 0, op_push (.inl (none, 1)) 79), (79, 0, op_b2 (ab_addK) 80)],
  [(80, 0, op_pf (tyX1 1) 1 1 83), (83, 2, op_goto 0)]]
def tb_X7_copyFrom : ab_tab := [[(0, 0, op_al 0 1), (1, 0, op_al 1 2), (2, 0, op_gf 7 0 5), (5, 0, op_pf (tyX7 0) 7 0 8), (8, 0, op_al 0 9), (9, 0, op_al 1 10), (10, 0, op_gf 7 1 13), (13, 0, op_pf (tyX7 1) 7 1 16)],
  [(16, 0, op_al 0 17), (17, 0, op_al 1 18), (18, 0, op_gf 7 2 21), (21, 0, op_pf (tyX7 2) 7 2 24), (24, 0, op_al 1 25), (25, 0, op_gf 7 3 28), (28, 0, op_push (.inl (none, 0)) 29), (29, 0, op_al 0 30), (30, 0, op_gf 7 3 33)],
  [(33, 0, op_push (.inl (none, 0)) 34), (34, 0, op_push (.inl (none, 7)) 36), (36, 0, op_ac 0 39), (39, 0, op_al 1 40), (40, 0, op_gf 7 4 43), (43, 0, op_push (.inl (none, 0)) 44), (44, 0, op_al 0 45), (45, 0, op_gf 7 4 48)],
  [(48, 0, op_push (.inl (none, 0)) 49), (49, 0, op_push (.inl (none, 7)) 51), (51, 0, op_ac 0 54), (54, 0, op_al 1 55), (55, 0, op_gf 7 5 58), (58, 0, op_push (.inl (none, 0)) 59), (59, 0, op_al 0 60), (60, 0, op_gf 7 5 63), (63, 0, op_push (.inl (none, 0)) 64)],
  [(64, 0, op_push (.inl (none, 7)) 66), (66, 0, op_ac 0 69), (69, 2, op_goto 0)]]
def tb_X7_springBack : ab_tab := [[(0, 0, op_push (.inl (none, 0)) 1), (1, 0, op_is 2 2), (2, 0, op_push (.inl (none, 0)) 3), (3, 0, op_is 3 4), (4, 0, op_il 3 5), (5, 0, op_al 1 6), (6, 0, op_gf 8 0 9), (9, 0, op_icmp 3 58 12)],
  [],
  [],
  [(58, 0, op_il 2 59), (59, 1, op_goto 0)]]
def tb_X11_freeze : ab_tab := [[(0, 0, op_al 0 1), (1, 0, op_push (.inl (none, 0)) 2), (2, 0, op_pf (tyX11 0) 11 0 5), (5, 0, op_al 0 6), (6, 0, op_call 13 78 1 0 0 0 0 9), (9, 0, op_al 0 10), (10, 0, op_call 13 79 1 0 0 0 0 13), (13, 1, op_goto 0)]]
def tb_X11_keep : ab_tab := [[(0, 0, op_al 0 1), (1, 0, op_gf 11 23 4), (4, 0, op_push (.inl (none, 8)) 6), (6, 0, op_icmp 1 45 9)],
  [],
  [(45, 0, op_push (.inl (none, 0)) 46), (46, 0, op_is 1 47), (47, 0, op_il 1 48)],
  [(48, 0, op_push (.inl (none, 24)) 50), (50, 0, op_icmp 3 82 53), (53, 0, op_al 0 54), (54, 0, op_gf 11 21 57), (57, 0, op_push (.inl (none, 24)) 59), (59, 0, op_al 0 60), (60, 0, op_gf 11 23 63), (63, 0, op_b2 (ab_binK (fun u v => u * v)) 64)],
  [(64, 0, op_il 1 65), (65, 0, op_b2 (ab_addK) 66), (66, 0, op_al 0 67), (67, 0, op_gf 11 6 70), (70, 0, op_push (.inl (none, 100)) 72), (72, 0, op_il 1 73), (73, 0, op_b2 (ab_addK) 74), (74, 0, op_ald 0 75), (75, 0, op_ast 0 76), (76, 0, op_inc 1 1 79), (79, 0, op_goto 47)],
  [(82, 0, op_al 0 83), (83, 0, op_dup 84), (84, 0, op_gf 11 23 87), (87, 0, op_push (.inl (none, 1)) 88), (88, 0, op_b2 (ab_addK) 89), (89, 0, op_pf (tyX11 23) 11 23 92), (92, 2, op_goto 0)]]
def tb_X11_freezes : ab_tab := [[(0, 0, op_push (.inl (none, 0)) 1), (1, 0, op_is 1 2), (2, 0, op_push (.inl (none, 0)) 3), (3, 0, op_is 2 4), (4, 0, op_il 2 5), (5, 0, op_al 0 6), (6, 0, op_gf 11 6 9), (9, 0, op_push (.inl (none, 0)) 10), (10, 0, op_ald 0 11), (11, 0, op_icmp 3 75 14)],
  [],
  [],
  [],
  [(75, 0, op_il 1 76), (76, 1, op_goto 0)]]
def tb_X10_days : ab_tab := [[(0, 0, op_il 1 1), (1, 0, op_push (.inl (none, 1)) 2), (2, 0, op_icmp 2 11 5), (5, 0, op_il 1 6), (6, 0, op_push (.inl (none, 60)) 8), (8, 0, op_icmp 5 13 11), (11, 0, op_push (.inl (none, (-1))) 12), (12, 1, op_goto 0), (13, 0, op_il 1 14), (14, 0, op_push (.inl (none, 400)) 17)],
  [(17, 0, op_al 0 18), (18, 0, op_gf 10 4 21), (21, 0, op_gf 7 0 24), (24, 0, op_b2 (ab_subK) 25), (25, 0, op_mmin 0 0 28), (28, 0, op_is 2 29), (29, 0, op_il 2 30), (30, 0, op_if 5 44 33)],
  [(33, 0, op_al 0 34), (34, 0, op_gf 10 6 37), (37, 0, op_al 0 38), (38, 0, op_gf 10 4 41), (41, 0, op_call 3 74 2 0 0 0 0 44), (44, 0, op_al 0 45), (45, 0, op_gf 10 4 48)],
  [(48, 0, op_al 0 49), (49, 0, op_gf 10 2 52), (52, 0, op_il 2 53), (53, 0, op_call 9 81 3 0 0 0 0 56), (56, 0, op_il 2 57), (57, 1, op_goto 0)]]
def tb_X7_passDays : ab_tab := [[(0, 0, op_push (.inl (none, 0)) 1), (1, 0, op_is 3 2), (2, 0, op_il 3 3), (3, 0, op_il 2 4), (4, 0, op_icmp 3 28 7), (7, 0, op_al 0 8), (8, 0, op_gf 7 0 11), (11, 0, op_push (.inl (none, 400)) 14), (14, 0, op_icmp 3 28 17)],
  [(17, 0, op_al 0 18), (18, 0, op_al 1 19), (19, 0, op_call 9 82 2 0 0 0 0 22), (22, 0, op_inc 3 1 25), (25, 0, op_goto 2), (28, 2, op_goto 0)]]
def tb_X7_passDay : ab_tab := [[(0, 0, op_push (.inl (none, 0)) 1), (1, 0, op_is 2 2), (2, 0, op_il 2 3), (3, 0, op_al 1 4), (4, 0, op_gf 8 0 7), (7, 0, op_icmp 3 43 10)],
  [],
  [(43, 0, op_al 0 44), (44, 0, op_dup 45), (45, 0, op_gf 7 0 48)],
  [(48, 0, op_push (.inl (none, 1)) 49), (49, 0, op_b2 (ab_addK) 50), (50, 0, op_pf (tyX7 0) 7 0 53), (53, 0, op_al 0 54), (54, 0, op_push (.inl (none, 0)) 55), (55, 0, op_pf (tyX7 2) 7 2 58), (58, 2, op_goto 0)]]
def tb_X11_days : ab_tab := [[(0, 0, op_al 0 1), (1, 0, op_push (.inl (none, 0)) 2), (2, 0, op_pf (tyX11 0) 11 0 5), (5, 0, op_il 1 6), (6, 0, op_push (.inl (none, 1)) 7), (7, 0, op_push (.inl (none, 60)) 9), (9, 0, op_call 0 44 3 0 0 0 0 12), (12, 0, op_if 1 17 15), (15, 0, op_push (.inl (none, (-1))) 16)],
  [(16, 1, op_goto 0), (17, 0, op_al 0 18), (18, 0, op_gf 11 6 21), (21, 0, op_push (.inl (none, 100)) 23), (23, 0, op_ald 0 24), (24, 0, op_push (.inl (none, 400)) 27), (27, 0, op_icmp 1 32 30), (31, 1, op_goto 0)],
  [(32, 0, op_al 0 33), (33, 0, op_call 13 78 1 0 0 0 0 36), (36, 0, op_al 0 37), (37, 0, op_il 1 38), (38, 0, op_call 13 84 2 0 0 0 0 41), (41, 1, op_goto 0)]]
def tb_X11_goesOn : ab_tab := [[(0, 0, op_push (.inl (none, 0)) 1), (1, 0, op_is 2 2), (2, 0, op_il 2 3), (3, 0, op_il 1 4), (4, 0, op_icmp 3 96 7), (7, 0, op_al 0 8), (8, 0, op_gf 11 6 11), (11, 0, op_push (.inl (none, 100)) 13), (13, 0, op_ald 0 14), (14, 0, op_push (.inl (none, 400)) 17)],
  [(17, 0, op_icmp 3 96 20), (20, 0, op_push (.inl (none, 0)) 21), (21, 0, op_is 3 22), (22, 0, op_il 3 23), (23, 0, op_al 0 24), (24, 0, op_gf 11 6 27), (27, 0, op_push (.inl (none, 0)) 28), (28, 0, op_ald 0 29), (29, 0, op_icmp 3 71 32)],
  [],
  [],
  [(71, 0, op_al 0 72), (72, 0, op_gf 11 6 75), (75, 0, op_push (.inl (none, 102)) 77), (77, 0, op_push (.inl (none, 0)) 78), (78, 0, op_ast 0 79), (79, 0, op_al 0 80)],
  [(80, 0, op_gf 11 6 83), (83, 0, op_push (.inl (none, 100)) 85), (85, 0, op_dup2 86), (86, 0, op_ald 0 87), (87, 0, op_push (.inl (none, 1)) 88), (88, 0, op_b2 (ab_addK) 89), (89, 0, op_ast 0 90), (90, 0, op_inc 2 1 93), (93, 0, op_goto 2)],
  [(96, 0, op_il 2 97), (97, 1, op_goto 0)]]
def tb_X10_undo : ab_tab := [[(0, 0, op_al 0 1), (1, 0, op_gf 10 6 4), (4, 0, op_al 0 5), (5, 0, op_gf 10 4 8), (8, 0, op_call 3 86 2 0 0 0 0 11), (11, 1, op_goto 0)]]
def tb_X1_takeBack : ab_tab := [[(0, 0, op_al 0 1), (1, 0, op_gf 1 1 4), (4, 0, op_if 4 9 7), (7, 0, op_push (.inl (none, (-1))) 8), (8, 1, op_goto 0)],
  [],
  [(36, 1, op_goto 0)]]
def tb_X11_undo : ab_tab := [[(0, 0, op_al 0 1), (1, 0, op_push (.inl (none, 0)) 2), (2, 0, op_pf (tyX11 0) 11 0 5), (5, 0, op_al 0 6), (6, 0, op_gf 11 23 9), (9, 0, op_if 1 14 12), (12, 0, op_push (.inl (none, (-1))) 13), (13, 1, op_goto 0)],
  [],
  [],
  [],
  [(65, 1, op_goto 0)]]
def tb_L_noonLong : ab_tab := [[(0, 0, op_al 1 1), (1, 0, op_push (.inl (none, 0)) 2), (2, 0, op_al 0 3), (3, 0, op_callx 12 89 1 1 6 1 6 6 2 12), (12, 0, op_push (.inl (none, 1)) 13), (13, 1, op_goto 0), (15, 1, op_goto 0)]]
def tb_X10_noonLong : ab_tab := [[(0, 0, op_push (.inl (none, 10000)) 3), (3, 0, op_is 1 4), (4, 0, op_push (.inl (none, (-10000))) 7), (7, 0, op_is 2 8), (8, 0, op_push (.inl (none, 0)) 9), (9, 0, op_is 3 10), (10, 0, op_il 3 11), (11, 0, op_al 0 12), (12, 0, op_gf 10 2 15), (15, 0, op_gf 8 0 18)],
  [(18, 0, op_icmp 3 72 21)],
  [],
  [],
  [(72, 0, op_il 1 73), (73, 0, op_push (.inl (none, 10000)) 76), (76, 0, op_icmp 1 90 79), (79, 3, op_goto 0)],
  [(93, 1, op_goto 0)]]
def tb_X11_noonLong : ab_tab := [[(0, 0, op_al 0 1), (1, 0, op_push (.inl (none, (-1))) 2), (2, 0, op_call 13 91 2 0 0 0 0 5), (5, 0, op_is 1 6), (6, 0, op_al 0 7), (7, 0, op_il 1 8), (8, 0, op_if 1 15 11), (11, 0, op_push (.inl (none, 1)) 12), (12, 0, op_goto 16)],
  [(16, 0, op_call 13 45 2 0 0 0 0 19), (19, 0, op_if 0 26 22), (22, 0, op_push (.inl (none, 0)) 23), (23, 0, op_goto 41)],
  [(41, 1, op_goto 0)]]
def tb_X11_sorts : ab_tab := [[(0, 0, op_push (.inl (none, 0)) 1), (1, 0, op_is 2 2), (2, 0, op_push (.inl (none, 0)) 3), (3, 0, op_is 3 4), (4, 0, op_il 3 5), (5, 0, op_al 0 6), (6, 0, op_gf 11 6 9), (9, 0, op_push (.inl (none, 0)) 10), (10, 0, op_ald 0 11), (11, 0, op_icmp 3 98 14)],
  [],
  [],
  [],
  [],
  [],
  [(98, 0, op_il 2 99), (99, 1, op_goto 0)]]
def tb_L_oneNoon : ab_tab := [[(0, 0, op_al 1 1), (1, 0, op_push (.inl (none, 0)) 2), (2, 0, op_al 0 3), (3, 0, op_callx 12 93 1 1 6 1 6 6 2 12), (12, 0, op_push (.inl (none, 1)) 13), (13, 1, op_goto 0), (15, 1, op_goto 0)]]
def tb_X10_oneNoon : ab_tab := [[(0, 0, op_al 0 1), (1, 0, op_gf 10 4 4), (4, 0, op_al 0 5), (5, 0, op_gf 10 2 8), (8, 0, op_push (.inl (none, (-1))) 9), (9, 0, op_call 9 94 3 0 0 1 6 12), (12, 0, op_is 1 13), (13, 0, op_il 1 14), (14, 0, op_push (.inl (none, 10000)) 17)],
  [(17, 0, op_icmp 1 31 20), (20, 3, op_goto 0)],
  [(32, 1, op_goto 0)]]
def tb_X7_middleNoon : ab_tab := [[(0, 0, op_push (.inl (none, 0)) 1), (1, 0, op_is 3 2), (2, 0, op_push (.inl (none, 0)) 3), (3, 0, op_is 4 5), (5, 0, op_il 4 7), (7, 0, op_al 1 8), (8, 0, op_gf 8 0 11), (11, 0, op_icmp 3 38 14)],
  [],
  [(38, 0, op_push (.inl (none, 10000)) 41), (41, 0, op_is 4 43), (43, 0, op_push (.inl (none, 0)) 44), (44, 0, op_is 5 46), (46, 0, op_il 5 48)],
  [(48, 0, op_al 1 49), (49, 0, op_gf 8 0 52), (52, 0, op_icmp 3 110 55)],
  [],
  [],
  [(110, 0, op_il 4 112)],
  [(112, 1, op_goto 0)]]
def tb_X11_oneNoon : ab_tab := [[(0, 0, op_al 0 1), (1, 0, op_push (.inl (none, (-1))) 2), (2, 0, op_call 13 91 2 0 0 0 0 5), (5, 0, op_is 1 6), (6, 0, op_al 0 7), (7, 0, op_il 1 8), (8, 0, op_if 1 15 11), (11, 0, op_push (.inl (none, 1)) 12), (12, 0, op_goto 16)],
  [(16, 0, op_call 13 45 2 0 0 0 0 19), (19, 0, op_if 0 26 22), (22, 0, op_push (.inl (none, 0)) 23), (23, 0, op_goto 36)],
  [(36, 1, op_goto 0)]]
def tb_X10_even : ab_tab := [[(0, 0, op_al 0 1), (1, 0, op_call 12 60 1 0 0 0 0 4), (4, 0, op_is 1 5), (5, 0, op_il 1 6), (6, 0, op_if 5 13 9), (13, 0, op_push (.inl (none, 1)) 14), (14, 0, op_is 2 15), (15, 0, op_il 1 16)],
  [(16, 0, op_mabs 0 0 19), (19, 0, op_is 3 20), (20, 0, op_push (.inl (none, 0)) 21), (21, 0, op_is 4 23), (23, 0, op_push (.inl (none, 0)) 24), (24, 0, op_is 5 26), (26, 0, op_il 5 28), (28, 0, op_al 0 29), (29, 0, op_gf 10 2 32)],
  [(32, 0, op_gf 8 0 35), (35, 0, op_icmp 3 56 38)],
  [(56, 0, op_il 4 58), (58, 0, op_il 3 59), (59, 0, op_icmp 3 64 62), (63, 1, op_goto 0)],
  [(64, 0, op_il 3 65), (65, 0, op_is 5 67), (67, 0, op_push (.inl (none, 0)) 68), (68, 0, op_is 6 70), (70, 0, op_il 6 72), (72, 0, op_al 0 73), (73, 0, op_gf 10 2 76), (76, 0, op_gf 8 0 79), (79, 0, op_icmp 3 129 82)],
  [],
  [],
  [],
  [(129, 0, op_al 0 130), (130, 0, op_al 0 131), (131, 0, op_gf 10 2 134), (134, 0, op_gf 8 0 137), (137, 0, op_pf (tyX10 14) 10 14 140), (140, 0, op_il 3 141), (141, 1, op_goto 0)]]
def tb_X11_even : ab_tab := [[(0, 0, op_al 0 1), (1, 0, op_push (.inl (none, 0)) 2), (2, 0, op_pf (tyX11 0) 11 0 5), (5, 0, op_al 0 6), (6, 0, op_push (.inl (none, 103)) 8), (8, 0, op_call 13 65 2 0 0 0 0 11), (11, 0, op_is 1 12), (12, 0, op_il 1 13), (13, 0, op_if 3 20 16)],
  [(20, 0, op_push (.inl (none, 0)) 21), (21, 0, op_is 2 22), (22, 0, op_il 1 23), (23, 0, op_call 0 98 1 0 0 0 0 26), (26, 0, op_is 3 27), (27, 0, op_push (.inl (none, 0)) 28), (28, 0, op_is 4 30), (30, 0, op_push (.inl (none, 0)) 31), (31, 0, op_is 5 33)],
  [(33, 0, op_il 5 35), (35, 0, op_al 0 36), (36, 0, op_gf 11 6 39), (39, 0, op_push (.inl (none, 0)) 40), (40, 0, op_ald 0 41), (41, 0, op_icmp 3 62 44)],
  [(62, 0, op_il 4 64)],
  [(64, 0, op_il 3 65), (65, 0, op_icmp 3 70 68), (69, 1, op_goto 0), (70, 0, op_al 0 71), (71, 0, op_al 0 72), (72, 0, op_gf 11 6 75), (75, 0, op_push (.inl (none, 0)) 76), (76, 0, op_ald 0 77), (77, 0, op_pf (tyX11 27) 11 27 80)],
  [(80, 0, op_push (.inl (none, 0)) 81), (81, 0, op_is 5 83), (83, 0, op_il 5 85), (85, 0, op_al 0 86), (86, 0, op_gf 11 6 89), (89, 0, op_push (.inl (none, 0)) 90), (90, 0, op_ald 0 91), (91, 0, op_icmp 3 146 94)],
  [],
  [],
  [],
  [(146, 0, op_il 1 147), (147, 0, op_call 0 98 1 0 0 0 0 150), (150, 1, op_goto 0)]]
def tb_X11_absolute : ab_tab := [[(0, 0, op_il 0 1), (1, 0, op_if 3 9 4), (9, 0, op_il 0 10), (10, 1, op_goto 0)]]
def tb_L_evenAt : ab_tab := [[(0, 0, op_al 2 1), (1, 0, op_push (.inl (none, 0)) 2), (2, 0, op_al 0 3), (3, 0, op_il 1 4), (4, 0, op_callx 12 100 2 1 6 1 6 7 3 13), (13, 0, op_push (.inl (none, 1)) 14), (14, 1, op_goto 0)],
  [(16, 1, op_goto 0)]]
def tb_X10_evenAt : ab_tab := [[(0, 0, op_il 1 1), (1, 0, op_if 2 12 4), (4, 0, op_il 1 5), (5, 0, op_al 0 6), (6, 0, op_gf 10 14 9), (9, 0, op_icmp 2 23 12), (12, 3, op_goto 0)],
  [(29, 1, op_goto 0)]]
def tb_X11_evenAt : ab_tab := [[(0, 0, op_al 0 1), (1, 0, op_il 1 2), (2, 0, op_push (.inl (none, 0)) 3), (3, 0, op_al 0 4), (4, 0, op_gf 11 27 7), (7, 0, op_push (.inl (none, 1)) 8), (8, 0, op_b2 (ab_subK) 9), (9, 0, op_call 0 44 3 0 0 0 0 12), (12, 0, op_if 1 19 15), (15, 0, op_push (.inl (none, 1)) 16)],
  [(16, 0, op_goto 20), (20, 0, op_call 13 45 2 0 0 0 0 23), (23, 0, op_if 0 30 26), (26, 0, op_push (.inl (none, 0)) 27), (27, 0, op_goto 36)],
  [(36, 1, op_goto 0)]]
def tb_X10_kept : ab_tab := [[(0, 0, op_al 0 1), (1, 0, op_gf 10 5 4), (4, 0, op_al 0 5), (5, 0, op_gf 10 4 8), (8, 0, op_call 9 75 2 0 0 0 0 11), (11, 0, op_push (.inl (none, 0)) 12), (12, 0, op_is 1 13), (13, 0, op_il 1 14), (14, 0, op_push (.inl (none, 200)) 17)],
  [(17, 0, op_icmp 3 85 20), (20, 0, op_al 0 21), (21, 0, op_gf 10 5 24), (24, 0, op_gf 7 0 27), (27, 0, op_push (.inl (none, 400)) 30), (30, 0, op_icmp 3 85 33)],
  [(33, 0, op_al 0 34), (34, 0, op_gf 10 5 37), (37, 0, op_al 0 38), (38, 0, op_gf 10 2 41), (41, 0, op_call 9 103 2 0 0 0 0 44), (44, 0, op_al 0 45), (45, 0, op_gf 10 5 48)],
  [(48, 0, op_al 0 49), (49, 0, op_gf 10 2 52), (52, 0, op_call 9 62 2 0 0 0 0 55), (55, 0, op_if 1 66 58), (58, 0, op_al 0 59), (59, 0, op_gf 10 5 62), (62, 0, op_gf 7 0 65)],
  [(65, 1, op_goto 0)],
  [(86, 1, op_goto 0)]]
def tb_X7_bendToDues : ab_tab := [[(0, 0, op_push (.inl (none, 0)) 1), (1, 0, op_is 2 2), (2, 0, op_il 2 3), (3, 0, op_al 1 4), (4, 0, op_gf 8 0 7), (7, 0, op_icmp 3 69 10)],
  [],
  [],
  [],
  [(69, 2, op_goto 0)]]
def tb_X11_kept : ab_tab := [[(0, 0, op_al 0 1), (1, 0, op_push (.inl (none, 0)) 2), (2, 0, op_pf (tyX11 0) 11 0 5), (5, 0, op_al 0 6), (6, 0, op_call 13 105 1 0 0 0 0 9), (9, 0, op_push (.inl (none, (-1))) 10), (10, 0, op_is 1 11), (11, 0, op_push (.inl (none, 0)) 12), (12, 0, op_is 2 13), (13, 0, op_il 2 14), (14, 0, op_push (.inl (none, 200)) 17)],
  [(17, 0, op_icmp 3 73 20), (20, 0, op_il 1 21), (21, 0, op_if 3 73 24), (24, 0, op_al 0 25), (25, 0, op_gf 11 6 28), (28, 0, op_push (.inl (none, 100)) 30), (30, 0, op_ald 0 31), (31, 0, op_push (.inl (none, 400)) 34)],
  [(34, 0, op_icmp 3 73 37), (37, 0, op_al 0 38), (38, 0, op_call 13 106 1 0 0 0 0 41), (41, 0, op_al 0 42), (42, 0, op_call 13 66 1 0 0 0 0 45), (45, 0, op_if 1 56 48)],
  [(48, 0, op_al 0 49), (49, 0, op_gf 11 6 52), (52, 0, op_push (.inl (none, 100)) 54), (54, 0, op_ald 0 55), (55, 0, op_is 1 56), (56, 0, op_al 0 57), (57, 0, op_gf 11 6 60), (60, 0, op_push (.inl (none, 100)) 62), (62, 0, op_dup2 63), (63, 0, op_ald 0 64)],
  [(64, 0, op_push (.inl (none, 1)) 65), (65, 0, op_b2 (ab_addK) 66), (66, 0, op_ast 0 67), (67, 0, op_inc 2 1 70), (70, 0, op_goto 13), (73, 0, op_al 0 74), (74, 0, op_call 13 107 1 0 0 0 0 77), (77, 0, op_il 1 78), (78, 1, op_goto 0)]]
def tb_X11_tries : ab_tab := [[(0, 0, op_push (.inl (none, 0)) 1), (1, 0, op_is 1 2), (2, 0, op_il 1 3), (3, 0, op_push (.inl (none, 24)) 5), (5, 0, op_icmp 3 29 8), (8, 0, op_al 0 9), (9, 0, op_gf 11 22 12), (12, 0, op_il 1 13), (13, 0, op_al 0 14), (14, 0, op_gf 11 6 17)],
  [(17, 0, op_push (.inl (none, 100)) 19), (19, 0, op_il 1 20), (20, 0, op_b2 (ab_addK) 21), (21, 0, op_ald 0 22), (22, 0, op_ast 0 23), (23, 0, op_inc 1 1 26), (26, 0, op_goto 2), (29, 2, op_goto 0)]]
def tb_X11_movesToDues : ab_tab := [[(0, 0, op_push (.inl (none, 0)) 1), (1, 0, op_is 1 2), (2, 0, op_il 1 3), (3, 0, op_al 0 4), (4, 0, op_gf 11 6 7), (7, 0, op_push (.inl (none, 0)) 8), (8, 0, op_ald 0 9), (9, 0, op_icmp 3 93 12)],
  [],
  [],
  [],
  [],
  [(93, 2, op_goto 0)]]
def tb_X11_back : ab_tab := [[(0, 0, op_push (.inl (none, 0)) 1), (1, 0, op_is 1 2), (2, 0, op_il 1 3), (3, 0, op_push (.inl (none, 24)) 5), (5, 0, op_icmp 3 29 8), (8, 0, op_al 0 9), (9, 0, op_gf 11 6 12), (12, 0, op_push (.inl (none, 100)) 14), (14, 0, op_il 1 15), (15, 0, op_b2 (ab_addK) 16)],
  [(16, 0, op_al 0 17), (17, 0, op_gf 11 22 20), (20, 0, op_il 1 21), (21, 0, op_ald 0 22), (22, 0, op_ast 0 23), (23, 0, op_inc 1 1 26), (26, 0, op_goto 2), (29, 2, op_goto 0)]]
def tb_X10_worst : ab_tab := [[(0, 0, op_il 1 1), (1, 0, op_push (.inl (none, 1)) 2), (2, 0, op_icmp 2 11 5), (5, 0, op_il 1 6), (6, 0, op_push (.inl (none, 60)) 8), (8, 0, op_icmp 5 13 11), (11, 0, op_push (.inl (none, (-1))) 12), (12, 1, op_goto 0), (13, 0, op_al 0 14), (14, 0, op_gf 10 5 17)],
  [(17, 0, op_al 0 18), (18, 0, op_gf 10 4 21), (21, 0, op_call 9 75 2 0 0 0 0 24), (24, 0, op_al 0 25), (25, 0, op_gf 10 5 28), (28, 0, op_al 0 29), (29, 0, op_gf 10 2 32)],
  [(32, 0, op_il 1 33), (33, 0, op_call 9 81 3 0 0 0 0 36), (36, 0, op_push (.inl (none, (-1))) 37), (37, 0, op_is 2 38), (38, 0, op_push (.inl (none, 0)) 39), (39, 0, op_is 3 40), (40, 0, op_push (.inl (none, 0)) 41), (41, 0, op_is 4 43), (43, 0, op_il 4 45), (45, 0, op_al 0 46), (46, 0, op_gf 10 2 49)],
  [(49, 0, op_gf 8 0 52), (52, 0, op_icmp 3 96 55)],
  [],
  [],
  [(96, 0, op_il 2 97), (97, 1, op_goto 0)]]
def tb_X11_worst : ab_tab := [[(0, 0, op_al 0 1), (1, 0, op_push (.inl (none, 0)) 2), (2, 0, op_pf (tyX11 0) 11 0 5), (5, 0, op_il 1 6), (6, 0, op_push (.inl (none, 1)) 7), (7, 0, op_push (.inl (none, 60)) 9), (9, 0, op_call 0 44 3 0 0 0 0 12), (12, 0, op_if 1 17 15), (15, 0, op_push (.inl (none, (-1))) 16)],
  [(16, 1, op_goto 0), (17, 0, op_al 0 18), (18, 0, op_call 13 105 1 0 0 0 0 21), (21, 0, op_al 0 22), (22, 0, op_il 1 23), (23, 0, op_call 13 84 2 0 0 0 0 26), (26, 0, op_pop 27), (27, 0, op_push (.inl (none, (-1))) 28), (28, 0, op_is 2 29), (29, 0, op_push (.inl (none, 0)) 30), (30, 0, op_is 3 31), (31, 0, op_push (.inl (none, 0)) 32)],
  [(32, 0, op_is 4 34), (34, 0, op_il 4 36), (36, 0, op_al 0 37), (37, 0, op_gf 11 6 40), (40, 0, op_push (.inl (none, 0)) 41), (41, 0, op_ald 0 42), (42, 0, op_icmp 3 89 45)],
  [],
  [],
  [(89, 0, op_al 0 90), (90, 0, op_call 13 107 1 0 0 0 0 93), (93, 0, op_il 2 94), (94, 1, op_goto 0)]]
def tb_L_spare : ab_tab := [[(0, 0, op_al 3 1), (1, 0, op_push (.inl (none, 0)) 2), (2, 0, op_al 0 3), (3, 0, op_il 1 4), (4, 0, op_il 2 5), (5, 0, op_callx 12 111 3 1 6 1 6 8 4 15), (15, 0, op_push (.inl (none, 1)) 16)],
  [(16, 1, op_goto 0), (18, 1, op_goto 0)]]
def tb_X10_spare : ab_tab := [[(0, 0, op_al 0 1), (1, 0, op_il 1 2), (2, 0, op_call 12 52 2 0 0 1 6 5), (5, 0, op_if 0 37 8)],
  [],
  [(37, 3, op_goto 0)],
  [],
  [],
  [(81, 1, op_goto 0)]]
def tb_X11_spare : ab_tab := [[(0, 0, op_al 0 1), (1, 0, op_al 0 2), (2, 0, op_il 1 3), (3, 0, op_call 13 54 2 0 0 0 0 6), (6, 0, op_if 0 38 9)],
  [],
  [(38, 0, op_push (.inl (none, 1)) 39), (39, 0, op_goto 43), (43, 0, op_call 13 45 2 0 0 0 0 46), (46, 0, op_if 0 51 49)],
  [(49, 0, op_push (.inl (none, 0)) 50), (50, 1, op_goto 0)],
  [(69, 1, op_goto 0)]]
def tb_X10_route : ab_tab := [[(0, 0, op_al 0 1), (1, 0, op_il 1 2), (2, 0, op_call 12 41 2 0 0 0 0 5), (5, 0, op_if 0 32 8)],
  [],
  [(32, 0, op_push (.inl (none, (-1))) 33), (33, 1, op_goto 0)],
  [(52, 1, op_goto 0)]]
def tb_X11_route : ab_tab := [[(0, 0, op_al 0 1), (1, 0, op_push (.inl (none, 0)) 2), (2, 0, op_pf (tyX11 0) 11 0 5), (5, 0, op_al 0 6), (6, 0, op_il 1 7), (7, 0, op_call 13 43 2 0 0 0 0 10), (10, 0, op_if 0 37 13)],
  [],
  [(37, 0, op_push (.inl (none, (-1))) 38), (38, 1, op_goto 0)],
  [],
  [],
  [],
  [],
  [],
  [],
  [],
  [],
  [],
  [],
  [],
  [],
  [],
  [],
  [],
  [],
  [(308, 1, op_goto 0), (317, 1, op_goto 0)]]
def tb_X10_routeAt : ab_tab := [[(0, 0, op_il 1 1), (1, 0, op_if 2 27 4), (4, 0, op_il 1 5), (5, 0, op_al 0 6), (6, 0, op_gf 10 10 9), (9, 0, op_gf 5 2 12), (12, 0, op_icmp 3 27 15)],
  [(27, 0, op_push (.inl (none, (-1))) 28), (28, 1, op_goto 0)]]
def tb_X11_routeAt : ab_tab := [[(0, 0, op_al 0 1), (1, 0, op_push (.inl (none, 0)) 2), (2, 0, op_pf (tyX11 0) 11 0 5), (5, 0, op_il 1 6), (6, 0, op_push (.inl (none, 0)) 7), (7, 0, op_al 0 8), (8, 0, op_gf 11 34 11), (11, 0, op_push (.inl (none, 1)) 12), (12, 0, op_b2 (ab_subK) 13), (13, 0, op_call 0 44 3 0 0 0 0 16)],
  [(16, 0, op_if 0 28 19), (28, 0, op_push (.inl (none, (-1))) 29), (29, 1, op_goto 0)]]
def tb_X10_shadows : ab_tab := [[(0, 0, op_al 0 1), (1, 0, op_gf 10 0 4), (4, 0, op_gf 4 1 7), (7, 0, op_is 1 8), (8, 0, op_al 0 9), (9, 0, op_gf 10 0 12), (12, 0, op_push (.inl (none, 0)) 13), (13, 0, op_pf (tyX4 1) 4 1 16)],
  [(16, 0, op_il 1 17), (17, 0, op_push (.inl (none, 2)) 18), (18, 0, op_icmp 2 33 21)],
  [(33, 0, op_push (.inl (none, (-1))) 34), (34, 1, op_goto 0)],
  [],
  [(74, 1, op_goto 0)],
  [],
  [],
  [(116, 1, op_goto 0)],
  [],
  [(145, 1, op_goto 0)]]
def tb_X11_shadows : ab_tab := [[(0, 0, op_al 0 1), (1, 0, op_push (.inl (none, 0)) 2), (2, 0, op_pf (tyX11 0) 11 0 5), (5, 0, op_al 0 6), (6, 0, op_push (.inl (none, 940)) 9), (9, 0, op_call 13 34 2 0 0 0 0 12), (12, 0, op_al 0 13), (13, 0, op_gf 11 3 16)],
  [(16, 0, op_push (.inl (none, 2)) 17), (17, 0, op_push (.inl (none, 20)) 19), (19, 0, op_call 0 44 3 0 0 0 0 22), (22, 0, op_if 0 35 25)],
  [(35, 0, op_push (.inl (none, (-1))) 36), (36, 1, op_goto 0)],
  [],
  [],
  [(92, 1, op_goto 0)],
  [],
  [],
  [],
  [],
  [(166, 1, op_goto 0)]]
def tb_L_votes : ab_tab := [[(0, 0, op_al 3 1), (1, 0, op_push (.inl (none, 0)) 2), (2, 0, op_al 0 3), (3, 0, op_il 1 4), (4, 0, op_il 2 5), (5, 0, op_callx 12 120 3 1 6 1 6 8 4 15), (15, 0, op_push (.inl (none, 1)) 16)],
  [(16, 1, op_goto 0), (18, 1, op_goto 0)]]
def tb_X10_votes : ab_tab := [[(0, 0, op_al 0 1), (1, 0, op_il 1 2), (2, 0, op_call 12 41 2 0 0 1 6 5), (5, 0, op_if 0 20 8)],
  [(20, 3, op_goto 0)],
  [],
  [],
  [],
  [],
  [(109, 1, op_goto 0)]]
def tb_X11_votes : ab_tab := [[(0, 0, op_al 0 1), (1, 0, op_al 0 2), (2, 0, op_il 1 3), (3, 0, op_call 13 43 2 0 0 0 0 6), (6, 0, op_if 0 20 9)],
  [(20, 0, op_push (.inl (none, 1)) 21), (21, 0, op_goto 25), (25, 0, op_call 13 45 2 0 0 0 0 28), (28, 0, op_if 0 33 31), (31, 0, op_push (.inl (none, 0)) 32)],
  [(32, 1, op_goto 0)],
  [],
  [],
  [],
  [],
  [(118, 1, op_goto 0)]]
def tb_X10_nearer : ab_tab := [[(0, 0, op_al 0 1), (1, 0, op_gf 10 5 4), (4, 0, op_al 0 5), (5, 0, op_gf 10 4 8), (8, 0, op_call 9 75 2 0 0 0 0 11), (11, 0, op_push (.inl (none, 0)) 12), (12, 0, op_is 1 13), (13, 0, op_push (.inl (none, 1)) 14), (14, 0, op_is 2 15), (15, 0, op_il 2 16)],
  [(16, 0, op_if 0 43 19), (19, 0, op_il 1 20), (20, 0, op_push (.inl (none, 60)) 22), (22, 0, op_icmp 3 43 25), (25, 0, op_al 0 26), (26, 0, op_gf 10 5 29), (29, 0, op_al 0 30), (30, 0, op_gf 10 2 33)],
  [(33, 0, op_call 9 123 2 0 0 0 0 36), (36, 0, op_is 2 37), (37, 0, op_inc 1 1 40), (40, 0, op_goto 15), (43, 0, op_push (.inl (none, 0)) 44), (44, 0, op_is 3 45), (45, 0, op_il 3 46), (46, 0, op_al 0 47), (47, 0, op_gf 10 2 50)],
  [(50, 0, op_gf 8 0 53), (53, 0, op_icmp 3 77 56)],
  [(77, 0, op_al 0 78), (78, 0, op_al 0 79), (79, 0, op_gf 10 2 82)],
  [(82, 0, op_gf 8 0 85), (85, 0, op_pf (tyX10 16) 10 16 88), (88, 0, op_il 1 89), (89, 1, op_goto 0)]]
def tb_X7_comeNearer : ab_tab := [[(0, 0, op_push (.inl (none, 0)) 1), (1, 0, op_is 2 2), (2, 0, op_push (.inl (none, 0)) 3), (3, 0, op_is 3 4), (4, 0, op_il 3 5), (5, 0, op_al 1 6), (6, 0, op_gf 8 0 9), (9, 0, op_icmp 3 108 12)],
  [],
  [],
  [],
  [],
  [],
  [(108, 0, op_il 2 109), (109, 1, op_goto 0)]]
def tb_X11_nearer : ab_tab := [[(0, 0, op_al 0 1), (1, 0, op_push (.inl (none, 0)) 2), (2, 0, op_pf (tyX11 0) 11 0 5), (5, 0, op_al 0 6), (6, 0, op_call 13 105 1 0 0 0 0 9), (9, 0, op_push (.inl (none, 0)) 10), (10, 0, op_is 1 11), (11, 0, op_push (.inl (none, 1)) 12), (12, 0, op_is 2 13), (13, 0, op_il 2 14), (14, 0, op_if 0 59 17)],
  [(17, 0, op_il 1 18), (18, 0, op_push (.inl (none, 60)) 20), (20, 0, op_icmp 3 59 23), (23, 0, op_push (.inl (none, 0)) 24), (24, 0, op_is 2 25), (25, 0, op_push (.inl (none, 0)) 26), (26, 0, op_is 3 27), (27, 0, op_il 3 28), (28, 0, op_al 0 29), (29, 0, op_gf 11 6 32)],
  [(32, 0, op_push (.inl (none, 0)) 33), (33, 0, op_ald 0 34), (34, 0, op_icmp 3 53 37)],
  [(53, 0, op_inc 1 1 56), (56, 0, op_goto 13), (59, 0, op_al 0 60), (60, 0, op_al 0 61), (61, 0, op_gf 11 6 64)],
  [(64, 0, op_push (.inl (none, 0)) 65), (65, 0, op_ald 0 66), (66, 0, op_pf (tyX11 28) 11 28 69), (69, 0, op_push (.inl (none, 0)) 70), (70, 0, op_is 3 71), (71, 0, op_il 3 72), (72, 0, op_al 0 73), (73, 0, op_gf 11 6 76), (76, 0, op_push (.inl (none, 0)) 77), (77, 0, op_ald 0 78), (78, 0, op_icmp 3 102 81)],
  [],
  [(102, 0, op_al 0 103), (103, 0, op_call 13 107 1 0 0 0 0 106), (106, 0, op_il 1 107), (107, 1, op_goto 0)]]
def tb_L_nearerAt : ab_tab := [[(0, 0, op_al 2 1), (1, 0, op_push (.inl (none, 0)) 2), (2, 0, op_al 0 3), (3, 0, op_il 1 4), (4, 0, op_callx 12 126 2 1 6 1 6 7 3 13), (13, 0, op_push (.inl (none, 1)) 14), (14, 1, op_goto 0)],
  [(16, 1, op_goto 0)]]
def tb_X10_nearerAt : ab_tab := [[(0, 0, op_il 1 1), (1, 0, op_if 2 12 4), (4, 0, op_il 1 5), (5, 0, op_al 0 6), (6, 0, op_gf 10 16 9), (9, 0, op_icmp 2 23 12), (12, 3, op_goto 0)],
  [(29, 1, op_goto 0)]]
def tb_X11_nearerAt : ab_tab := [[(0, 0, op_al 0 1), (1, 0, op_il 1 2), (2, 0, op_push (.inl (none, 0)) 3), (3, 0, op_al 0 4), (4, 0, op_gf 11 28 7), (7, 0, op_push (.inl (none, 1)) 8), (8, 0, op_b2 (ab_subK) 9), (9, 0, op_call 0 44 3 0 0 0 0 12), (12, 0, op_if 1 19 15), (15, 0, op_push (.inl (none, 1)) 16)],
  [(16, 0, op_goto 20), (20, 0, op_call 13 45 2 0 0 0 0 23), (23, 0, op_if 0 30 26), (26, 0, op_push (.inl (none, 0)) 27), (27, 0, op_goto 36)],
  [(36, 1, op_goto 0)]]
def tb_X10_right : ab_tab := [[(0, 0, op_al 0 1), (1, 0, op_il 1 2), (2, 0, op_call 12 41 2 0 0 0 0 5), (5, 0, op_if 0 19 8)],
  [(19, 0, op_push (.inl (none, (-1))) 20), (20, 1, op_goto 0)],
  [],
  [],
  [(79, 1, op_goto 0)]]
def tb_X11_right : ab_tab := [[(0, 0, op_al 0 1), (1, 0, op_push (.inl (none, 0)) 2), (2, 0, op_pf (tyX11 0) 11 0 5), (5, 0, op_al 0 6), (6, 0, op_il 1 7), (7, 0, op_call 13 43 2 0 0 0 0 10), (10, 0, op_if 0 23 13)],
  [(23, 0, op_push (.inl (none, (-1))) 24), (24, 1, op_goto 0)],
  [],
  [],
  [],
  [(83, 1, op_goto 0)]]
def tb_X10_turns : ab_tab := [[(0, 0, op_al 0 1), (1, 0, op_il 1 2), (2, 0, op_call 12 41 2 0 0 0 0 5), (5, 0, op_if 1 10 8), (8, 0, op_push (.inl (none, (-1))) 9), (9, 1, op_goto 0)],
  [],
  [],
  [(57, 1, op_goto 0)],
  [(65, 1, op_goto 0)]]
def tb_X11_turns : ab_tab := [[(0, 0, op_al 0 1), (1, 0, op_push (.inl (none, 0)) 2), (2, 0, op_pf (tyX11 0) 11 0 5), (5, 0, op_al 0 6), (6, 0, op_il 1 7), (7, 0, op_call 13 43 2 0 0 0 0 10), (10, 0, op_if 1 15 13), (13, 0, op_push (.inl (none, (-1))) 14), (14, 1, op_goto 0)],
  [],
  [],
  [(57, 1, op_goto 0)],
  [(65, 1, op_goto 0)]]
def tb_X10_motto : ab_tab := [[(0, 0, op_al 0 1), (1, 0, op_il 1 2), (2, 0, op_call 12 41 2 0 0 0 0 5), (5, 0, op_if 1 10 8), (8, 0, op_push (.inl (none, (-1))) 9), (9, 1, op_goto 0)],
  [],
  [],
  [(50, 1, op_goto 0)]]
def tb_X11_motto : ab_tab := [[(0, 0, op_al 0 1), (1, 0, op_push (.inl (none, 0)) 2), (2, 0, op_pf (tyX11 0) 11 0 5), (5, 0, op_al 0 6), (6, 0, op_il 1 7), (7, 0, op_call 13 43 2 0 0 0 0 10), (10, 0, op_if 1 15 13), (13, 0, op_push (.inl (none, (-1))) 14), (14, 1, op_goto 0)],
  [],
  [],
  [],
  [],
  [],
  [],
  [],
  [],
  [(156, 1, op_goto 0)]]
def tb_X10_byteAt : ab_tab := [[(0, 0, op_il 1 1), (1, 0, op_if 2 27 4), (4, 0, op_il 1 5), (5, 0, op_al 0 6), (6, 0, op_gf 10 11 9), (9, 0, op_gf 3 1 12), (12, 0, op_icmp 3 27 15)],
  [(27, 0, op_push (.inl (none, (-1))) 28), (28, 1, op_goto 0)]]
def tb_X11_byteAt : ab_tab := [[(0, 0, op_al 0 1), (1, 0, op_push (.inl (none, 0)) 2), (2, 0, op_pf (tyX11 0) 11 0 5), (5, 0, op_il 1 6), (6, 0, op_push (.inl (none, 0)) 7), (7, 0, op_al 0 8), (8, 0, op_gf 11 36 11), (11, 0, op_push (.inl (none, 1)) 12), (12, 0, op_b2 (ab_subK) 13), (13, 0, op_call 0 44 3 0 0 0 0 16)],
  [(16, 0, op_if 0 28 19), (28, 0, op_push (.inl (none, (-1))) 29), (29, 1, op_goto 0)]]
def tb_X10_drawn : ab_tab := [[(0, 0, op_il 1 1), (1, 0, op_push (.inl (none, 1)) 2), (2, 0, op_icmp 2 21 5), (5, 0, op_il 1 6), (6, 0, op_push (.inl (none, 60)) 8), (8, 0, op_icmp 4 21 11), (11, 0, op_al 0 12), (12, 0, op_gf 10 2 15), (15, 0, op_gf 8 0 18)],
  [(18, 0, op_if 1 23 21), (21, 0, op_push (.inl (none, (-1))) 22), (22, 1, op_goto 0)],
  [],
  [],
  [(68, 1, op_goto 0)]]
def tb_X11_drawn : ab_tab := [[(0, 0, op_al 0 1), (1, 0, op_push (.inl (none, 0)) 2), (2, 0, op_pf (tyX11 0) 11 0 5), (5, 0, op_il 1 6), (6, 0, op_push (.inl (none, 1)) 7), (7, 0, op_push (.inl (none, 60)) 9), (9, 0, op_call 0 44 3 0 0 0 0 12), (12, 0, op_if 0 24 15), (15, 0, op_al 0 16)],
  [(16, 0, op_gf 11 6 19), (19, 0, op_push (.inl (none, 0)) 20), (20, 0, op_ald 0 21), (21, 0, op_if 1 26 24), (24, 0, op_push (.inl (none, (-1))) 25), (25, 1, op_goto 0)],
  [],
  [(49, 1, op_goto 0)]]
def tb_X10_odds : ab_tab := [[(0, 0, op_al 0 1), (1, 0, op_il 1 2), (2, 0, op_call 12 41 2 0 0 0 0 5), (5, 0, op_if 0 19 8)],
  [(19, 0, op_push (.inl (none, (-1))) 20), (20, 1, op_goto 0)],
  [],
  [],
  [],
  [(93, 1, op_goto 0)]]
def tb_X11_odds : ab_tab := [[(0, 0, op_al 0 1), (1, 0, op_push (.inl (none, 0)) 2), (2, 0, op_pf (tyX11 0) 11 0 5), (5, 0, op_al 0 6), (6, 0, op_il 1 7), (7, 0, op_call 13 43 2 0 0 0 0 10), (10, 0, op_if 0 23 13)],
  [(23, 0, op_push (.inl (none, (-1))) 24), (24, 1, op_goto 0)],
  [],
  [],
  [],
  [(95, 1, op_goto 0)]]
def tb_X10_book : ab_tab := [[(0, 0, op_il 1 1), (1, 0, op_if 0 13 4), (4, 0, op_il 1 5), (5, 0, op_push (.inl (none, 1)) 6), (6, 0, op_icmp 0 13 9), (9, 0, op_push (.inl (none, (-1000))) 12), (12, 1, op_goto 0), (13, 0, op_al 0 14), (14, 0, op_gf 10 9 17)],
  [(17, 0, op_al 0 18), (18, 0, op_gf 10 2 21), (21, 0, op_al 0 22), (22, 0, op_gf 10 0 25), (25, 0, op_call 2 141 3 0 0 0 0 28), (28, 0, op_is 2 29), (29, 0, op_al 0 30), (30, 0, op_gf 10 0 33)],
  [(33, 0, op_push (.inl (none, 0)) 34), (34, 0, op_pf (tyX4 1) 4 1 37), (37, 0, op_il 2 38), (38, 0, op_if 1 52 41)],
  [(51, 1, op_goto 0), (52, 0, op_al 0 53), (53, 0, op_gf 10 5 56), (56, 0, op_al 0 57), (57, 0, op_gf 10 4 60), (60, 0, op_call 9 75 2 0 0 0 0 63), (63, 0, op_al 0 64)],
  [(64, 0, op_gf 10 9 67), (67, 0, op_al 0 68), (68, 0, op_gf 10 2 71), (71, 0, op_al 0 72), (72, 0, op_gf 10 5 75), (75, 0, op_call 2 142 3 0 0 0 0 78), (78, 0, op_il 1 79), (79, 0, op_push (.inl (none, 1)) 80)],
  [(80, 0, op_icmp 1 105 83), (83, 0, op_al 0 84), (84, 0, op_gf 10 6 87), (87, 0, op_al 0 88), (88, 0, op_gf 10 4 91), (91, 0, op_call 3 74 2 0 0 0 0 94), (94, 0, op_al 0 95), (95, 0, op_gf 10 4 98)],
  [(98, 0, op_al 0 99), (99, 0, op_gf 10 5 102), (102, 0, op_call 9 75 2 0 0 0 0 105), (105, 0, op_al 0 106), (106, 0, op_gf 10 9 109), (109, 0, op_gf 0 5 112)],
  [(112, 1, op_goto 0)]]
def tb_X0_read : ab_tab := [[(0, 0, op_al 0 1), (1, 0, op_push (.inl (none, 0)) 2), (2, 0, op_pf (tyX0 3) 0 3 5), (5, 0, op_al 2 6), (6, 0, op_push (.inl (none, 400)) 9), (9, 0, op_call 6 29 2 0 0 0 0 12), (12, 0, op_al 2 13), (13, 0, op_call 6 31 1 0 0 0 0 16)],
  [(16, 0, op_if 1 92 19)],
  [(43, 1, op_goto 0)],
  [(58, 1, op_goto 0)],
  [(78, 1, op_goto 0)],
  [(92, 0, op_push (.inl (none, 1)) 93), (93, 1, op_goto 0)]]
def tb_X0_judge : ab_tab := [[(0, 0, op_al 0 1), (1, 0, op_push (.inl (none, 1)) 2), (2, 0, op_pf (tyX0 4) 0 4 5), (5, 0, op_al 0 6), (6, 0, op_push (.inl (none, (-1))) 7), (7, 0, op_pf (tyX0 5) 0 5 10), (10, 0, op_al 0 11), (11, 0, op_push (.inl (none, 0)) 12), (12, 0, op_pf (tyX0 6) 0 6 15), (15, 0, op_al 0 16)],
  [(16, 0, op_push (.inl (none, 0)) 17), (17, 0, op_pf (tyX0 7) 0 7 20), (20, 0, op_al 0 21), (21, 0, op_gf 0 7 24), (24, 0, op_al 0 25), (25, 0, op_gf 0 3 28), (28, 0, op_icmp 3 83 31)],
  [],
  [],
  [],
  [(83, 0, op_al 0 84), (84, 0, op_al 2 85), (85, 0, op_gf 7 0 88), (88, 0, op_pf (tyX0 8) 0 8 91), (91, 0, op_al 0 92), (92, 0, op_al 2 93), (93, 0, op_al 1 94), (94, 0, op_call 9 62 2 0 0 0 0 97)],
  [(97, 0, op_pf (tyX0 9) 0 9 100), (100, 2, op_goto 0)]]
def tb_X11_book : ab_tab := [[(0, 0, op_al 0 1), (1, 0, op_push (.inl (none, 0)) 2), (2, 0, op_pf (tyX11 0) 11 0 5), (5, 0, op_il 1 6), (6, 0, op_push (.inl (none, 0)) 7), (7, 0, op_push (.inl (none, 1)) 8), (8, 0, op_call 0 44 3 0 0 0 0 11), (11, 0, op_if 1 18 14), (14, 0, op_push (.inl (none, (-1000))) 17)],
  [(17, 1, op_goto 0), (18, 0, op_al 0 19), (19, 0, op_push (.inl (none, 400)) 22), (22, 0, op_call 13 34 2 0 0 0 0 25), (25, 0, op_al 0 26), (26, 0, op_push (.inl (none, 0)) 27), (27, 0, op_pf (tyX11 15) 11 15 30), (30, 0, op_al 0 31), (31, 0, op_push (.inl (none, 0)) 32)],
  [(32, 0, op_pf (tyX11 38) 11 38 35), (35, 0, op_al 0 36), (36, 0, op_call 13 35 1 0 0 0 0 39), (39, 0, op_al 0 40), (40, 0, op_gf 11 11 43), (43, 0, op_if 0 83 46)],
  [],
  [(69, 1, op_goto 0)],
  [(83, 0, op_al 0 84), (84, 0, op_call 13 105 1 0 0 0 0 87), (87, 0, op_push (.inl (none, 0)) 88), (88, 0, op_is 2 89), (89, 0, op_il 2 90), (90, 0, op_push (.inl (none, 4)) 91), (91, 0, op_icmp 3 107 94), (94, 0, op_al 0 95), (95, 0, op_gf 11 39 98)],
  [(98, 0, op_il 2 99), (99, 0, op_push (.inl (none, 0)) 100), (100, 0, op_ast 0 101), (101, 0, op_inc 2 1 104), (104, 0, op_goto 89), (107, 0, op_push (.inl (none, (-1))) 108), (108, 0, op_is 2 109), (109, 0, op_push (.inl (none, 0)) 110), (110, 0, op_is 3 111), (111, 0, op_il 3 112)],
  [(112, 0, op_al 0 113), (113, 0, op_gf 11 38 116), (116, 0, op_icmp 3 191 119)],
  [],
  [],
  [],
  [(191, 0, op_al 0 192)],
  [(192, 0, op_gf 11 39 195), (195, 0, op_push (.inl (none, 2)) 196), (196, 0, op_al 0 197), (197, 0, op_gf 11 6 200), (200, 0, op_push (.inl (none, 100)) 202), (202, 0, op_ald 0 203), (203, 0, op_ast 0 204), (204, 0, op_al 0 205), (205, 0, op_gf 11 39 208)],
  [(208, 0, op_push (.inl (none, 3)) 209), (209, 0, op_al 0 210), (210, 0, op_call 13 66 1 0 0 0 0 213), (213, 0, op_ast 0 214), (214, 0, op_al 0 215), (215, 0, op_push (.inl (none, 1)) 216), (216, 0, op_pf (tyX11 40) 11 40 219), (219, 0, op_il 1 220), (220, 0, op_push (.inl (none, 1)) 221), (221, 0, op_icmp 1 273 224)],
  [(224, 0, op_al 0 225), (225, 0, op_gf 11 39 228), (228, 0, op_push (.inl (none, 1)) 229), (229, 0, op_ald 0 230), (230, 0, op_if 5 273 233)],
  [],
  [],
  [(273, 0, op_il 1 274), (274, 0, op_if 1 281 277), (277, 0, op_al 0 278), (278, 0, op_call 13 107 1 0 0 0 0 281), (281, 0, op_il 2 282), (282, 1, op_goto 0)]]
def tb_X10_told : ab_tab := [[(0, 0, op_al 0 1), (1, 0, op_gf 10 9 4), (4, 0, op_gf 0 4 7), (7, 0, op_if 1 12 10), (10, 0, op_push (.inl (none, (-1))) 11), (11, 1, op_goto 0)],
  [],
  [],
  [(51, 1, op_goto 0), (59, 1, op_goto 0)],
  [(67, 1, op_goto 0), (75, 1, op_goto 0), (77, 1, op_goto 0)]]
def tb_X11_told : ab_tab := [[(0, 0, op_al 0 1), (1, 0, op_push (.inl (none, 0)) 2), (2, 0, op_pf (tyX11 0) 11 0 5), (5, 0, op_al 0 6), (6, 0, op_gf 11 40 9), (9, 0, op_if 0 30 12)],
  [(30, 0, op_push (.inl (none, (-1))) 31), (31, 1, op_goto 0)]]
def tb_X10_sentence : ab_tab := [[(0, 0, op_al 0 1), (1, 0, op_gf 10 8 4), (4, 0, op_al 0 5), (5, 0, op_gf 10 2 8), (8, 0, op_al 0 9), (9, 0, op_gf 10 0 12), (12, 0, op_call 8 147 3 0 0 0 0 15), (15, 0, op_is 1 16)],
  [(16, 0, op_al 0 17), (17, 0, op_gf 10 0 20), (20, 0, op_push (.inl (none, 0)) 21), (21, 0, op_pf (tyX4 1) 4 1 24), (24, 0, op_il 1 25), (25, 0, op_if 1 38 28), (28, 0, op_push (.inl (none, (-1))) 29), (29, 0, op_al 0 30), (30, 0, op_gf 10 0 33)],
  [(33, 0, op_gf 4 13 36), (36, 0, op_b2 (ab_subK) 37), (37, 1, op_goto 0)],
  [(63, 1, op_goto 0)]]
def tb_X6_read : ab_tab := [[(0, 0, op_al 0 1), (1, 0, op_push (.inl (none, 0)) 2), (2, 0, op_pf (tyX6 3) 6 3 5), (5, 0, op_al 0 6), (6, 0, op_push (.inl (none, 0)) 7), (7, 0, op_pf (tyX6 4) 6 4 10), (10, 0, op_al 2 11), (11, 0, op_push (.inl (none, 200)) 14), (14, 0, op_call 6 29 2 0 0 0 0 17)],
  [(17, 0, op_al 0 18), (18, 0, op_al 1 19), (19, 0, op_al 2 20), (20, 0, op_push (.inl (none, 1)) 21), (21, 0, op_call 8 148 4 0 0 0 0 24), (24, 0, op_if 0 46 27)],
  [(46, 0, op_push (.inl (none, 0)) 47), (47, 1, op_goto 0)]]
def tb_X6_readCond : ab_tab := [[(0, 0, op_al 0 1), (1, 0, op_al 1 2), (2, 0, op_al 2 3), (3, 0, op_il 3 4), (4, 0, op_call 8 149 4 0 0 0 0 7), (7, 0, op_if 1 12 10), (10, 0, op_push (.inl (none, 0)) 11), (11, 1, op_goto 0)],
  [],
  [(46, 1, op_goto 0)],
  [(62, 1, op_goto 0)]]
def tb_X6_readAll : ab_tab := [[(0, 0, op_al 0 1), (1, 0, op_al 1 2), (2, 0, op_al 2 3), (3, 0, op_il 3 4), (4, 0, op_call 8 150 4 0 0 0 0 7), (7, 0, op_if 1 12 10), (10, 0, op_push (.inl (none, 0)) 11), (11, 1, op_goto 0)],
  [],
  [(46, 1, op_goto 0)],
  [(62, 1, op_goto 0)]]
def tb_X6_readOne : ab_tab := [[(0, 0, op_al 2 1), (1, 0, op_gf 4 8 4), (4, 0, op_is 4 6), (6, 0, op_al 2 7), (7, 0, op_gf 4 5 10), (10, 0, op_push (.inl (none, 40)) 12), (12, 0, op_icmp 1 19 15)],
  [(19, 0, op_push (.inl (none, 0)) 20), (20, 0, op_is 5 22), (22, 0, op_il 5 24), (24, 0, op_if 1 41 27), (27, 0, op_il 4 29), (29, 0, op_call 0 151 1 0 0 0 0 32)],
  [(32, 0, op_if 1 41 35), (35, 0, op_al 2 36), (36, 0, op_push (.inl (none, 1)) 37), (37, 0, op_call 6 152 2 0 0 0 0 40), (40, 1, op_goto 0)],
  [(61, 1, op_goto 0)],
  [],
  [],
  [(107, 1, op_goto 0)],
  [],
  [(128, 1, op_goto 0), (138, 1, op_goto 0)],
  [(147, 1, op_goto 0)]]
def tb_X6_beginsOne : ab_tab := [[(0, 0, op_il 0 1), (1, 0, op_push (.inl (none, 1)) 2), (2, 0, op_icmp 0 22 5), (5, 0, op_il 0 6), (6, 0, op_push (.inl (none, 2)) 7), (7, 0, op_icmp 0 22 10), (10, 0, op_il 0 11), (11, 0, op_push (.inl (none, 15)) 13), (13, 0, op_icmp 2 26 16)],
  [(26, 0, op_push (.inl (none, 0)) 27), (27, 1, op_goto 0)]]
def tb_X4_failAs : ab_tab := [[(0, 0, op_al 0 1), (1, 0, op_il 1 2), (2, 0, op_pf (tyX4 12) 4 12 5), (5, 0, op_al 0 6), (6, 0, op_al 0 7), (7, 0, op_gf 4 4 10), (10, 0, op_pf (tyX4 13) 4 13 13), (13, 0, op_push (.inl (none, 0)) 14), (14, 1, op_goto 0)]]
def tb_X11_sentence : ab_tab := [[(0, 0, op_al 0 1), (1, 0, op_push (.inl (none, 0)) 2), (2, 0, op_pf (tyX11 0) 11 0 5), (5, 0, op_al 0 6), (6, 0, op_push (.inl (none, 200)) 9), (9, 0, op_call 13 34 2 0 0 0 0 12), (12, 0, op_al 0 13), (13, 0, op_push (.inl (none, 0)) 14), (14, 0, op_pf (tyX11 15) 11 15 17)],
  [(17, 0, op_al 0 18), (18, 0, op_push (.inl (none, 0)) 19), (19, 0, op_pf (tyX11 42) 11 42 22), (22, 0, op_al 0 23), (23, 0, op_push (.inl (none, 0)) 24), (24, 0, op_pf (tyX11 43) 11 43 27), (27, 0, op_al 0 28), (28, 0, op_push (.inl (none, 0)) 29), (29, 0, op_pf (tyX11 44) 11 44 32)],
  [(32, 0, op_al 0 33), (33, 0, op_push (.inl (none, 1)) 34), (34, 0, op_pf (tyX11 45) 11 45 37), (37, 0, op_al 0 38), (38, 0, op_push (.inl (none, 0)) 39), (39, 0, op_pf (tyX11 46) 11 46 42), (42, 0, op_al 0 43), (43, 0, op_call 13 35 1 0 0 0 0 46), (46, 0, op_push (.inl (none, 1)) 47), (47, 0, op_is 1 48)],
  [(48, 0, op_il 1 49), (49, 0, op_if 0 132 52), (52, 0, op_al 0 53), (53, 0, op_gf 11 46 56), (56, 0, op_if 0 101 59)],
  [],
  [(95, 1, op_goto 0)],
  [(101, 0, op_al 0 102), (102, 0, op_gf 11 46 105), (105, 0, op_if 0 118 108)],
  [(118, 0, op_al 0 119), (119, 0, op_call 13 154 1 0 0 0 0 122), (122, 0, op_if 1 48 125), (125, 0, op_push (.inl (none, (-1))) 126), (126, 0, op_al 0 127), (127, 0, op_gf 11 16 130)],
  [(130, 0, op_b2 (ab_subK) 131), (131, 1, op_goto 0)],
  [],
  [],
  [(180, 1, op_goto 0)]]
def tb_X11_operand : ab_tab := [[(0, 0, op_al 0 1), (1, 0, op_lfr 4), (4, 0, op_call 13 155 2 0 0 0 0 7), (7, 0, op_is 1 8), (8, 0, op_al 0 9), (9, 0, op_push (.inl (none, 40)) 11), (11, 0, op_call 13 156 2 0 0 0 0 14), (14, 0, op_is 2 15), (15, 0, op_al 0 16)],
  [(16, 0, op_call 13 157 1 0 0 0 0 19), (19, 0, op_is 3 20), (20, 0, op_il 1 21), (21, 0, op_if 1 38 24), (24, 0, op_il 2 25), (25, 0, op_if 1 38 28), (28, 0, op_il 3 29), (29, 0, op_if 3 38 32)],
  [(32, 0, op_al 0 33), (33, 0, op_push (.inl (none, 1)) 34), (34, 0, op_call 13 158 2 0 0 0 0 37), (37, 1, op_goto 0)],
  [(61, 1, op_goto 0)],
  [],
  [],
  [],
  [(125, 1, op_goto 0)],
  [],
  [(144, 1, op_goto 0)],
  [(165, 1, op_goto 0)],
  [(181, 1, op_goto 0)],
  [],
  [(213, 1, op_goto 0)],
  [(237, 1, op_goto 0)],
  [(254, 1, op_goto 0)]]
def tb_X11_isWord : ab_tab := [[(0, 0, op_al 0 1), (1, 0, op_gf 11 11 4), (4, 0, op_push (.inl (none, 1)) 5), (5, 0, op_icmp 1 21 8)],
  [(21, 0, op_push (.inl (none, 0)) 22), (22, 1, op_goto 0)]]
def tb_X11_isSign : ab_tab := [[(0, 0, op_al 0 1), (1, 0, op_gf 11 11 4), (4, 0, op_push (.inl (none, 3)) 5), (5, 0, op_icmp 1 20 8)],
  [(20, 0, op_push (.inl (none, 0)) 21), (21, 1, op_goto 0)]]
def tb_X11_leafOf : ab_tab := [[(0, 0, op_al 0 1), (1, 0, op_lfr 4), (4, 0, op_call 13 155 2 0 0 0 0 7), (7, 0, op_if 0 14 10), (14, 0, op_al 0 15), (15, 0, op_lfr 18)],
  [(18, 0, op_call 13 155 2 0 0 0 0 21), (21, 0, op_if 0 28 24), (28, 0, op_al 0 29), (29, 0, op_lfr 32)],
  [(32, 0, op_call 13 155 2 0 0 0 0 35), (35, 0, op_if 0 42 38), (42, 0, op_al 0 43), (43, 0, op_lfr 46), (46, 0, op_call 13 155 2 0 0 0 0 49)],
  [(49, 0, op_if 0 56 52), (56, 0, op_al 0 57), (57, 0, op_lfr 60), (60, 0, op_call 13 155 2 0 0 0 0 63), (63, 0, op_if 0 70 66)],
  [(70, 0, op_al 0 71), (71, 0, op_lfr 74), (74, 0, op_call 13 155 2 0 0 0 0 77), (77, 0, op_if 0 84 80)],
  [(84, 0, op_al 0 85), (85, 0, op_lfr 88), (88, 0, op_call 13 155 2 0 0 0 0 91), (91, 0, op_if 0 99 94)],
  [(99, 0, op_al 0 100), (100, 0, op_lfr 103), (103, 0, op_call 13 155 2 0 0 0 0 106), (106, 0, op_if 0 114 109)],
  [(114, 0, op_push (.inl (none, (-1))) 115), (115, 1, op_goto 0)]]
def tb_X11_bad : ab_tab := [[(0, 0, op_al 0 1), (1, 0, op_il 1 2), (2, 0, op_pf (tyX11 15) 11 15 5), (5, 0, op_al 0 6), (6, 0, op_al 0 7), (7, 0, op_gf 11 12 10), (10, 0, op_pf (tyX11 16) 11 16 13), (13, 0, op_push (.inl (none, 0)) 14), (14, 1, op_goto 0)]]
def tb_X10_said : ab_tab := [[(0, 0, op_al 0 1), (1, 0, op_gf 10 7 4), (4, 0, op_gf 6 3 7), (7, 0, op_if 1 12 10), (10, 0, op_push (.inl (none, (-1))) 11), (11, 1, op_goto 0)],
  [],
  [],
  [(52, 1, op_goto 0)],
  [(72, 1, op_goto 0)]]
def tb_X11_said : ab_tab := [[(0, 0, op_al 0 1), (1, 0, op_push (.inl (none, 0)) 2), (2, 0, op_pf (tyX11 0) 11 0 5), (5, 0, op_al 0 6), (6, 0, op_gf 11 6 9), (9, 0, op_push (.inl (none, 124)) 11), (11, 0, op_ald 0 12), (12, 0, op_if 0 20 15)],
  [(20, 0, op_push (.inl (none, (-1))) 21), (21, 1, op_goto 0)],
  [],
  [(53, 1, op_goto 0)],
  [(73, 1, op_goto 0)]]
def tb_X10_image : ab_tab := [[(0, 0, op_il 1 1), (1, 0, op_if 2 13 4), (4, 0, op_il 1 5), (5, 0, op_al 0 6), (6, 0, op_gf 10 12 9), (9, 0, op_len 10), (10, 0, op_icmp 2 15 13), (13, 0, op_push (.inl (none, 0)) 14), (14, 1, op_goto 0), (15, 0, op_al 0 16)],
  [(16, 0, op_gf 10 12 19), (19, 0, op_il 1 20), (20, 0, op_aald 2 21), (21, 0, op_as 2 22), (22, 0, op_al 2 23), (23, 0, op_gf 2 0 26), (26, 0, op_al 0 27), (27, 0, op_gf 10 2 30), (30, 0, op_call 10 162 2 0 0 0 0 33)],
  [(33, 0, op_al 2 34), (34, 0, op_gf 2 1 37), (37, 0, op_al 0 38), (38, 0, op_gf 10 4 41), (41, 0, op_call 9 75 2 0 0 0 0 44), (44, 0, op_al 2 45), (45, 0, op_gf 2 2 48)],
  [(48, 0, op_al 0 49), (49, 0, op_gf 10 7 52), (52, 0, op_call 8 163 2 0 0 0 0 55), (55, 0, op_al 2 56), (56, 0, op_push (.inl (none, 1)) 57), (57, 0, op_pf (tyX2 3) 2 3 60), (60, 0, op_push (.inl (none, 1)) 61), (61, 1, op_goto 0)]]
def tb_X8_copyFrom : ab_tab := [[(0, 0, op_al 0 1), (1, 0, op_al 1 2), (2, 0, op_gf 8 0 5), (5, 0, op_pf (tyX8 0) 8 0 8), (8, 0, op_al 1 9), (9, 0, op_gf 8 1 12), (12, 0, op_push (.inl (none, 0)) 13), (13, 0, op_al 0 14), (14, 0, op_gf 8 1 17)],
  [(17, 0, op_push (.inl (none, 0)) 18), (18, 0, op_push (.inl (none, 7)) 20), (20, 0, op_ac 1 23), (23, 0, op_al 1 24), (24, 0, op_gf 8 2 27), (27, 0, op_push (.inl (none, 0)) 28), (28, 0, op_al 0 29), (29, 0, op_gf 8 2 32)],
  [(32, 0, op_push (.inl (none, 0)) 33), (33, 0, op_push (.inl (none, 7)) 35), (35, 0, op_ac 0 38), (38, 0, op_al 1 39), (39, 0, op_gf 8 3 42), (42, 0, op_push (.inl (none, 0)) 43), (43, 0, op_al 0 44), (44, 0, op_gf 8 3 47), (47, 0, op_push (.inl (none, 0)) 48)],
  [(48, 0, op_push (.inl (none, 7)) 50), (50, 0, op_ac 0 53), (53, 0, op_al 0 54), (54, 0, op_al 1 55), (55, 0, op_gf 8 4 58), (58, 0, op_pf (tyX8 4) 8 4 61), (61, 0, op_al 1 62), (62, 0, op_gf 8 5 65)],
  [(65, 0, op_push (.inl (none, 0)) 66), (66, 0, op_al 0 67), (67, 0, op_gf 8 5 70), (70, 0, op_push (.inl (none, 0)) 71), (71, 0, op_push (.inl (none, 12)) 73), (73, 0, op_ac 0 76), (76, 0, op_al 1 77), (77, 0, op_gf 8 6 80)],
  [(80, 0, op_push (.inl (none, 0)) 81), (81, 0, op_al 0 82), (82, 0, op_gf 8 6 85), (85, 0, op_push (.inl (none, 0)) 86), (86, 0, op_push (.inl (none, 12)) 88), (88, 0, op_ac 0 91), (91, 0, op_al 1 92), (92, 0, op_gf 8 7 95), (95, 0, op_push (.inl (none, 0)) 96)],
  [(96, 0, op_al 0 97), (97, 0, op_gf 8 7 100), (100, 0, op_push (.inl (none, 0)) 101), (101, 0, op_push (.inl (none, 12)) 103), (103, 0, op_ac 0 106), (106, 0, op_al 1 107), (107, 0, op_gf 8 8 110), (110, 0, op_push (.inl (none, 0)) 111), (111, 0, op_al 0 112)],
  [(112, 0, op_gf 8 8 115), (115, 0, op_push (.inl (none, 0)) 116), (116, 0, op_push (.inl (none, 12)) 118), (118, 0, op_ac 0 121), (121, 0, op_al 0 122), (122, 0, op_al 1 123), (123, 0, op_gf 8 9 126), (126, 0, op_pf (tyX8 9) 8 9 129)],
  [(129, 0, op_al 1 130), (130, 0, op_gf 8 10 133), (133, 0, op_push (.inl (none, 0)) 134), (134, 0, op_al 0 135), (135, 0, op_gf 8 10 138), (138, 0, op_push (.inl (none, 0)) 139), (139, 0, op_push (.inl (none, 8)) 141), (141, 0, op_ac 1 144)],
  [(144, 0, op_al 1 145), (145, 0, op_gf 8 11 148), (148, 0, op_push (.inl (none, 0)) 149), (149, 0, op_al 0 150), (150, 0, op_gf 8 11 153), (153, 0, op_push (.inl (none, 0)) 154), (154, 0, op_push (.inl (none, 8)) 156), (156, 0, op_ac 0 159), (159, 0, op_al 1 160)],
  [(160, 0, op_gf 8 12 163), (163, 0, op_push (.inl (none, 0)) 164), (164, 0, op_al 0 165), (165, 0, op_gf 8 12 168), (168, 0, op_push (.inl (none, 0)) 169), (169, 0, op_push (.inl (none, 8)) 171), (171, 0, op_ac 0 174), (174, 0, op_al 1 175), (175, 0, op_gf 8 13 178)],
  [(178, 0, op_push (.inl (none, 0)) 179), (179, 0, op_al 0 180), (180, 0, op_gf 8 13 183), (183, 0, op_push (.inl (none, 0)) 184), (184, 0, op_push (.inl (none, 8)) 186), (186, 0, op_ac 0 189), (189, 0, op_al 1 190), (190, 0, op_gf 8 14 193)],
  [(193, 0, op_push (.inl (none, 0)) 194), (194, 0, op_al 0 195), (195, 0, op_gf 8 14 198), (198, 0, op_push (.inl (none, 0)) 199), (199, 0, op_push (.inl (none, 8)) 201), (201, 0, op_ac 0 204), (204, 0, op_al 1 205), (205, 0, op_gf 8 15 208)],
  [(208, 0, op_push (.inl (none, 0)) 209), (209, 0, op_al 0 210), (210, 0, op_gf 8 15 213), (213, 0, op_push (.inl (none, 0)) 214), (214, 0, op_al 0 215), (215, 0, op_gf 8 15 218), (218, 0, op_len 219), (219, 0, op_ac 0 222), (222, 2, op_goto 0)]]
def tb_X6_copyFrom : ab_tab := [[(0, 0, op_al 0 1), (1, 0, op_al 1 2), (2, 0, op_gf 6 3 5), (5, 0, op_pf (tyX6 3) 6 3 8), (8, 0, op_al 0 9), (9, 0, op_al 1 10), (10, 0, op_gf 6 4 13), (13, 0, op_pf (tyX6 4) 6 4 16)],
  [(16, 0, op_al 1 17), (17, 0, op_gf 6 0 20), (20, 0, op_push (.inl (none, 0)) 21), (21, 0, op_al 0 22), (22, 0, op_gf 6 0 25), (25, 0, op_push (.inl (none, 0)) 26), (26, 0, op_push (.inl (none, 40)) 28), (28, 0, op_ac 0 31), (31, 0, op_al 1 32)],
  [(32, 0, op_gf 6 1 35), (35, 0, op_push (.inl (none, 0)) 36), (36, 0, op_al 0 37), (37, 0, op_gf 6 1 40), (40, 0, op_push (.inl (none, 0)) 41), (41, 0, op_push (.inl (none, 40)) 43), (43, 0, op_ac 0 46), (46, 0, op_al 1 47), (47, 0, op_gf 6 2 50)],
  [(50, 0, op_push (.inl (none, 0)) 51), (51, 0, op_al 0 52), (52, 0, op_gf 6 2 55), (55, 0, op_push (.inl (none, 0)) 56), (56, 0, op_push (.inl (none, 40)) 58), (58, 0, op_ac 0 61), (61, 2, op_goto 0)]]
def tb_X11_image : ab_tab := [[(0, 0, op_al 0 1), (1, 0, op_push (.inl (none, 0)) 2), (2, 0, op_pf (tyX11 0) 11 0 5), (5, 0, op_il 1 6), (6, 0, op_push (.inl (none, 0)) 7), (7, 0, op_push (.inl (none, 1)) 8), (8, 0, op_call 0 44 3 0 0 0 0 11), (11, 0, op_if 1 16 14), (14, 0, op_push (.inl (none, 0)) 15), (15, 1, op_goto 0)],
  [(16, 0, op_push (.inl (none, 0)) 17), (17, 0, op_is 2 18), (18, 0, op_il 2 19), (19, 0, op_push (.inl (none, 305)) 22), (22, 0, op_icmp 3 49 25), (25, 0, op_al 0 26), (26, 0, op_gf 11 48 29), (29, 0, op_push (.inl (none, 305)) 32)],
  [(32, 0, op_il 1 33), (33, 0, op_b2 (ab_binK (fun u v => u * v)) 34), (34, 0, op_il 2 35), (35, 0, op_b2 (ab_addK) 36), (36, 0, op_al 0 37), (37, 0, op_gf 11 6 40), (40, 0, op_il 2 41), (41, 0, op_ald 0 42), (42, 0, op_ast 0 43), (43, 0, op_inc 2 1 46), (46, 0, op_goto 18)],
  [(49, 0, op_push (.inl (none, 0)) 50), (50, 0, op_is 2 51), (51, 0, op_il 2 52), (52, 0, op_push (.inl (none, 15)) 54), (54, 0, op_icmp 3 80 57), (57, 0, op_al 0 58), (58, 0, op_gf 11 49 61), (61, 0, op_push (.inl (none, 15)) 63), (63, 0, op_il 1 64)],
  [(64, 0, op_b2 (ab_binK (fun u v => u * v)) 65), (65, 0, op_il 2 66), (66, 0, op_b2 (ab_addK) 67), (67, 0, op_al 0 68), (68, 0, op_gf 11 9 71), (71, 0, op_il 2 72), (72, 0, op_ald 1 73), (73, 0, op_ast 1 74), (74, 0, op_inc 2 1 77), (77, 0, op_goto 51)],
  [(80, 0, op_al 0 81), (81, 0, op_gf 11 50 84), (84, 0, op_il 1 85), (85, 0, op_push (.inl (none, 1)) 86), (86, 0, op_ast 3 87), (87, 0, op_push (.inl (none, 1)) 88), (88, 1, op_goto 0)]]
def tb_X10_restore : ab_tab := [[(0, 0, op_il 1 1), (1, 0, op_if 2 25 4), (4, 0, op_il 1 5), (5, 0, op_al 0 6), (6, 0, op_gf 10 12 9), (9, 0, op_len 10), (10, 0, op_icmp 3 25 13), (13, 0, op_al 0 14), (14, 0, op_gf 10 12 17)],
  [(17, 0, op_il 1 18), (18, 0, op_aald 2 19), (19, 0, op_gf 2 3 22), (22, 0, op_if 1 27 25), (25, 0, op_push (.inl (none, 0)) 26), (26, 1, op_goto 0)],
  [],
  [],
  [(76, 1, op_goto 0)]]
def tb_X11_restore : ab_tab := [[(0, 0, op_al 0 1), (1, 0, op_push (.inl (none, 0)) 2), (2, 0, op_pf (tyX11 0) 11 0 5), (5, 0, op_il 1 6), (6, 0, op_push (.inl (none, 0)) 7), (7, 0, op_push (.inl (none, 1)) 8), (8, 0, op_call 0 44 3 0 0 0 0 11), (11, 0, op_if 0 23 14), (14, 0, op_al 0 15), (15, 0, op_gf 11 50 18)],
  [(18, 0, op_il 1 19), (19, 0, op_ald 3 20), (20, 0, op_if 1 25 23), (23, 0, op_push (.inl (none, 0)) 24), (24, 1, op_goto 0)],
  [],
  [],
  [],
  [(95, 1, op_goto 0)]]
def tb_X10_count : ab_tab := [[(0, 0, op_il 1 1), (1, 0, op_tsw 0 6 [44, 52, 60, 68, 76, 84, 92] 100)],
  [],
  [(44, 0, op_al 0 45), (45, 0, op_gf 10 2 48)],
  [(48, 0, op_gf 8 0 51), (51, 1, op_goto 0), (52, 0, op_al 0 53), (53, 0, op_gf 10 2 56), (56, 0, op_gf 8 4 59), (59, 1, op_goto 0), (60, 0, op_al 0 61), (61, 0, op_gf 10 2 64)],
  [(64, 0, op_gf 8 9 67), (67, 1, op_goto 0), (68, 0, op_al 0 69), (69, 0, op_gf 10 2 72), (72, 0, op_call 10 168 1 0 0 0 0 75), (75, 1, op_goto 0), (76, 0, op_al 0 77), (77, 0, op_gf 10 2 80)],
  [(80, 0, op_call 10 169 1 0 0 0 0 83), (83, 1, op_goto 0), (84, 0, op_al 0 85), (85, 0, op_gf 10 2 88), (88, 0, op_call 10 170 1 0 0 0 0 91), (91, 1, op_goto 0), (92, 0, op_al 0 93), (93, 0, op_gf 10 0 96)],
  [(96, 0, op_gf 4 1 99), (99, 1, op_goto 0), (100, 0, op_push (.inl (none, (-1))) 101), (101, 1, op_goto 0)]]
def tb_X8_limit : ab_tab := [[(0, 0, op_al 0 1), (1, 0, op_gf 8 15 4), (4, 0, op_push (.inl (none, 0)) 5), (5, 0, op_ald 0 6), (6, 1, op_goto 0)]]
def tb_X8_change : ab_tab := [[(0, 0, op_al 0 1), (1, 0, op_gf 8 15 4), (4, 0, op_push (.inl (none, 1)) 5), (5, 0, op_ald 0 6), (6, 1, op_goto 0)]]
def tb_X8_frost : ab_tab := [[(0, 0, op_al 0 1), (1, 0, op_gf 8 15 4), (4, 0, op_push (.inl (none, 2)) 5), (5, 0, op_ald 0 6), (6, 1, op_goto 0)]]
def tb_X11_count : ab_tab := [[(0, 0, op_al 0 1), (1, 0, op_push (.inl (none, 0)) 2), (2, 0, op_pf (tyX11 0) 11 0 5), (5, 0, op_il 1 6), (6, 0, op_push (.inl (none, 6)) 8), (8, 0, op_icmp 1 18 11), (11, 0, op_al 0 12), (12, 0, op_gf 11 2 15), (15, 0, op_goto 37)],
  [(18, 0, op_il 1 19), (19, 0, op_push (.inl (none, 0)) 20), (20, 0, op_push (.inl (none, 5)) 21), (21, 0, op_call 0 44 3 0 0 0 0 24), (24, 0, op_if 0 36 27), (27, 0, op_al 0 28), (28, 0, op_gf 11 6 31), (31, 0, op_il 1 32)],
  [(32, 0, op_ald 0 33), (33, 0, op_goto 37), (36, 0, op_push (.inl (none, (-1))) 37), (37, 1, op_goto 0)]]
def tb_L_law : ab_tab := [[(0, 0, op_new 10 17 [.inr (.inr (0, 0)), .inr (.inr (0, 0)), .inr (.inr (0, 0)), .inr (.inr (0, 0)), .inr (.inr (0, 0)), .inr (.inr (0, 0)), .inr (.inr (0, 0)), .inr (.inr (0, 0)), .inr (.inr (0, 0)), .inr (.inr (0, 0)), .inr (.inr (0, 0)), .inr (.inr (0, 0)), .inr (.inr (0, 0)), .inr (.inr (0, 0)), .inl (none, 0), .inr (.inr (0, 0)), .inl (none, 0)] 600002 7302232 3), (3, 0, op_dup 4), (4, 0, op_call 12 0 1 141 2556 600002 7302232 7), (7, 0, op_as 1 8), (8, 0, op_new 11 51 [.inl (none, 0), .inr (.inr (0, 0)), .inl (none, 0), .inl (none, 0), .inl (none, 0), .inl (none, 0), .inr (.inr (0, 0)), .inr (.inr (0, 0)), .inr (.inr (0, 0)), .inr (.inr (0, 0)), .inr (.inr (0, 0)), .inl (none, 0), .inl (none, 0), .inl (none, 0), .inl (none, 0), .inl (none, 0), .inl (none, 0), .inr (.inl (.inl (none, 0))), .inl (none, 0), .inl (none, 0), .inl (none, 0), .inr (.inr (0, 0)), .inr (.inr (0, 0)), .inl (none, 0), .inr (.inr (0, 0)), .inr (.inr (0, 0)), .inr (.inr (0, 0)), .inl (none, 0), .inl (none, 0), .inr (.inr (0, 0)), .inr (.inr (0, 0)), .inr (.inr (0, 0)), .inr (.inr (0, 0)), .inr (.inr (0, 0)), .inl (none, 0), .inr (.inr (0, 0)), .inl (none, 0), .inl (none, 0), .inl (none, 0), .inr (.inr (0, 0)), .inl (none, 0), .inr (.inr (0, 0)), .inl (none, 0), .inl (none, 0), .inl (none, 0), .inl (none, 0), .inl (none, 0), .inr (.inr (0, 0)), .inr (.inr (0, 0)), .inr (.inr (0, 0)), .inr (.inr (0, 0))] 600002 7302232 11), (11, 0, op_dup 12), (12, 0, op_call 13 18 1 23 2596 600002 7302232 15), (15, 0, op_as 2 16)],
  [(16, 0, op_push (.inl (none, 1)) 17), (17, 0, op_na 1 (.inr (.inl (.inl (none, 0)))) 600002 7302232 19), (19, 0, op_as 3 20), (20, 0, op_push (.inl (none, 0)) 21), (21, 0, op_is 4 23), (23, 0, op_il 4 25), (25, 0, op_al 0 26), (26, 0, op_slen 27), (27, 0, op_push (.inl (none, 6)) 29), (29, 0, op_b2 (ab_subK) 30), (30, 0, op_icmp 4 1664 33)],
  [(33, 0, op_al 0 34), (34, 0, op_il 4 36), (36, 0, op_sld 37), (37, 0, op_push (.inl (none, 63)) 39), (39, 0, op_b2 (ab_andK) 40), (40, 0, op_tsw 0 40 [220, 293, 318, 331, 344, 412, 480, 548, 616, 672, 709, 734, 759, 772, 797, 810, 854, 898, 911, 967, 980, 1005, 1073, 1122, 1147, 1160, 1228, 1241, 1297, 1334, 1359, 1384, 1409, 1446, 1495, 1520, 1545, 1558, 1583, 1608, 1633] 1658)],
  [],
  [],
  [],
  [],
  [],
  [],
  [],
  [],
  [],
  [],
  [(220, 0, op_al 1 221), (221, 0, op_al 0 222), (222, 0, op_il 4 224)],
  [(224, 0, op_push (.inl (none, 1)) 225), (225, 0, op_b2 (ab_addK) 226), (226, 0, op_sld 227), (227, 0, op_al 0 228), (228, 0, op_il 4 230), (230, 0, op_push (.inl (none, 2)) 231), (231, 0, op_b2 (ab_addK) 232), (232, 0, op_sld 233), (233, 0, op_al 0 234), (234, 0, op_il 4 236), (236, 0, op_push (.inl (none, 3)) 237), (237, 0, op_b2 (ab_addK) 238), (238, 0, op_sld 239), (239, 0, op_al 0 240)],
  [(240, 0, op_il 4 242), (242, 0, op_push (.inl (none, 4)) 243), (243, 0, op_b2 (ab_addK) 244), (244, 0, op_sld 245), (245, 0, op_al 0 246), (246, 0, op_il 4 248), (248, 0, op_push (.inl (none, 5)) 249), (249, 0, op_b2 (ab_addK) 250), (250, 0, op_sld 251), (251, 0, op_call 12 20 6 0 0 600002 7302232 254), (254, 0, op_al 2 255), (255, 0, op_al 0 256)],
  [(256, 0, op_il 4 258), (258, 0, op_push (.inl (none, 1)) 259), (259, 0, op_b2 (ab_addK) 260), (260, 0, op_sld 261), (261, 0, op_al 0 262), (262, 0, op_il 4 264), (264, 0, op_push (.inl (none, 2)) 265), (265, 0, op_b2 (ab_addK) 266), (266, 0, op_sld 267), (267, 0, op_al 0 268), (268, 0, op_il 4 270), (270, 0, op_push (.inl (none, 3)) 271), (271, 0, op_b2 (ab_addK) 272)],
  [(272, 0, op_sld 273), (273, 0, op_al 0 274), (274, 0, op_il 4 276), (276, 0, op_push (.inl (none, 4)) 277), (277, 0, op_b2 (ab_addK) 278), (278, 0, op_sld 279), (279, 0, op_al 0 280), (280, 0, op_il 4 282), (282, 0, op_push (.inl (none, 5)) 283), (283, 0, op_b2 (ab_addK) 284), (284, 0, op_sld 285), (285, 0, op_call 13 22 6 0 0 600002 7302232 288)],
  [(288, 0, op_icmp 0 1658 291), (292, 1, op_goto 0), (293, 0, op_al 1 294), (294, 0, op_al 0 295), (295, 0, op_il 4 297), (297, 0, op_push (.inl (none, 1)) 298), (298, 0, op_b2 (ab_addK) 299), (299, 0, op_sld 300), (300, 0, op_call 12 24 2 0 0 600002 7302232 303), (303, 0, op_al 2 304)],
  [(304, 0, op_al 0 305), (305, 0, op_il 4 307), (307, 0, op_push (.inl (none, 1)) 308), (308, 0, op_b2 (ab_addK) 309), (309, 0, op_sld 310), (310, 0, op_call 13 25 2 0 0 600002 7302232 313), (313, 0, op_icmp 0 1658 316), (317, 1, op_goto 0), (318, 0, op_al 1 319), (319, 0, op_call 12 26 1 0 0 600002 7302232 322)],
  [(322, 0, op_al 2 323), (323, 0, op_call 13 33 1 0 0 600002 7302232 326), (326, 0, op_icmp 0 1658 329), (330, 1, op_goto 0), (331, 0, op_al 1 332), (332, 0, op_call 12 37 1 0 0 600002 7302232 335), (335, 0, op_al 2 336)],
  [(336, 0, op_call 13 38 1 0 0 600002 7302232 339), (339, 0, op_icmp 0 1658 342), (343, 1, op_goto 0), (344, 0, op_al 1 345), (345, 0, op_al 0 346), (346, 0, op_il 4 348), (348, 0, op_push (.inl (none, 1)) 349), (349, 0, op_b2 (ab_addK) 350), (350, 0, op_sld 351), (351, 0, op_al 0 352)],
  [(352, 0, op_il 4 354), (354, 0, op_push (.inl (none, 2)) 355), (355, 0, op_b2 (ab_addK) 356), (356, 0, op_sld 357), (357, 0, op_al 3 358), (358, 0, op_call 0 39 4 1 6 600002 7302232 361), (361, 0, op_is 5 363), (363, 0, op_al 2 364), (364, 0, op_al 0 365), (365, 0, op_il 4 367), (367, 0, op_push (.inl (none, 1)) 368)],
  [(368, 0, op_b2 (ab_addK) 369), (369, 0, op_sld 370), (370, 0, op_al 0 371), (371, 0, op_il 4 373), (373, 0, op_push (.inl (none, 2)) 374), (374, 0, op_b2 (ab_addK) 375), (375, 0, op_sld 376), (376, 0, op_call 13 42 3 0 0 600002 7302232 379), (379, 0, op_is 6 381), (381, 0, op_al 2 382), (382, 0, op_call 13 46 1 0 0 600002 7302232 385)],
  [(385, 0, op_il 5 387), (387, 0, op_icmp 0 392 390), (391, 1, op_goto 0), (392, 0, op_il 5 394), (394, 0, op_if 1 409 397)],
  [(408, 1, op_goto 0), (409, 0, op_goto 1658), (412, 0, op_al 1 413), (413, 0, op_al 0 414), (414, 0, op_il 4 416)],
  [(416, 0, op_push (.inl (none, 1)) 417), (417, 0, op_b2 (ab_addK) 418), (418, 0, op_sld 419), (419, 0, op_al 0 420), (420, 0, op_il 4 422), (422, 0, op_push (.inl (none, 2)) 423), (423, 0, op_b2 (ab_addK) 424), (424, 0, op_sld 425), (425, 0, op_al 3 426), (426, 0, op_call 0 47 4 1 6 600002 7302232 429), (429, 0, op_is 5 431), (431, 0, op_al 2 432)],
  [(432, 0, op_al 0 433), (433, 0, op_il 4 435), (435, 0, op_push (.inl (none, 1)) 436), (436, 0, op_b2 (ab_addK) 437), (437, 0, op_sld 438), (438, 0, op_al 0 439), (439, 0, op_il 4 441), (441, 0, op_push (.inl (none, 2)) 442), (442, 0, op_b2 (ab_addK) 443), (443, 0, op_sld 444), (444, 0, op_call 13 49 3 0 0 600002 7302232 447), (447, 0, op_is 6 449)],
  [(449, 0, op_al 2 450), (450, 0, op_call 13 46 1 0 0 600002 7302232 453), (453, 0, op_il 5 455), (455, 0, op_icmp 0 460 458), (459, 1, op_goto 0), (460, 0, op_il 5 462), (462, 0, op_if 1 477 465)],
  [(476, 1, op_goto 0), (477, 0, op_goto 1658)],
  [(480, 0, op_al 1 481), (481, 0, op_al 0 482), (482, 0, op_il 4 484), (484, 0, op_push (.inl (none, 1)) 485), (485, 0, op_b2 (ab_addK) 486), (486, 0, op_sld 487), (487, 0, op_al 0 488), (488, 0, op_il 4 490), (490, 0, op_push (.inl (none, 2)) 491), (491, 0, op_b2 (ab_addK) 492), (492, 0, op_sld 493), (493, 0, op_al 3 494), (494, 0, op_call 0 50 4 1 6 600002 7302232 497)],
  [(497, 0, op_is 5 499), (499, 0, op_al 2 500), (500, 0, op_al 0 501), (501, 0, op_il 4 503), (503, 0, op_push (.inl (none, 1)) 504), (504, 0, op_b2 (ab_addK) 505), (505, 0, op_sld 506), (506, 0, op_al 0 507), (507, 0, op_il 4 509), (509, 0, op_push (.inl (none, 2)) 510), (510, 0, op_b2 (ab_addK) 511), (511, 0, op_sld 512)],
  [(512, 0, op_call 13 53 3 0 0 600002 7302232 515), (515, 0, op_is 6 517), (517, 0, op_al 2 518), (518, 0, op_call 13 46 1 0 0 600002 7302232 521), (521, 0, op_il 5 523), (523, 0, op_icmp 0 528 526), (527, 1, op_goto 0)],
  [(528, 0, op_il 5 530), (530, 0, op_if 1 545 533)],
  [(544, 1, op_goto 0), (545, 0, op_goto 1658), (548, 0, op_al 1 549), (549, 0, op_al 0 550), (550, 0, op_il 4 552), (552, 0, op_push (.inl (none, 1)) 553), (553, 0, op_b2 (ab_addK) 554), (554, 0, op_sld 555), (555, 0, op_al 0 556), (556, 0, op_il 4 558), (558, 0, op_push (.inl (none, 2)) 559), (559, 0, op_b2 (ab_addK) 560)],
  [(560, 0, op_sld 561), (561, 0, op_al 3 562), (562, 0, op_call 0 55 4 1 6 600002 7302232 565), (565, 0, op_is 5 567), (567, 0, op_al 2 568), (568, 0, op_al 0 569), (569, 0, op_il 4 571), (571, 0, op_push (.inl (none, 1)) 572), (572, 0, op_b2 (ab_addK) 573), (573, 0, op_sld 574), (574, 0, op_al 0 575), (575, 0, op_il 4 577)],
  [(577, 0, op_push (.inl (none, 2)) 578), (578, 0, op_b2 (ab_addK) 579), (579, 0, op_sld 580), (580, 0, op_call 13 57 3 0 0 600002 7302232 583), (583, 0, op_is 6 585), (585, 0, op_al 2 586), (586, 0, op_call 13 46 1 0 0 600002 7302232 589), (589, 0, op_il 5 591), (591, 0, op_icmp 0 596 594)],
  [(595, 1, op_goto 0), (596, 0, op_il 5 598), (598, 0, op_if 1 613 601)],
  [(612, 1, op_goto 0), (613, 0, op_goto 1658), (616, 0, op_al 1 617), (617, 0, op_al 0 618), (618, 0, op_il 4 620), (620, 0, op_push (.inl (none, 1)) 621), (621, 0, op_b2 (ab_addK) 622), (622, 0, op_sld 623), (623, 0, op_al 3 624)],
  [(624, 0, op_call 0 58 3 1 6 600002 7302232 627), (627, 0, op_is 5 629), (629, 0, op_al 2 630), (630, 0, op_al 0 631), (631, 0, op_il 4 633), (633, 0, op_push (.inl (none, 1)) 634), (634, 0, op_b2 (ab_addK) 635), (635, 0, op_sld 636), (636, 0, op_call 13 64 2 0 0 600002 7302232 639), (639, 0, op_is 6 641)],
  [(641, 0, op_al 2 642), (642, 0, op_call 13 46 1 0 0 600002 7302232 645), (645, 0, op_il 5 647), (647, 0, op_icmp 0 652 650), (651, 1, op_goto 0), (652, 0, op_il 5 654), (654, 0, op_if 1 669 657)],
  [(657, 0, op_al 3 658), (658, 0, op_push (.inl (none, 0)) 659), (659, 0, op_ald 1 660), (660, 0, op_il 6 662), (662, 0, op_i2l 663), (663, 0, op_lcmp 664), (664, 0, op_if 0 669 667), (668, 1, op_goto 0), (669, 0, op_goto 1658)],
  [(672, 0, op_al 1 673), (673, 0, op_al 0 674), (674, 0, op_il 4 676), (676, 0, op_push (.inl (none, 1)) 677), (677, 0, op_b2 (ab_addK) 678), (678, 0, op_sld 679), (679, 0, op_al 0 680), (680, 0, op_il 4 682), (682, 0, op_push (.inl (none, 2)) 683), (683, 0, op_b2 (ab_addK) 684), (684, 0, op_sld 685), (685, 0, op_call 12 67 3 0 0 600002 7302232 688)],
  [(688, 0, op_al 2 689), (689, 0, op_al 0 690), (690, 0, op_il 4 692), (692, 0, op_push (.inl (none, 1)) 693), (693, 0, op_b2 (ab_addK) 694), (694, 0, op_sld 695), (695, 0, op_al 0 696), (696, 0, op_il 4 698), (698, 0, op_push (.inl (none, 2)) 699), (699, 0, op_b2 (ab_addK) 700), (700, 0, op_sld 701), (701, 0, op_call 13 68 3 0 0 600002 7302232 704)],
  [(704, 0, op_icmp 0 1658 707), (708, 1, op_goto 0), (709, 0, op_al 1 710), (710, 0, op_al 0 711), (711, 0, op_il 4 713), (713, 0, op_push (.inl (none, 1)) 714), (714, 0, op_b2 (ab_addK) 715), (715, 0, op_sld 716), (716, 0, op_call 12 69 2 0 0 600002 7302232 719), (719, 0, op_al 2 720)],
  [(720, 0, op_al 0 721), (721, 0, op_il 4 723), (723, 0, op_push (.inl (none, 1)) 724), (724, 0, op_b2 (ab_addK) 725), (725, 0, op_sld 726), (726, 0, op_call 13 70 2 0 0 600002 7302232 729), (729, 0, op_icmp 0 1658 732), (733, 1, op_goto 0), (734, 0, op_al 1 735), (735, 0, op_al 0 736)],
  [(736, 0, op_il 4 738), (738, 0, op_push (.inl (none, 1)) 739), (739, 0, op_b2 (ab_addK) 740), (740, 0, op_sld 741), (741, 0, op_call 12 71 2 0 0 600002 7302232 744), (744, 0, op_al 2 745), (745, 0, op_al 0 746), (746, 0, op_il 4 748), (748, 0, op_push (.inl (none, 1)) 749), (749, 0, op_b2 (ab_addK) 750), (750, 0, op_sld 751), (751, 0, op_call 13 72 2 0 0 600002 7302232 754)],
  [(754, 0, op_icmp 0 1658 757), (758, 1, op_goto 0), (759, 0, op_al 1 760), (760, 0, op_call 12 73 1 0 0 600002 7302232 763), (763, 0, op_al 2 764), (764, 0, op_call 13 77 1 0 0 600002 7302232 767), (767, 0, op_icmp 0 1658 770)],
  [(771, 1, op_goto 0), (772, 0, op_al 1 773), (773, 0, op_al 0 774), (774, 0, op_il 4 776), (776, 0, op_push (.inl (none, 1)) 777), (777, 0, op_b2 (ab_addK) 778), (778, 0, op_sld 779), (779, 0, op_call 12 80 2 0 0 600002 7302232 782), (782, 0, op_al 2 783), (783, 0, op_al 0 784)],
  [(784, 0, op_il 4 786), (786, 0, op_push (.inl (none, 1)) 787), (787, 0, op_b2 (ab_addK) 788), (788, 0, op_sld 789), (789, 0, op_call 13 83 2 0 0 600002 7302232 792), (792, 0, op_icmp 0 1658 795), (796, 1, op_goto 0), (797, 0, op_al 1 798), (798, 0, op_call 12 85 1 0 0 600002 7302232 801)],
  [(801, 0, op_al 2 802), (802, 0, op_call 13 87 1 0 0 600002 7302232 805), (805, 0, op_icmp 0 1658 808), (809, 1, op_goto 0), (810, 0, op_al 1 811), (811, 0, op_al 3 812), (812, 0, op_call 0 88 2 1 6 600002 7302232 815), (815, 0, op_is 5 817)],
  [(817, 0, op_al 2 818), (818, 0, op_call 13 90 1 0 0 600002 7302232 821), (821, 0, op_is 6 823), (823, 0, op_al 2 824), (824, 0, op_call 13 46 1 0 0 600002 7302232 827), (827, 0, op_il 5 829), (829, 0, op_icmp 0 834 832)],
  [(833, 1, op_goto 0), (834, 0, op_il 5 836), (836, 0, op_if 1 851 839)],
  [(850, 1, op_goto 0), (851, 0, op_goto 1658), (854, 0, op_al 1 855), (855, 0, op_al 3 856), (856, 0, op_call 0 92 2 1 6 600002 7302232 859), (859, 0, op_is 5 861), (861, 0, op_al 2 862), (862, 0, op_call 13 95 1 0 0 600002 7302232 865)],
  [(865, 0, op_is 6 867), (867, 0, op_al 2 868), (868, 0, op_call 13 46 1 0 0 600002 7302232 871), (871, 0, op_il 5 873), (873, 0, op_icmp 0 878 876), (877, 1, op_goto 0), (878, 0, op_il 5 880)],
  [(880, 0, op_if 1 895 883), (894, 1, op_goto 0), (895, 0, op_goto 1658)],
  [(898, 0, op_al 1 899), (899, 0, op_call 12 96 1 0 0 600002 7302232 902), (902, 0, op_al 2 903), (903, 0, op_call 13 97 1 0 0 600002 7302232 906), (906, 0, op_icmp 0 1658 909), (910, 1, op_goto 0), (911, 0, op_al 1 912)],
  [(912, 0, op_al 0 913), (913, 0, op_il 4 915), (915, 0, op_push (.inl (none, 1)) 916), (916, 0, op_b2 (ab_addK) 917), (917, 0, op_sld 918), (918, 0, op_al 3 919), (919, 0, op_call 0 99 3 1 6 600002 7302232 922), (922, 0, op_is 5 924), (924, 0, op_al 2 925), (925, 0, op_al 0 926), (926, 0, op_il 4 928)],
  [(928, 0, op_push (.inl (none, 1)) 929), (929, 0, op_b2 (ab_addK) 930), (930, 0, op_sld 931), (931, 0, op_call 13 101 2 0 0 600002 7302232 934), (934, 0, op_is 6 936), (936, 0, op_al 2 937), (937, 0, op_call 13 46 1 0 0 600002 7302232 940), (940, 0, op_il 5 942), (942, 0, op_icmp 0 947 945)],
  [(946, 1, op_goto 0), (947, 0, op_il 5 949), (949, 0, op_if 1 964 952)],
  [(963, 1, op_goto 0), (964, 0, op_goto 1658), (967, 0, op_al 1 968), (968, 0, op_call 12 102 1 0 0 600002 7302232 971), (971, 0, op_al 2 972), (972, 0, op_call 13 104 1 0 0 600002 7302232 975), (975, 0, op_icmp 0 1658 978)],
  [(979, 1, op_goto 0), (980, 0, op_al 1 981), (981, 0, op_al 0 982), (982, 0, op_il 4 984), (984, 0, op_push (.inl (none, 1)) 985), (985, 0, op_b2 (ab_addK) 986), (986, 0, op_sld 987), (987, 0, op_call 12 108 2 0 0 600002 7302232 990), (990, 0, op_al 2 991), (991, 0, op_al 0 992)],
  [(992, 0, op_il 4 994), (994, 0, op_push (.inl (none, 1)) 995), (995, 0, op_b2 (ab_addK) 996), (996, 0, op_sld 997), (997, 0, op_call 13 109 2 0 0 600002 7302232 1000), (1000, 0, op_icmp 0 1658 1003), (1004, 1, op_goto 0), (1005, 0, op_al 1 1006), (1006, 0, op_al 0 1007), (1007, 0, op_il 4 1009)],
  [(1009, 0, op_push (.inl (none, 1)) 1010), (1010, 0, op_b2 (ab_addK) 1011), (1011, 0, op_sld 1012), (1012, 0, op_al 0 1013), (1013, 0, op_il 4 1015), (1015, 0, op_push (.inl (none, 2)) 1016), (1016, 0, op_b2 (ab_addK) 1017), (1017, 0, op_sld 1018), (1018, 0, op_al 3 1019), (1019, 0, op_call 0 110 4 1 6 600002 7302232 1022), (1022, 0, op_is 5 1024)],
  [(1024, 0, op_al 2 1025), (1025, 0, op_al 0 1026), (1026, 0, op_il 4 1028), (1028, 0, op_push (.inl (none, 1)) 1029), (1029, 0, op_b2 (ab_addK) 1030), (1030, 0, op_sld 1031), (1031, 0, op_al 0 1032), (1032, 0, op_il 4 1034), (1034, 0, op_push (.inl (none, 2)) 1035), (1035, 0, op_b2 (ab_addK) 1036), (1036, 0, op_sld 1037), (1037, 0, op_call 13 112 3 0 0 600002 7302232 1040)],
  [(1040, 0, op_is 6 1042), (1042, 0, op_al 2 1043), (1043, 0, op_call 13 46 1 0 0 600002 7302232 1046), (1046, 0, op_il 5 1048), (1048, 0, op_icmp 0 1053 1051), (1052, 1, op_goto 0), (1053, 0, op_il 5 1055), (1055, 0, op_if 1 1070 1058)],
  [(1069, 1, op_goto 0), (1070, 0, op_goto 1658)],
  [(1073, 0, op_al 1 1074), (1074, 0, op_al 0 1075), (1075, 0, op_il 4 1077), (1077, 0, op_push (.inl (none, 1)) 1078), (1078, 0, op_b2 (ab_addK) 1079), (1079, 0, op_sld 1080), (1080, 0, op_al 0 1081), (1081, 0, op_il 4 1083), (1083, 0, op_push (.inl (none, 2)) 1084), (1084, 0, op_b2 (ab_addK) 1085), (1085, 0, op_sld 1086), (1086, 0, op_al 0 1087), (1087, 0, op_il 4 1089)],
  [(1089, 0, op_push (.inl (none, 3)) 1090), (1090, 0, op_b2 (ab_addK) 1091), (1091, 0, op_sld 1092), (1092, 0, op_call 12 113 4 0 0 600002 7302232 1095), (1095, 0, op_al 2 1096), (1096, 0, op_al 0 1097), (1097, 0, op_il 4 1099), (1099, 0, op_push (.inl (none, 1)) 1100), (1100, 0, op_b2 (ab_addK) 1101), (1101, 0, op_sld 1102), (1102, 0, op_al 0 1103), (1103, 0, op_il 4 1105)],
  [(1105, 0, op_push (.inl (none, 2)) 1106), (1106, 0, op_b2 (ab_addK) 1107), (1107, 0, op_sld 1108), (1108, 0, op_al 0 1109), (1109, 0, op_il 4 1111), (1111, 0, op_push (.inl (none, 3)) 1112), (1112, 0, op_b2 (ab_addK) 1113), (1113, 0, op_sld 1114), (1114, 0, op_call 13 114 4 0 0 600002 7302232 1117), (1117, 0, op_icmp 0 1658 1120)],
  [(1121, 1, op_goto 0), (1122, 0, op_al 1 1123), (1123, 0, op_al 0 1124), (1124, 0, op_il 4 1126), (1126, 0, op_push (.inl (none, 1)) 1127), (1127, 0, op_b2 (ab_addK) 1128), (1128, 0, op_sld 1129), (1129, 0, op_call 12 115 2 0 0 600002 7302232 1132), (1132, 0, op_al 2 1133), (1133, 0, op_al 0 1134), (1134, 0, op_il 4 1136)],
  [(1136, 0, op_push (.inl (none, 1)) 1137), (1137, 0, op_b2 (ab_addK) 1138), (1138, 0, op_sld 1139), (1139, 0, op_call 13 116 2 0 0 600002 7302232 1142), (1142, 0, op_icmp 0 1658 1145), (1146, 1, op_goto 0), (1147, 0, op_al 1 1148), (1148, 0, op_call 12 117 1 0 0 600002 7302232 1151), (1151, 0, op_al 2 1152)],
  [(1152, 0, op_call 13 118 1 0 0 600002 7302232 1155), (1155, 0, op_icmp 0 1658 1158), (1159, 1, op_goto 0), (1160, 0, op_al 1 1161), (1161, 0, op_al 0 1162), (1162, 0, op_il 4 1164), (1164, 0, op_push (.inl (none, 1)) 1165), (1165, 0, op_b2 (ab_addK) 1166), (1166, 0, op_sld 1167), (1167, 0, op_al 0 1168)],
  [(1168, 0, op_il 4 1170), (1170, 0, op_push (.inl (none, 2)) 1171), (1171, 0, op_b2 (ab_addK) 1172), (1172, 0, op_sld 1173), (1173, 0, op_al 3 1174), (1174, 0, op_call 0 119 4 1 6 600002 7302232 1177), (1177, 0, op_is 5 1179), (1179, 0, op_al 2 1180), (1180, 0, op_al 0 1181), (1181, 0, op_il 4 1183), (1183, 0, op_push (.inl (none, 1)) 1184)],
  [(1184, 0, op_b2 (ab_addK) 1185), (1185, 0, op_sld 1186), (1186, 0, op_al 0 1187), (1187, 0, op_il 4 1189), (1189, 0, op_push (.inl (none, 2)) 1190), (1190, 0, op_b2 (ab_addK) 1191), (1191, 0, op_sld 1192), (1192, 0, op_call 13 121 3 0 0 600002 7302232 1195), (1195, 0, op_is 6 1197), (1197, 0, op_al 2 1198), (1198, 0, op_call 13 46 1 0 0 600002 7302232 1201)],
  [(1201, 0, op_il 5 1203), (1203, 0, op_icmp 0 1208 1206), (1207, 1, op_goto 0), (1208, 0, op_il 5 1210), (1210, 0, op_if 1 1225 1213)],
  [(1224, 1, op_goto 0), (1225, 0, op_goto 1658), (1228, 0, op_al 1 1229), (1229, 0, op_call 12 122 1 0 0 600002 7302232 1232)],
  [(1232, 0, op_al 2 1233), (1233, 0, op_call 13 124 1 0 0 600002 7302232 1236), (1236, 0, op_icmp 0 1658 1239), (1240, 1, op_goto 0), (1241, 0, op_al 1 1242), (1242, 0, op_al 0 1243), (1243, 0, op_il 4 1245), (1245, 0, op_push (.inl (none, 1)) 1246), (1246, 0, op_b2 (ab_addK) 1247), (1247, 0, op_sld 1248)],
  [(1248, 0, op_al 3 1249), (1249, 0, op_call 0 125 3 1 6 600002 7302232 1252), (1252, 0, op_is 5 1254), (1254, 0, op_al 2 1255), (1255, 0, op_al 0 1256), (1256, 0, op_il 4 1258), (1258, 0, op_push (.inl (none, 1)) 1259), (1259, 0, op_b2 (ab_addK) 1260), (1260, 0, op_sld 1261), (1261, 0, op_call 13 127 2 0 0 600002 7302232 1264)],
  [(1264, 0, op_is 6 1266), (1266, 0, op_al 2 1267), (1267, 0, op_call 13 46 1 0 0 600002 7302232 1270), (1270, 0, op_il 5 1272), (1272, 0, op_icmp 0 1277 1275), (1276, 1, op_goto 0), (1277, 0, op_il 5 1279), (1279, 0, op_if 1 1294 1282)],
  [(1293, 1, op_goto 0), (1294, 0, op_goto 1658)],
  [(1297, 0, op_al 1 1298), (1298, 0, op_al 0 1299), (1299, 0, op_il 4 1301), (1301, 0, op_push (.inl (none, 1)) 1302), (1302, 0, op_b2 (ab_addK) 1303), (1303, 0, op_sld 1304), (1304, 0, op_al 0 1305), (1305, 0, op_il 4 1307), (1307, 0, op_push (.inl (none, 2)) 1308), (1308, 0, op_b2 (ab_addK) 1309), (1309, 0, op_sld 1310), (1310, 0, op_call 12 128 3 0 0 600002 7302232 1313)],
  [(1313, 0, op_al 2 1314), (1314, 0, op_al 0 1315), (1315, 0, op_il 4 1317), (1317, 0, op_push (.inl (none, 1)) 1318), (1318, 0, op_b2 (ab_addK) 1319), (1319, 0, op_sld 1320), (1320, 0, op_al 0 1321), (1321, 0, op_il 4 1323), (1323, 0, op_push (.inl (none, 2)) 1324), (1324, 0, op_b2 (ab_addK) 1325), (1325, 0, op_sld 1326), (1326, 0, op_call 13 129 3 0 0 600002 7302232 1329)],
  [(1329, 0, op_icmp 0 1658 1332), (1333, 1, op_goto 0), (1334, 0, op_al 1 1335), (1335, 0, op_al 0 1336), (1336, 0, op_il 4 1338), (1338, 0, op_push (.inl (none, 1)) 1339), (1339, 0, op_b2 (ab_addK) 1340), (1340, 0, op_sld 1341), (1341, 0, op_call 12 130 2 0 0 600002 7302232 1344)],
  [(1344, 0, op_al 2 1345), (1345, 0, op_al 0 1346), (1346, 0, op_il 4 1348), (1348, 0, op_push (.inl (none, 1)) 1349), (1349, 0, op_b2 (ab_addK) 1350), (1350, 0, op_sld 1351), (1351, 0, op_call 13 131 2 0 0 600002 7302232 1354), (1354, 0, op_icmp 0 1658 1357), (1358, 1, op_goto 0), (1359, 0, op_al 1 1360)],
  [(1360, 0, op_al 0 1361), (1361, 0, op_il 4 1363), (1363, 0, op_push (.inl (none, 1)) 1364), (1364, 0, op_b2 (ab_addK) 1365), (1365, 0, op_sld 1366), (1366, 0, op_call 12 132 2 0 0 600002 7302232 1369), (1369, 0, op_al 2 1370), (1370, 0, op_al 0 1371), (1371, 0, op_il 4 1373), (1373, 0, op_push (.inl (none, 1)) 1374), (1374, 0, op_b2 (ab_addK) 1375), (1375, 0, op_sld 1376)],
  [(1376, 0, op_call 13 133 2 0 0 600002 7302232 1379), (1379, 0, op_icmp 0 1658 1382), (1383, 1, op_goto 0), (1384, 0, op_al 1 1385), (1385, 0, op_al 0 1386), (1386, 0, op_il 4 1388), (1388, 0, op_push (.inl (none, 1)) 1389), (1389, 0, op_b2 (ab_addK) 1390), (1390, 0, op_sld 1391), (1391, 0, op_call 12 134 2 0 0 600002 7302232 1394)],
  [(1394, 0, op_al 2 1395), (1395, 0, op_al 0 1396), (1396, 0, op_il 4 1398), (1398, 0, op_push (.inl (none, 1)) 1399), (1399, 0, op_b2 (ab_addK) 1400), (1400, 0, op_sld 1401), (1401, 0, op_call 13 135 2 0 0 600002 7302232 1404), (1404, 0, op_icmp 0 1658 1407)],
  [(1408, 1, op_goto 0), (1409, 0, op_al 1 1410), (1410, 0, op_al 0 1411), (1411, 0, op_il 4 1413), (1413, 0, op_push (.inl (none, 1)) 1414), (1414, 0, op_b2 (ab_addK) 1415), (1415, 0, op_sld 1416), (1416, 0, op_al 0 1417), (1417, 0, op_il 4 1419), (1419, 0, op_push (.inl (none, 2)) 1420), (1420, 0, op_b2 (ab_addK) 1421), (1421, 0, op_sld 1422), (1422, 0, op_call 12 136 3 0 0 600002 7302232 1425)],
  [(1425, 0, op_al 2 1426), (1426, 0, op_al 0 1427), (1427, 0, op_il 4 1429), (1429, 0, op_push (.inl (none, 1)) 1430), (1430, 0, op_b2 (ab_addK) 1431), (1431, 0, op_sld 1432), (1432, 0, op_al 0 1433), (1433, 0, op_il 4 1435), (1435, 0, op_push (.inl (none, 2)) 1436), (1436, 0, op_b2 (ab_addK) 1437), (1437, 0, op_sld 1438), (1438, 0, op_call 13 137 3 0 0 600002 7302232 1441)],
  [(1441, 0, op_icmp 0 1658 1444), (1445, 1, op_goto 0), (1446, 0, op_al 1 1447), (1447, 0, op_al 0 1448), (1448, 0, op_il 4 1450), (1450, 0, op_push (.inl (none, 1)) 1451), (1451, 0, op_b2 (ab_addK) 1452), (1452, 0, op_sld 1453), (1453, 0, op_al 0 1454), (1454, 0, op_il 4 1456)],
  [(1456, 0, op_push (.inl (none, 2)) 1457), (1457, 0, op_b2 (ab_addK) 1458), (1458, 0, op_sld 1459), (1459, 0, op_al 0 1460), (1460, 0, op_il 4 1462), (1462, 0, op_push (.inl (none, 3)) 1463), (1463, 0, op_b2 (ab_addK) 1464), (1464, 0, op_sld 1465), (1465, 0, op_call 12 138 4 0 0 600002 7302232 1468), (1468, 0, op_al 2 1469), (1469, 0, op_al 0 1470), (1470, 0, op_il 4 1472)],
  [(1472, 0, op_push (.inl (none, 1)) 1473), (1473, 0, op_b2 (ab_addK) 1474), (1474, 0, op_sld 1475), (1475, 0, op_al 0 1476), (1476, 0, op_il 4 1478), (1478, 0, op_push (.inl (none, 2)) 1479), (1479, 0, op_b2 (ab_addK) 1480), (1480, 0, op_sld 1481), (1481, 0, op_al 0 1482), (1482, 0, op_il 4 1484), (1484, 0, op_push (.inl (none, 3)) 1485), (1485, 0, op_b2 (ab_addK) 1486), (1486, 0, op_sld 1487), (1487, 0, op_call 13 139 4 0 0 600002 7302232 1490)],
  [(1490, 0, op_icmp 0 1658 1493), (1494, 1, op_goto 0), (1495, 0, op_al 1 1496), (1496, 0, op_al 0 1497), (1497, 0, op_il 4 1499), (1499, 0, op_push (.inl (none, 1)) 1500), (1500, 0, op_b2 (ab_addK) 1501), (1501, 0, op_sld 1502), (1502, 0, op_call 12 140 2 0 0 600002 7302232 1505)],
  [(1505, 0, op_al 2 1506), (1506, 0, op_al 0 1507), (1507, 0, op_il 4 1509), (1509, 0, op_push (.inl (none, 1)) 1510), (1510, 0, op_b2 (ab_addK) 1511), (1511, 0, op_sld 1512), (1512, 0, op_call 13 143 2 0 0 600002 7302232 1515), (1515, 0, op_icmp 0 1658 1518), (1519, 1, op_goto 0)],
  [(1520, 0, op_al 1 1521), (1521, 0, op_al 0 1522), (1522, 0, op_il 4 1524), (1524, 0, op_push (.inl (none, 1)) 1525), (1525, 0, op_b2 (ab_addK) 1526), (1526, 0, op_sld 1527), (1527, 0, op_call 12 144 2 0 0 600002 7302232 1530), (1530, 0, op_al 2 1531), (1531, 0, op_al 0 1532), (1532, 0, op_il 4 1534), (1534, 0, op_push (.inl (none, 1)) 1535), (1535, 0, op_b2 (ab_addK) 1536)],
  [(1536, 0, op_sld 1537), (1537, 0, op_call 13 145 2 0 0 600002 7302232 1540), (1540, 0, op_icmp 0 1658 1543), (1544, 1, op_goto 0), (1545, 0, op_al 1 1546), (1546, 0, op_call 12 146 1 0 0 600002 7302232 1549), (1549, 0, op_al 2 1550), (1550, 0, op_call 13 153 1 0 0 600002 7302232 1553)],
  [(1553, 0, op_icmp 0 1658 1556), (1557, 1, op_goto 0), (1558, 0, op_al 1 1559), (1559, 0, op_al 0 1560), (1560, 0, op_il 4 1562), (1562, 0, op_push (.inl (none, 1)) 1563), (1563, 0, op_b2 (ab_addK) 1564), (1564, 0, op_sld 1565), (1565, 0, op_call 12 159 2 0 0 600002 7302232 1568)],
  [(1568, 0, op_al 2 1569), (1569, 0, op_al 0 1570), (1570, 0, op_il 4 1572), (1572, 0, op_push (.inl (none, 1)) 1573), (1573, 0, op_b2 (ab_addK) 1574), (1574, 0, op_sld 1575), (1575, 0, op_call 13 160 2 0 0 600002 7302232 1578), (1578, 0, op_icmp 0 1658 1581), (1582, 1, op_goto 0), (1583, 0, op_al 1 1584)],
  [(1584, 0, op_al 0 1585), (1585, 0, op_il 4 1587), (1587, 0, op_push (.inl (none, 1)) 1588), (1588, 0, op_b2 (ab_addK) 1589), (1589, 0, op_sld 1590), (1590, 0, op_call 12 161 2 0 0 600002 7302232 1593), (1593, 0, op_al 2 1594), (1594, 0, op_al 0 1595), (1595, 0, op_il 4 1597), (1597, 0, op_push (.inl (none, 1)) 1598), (1598, 0, op_b2 (ab_addK) 1599), (1599, 0, op_sld 1600)],
  [(1600, 0, op_call 13 164 2 0 0 600002 7302232 1603), (1603, 0, op_icmp 0 1658 1606), (1607, 1, op_goto 0), (1608, 0, op_al 1 1609), (1609, 0, op_al 0 1610), (1610, 0, op_il 4 1612), (1612, 0, op_push (.inl (none, 1)) 1613), (1613, 0, op_b2 (ab_addK) 1614), (1614, 0, op_sld 1615), (1615, 0, op_call 12 165 2 0 0 600002 7302232 1618)],
  [(1618, 0, op_al 2 1619), (1619, 0, op_al 0 1620), (1620, 0, op_il 4 1622), (1622, 0, op_push (.inl (none, 1)) 1623), (1623, 0, op_b2 (ab_addK) 1624), (1624, 0, op_sld 1625), (1625, 0, op_call 13 166 2 0 0 600002 7302232 1628), (1628, 0, op_icmp 0 1658 1631)],
  [(1632, 1, op_goto 0), (1633, 0, op_al 1 1634), (1634, 0, op_al 0 1635), (1635, 0, op_il 4 1637), (1637, 0, op_push (.inl (none, 1)) 1638), (1638, 0, op_b2 (ab_addK) 1639), (1639, 0, op_sld 1640), (1640, 0, op_call 12 167 2 0 0 600002 7302232 1643), (1643, 0, op_al 2 1644), (1644, 0, op_al 0 1645), (1645, 0, op_il 4 1647), (1647, 0, op_push (.inl (none, 1)) 1648)],
  [(1648, 0, op_b2 (ab_addK) 1649), (1649, 0, op_sld 1650), (1650, 0, op_call 13 171 2 0 0 600002 7302232 1653), (1653, 0, op_icmp 0 1658 1656), (1657, 1, op_goto 0), (1658, 0, op_inc 4 6 1661), (1661, 0, op_goto 23)],
  [(1664, 0, op_push (.inl (none, 1)) 1665), (1665, 1, op_goto 0)]]
def ab_MEL : List ab_ME := [(yX10_init, cX10_init, 1, none, 141, 2556, 0, [], tb_X10_init),
  (yX4_init, cX4_init, 3, none, 2, 962, 0, [], tb_X4_init),
  (yJ0_length_8abf5, cJ0_length_8abf5, 1, some .int, 0, 0, 0, [], tb_J0_length_8abf5),
  (yJ0_coder_7d493, cJ0_coder_7d493, 1, some .byte, 0, 0, 0, [], tb_J0_coder_7d493),
  (yJ0_charAt_5068e, cJ0_charAt_5068e, 2, some .char, 0, 0, 0, [], tb_J0_charAt_5068e),
  (yJ0_isLatin1_aae02, cJ0_isLatin1_aae02, 1, some .boolean, 0, 0, 0, [], tb_J0_isLatin1_aae02),
  (yJ1_charAt_3b067, cJ1_charAt_3b067, 2, some .char, 0, 0, 0, [], tb_J1_charAt_3b067),
  (yJ0_checkIndex_df160, cJ0_checkIndex_df160, 2, none, 0, 0, 0, [], tb_J0_checkIndex_df160),
  (yJ3_checkIndex_8e157, cJ3_checkIndex_8e157, 3, some .int, 0, 0, 0, [], tb_J3_checkIndex_8e157),
  (yX9_init, cX9_init, 1, none, 1, 3, 0, [], tb_X9_init),
  (yX8_init, cX8_init, 1, none, 13, 112, 0, [], tb_X8_init),
  (yX7_init, cX7_init, 1, none, 3, 21, 0, [], tb_X7_init),
  (yX1_init, cX1_init, 2, none, 33, 232, 0, [], tb_X1_init),
  (yX6_init, cX6_init, 1, none, 3, 120, 0, [], tb_X6_init),
  (yX0_init, cX0_init, 1, none, 3, 120, 0, [], tb_X0_init),
  (yX5_init, cX5_init, 1, none, 2, 16, 0, [], tb_X5_init),
  (yX3_init, cX3_init, 1, none, 1, 40, 0, [], tb_X3_init),
  (yX2_init, cX2_init, 1, none, 22, 281, 0, [], tb_X2_init),
  (yX11_init, cX11_init, 2, none, 23, 2596, 0, [], tb_X11_init),
  (yX11_clears, cX11_clears, 2, none, 0, 0, 0, [], tb_X11_clears),
  (yX10_feed, cX10_feed, 6, some .int, 0, 0, 0, [], tb_X10_feed),
  (yX4_put, cX4_put, 3, none, 0, 0, 0, [], tb_X4_put),
  (yX11_feed, cX11_feed, 6, some .int, 0, 0, 0, [], tb_X11_feed),
  (yX11_four, cX11_four, 3, none, 0, 0, 0, [], tb_X11_four),
  (yX10_end, cX10_end, 2, some .boolean, 0, 0, 0, [], tb_X10_end),
  (yX11_end, cX11_end, 2, some .boolean, 0, 0, 0, [], tb_X11_end),
  (yX10_valley, cX10_valley, 3, some .int, 0, 0, 0, [], tb_X10_valley),
  (yX9_readInto, cX9_readInto, 4, some .int, 0, 0, 0, [], tb_X9_readInto),
  (yX8_makeEmpty, cX8_makeEmpty, 1, none, 0, 0, 0, [], tb_X8_makeEmpty),
  (yX4_begin, cX4_begin, 2, none, 0, 0, 0, [], tb_X4_begin),
  (yX4_next, cX4_next, 1, none, 0, 0, 0, [], tb_X4_next),
  (yX4_atEnd, cX4_atEnd, 1, some .boolean, 0, 0, 0, [], tb_X4_atEnd),
  (yX7_beginIn, cX7_beginIn, 3, none, 0, 0, 0, [], tb_X7_beginIn),
  (yX11_valley, cX11_valley, 2, some .int, 0, 0, 0, [], tb_X11_valley),
  (yX11_taken, cX11_taken, 2, none, 0, 0, 0, [], tb_X11_taken),
  (yX11_next, cX11_next, 4, none, 0, 0, 0, [], tb_X11_next),
  (yX11_peek, cX11_peek, 1, some .int, 0, 0, 0, [], tb_X11_peek),
  (yX10_fault, cX10_fault, 1, some .int, 0, 0, 0, [], tb_X10_fault),
  (yX11_fault, cX11_fault, 1, some .int, 0, 0, 0, [], tb_X11_fault),
  (yL_town, cL_town, 5, some .int, 1, 6, 2, [(0, 10, 13, 13)], tb_L_town),
  (yX10_town, cX10_town, 3, some .int, 1, 6, 1, [], tb_X10_town),
  (yX10_hasTown, cX10_hasTown, 2, some .boolean, 0, 0, 0, [], tb_X10_hasTown),
  (yX11_town, cX11_town, 3, some .int, 0, 0, 0, [], tb_X11_town),
  (yX11_isTown, cX11_isTown, 2, some .boolean, 0, 0, 0, [], tb_X11_isTown),
  (yX11_isIn, cX11_isIn, 3, some .boolean, 0, 0, 0, [], tb_X11_isIn),
  (yX11_throwsIf, cX11_throwsIf, 2, some .boolean, 0, 0, 0, [], tb_X11_throwsIf),
  (yX11_thrown, cX11_thrown, 1, some .int, 0, 0, 0, [], tb_X11_thrown),
  (yL_due, cL_due, 5, some .int, 1, 6, 2, [(0, 10, 13, 13)], tb_L_due),
  (yX10_due, cX10_due, 4, some .int, 1, 6, 1, [], tb_X10_due),
  (yX11_due, cX11_due, 3, some .int, 0, 0, 0, [], tb_X11_due),
  (yL_train, cL_train, 5, some .int, 1, 6, 2, [(0, 10, 13, 13)], tb_L_train),
  (yX10_train, cX10_train, 3, some .int, 1, 6, 1, [], tb_X10_train),
  (yX10_hasTrain, cX10_hasTrain, 2, some .boolean, 0, 0, 0, [], tb_X10_hasTrain),
  (yX11_train, cX11_train, 3, some .int, 0, 0, 0, [], tb_X11_train),
  (yX11_isTrain, cX11_isTrain, 2, some .boolean, 0, 0, 0, [], tb_X11_isTrain),
  (yL_shows, cL_shows, 5, some .int, 1, 6, 2, [(0, 10, 13, 13)], tb_L_shows),
  (yX10_shows, cX10_shows, 3, some .int, 1, 6, 1, [], tb_X10_shows),
  (yX11_shows, cX11_shows, 3, some .int, 0, 0, 0, [], tb_X11_shows),
  (yL_now, cL_now, 4, some .int, 1, 6, 2, [(0, 9, 12, 13)], tb_L_now),
  (yX10_now, cX10_now, 2, some .int, 1, 6, 1, [], tb_X10_now),
  (yX10_bendsAdded, cX10_bendsAdded, 1, some .int, 0, 0, 0, [], tb_X10_bendsAdded),
  (yX10_added, cX10_added, 4, some .int, 0, 0, 0, [], tb_X10_added),
  (yX7_breachBits, cX7_breachBits, 4, some .int, 0, 0, 0, [], tb_X7_breachBits),
  (yX10_minutesOff, cX10_minutesOff, 3, some .int, 0, 0, 0, [], tb_X10_minutesOff),
  (yX11_now, cX11_now, 4, some .int, 0, 0, 0, [], tb_X11_now),
  (yX11_sumOf, cX11_sumOf, 4, some .int, 0, 0, 0, [], tb_X11_sumOf),
  (yX11_breachSet, cX11_breachSet, 3, some .int, 0, 0, 0, [], tb_X11_breachSet),
  (yX10_bend, cX10_bend, 4, some .int, 0, 0, 0, [], tb_X10_bend),
  (yX11_bend, cX11_bend, 4, some .int, 0, 0, 0, [], tb_X11_bend),
  (yX10_shade, cX10_shade, 2, some .int, 0, 0, 0, [], tb_X10_shade),
  (yX11_shade, cX11_shade, 2, some .int, 0, 0, 0, [], tb_X11_shade),
  (yX10_clear, cX10_clear, 2, some .int, 0, 0, 0, [], tb_X10_clear),
  (yX11_clear, cX11_clear, 2, some .int, 0, 0, 0, [], tb_X11_clear),
  (yX10_freeze, cX10_freeze, 1, some .int, 0, 0, 0, [], tb_X10_freeze),
  (yX1_keep, cX1_keep, 4, none, 0, 0, 0, [], tb_X1_keep),
  (yX7_copyFrom, cX7_copyFrom, 2, none, 0, 0, 0, [], tb_X7_copyFrom),
  (yX7_springBack, cX7_springBack, 4, some .int, 0, 0, 0, [], tb_X7_springBack),
  (yX11_freeze, cX11_freeze, 1, some .int, 0, 0, 0, [], tb_X11_freeze),
  (yX11_keep, cX11_keep, 2, none, 0, 0, 0, [], tb_X11_keep),
  (yX11_freezes, cX11_freezes, 4, some .int, 0, 0, 0, [], tb_X11_freezes),
  (yX10_days, cX10_days, 3, some .int, 0, 0, 0, [], tb_X10_days),
  (yX7_passDays, cX7_passDays, 4, none, 0, 0, 0, [], tb_X7_passDays),
  (yX7_passDay, cX7_passDay, 3, none, 0, 0, 0, [], tb_X7_passDay),
  (yX11_days, cX11_days, 2, some .int, 0, 0, 0, [], tb_X11_days),
  (yX11_goesOn, cX11_goesOn, 4, some .int, 0, 0, 0, [], tb_X11_goesOn),
  (yX10_undo, cX10_undo, 1, some .int, 0, 0, 0, [], tb_X10_undo),
  (yX1_takeBack, cX1_takeBack, 2, some .int, 0, 0, 0, [], tb_X1_takeBack),
  (yX11_undo, cX11_undo, 2, some .int, 0, 0, 0, [], tb_X11_undo),
  (yL_noonLong, cL_noonLong, 3, some .int, 1, 6, 2, [(0, 8, 11, 13)], tb_L_noonLong),
  (yX10_noonLong, cX10_noonLong, 4, some .int, 1, 6, 1, [], tb_X10_noonLong),
  (yX11_noonLong, cX11_noonLong, 2, some .int, 0, 0, 0, [], tb_X11_noonLong),
  (yX11_sorts, cX11_sorts, 5, some .int, 0, 0, 0, [], tb_X11_sorts),
  (yL_oneNoon, cL_oneNoon, 3, some .int, 1, 6, 2, [(0, 8, 11, 13)], tb_L_oneNoon),
  (yX10_oneNoon, cX10_oneNoon, 2, some .int, 1, 6, 1, [], tb_X10_oneNoon),
  (yX7_middleNoon, cX7_middleNoon, 7, some .int, 0, 0, 0, [], tb_X7_middleNoon),
  (yX11_oneNoon, cX11_oneNoon, 2, some .int, 0, 0, 0, [], tb_X11_oneNoon),
  (yX10_even, cX10_even, 8, some .int, 0, 0, 0, [], tb_X10_even),
  (yX11_even, cX11_even, 7, some .int, 0, 0, 0, [], tb_X11_even),
  (yX11_absolute, cX11_absolute, 1, some .int, 0, 0, 0, [], tb_X11_absolute),
  (yL_evenAt, cL_evenAt, 4, some .int, 1, 6, 2, [(0, 9, 12, 13)], tb_L_evenAt),
  (yX10_evenAt, cX10_evenAt, 2, some .int, 1, 6, 1, [], tb_X10_evenAt),
  (yX11_evenAt, cX11_evenAt, 2, some .int, 0, 0, 0, [], tb_X11_evenAt),
  (yX10_kept, cX10_kept, 2, some .int, 0, 0, 0, [], tb_X10_kept),
  (yX7_bendToDues, cX7_bendToDues, 5, none, 0, 0, 0, [], tb_X7_bendToDues),
  (yX11_kept, cX11_kept, 3, some .int, 0, 0, 0, [], tb_X11_kept),
  (yX11_tries, cX11_tries, 2, none, 0, 0, 0, [], tb_X11_tries),
  (yX11_movesToDues, cX11_movesToDues, 3, none, 0, 0, 0, [], tb_X11_movesToDues),
  (yX11_back, cX11_back, 2, none, 0, 0, 0, [], tb_X11_back),
  (yX10_worst, cX10_worst, 6, some .int, 0, 0, 0, [], tb_X10_worst),
  (yX11_worst, cX11_worst, 6, some .int, 0, 0, 0, [], tb_X11_worst),
  (yL_spare, cL_spare, 5, some .int, 1, 6, 2, [(0, 10, 13, 13)], tb_L_spare),
  (yX10_spare, cX10_spare, 3, some .int, 1, 6, 1, [], tb_X10_spare),
  (yX11_spare, cX11_spare, 3, some .int, 0, 0, 0, [], tb_X11_spare),
  (yX10_route, cX10_route, 4, some .int, 0, 0, 0, [], tb_X10_route),
  (yX11_route, cX11_route, 11, some .int, 0, 0, 0, [], tb_X11_route),
  (yX10_routeAt, cX10_routeAt, 2, some .int, 0, 0, 0, [], tb_X10_routeAt),
  (yX11_routeAt, cX11_routeAt, 2, some .int, 0, 0, 0, [], tb_X11_routeAt),
  (yX10_shadows, cX10_shadows, 5, some .int, 0, 0, 0, [], tb_X10_shadows),
  (yX11_shadows, cX11_shadows, 2, some .int, 0, 0, 0, [], tb_X11_shadows),
  (yL_votes, cL_votes, 5, some .int, 1, 6, 2, [(0, 10, 13, 13)], tb_L_votes),
  (yX10_votes, cX10_votes, 7, some .int, 1, 6, 1, [], tb_X10_votes),
  (yX11_votes, cX11_votes, 7, some .int, 0, 0, 0, [], tb_X11_votes),
  (yX10_nearer, cX10_nearer, 4, some .int, 0, 0, 0, [], tb_X10_nearer),
  (yX7_comeNearer, cX7_comeNearer, 6, some .boolean, 0, 0, 0, [], tb_X7_comeNearer),
  (yX11_nearer, cX11_nearer, 4, some .int, 0, 0, 0, [], tb_X11_nearer),
  (yL_nearerAt, cL_nearerAt, 4, some .int, 1, 6, 2, [(0, 9, 12, 13)], tb_L_nearerAt),
  (yX10_nearerAt, cX10_nearerAt, 2, some .int, 1, 6, 1, [], tb_X10_nearerAt),
  (yX11_nearerAt, cX11_nearerAt, 2, some .int, 0, 0, 0, [], tb_X11_nearerAt),
  (yX10_right, cX10_right, 6, some .int, 0, 0, 0, [], tb_X10_right),
  (yX11_right, cX11_right, 5, some .int, 0, 0, 0, [], tb_X11_right),
  (yX10_turns, cX10_turns, 4, some .int, 0, 0, 0, [], tb_X10_turns),
  (yX11_turns, cX11_turns, 3, some .int, 0, 0, 0, [], tb_X11_turns),
  (yX10_motto, cX10_motto, 2, some .int, 0, 0, 0, [], tb_X10_motto),
  (yX11_motto, cX11_motto, 3, some .int, 0, 0, 0, [], tb_X11_motto),
  (yX10_byteAt, cX10_byteAt, 2, some .int, 0, 0, 0, [], tb_X10_byteAt),
  (yX11_byteAt, cX11_byteAt, 2, some .int, 0, 0, 0, [], tb_X11_byteAt),
  (yX10_drawn, cX10_drawn, 4, some .int, 0, 0, 0, [], tb_X10_drawn),
  (yX11_drawn, cX11_drawn, 3, some .int, 0, 0, 0, [], tb_X11_drawn),
  (yX10_odds, cX10_odds, 6, some .int, 0, 0, 0, [], tb_X10_odds),
  (yX11_odds, cX11_odds, 6, some .int, 0, 0, 0, [], tb_X11_odds),
  (yX10_book, cX10_book, 3, some .int, 0, 0, 0, [], tb_X10_book),
  (yX0_read, cX0_read, 3, some .boolean, 0, 0, 0, [], tb_X0_read),
  (yX0_judge, cX0_judge, 3, none, 0, 0, 0, [], tb_X0_judge),
  (yX11_book, cX11_book, 4, some .int, 0, 0, 0, [], tb_X11_book),
  (yX10_told, cX10_told, 2, some .int, 0, 0, 0, [], tb_X10_told),
  (yX11_told, cX11_told, 2, some .int, 0, 0, 0, [], tb_X11_told),
  (yX10_sentence, cX10_sentence, 3, some .int, 0, 0, 0, [], tb_X10_sentence),
  (yX6_read, cX6_read, 3, some .boolean, 0, 0, 0, [], tb_X6_read),
  (yX6_readCond, cX6_readCond, 5, some .boolean, 0, 0, 0, [], tb_X6_readCond),
  (yX6_readAll, cX6_readAll, 5, some .boolean, 0, 0, 0, [], tb_X6_readAll),
  (yX6_readOne, cX6_readOne, 6, some .boolean, 0, 0, 0, [], tb_X6_readOne),
  (yX6_beginsOne, cX6_beginsOne, 1, some .boolean, 0, 0, 0, [], tb_X6_beginsOne),
  (yX4_failAs, cX4_failAs, 2, some .boolean, 0, 0, 0, [], tb_X4_failAs),
  (yX11_sentence, cX11_sentence, 3, some .int, 0, 0, 0, [], tb_X11_sentence),
  (yX11_operand, cX11_operand, 5, some .boolean, 0, 0, 0, [], tb_X11_operand),
  (yX11_isWord, cX11_isWord, 3, some .boolean, 0, 0, 0, [], tb_X11_isWord),
  (yX11_isSign, cX11_isSign, 2, some .boolean, 0, 0, 0, [], tb_X11_isSign),
  (yX11_leafOf, cX11_leafOf, 1, some .int, 0, 0, 0, [], tb_X11_leafOf),
  (yX11_bad, cX11_bad, 2, some .boolean, 0, 0, 0, [], tb_X11_bad),
  (yX10_said, cX10_said, 4, some .int, 0, 0, 0, [], tb_X10_said),
  (yX11_said, cX11_said, 4, some .int, 0, 0, 0, [], tb_X11_said),
  (yX10_image, cX10_image, 3, some .boolean, 0, 0, 0, [], tb_X10_image),
  (yX8_copyFrom, cX8_copyFrom, 2, none, 0, 0, 0, [], tb_X8_copyFrom),
  (yX6_copyFrom, cX6_copyFrom, 2, none, 0, 0, 0, [], tb_X6_copyFrom),
  (yX11_image, cX11_image, 3, some .boolean, 0, 0, 0, [], tb_X11_image),
  (yX10_restore, cX10_restore, 3, some .boolean, 0, 0, 0, [], tb_X10_restore),
  (yX11_restore, cX11_restore, 3, some .boolean, 0, 0, 0, [], tb_X11_restore),
  (yX10_count, cX10_count, 2, some .int, 0, 0, 0, [], tb_X10_count),
  (yX8_limit, cX8_limit, 1, some .int, 0, 0, 0, [], tb_X8_limit),
  (yX8_change, cX8_change, 1, some .int, 0, 0, 0, [], tb_X8_change),
  (yX8_frost, cX8_frost, 1, some .int, 0, 0, 0, [], tb_X8_frost),
  (yX11_count, cX11_count, 2, some .int, 0, 0, 0, [], tb_X11_count)]
set_option maxRecDepth 100000 in
theorem me_X10_init : ab_MEL[0]? = some (yX10_init, cX10_init, 1, none, 141, 2556, 0, [], tb_X10_init) := rfl
set_option maxRecDepth 100000 in
theorem me_X4_init : ab_MEL[1]? = some (yX4_init, cX4_init, 3, none, 2, 962, 0, [], tb_X4_init) := rfl
set_option maxRecDepth 100000 in
theorem me_J0_length_8abf5 : ab_MEL[2]? = some (yJ0_length_8abf5, cJ0_length_8abf5, 1, some .int, 0, 0, 0, [], tb_J0_length_8abf5) := rfl
set_option maxRecDepth 100000 in
theorem me_J0_coder_7d493 : ab_MEL[3]? = some (yJ0_coder_7d493, cJ0_coder_7d493, 1, some .byte, 0, 0, 0, [], tb_J0_coder_7d493) := rfl
set_option maxRecDepth 100000 in
theorem me_J0_charAt_5068e : ab_MEL[4]? = some (yJ0_charAt_5068e, cJ0_charAt_5068e, 2, some .char, 0, 0, 0, [], tb_J0_charAt_5068e) := rfl
set_option maxRecDepth 100000 in
theorem me_J0_isLatin1_aae02 : ab_MEL[5]? = some (yJ0_isLatin1_aae02, cJ0_isLatin1_aae02, 1, some .boolean, 0, 0, 0, [], tb_J0_isLatin1_aae02) := rfl
set_option maxRecDepth 100000 in
theorem me_J1_charAt_3b067 : ab_MEL[6]? = some (yJ1_charAt_3b067, cJ1_charAt_3b067, 2, some .char, 0, 0, 0, [], tb_J1_charAt_3b067) := rfl
set_option maxRecDepth 100000 in
theorem me_J0_checkIndex_df160 : ab_MEL[7]? = some (yJ0_checkIndex_df160, cJ0_checkIndex_df160, 2, none, 0, 0, 0, [], tb_J0_checkIndex_df160) := rfl
set_option maxRecDepth 100000 in
theorem me_J3_checkIndex_8e157 : ab_MEL[8]? = some (yJ3_checkIndex_8e157, cJ3_checkIndex_8e157, 3, some .int, 0, 0, 0, [], tb_J3_checkIndex_8e157) := rfl
set_option maxRecDepth 100000 in
theorem me_X9_init : ab_MEL[9]? = some (yX9_init, cX9_init, 1, none, 1, 3, 0, [], tb_X9_init) := rfl
set_option maxRecDepth 100000 in
theorem me_X8_init : ab_MEL[10]? = some (yX8_init, cX8_init, 1, none, 13, 112, 0, [], tb_X8_init) := rfl
set_option maxRecDepth 100000 in
theorem me_X7_init : ab_MEL[11]? = some (yX7_init, cX7_init, 1, none, 3, 21, 0, [], tb_X7_init) := rfl
set_option maxRecDepth 100000 in
theorem me_X1_init : ab_MEL[12]? = some (yX1_init, cX1_init, 2, none, 33, 232, 0, [], tb_X1_init) := rfl
set_option maxRecDepth 100000 in
theorem me_X6_init : ab_MEL[13]? = some (yX6_init, cX6_init, 1, none, 3, 120, 0, [], tb_X6_init) := rfl
set_option maxRecDepth 100000 in
theorem me_X0_init : ab_MEL[14]? = some (yX0_init, cX0_init, 1, none, 3, 120, 0, [], tb_X0_init) := rfl
set_option maxRecDepth 100000 in
theorem me_X5_init : ab_MEL[15]? = some (yX5_init, cX5_init, 1, none, 2, 16, 0, [], tb_X5_init) := rfl
set_option maxRecDepth 100000 in
theorem me_X3_init : ab_MEL[16]? = some (yX3_init, cX3_init, 1, none, 1, 40, 0, [], tb_X3_init) := rfl
set_option maxRecDepth 100000 in
theorem me_X2_init : ab_MEL[17]? = some (yX2_init, cX2_init, 1, none, 22, 281, 0, [], tb_X2_init) := rfl
set_option maxRecDepth 100000 in
theorem me_X11_init : ab_MEL[18]? = some (yX11_init, cX11_init, 2, none, 23, 2596, 0, [], tb_X11_init) := rfl
set_option maxRecDepth 100000 in
theorem me_X11_clears : ab_MEL[19]? = some (yX11_clears, cX11_clears, 2, none, 0, 0, 0, [], tb_X11_clears) := rfl
set_option maxRecDepth 100000 in
theorem me_X10_feed : ab_MEL[20]? = some (yX10_feed, cX10_feed, 6, some .int, 0, 0, 0, [], tb_X10_feed) := rfl
set_option maxRecDepth 100000 in
theorem me_X4_put : ab_MEL[21]? = some (yX4_put, cX4_put, 3, none, 0, 0, 0, [], tb_X4_put) := rfl
set_option maxRecDepth 100000 in
theorem me_X11_feed : ab_MEL[22]? = some (yX11_feed, cX11_feed, 6, some .int, 0, 0, 0, [], tb_X11_feed) := rfl
set_option maxRecDepth 100000 in
theorem me_X11_four : ab_MEL[23]? = some (yX11_four, cX11_four, 3, none, 0, 0, 0, [], tb_X11_four) := rfl
set_option maxRecDepth 100000 in
theorem me_X10_end : ab_MEL[24]? = some (yX10_end, cX10_end, 2, some .boolean, 0, 0, 0, [], tb_X10_end) := rfl
set_option maxRecDepth 100000 in
theorem me_X11_end : ab_MEL[25]? = some (yX11_end, cX11_end, 2, some .boolean, 0, 0, 0, [], tb_X11_end) := rfl
set_option maxRecDepth 100000 in
theorem me_X10_valley : ab_MEL[26]? = some (yX10_valley, cX10_valley, 3, some .int, 0, 0, 0, [], tb_X10_valley) := rfl
set_option maxRecDepth 100000 in
theorem me_X9_readInto : ab_MEL[27]? = some (yX9_readInto, cX9_readInto, 4, some .int, 0, 0, 0, [], tb_X9_readInto) := rfl
set_option maxRecDepth 100000 in
theorem me_X8_makeEmpty : ab_MEL[28]? = some (yX8_makeEmpty, cX8_makeEmpty, 1, none, 0, 0, 0, [], tb_X8_makeEmpty) := rfl
set_option maxRecDepth 100000 in
theorem me_X4_begin : ab_MEL[29]? = some (yX4_begin, cX4_begin, 2, none, 0, 0, 0, [], tb_X4_begin) := rfl
set_option maxRecDepth 100000 in
theorem me_X4_next : ab_MEL[30]? = some (yX4_next, cX4_next, 1, none, 0, 0, 0, [], tb_X4_next) := rfl
set_option maxRecDepth 100000 in
theorem me_X4_atEnd : ab_MEL[31]? = some (yX4_atEnd, cX4_atEnd, 1, some .boolean, 0, 0, 0, [], tb_X4_atEnd) := rfl
set_option maxRecDepth 100000 in
theorem me_X7_beginIn : ab_MEL[32]? = some (yX7_beginIn, cX7_beginIn, 3, none, 0, 0, 0, [], tb_X7_beginIn) := rfl
set_option maxRecDepth 100000 in
theorem me_X11_valley : ab_MEL[33]? = some (yX11_valley, cX11_valley, 2, some .int, 0, 0, 0, [], tb_X11_valley) := rfl
set_option maxRecDepth 100000 in
theorem me_X11_taken : ab_MEL[34]? = some (yX11_taken, cX11_taken, 2, none, 0, 0, 0, [], tb_X11_taken) := rfl
set_option maxRecDepth 100000 in
theorem me_X11_next : ab_MEL[35]? = some (yX11_next, cX11_next, 4, none, 0, 0, 0, [], tb_X11_next) := rfl
set_option maxRecDepth 100000 in
theorem me_X11_peek : ab_MEL[36]? = some (yX11_peek, cX11_peek, 1, some .int, 0, 0, 0, [], tb_X11_peek) := rfl
set_option maxRecDepth 100000 in
theorem me_X10_fault : ab_MEL[37]? = some (yX10_fault, cX10_fault, 1, some .int, 0, 0, 0, [], tb_X10_fault) := rfl
set_option maxRecDepth 100000 in
theorem me_X11_fault : ab_MEL[38]? = some (yX11_fault, cX11_fault, 1, some .int, 0, 0, 0, [], tb_X11_fault) := rfl
set_option maxRecDepth 100000 in
theorem me_L_town : ab_MEL[39]? = some (yL_town, cL_town, 5, some .int, 1, 6, 2, [(0, 10, 13, 13)], tb_L_town) := rfl
set_option maxRecDepth 100000 in
theorem me_X10_town : ab_MEL[40]? = some (yX10_town, cX10_town, 3, some .int, 1, 6, 1, [], tb_X10_town) := rfl
set_option maxRecDepth 100000 in
theorem me_X10_hasTown : ab_MEL[41]? = some (yX10_hasTown, cX10_hasTown, 2, some .boolean, 0, 0, 0, [], tb_X10_hasTown) := rfl
set_option maxRecDepth 100000 in
theorem me_X11_town : ab_MEL[42]? = some (yX11_town, cX11_town, 3, some .int, 0, 0, 0, [], tb_X11_town) := rfl
set_option maxRecDepth 100000 in
theorem me_X11_isTown : ab_MEL[43]? = some (yX11_isTown, cX11_isTown, 2, some .boolean, 0, 0, 0, [], tb_X11_isTown) := rfl
set_option maxRecDepth 100000 in
theorem me_X11_isIn : ab_MEL[44]? = some (yX11_isIn, cX11_isIn, 3, some .boolean, 0, 0, 0, [], tb_X11_isIn) := rfl
set_option maxRecDepth 100000 in
theorem me_X11_throwsIf : ab_MEL[45]? = some (yX11_throwsIf, cX11_throwsIf, 2, some .boolean, 0, 0, 0, [], tb_X11_throwsIf) := rfl
set_option maxRecDepth 100000 in
theorem me_X11_thrown : ab_MEL[46]? = some (yX11_thrown, cX11_thrown, 1, some .int, 0, 0, 0, [], tb_X11_thrown) := rfl
set_option maxRecDepth 100000 in
theorem me_L_due : ab_MEL[47]? = some (yL_due, cL_due, 5, some .int, 1, 6, 2, [(0, 10, 13, 13)], tb_L_due) := rfl
set_option maxRecDepth 100000 in
theorem me_X10_due : ab_MEL[48]? = some (yX10_due, cX10_due, 4, some .int, 1, 6, 1, [], tb_X10_due) := rfl
set_option maxRecDepth 100000 in
theorem me_X11_due : ab_MEL[49]? = some (yX11_due, cX11_due, 3, some .int, 0, 0, 0, [], tb_X11_due) := rfl
set_option maxRecDepth 100000 in
theorem me_L_train : ab_MEL[50]? = some (yL_train, cL_train, 5, some .int, 1, 6, 2, [(0, 10, 13, 13)], tb_L_train) := rfl
set_option maxRecDepth 100000 in
theorem me_X10_train : ab_MEL[51]? = some (yX10_train, cX10_train, 3, some .int, 1, 6, 1, [], tb_X10_train) := rfl
set_option maxRecDepth 100000 in
theorem me_X10_hasTrain : ab_MEL[52]? = some (yX10_hasTrain, cX10_hasTrain, 2, some .boolean, 0, 0, 0, [], tb_X10_hasTrain) := rfl
set_option maxRecDepth 100000 in
theorem me_X11_train : ab_MEL[53]? = some (yX11_train, cX11_train, 3, some .int, 0, 0, 0, [], tb_X11_train) := rfl
set_option maxRecDepth 100000 in
theorem me_X11_isTrain : ab_MEL[54]? = some (yX11_isTrain, cX11_isTrain, 2, some .boolean, 0, 0, 0, [], tb_X11_isTrain) := rfl
set_option maxRecDepth 100000 in
theorem me_L_shows : ab_MEL[55]? = some (yL_shows, cL_shows, 5, some .int, 1, 6, 2, [(0, 10, 13, 13)], tb_L_shows) := rfl
set_option maxRecDepth 100000 in
theorem me_X10_shows : ab_MEL[56]? = some (yX10_shows, cX10_shows, 3, some .int, 1, 6, 1, [], tb_X10_shows) := rfl
set_option maxRecDepth 100000 in
theorem me_X11_shows : ab_MEL[57]? = some (yX11_shows, cX11_shows, 3, some .int, 0, 0, 0, [], tb_X11_shows) := rfl
set_option maxRecDepth 100000 in
theorem me_L_now : ab_MEL[58]? = some (yL_now, cL_now, 4, some .int, 1, 6, 2, [(0, 9, 12, 13)], tb_L_now) := rfl
set_option maxRecDepth 100000 in
theorem me_X10_now : ab_MEL[59]? = some (yX10_now, cX10_now, 2, some .int, 1, 6, 1, [], tb_X10_now) := rfl
set_option maxRecDepth 100000 in
theorem me_X10_bendsAdded : ab_MEL[60]? = some (yX10_bendsAdded, cX10_bendsAdded, 1, some .int, 0, 0, 0, [], tb_X10_bendsAdded) := rfl
set_option maxRecDepth 100000 in
theorem me_X10_added : ab_MEL[61]? = some (yX10_added, cX10_added, 4, some .int, 0, 0, 0, [], tb_X10_added) := rfl
set_option maxRecDepth 100000 in
theorem me_X7_breachBits : ab_MEL[62]? = some (yX7_breachBits, cX7_breachBits, 4, some .int, 0, 0, 0, [], tb_X7_breachBits) := rfl
set_option maxRecDepth 100000 in
theorem me_X10_minutesOff : ab_MEL[63]? = some (yX10_minutesOff, cX10_minutesOff, 3, some .int, 0, 0, 0, [], tb_X10_minutesOff) := rfl
set_option maxRecDepth 100000 in
theorem me_X11_now : ab_MEL[64]? = some (yX11_now, cX11_now, 4, some .int, 0, 0, 0, [], tb_X11_now) := rfl
set_option maxRecDepth 100000 in
theorem me_X11_sumOf : ab_MEL[65]? = some (yX11_sumOf, cX11_sumOf, 4, some .int, 0, 0, 0, [], tb_X11_sumOf) := rfl
set_option maxRecDepth 100000 in
theorem me_X11_breachSet : ab_MEL[66]? = some (yX11_breachSet, cX11_breachSet, 3, some .int, 0, 0, 0, [], tb_X11_breachSet) := rfl
set_option maxRecDepth 100000 in
theorem me_X10_bend : ab_MEL[67]? = some (yX10_bend, cX10_bend, 4, some .int, 0, 0, 0, [], tb_X10_bend) := rfl
set_option maxRecDepth 100000 in
theorem me_X11_bend : ab_MEL[68]? = some (yX11_bend, cX11_bend, 4, some .int, 0, 0, 0, [], tb_X11_bend) := rfl
set_option maxRecDepth 100000 in
theorem me_X10_shade : ab_MEL[69]? = some (yX10_shade, cX10_shade, 2, some .int, 0, 0, 0, [], tb_X10_shade) := rfl
set_option maxRecDepth 100000 in
theorem me_X11_shade : ab_MEL[70]? = some (yX11_shade, cX11_shade, 2, some .int, 0, 0, 0, [], tb_X11_shade) := rfl
set_option maxRecDepth 100000 in
theorem me_X10_clear : ab_MEL[71]? = some (yX10_clear, cX10_clear, 2, some .int, 0, 0, 0, [], tb_X10_clear) := rfl
set_option maxRecDepth 100000 in
theorem me_X11_clear : ab_MEL[72]? = some (yX11_clear, cX11_clear, 2, some .int, 0, 0, 0, [], tb_X11_clear) := rfl
set_option maxRecDepth 100000 in
theorem me_X10_freeze : ab_MEL[73]? = some (yX10_freeze, cX10_freeze, 1, some .int, 0, 0, 0, [], tb_X10_freeze) := rfl
set_option maxRecDepth 100000 in
theorem me_X1_keep : ab_MEL[74]? = some (yX1_keep, cX1_keep, 4, none, 0, 0, 0, [], tb_X1_keep) := rfl
set_option maxRecDepth 100000 in
theorem me_X7_copyFrom : ab_MEL[75]? = some (yX7_copyFrom, cX7_copyFrom, 2, none, 0, 0, 0, [], tb_X7_copyFrom) := rfl
set_option maxRecDepth 100000 in
theorem me_X7_springBack : ab_MEL[76]? = some (yX7_springBack, cX7_springBack, 4, some .int, 0, 0, 0, [], tb_X7_springBack) := rfl
set_option maxRecDepth 100000 in
theorem me_X11_freeze : ab_MEL[77]? = some (yX11_freeze, cX11_freeze, 1, some .int, 0, 0, 0, [], tb_X11_freeze) := rfl
set_option maxRecDepth 100000 in
theorem me_X11_keep : ab_MEL[78]? = some (yX11_keep, cX11_keep, 2, none, 0, 0, 0, [], tb_X11_keep) := rfl
set_option maxRecDepth 100000 in
theorem me_X11_freezes : ab_MEL[79]? = some (yX11_freezes, cX11_freezes, 4, some .int, 0, 0, 0, [], tb_X11_freezes) := rfl
set_option maxRecDepth 100000 in
theorem me_X10_days : ab_MEL[80]? = some (yX10_days, cX10_days, 3, some .int, 0, 0, 0, [], tb_X10_days) := rfl
set_option maxRecDepth 100000 in
theorem me_X7_passDays : ab_MEL[81]? = some (yX7_passDays, cX7_passDays, 4, none, 0, 0, 0, [], tb_X7_passDays) := rfl
set_option maxRecDepth 100000 in
theorem me_X7_passDay : ab_MEL[82]? = some (yX7_passDay, cX7_passDay, 3, none, 0, 0, 0, [], tb_X7_passDay) := rfl
set_option maxRecDepth 100000 in
theorem me_X11_days : ab_MEL[83]? = some (yX11_days, cX11_days, 2, some .int, 0, 0, 0, [], tb_X11_days) := rfl
set_option maxRecDepth 100000 in
theorem me_X11_goesOn : ab_MEL[84]? = some (yX11_goesOn, cX11_goesOn, 4, some .int, 0, 0, 0, [], tb_X11_goesOn) := rfl
set_option maxRecDepth 100000 in
theorem me_X10_undo : ab_MEL[85]? = some (yX10_undo, cX10_undo, 1, some .int, 0, 0, 0, [], tb_X10_undo) := rfl
set_option maxRecDepth 100000 in
theorem me_X1_takeBack : ab_MEL[86]? = some (yX1_takeBack, cX1_takeBack, 2, some .int, 0, 0, 0, [], tb_X1_takeBack) := rfl
set_option maxRecDepth 100000 in
theorem me_X11_undo : ab_MEL[87]? = some (yX11_undo, cX11_undo, 2, some .int, 0, 0, 0, [], tb_X11_undo) := rfl
set_option maxRecDepth 100000 in
theorem me_L_noonLong : ab_MEL[88]? = some (yL_noonLong, cL_noonLong, 3, some .int, 1, 6, 2, [(0, 8, 11, 13)], tb_L_noonLong) := rfl
set_option maxRecDepth 100000 in
theorem me_X10_noonLong : ab_MEL[89]? = some (yX10_noonLong, cX10_noonLong, 4, some .int, 1, 6, 1, [], tb_X10_noonLong) := rfl
set_option maxRecDepth 100000 in
theorem me_X11_noonLong : ab_MEL[90]? = some (yX11_noonLong, cX11_noonLong, 2, some .int, 0, 0, 0, [], tb_X11_noonLong) := rfl
set_option maxRecDepth 100000 in
theorem me_X11_sorts : ab_MEL[91]? = some (yX11_sorts, cX11_sorts, 5, some .int, 0, 0, 0, [], tb_X11_sorts) := rfl
set_option maxRecDepth 100000 in
theorem me_L_oneNoon : ab_MEL[92]? = some (yL_oneNoon, cL_oneNoon, 3, some .int, 1, 6, 2, [(0, 8, 11, 13)], tb_L_oneNoon) := rfl
set_option maxRecDepth 100000 in
theorem me_X10_oneNoon : ab_MEL[93]? = some (yX10_oneNoon, cX10_oneNoon, 2, some .int, 1, 6, 1, [], tb_X10_oneNoon) := rfl
set_option maxRecDepth 100000 in
theorem me_X7_middleNoon : ab_MEL[94]? = some (yX7_middleNoon, cX7_middleNoon, 7, some .int, 0, 0, 0, [], tb_X7_middleNoon) := rfl
set_option maxRecDepth 100000 in
theorem me_X11_oneNoon : ab_MEL[95]? = some (yX11_oneNoon, cX11_oneNoon, 2, some .int, 0, 0, 0, [], tb_X11_oneNoon) := rfl
set_option maxRecDepth 100000 in
theorem me_X10_even : ab_MEL[96]? = some (yX10_even, cX10_even, 8, some .int, 0, 0, 0, [], tb_X10_even) := rfl
set_option maxRecDepth 100000 in
theorem me_X11_even : ab_MEL[97]? = some (yX11_even, cX11_even, 7, some .int, 0, 0, 0, [], tb_X11_even) := rfl
set_option maxRecDepth 100000 in
theorem me_X11_absolute : ab_MEL[98]? = some (yX11_absolute, cX11_absolute, 1, some .int, 0, 0, 0, [], tb_X11_absolute) := rfl
set_option maxRecDepth 100000 in
theorem me_L_evenAt : ab_MEL[99]? = some (yL_evenAt, cL_evenAt, 4, some .int, 1, 6, 2, [(0, 9, 12, 13)], tb_L_evenAt) := rfl
set_option maxRecDepth 100000 in
theorem me_X10_evenAt : ab_MEL[100]? = some (yX10_evenAt, cX10_evenAt, 2, some .int, 1, 6, 1, [], tb_X10_evenAt) := rfl
set_option maxRecDepth 100000 in
theorem me_X11_evenAt : ab_MEL[101]? = some (yX11_evenAt, cX11_evenAt, 2, some .int, 0, 0, 0, [], tb_X11_evenAt) := rfl
set_option maxRecDepth 100000 in
theorem me_X10_kept : ab_MEL[102]? = some (yX10_kept, cX10_kept, 2, some .int, 0, 0, 0, [], tb_X10_kept) := rfl
set_option maxRecDepth 100000 in
theorem me_X7_bendToDues : ab_MEL[103]? = some (yX7_bendToDues, cX7_bendToDues, 5, none, 0, 0, 0, [], tb_X7_bendToDues) := rfl
set_option maxRecDepth 100000 in
theorem me_X11_kept : ab_MEL[104]? = some (yX11_kept, cX11_kept, 3, some .int, 0, 0, 0, [], tb_X11_kept) := rfl
set_option maxRecDepth 100000 in
theorem me_X11_tries : ab_MEL[105]? = some (yX11_tries, cX11_tries, 2, none, 0, 0, 0, [], tb_X11_tries) := rfl
set_option maxRecDepth 100000 in
theorem me_X11_movesToDues : ab_MEL[106]? = some (yX11_movesToDues, cX11_movesToDues, 3, none, 0, 0, 0, [], tb_X11_movesToDues) := rfl
set_option maxRecDepth 100000 in
theorem me_X11_back : ab_MEL[107]? = some (yX11_back, cX11_back, 2, none, 0, 0, 0, [], tb_X11_back) := rfl
set_option maxRecDepth 100000 in
theorem me_X10_worst : ab_MEL[108]? = some (yX10_worst, cX10_worst, 6, some .int, 0, 0, 0, [], tb_X10_worst) := rfl
set_option maxRecDepth 100000 in
theorem me_X11_worst : ab_MEL[109]? = some (yX11_worst, cX11_worst, 6, some .int, 0, 0, 0, [], tb_X11_worst) := rfl
set_option maxRecDepth 100000 in
theorem me_L_spare : ab_MEL[110]? = some (yL_spare, cL_spare, 5, some .int, 1, 6, 2, [(0, 10, 13, 13)], tb_L_spare) := rfl
set_option maxRecDepth 100000 in
theorem me_X10_spare : ab_MEL[111]? = some (yX10_spare, cX10_spare, 3, some .int, 1, 6, 1, [], tb_X10_spare) := rfl
set_option maxRecDepth 100000 in
theorem me_X11_spare : ab_MEL[112]? = some (yX11_spare, cX11_spare, 3, some .int, 0, 0, 0, [], tb_X11_spare) := rfl
set_option maxRecDepth 100000 in
theorem me_X10_route : ab_MEL[113]? = some (yX10_route, cX10_route, 4, some .int, 0, 0, 0, [], tb_X10_route) := rfl
set_option maxRecDepth 100000 in
theorem me_X11_route : ab_MEL[114]? = some (yX11_route, cX11_route, 11, some .int, 0, 0, 0, [], tb_X11_route) := rfl
set_option maxRecDepth 100000 in
theorem me_X10_routeAt : ab_MEL[115]? = some (yX10_routeAt, cX10_routeAt, 2, some .int, 0, 0, 0, [], tb_X10_routeAt) := rfl
set_option maxRecDepth 100000 in
theorem me_X11_routeAt : ab_MEL[116]? = some (yX11_routeAt, cX11_routeAt, 2, some .int, 0, 0, 0, [], tb_X11_routeAt) := rfl
set_option maxRecDepth 100000 in
theorem me_X10_shadows : ab_MEL[117]? = some (yX10_shadows, cX10_shadows, 5, some .int, 0, 0, 0, [], tb_X10_shadows) := rfl
set_option maxRecDepth 100000 in
theorem me_X11_shadows : ab_MEL[118]? = some (yX11_shadows, cX11_shadows, 2, some .int, 0, 0, 0, [], tb_X11_shadows) := rfl
set_option maxRecDepth 100000 in
theorem me_L_votes : ab_MEL[119]? = some (yL_votes, cL_votes, 5, some .int, 1, 6, 2, [(0, 10, 13, 13)], tb_L_votes) := rfl
set_option maxRecDepth 100000 in
theorem me_X10_votes : ab_MEL[120]? = some (yX10_votes, cX10_votes, 7, some .int, 1, 6, 1, [], tb_X10_votes) := rfl
set_option maxRecDepth 100000 in
theorem me_X11_votes : ab_MEL[121]? = some (yX11_votes, cX11_votes, 7, some .int, 0, 0, 0, [], tb_X11_votes) := rfl
set_option maxRecDepth 100000 in
theorem me_X10_nearer : ab_MEL[122]? = some (yX10_nearer, cX10_nearer, 4, some .int, 0, 0, 0, [], tb_X10_nearer) := rfl
set_option maxRecDepth 100000 in
theorem me_X7_comeNearer : ab_MEL[123]? = some (yX7_comeNearer, cX7_comeNearer, 6, some .boolean, 0, 0, 0, [], tb_X7_comeNearer) := rfl
set_option maxRecDepth 100000 in
theorem me_X11_nearer : ab_MEL[124]? = some (yX11_nearer, cX11_nearer, 4, some .int, 0, 0, 0, [], tb_X11_nearer) := rfl
set_option maxRecDepth 100000 in
theorem me_L_nearerAt : ab_MEL[125]? = some (yL_nearerAt, cL_nearerAt, 4, some .int, 1, 6, 2, [(0, 9, 12, 13)], tb_L_nearerAt) := rfl
set_option maxRecDepth 100000 in
theorem me_X10_nearerAt : ab_MEL[126]? = some (yX10_nearerAt, cX10_nearerAt, 2, some .int, 1, 6, 1, [], tb_X10_nearerAt) := rfl
set_option maxRecDepth 100000 in
theorem me_X11_nearerAt : ab_MEL[127]? = some (yX11_nearerAt, cX11_nearerAt, 2, some .int, 0, 0, 0, [], tb_X11_nearerAt) := rfl
set_option maxRecDepth 100000 in
theorem me_X10_right : ab_MEL[128]? = some (yX10_right, cX10_right, 6, some .int, 0, 0, 0, [], tb_X10_right) := rfl
set_option maxRecDepth 100000 in
theorem me_X11_right : ab_MEL[129]? = some (yX11_right, cX11_right, 5, some .int, 0, 0, 0, [], tb_X11_right) := rfl
set_option maxRecDepth 100000 in
theorem me_X10_turns : ab_MEL[130]? = some (yX10_turns, cX10_turns, 4, some .int, 0, 0, 0, [], tb_X10_turns) := rfl
set_option maxRecDepth 100000 in
theorem me_X11_turns : ab_MEL[131]? = some (yX11_turns, cX11_turns, 3, some .int, 0, 0, 0, [], tb_X11_turns) := rfl
set_option maxRecDepth 100000 in
theorem me_X10_motto : ab_MEL[132]? = some (yX10_motto, cX10_motto, 2, some .int, 0, 0, 0, [], tb_X10_motto) := rfl
set_option maxRecDepth 100000 in
theorem me_X11_motto : ab_MEL[133]? = some (yX11_motto, cX11_motto, 3, some .int, 0, 0, 0, [], tb_X11_motto) := rfl
set_option maxRecDepth 100000 in
theorem me_X10_byteAt : ab_MEL[134]? = some (yX10_byteAt, cX10_byteAt, 2, some .int, 0, 0, 0, [], tb_X10_byteAt) := rfl
set_option maxRecDepth 100000 in
theorem me_X11_byteAt : ab_MEL[135]? = some (yX11_byteAt, cX11_byteAt, 2, some .int, 0, 0, 0, [], tb_X11_byteAt) := rfl
set_option maxRecDepth 100000 in
theorem me_X10_drawn : ab_MEL[136]? = some (yX10_drawn, cX10_drawn, 4, some .int, 0, 0, 0, [], tb_X10_drawn) := rfl
set_option maxRecDepth 100000 in
theorem me_X11_drawn : ab_MEL[137]? = some (yX11_drawn, cX11_drawn, 3, some .int, 0, 0, 0, [], tb_X11_drawn) := rfl
set_option maxRecDepth 100000 in
theorem me_X10_odds : ab_MEL[138]? = some (yX10_odds, cX10_odds, 6, some .int, 0, 0, 0, [], tb_X10_odds) := rfl
set_option maxRecDepth 100000 in
theorem me_X11_odds : ab_MEL[139]? = some (yX11_odds, cX11_odds, 6, some .int, 0, 0, 0, [], tb_X11_odds) := rfl
set_option maxRecDepth 100000 in
theorem me_X10_book : ab_MEL[140]? = some (yX10_book, cX10_book, 3, some .int, 0, 0, 0, [], tb_X10_book) := rfl
set_option maxRecDepth 100000 in
theorem me_X0_read : ab_MEL[141]? = some (yX0_read, cX0_read, 3, some .boolean, 0, 0, 0, [], tb_X0_read) := rfl
set_option maxRecDepth 100000 in
theorem me_X0_judge : ab_MEL[142]? = some (yX0_judge, cX0_judge, 3, none, 0, 0, 0, [], tb_X0_judge) := rfl
set_option maxRecDepth 100000 in
theorem me_X11_book : ab_MEL[143]? = some (yX11_book, cX11_book, 4, some .int, 0, 0, 0, [], tb_X11_book) := rfl
set_option maxRecDepth 100000 in
theorem me_X10_told : ab_MEL[144]? = some (yX10_told, cX10_told, 2, some .int, 0, 0, 0, [], tb_X10_told) := rfl
set_option maxRecDepth 100000 in
theorem me_X11_told : ab_MEL[145]? = some (yX11_told, cX11_told, 2, some .int, 0, 0, 0, [], tb_X11_told) := rfl
set_option maxRecDepth 100000 in
theorem me_X10_sentence : ab_MEL[146]? = some (yX10_sentence, cX10_sentence, 3, some .int, 0, 0, 0, [], tb_X10_sentence) := rfl
set_option maxRecDepth 100000 in
theorem me_X6_read : ab_MEL[147]? = some (yX6_read, cX6_read, 3, some .boolean, 0, 0, 0, [], tb_X6_read) := rfl
set_option maxRecDepth 100000 in
theorem me_X6_readCond : ab_MEL[148]? = some (yX6_readCond, cX6_readCond, 5, some .boolean, 0, 0, 0, [], tb_X6_readCond) := rfl
set_option maxRecDepth 100000 in
theorem me_X6_readAll : ab_MEL[149]? = some (yX6_readAll, cX6_readAll, 5, some .boolean, 0, 0, 0, [], tb_X6_readAll) := rfl
set_option maxRecDepth 100000 in
theorem me_X6_readOne : ab_MEL[150]? = some (yX6_readOne, cX6_readOne, 6, some .boolean, 0, 0, 0, [], tb_X6_readOne) := rfl
set_option maxRecDepth 100000 in
theorem me_X6_beginsOne : ab_MEL[151]? = some (yX6_beginsOne, cX6_beginsOne, 1, some .boolean, 0, 0, 0, [], tb_X6_beginsOne) := rfl
set_option maxRecDepth 100000 in
theorem me_X4_failAs : ab_MEL[152]? = some (yX4_failAs, cX4_failAs, 2, some .boolean, 0, 0, 0, [], tb_X4_failAs) := rfl
set_option maxRecDepth 100000 in
theorem me_X11_sentence : ab_MEL[153]? = some (yX11_sentence, cX11_sentence, 3, some .int, 0, 0, 0, [], tb_X11_sentence) := rfl
set_option maxRecDepth 100000 in
theorem me_X11_operand : ab_MEL[154]? = some (yX11_operand, cX11_operand, 5, some .boolean, 0, 0, 0, [], tb_X11_operand) := rfl
set_option maxRecDepth 100000 in
theorem me_X11_isWord : ab_MEL[155]? = some (yX11_isWord, cX11_isWord, 3, some .boolean, 0, 0, 0, [], tb_X11_isWord) := rfl
set_option maxRecDepth 100000 in
theorem me_X11_isSign : ab_MEL[156]? = some (yX11_isSign, cX11_isSign, 2, some .boolean, 0, 0, 0, [], tb_X11_isSign) := rfl
set_option maxRecDepth 100000 in
theorem me_X11_leafOf : ab_MEL[157]? = some (yX11_leafOf, cX11_leafOf, 1, some .int, 0, 0, 0, [], tb_X11_leafOf) := rfl
set_option maxRecDepth 100000 in
theorem me_X11_bad : ab_MEL[158]? = some (yX11_bad, cX11_bad, 2, some .boolean, 0, 0, 0, [], tb_X11_bad) := rfl
set_option maxRecDepth 100000 in
theorem me_X10_said : ab_MEL[159]? = some (yX10_said, cX10_said, 4, some .int, 0, 0, 0, [], tb_X10_said) := rfl
set_option maxRecDepth 100000 in
theorem me_X11_said : ab_MEL[160]? = some (yX11_said, cX11_said, 4, some .int, 0, 0, 0, [], tb_X11_said) := rfl
set_option maxRecDepth 100000 in
theorem me_X10_image : ab_MEL[161]? = some (yX10_image, cX10_image, 3, some .boolean, 0, 0, 0, [], tb_X10_image) := rfl
set_option maxRecDepth 100000 in
theorem me_X8_copyFrom : ab_MEL[162]? = some (yX8_copyFrom, cX8_copyFrom, 2, none, 0, 0, 0, [], tb_X8_copyFrom) := rfl
set_option maxRecDepth 100000 in
theorem me_X6_copyFrom : ab_MEL[163]? = some (yX6_copyFrom, cX6_copyFrom, 2, none, 0, 0, 0, [], tb_X6_copyFrom) := rfl
set_option maxRecDepth 100000 in
theorem me_X11_image : ab_MEL[164]? = some (yX11_image, cX11_image, 3, some .boolean, 0, 0, 0, [], tb_X11_image) := rfl
set_option maxRecDepth 100000 in
theorem me_X10_restore : ab_MEL[165]? = some (yX10_restore, cX10_restore, 3, some .boolean, 0, 0, 0, [], tb_X10_restore) := rfl
set_option maxRecDepth 100000 in
theorem me_X11_restore : ab_MEL[166]? = some (yX11_restore, cX11_restore, 3, some .boolean, 0, 0, 0, [], tb_X11_restore) := rfl
set_option maxRecDepth 100000 in
theorem me_X10_count : ab_MEL[167]? = some (yX10_count, cX10_count, 2, some .int, 0, 0, 0, [], tb_X10_count) := rfl
set_option maxRecDepth 100000 in
theorem me_X8_limit : ab_MEL[168]? = some (yX8_limit, cX8_limit, 1, some .int, 0, 0, 0, [], tb_X8_limit) := rfl
set_option maxRecDepth 100000 in
theorem me_X8_change : ab_MEL[169]? = some (yX8_change, cX8_change, 1, some .int, 0, 0, 0, [], tb_X8_change) := rfl
set_option maxRecDepth 100000 in
theorem me_X8_frost : ab_MEL[170]? = some (yX8_frost, cX8_frost, 1, some .int, 0, 0, 0, [], tb_X8_frost) := rfl
set_option maxRecDepth 100000 in
theorem me_X11_count : ab_MEL[171]? = some (yX11_count, cX11_count, 2, some .int, 0, 0, 0, [], tb_X11_count) := rfl
section
variable {p : Program} {l : Launch} {e : Env} {R : Room} {s : State} {m : MethodId} {args : Array Value} {below : List Frame} {meth : Method} {c : Code} {Q : State → Prop} {cc : ByteArray} {nL : Nat} {X : ab_X} {D : va_G} {z0 : ab_Z} {cal : ab_K} {th : Nat → Prop} {pc : Nat} {f : ab_P} {t : List (Nat × Nat × ab_P)} {b : List (Nat × Nat × ab_P)} {bs : ab_tab}
theorem tcn : ∀ q ∈ ([] : List (Nat × Nat × ab_P)), ab_tv p l e R s m args below meth c Q cc nL X D z0 cal th q := fun _ h => nomatch h
theorem tc0 (h : ab_so p l e R s m args below meth c Q nL X D z0 cal pc f) (k : ∀ q ∈ t, ab_tv p l e R s m args below meth c Q cc nL X D z0 cal th q) : ∀ q ∈ (pc, 0, f) :: t, ab_tv p l e R s m args below meth c Q cc nL X D z0 cal th q := fun q hq => (List.mem_cons.mp hq).elim (fun e => e ▸ h) (k q)
theorem tc1 (h : decode cc pc = .ok (.ireturn, 1)) (k : ∀ q ∈ t, ab_tv p l e R s m args below meth c Q cc nL X D z0 cal th q) : ∀ q ∈ (pc, 1, f) :: t, ab_tv p l e R s m args below meth c Q cc nL X D z0 cal th q := fun q hq => (List.mem_cons.mp hq).elim (fun e => e ▸ h) (k q)
theorem tc2 (h : decode cc pc = .ok (.return_, 1)) (k : ∀ q ∈ t, ab_tv p l e R s m args below meth c Q cc nL X D z0 cal th q) : ∀ q ∈ (pc, 2, f) :: t, ab_tv p l e R s m args below meth c Q cc nL X D z0 cal th q := fun q hq => (List.mem_cons.mp hq).elim (fun e => e ▸ h) (k q)
theorem tc3 (h : th pc) (k : ∀ q ∈ t, ab_tv p l e R s m args below meth c Q cc nL X D z0 cal th q) : ∀ q ∈ (pc, 3, f) :: t, ab_tv p l e R s m args below meth c Q cc nL X D z0 cal th q := fun q hq => (List.mem_cons.mp hq).elim (fun e => e ▸ h) (k q)
theorem tc4 (k : ∀ q ∈ t, ab_tv p l e R s m args below meth c Q cc nL X D z0 cal th q) : ∀ q ∈ (pc, 4, f) :: t, ab_tv p l e R s m args below meth c Q cc nL X D z0 cal th q := fun q hq => (List.mem_cons.mp hq).elim (fun e => e ▸ trivial) (k q)
theorem bn : ∀ b ∈ ([] : ab_tab), ∀ q ∈ b, ab_tv p l e R s m args below meth c Q cc nL X D z0 cal th q := fun _ h => nomatch h
theorem bc (h : ∀ q ∈ b, ab_tv p l e R s m args below meth c Q cc nL X D z0 cal th q) (k : ∀ b ∈ bs, ∀ q ∈ b, ab_tv p l e R s m args below meth c Q cc nL X D z0 cal th q) : ∀ b' ∈ b :: bs, ∀ q ∈ b', ab_tv p l e R s m args below meth c Q cc nL X D z0 cal th q := fun b' hb => (List.mem_cons.mp hb).elim (fun e => e ▸ h) (k b')
end
