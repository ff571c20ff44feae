/-! The methods as tables. -/
noncomputable def tb_X6_compares : ab_tab := [[(0, 0, op_al 0 1), (1, 0, op_gf 6 1 4), (4, 0, op_il 2 5), (5, 0, op_ald 0 6), (6, 0, op_lsw [(60, 32), (61, 48)] 64)],
  [],
  [(32, 0, op_il 1 33), (33, 0, op_al 0 34), (34, 0, op_gf 6 2 37), (37, 0, op_il 2 38), (38, 0, op_ald 0 39), (39, 0, op_icmp 3 46 42), (42, 0, op_push (.inl (none, 1)) 43), (43, 0, op_goto 47), (46, 0, op_push (.inl (none, 0)) 47), (47, 1, op_goto 0)],
  [(48, 0, op_il 1 49), (49, 0, op_al 0 50), (50, 0, op_gf 6 2 53), (53, 0, op_il 2 54), (54, 0, op_ald 0 55), (55, 0, op_icmp 1 62 58), (58, 0, op_push (.inl (none, 1)) 59), (59, 0, op_goto 63), (62, 0, op_push (.inl (none, 0)) 63), (63, 1, op_goto 0)],
  [(64, 0, op_il 1 65), (65, 0, op_al 0 66), (66, 0, op_gf 6 2 69), (69, 0, op_il 2 70), (70, 0, op_ald 0 71), (71, 0, op_icmp 5 78 74), (74, 0, op_push (.inl (none, 1)) 75), (75, 0, op_goto 79), (78, 0, op_push (.inl (none, 0)) 79), (79, 1, op_goto 0)]]
noncomputable def tb_X4_failAs : ab_tab := [[(0, 0, op_al 0 1), (1, 0, op_il 1 2), (2, 0, op_pf (tyX4 12) 4 12 5), (5, 0, op_al 0 6), (6, 0, op_al 0 7), (7, 0, op_gf 4 4 10), (10, 0, op_pf (tyX4 13) 4 13 13), (13, 0, op_push (.inl (none, 0)) 14), (14, 1, op_goto 0)]]
noncomputable def tb_X7_noonByDial : ab_tab := [[(0, 0, op_al 1 1), (1, 0, op_gf 8 2 4), (4, 0, op_il 2 5), (5, 0, op_ald 0 6), (6, 0, op_al 0 7), (7, 0, op_gf 7 3 10), (10, 0, op_il 2 11), (11, 0, op_ald 0 12), (12, 0, op_b2 (ab_sub2K) 13), (13, 1, op_goto 0)]]
noncomputable def tb_X4_next : ab_tab := [[(0, 0, op_al 0 1), (1, 0, op_gf 4 3 4), (4, 0, op_al 0 5), (5, 0, op_gf 4 1 8), (8, 0, op_icmp 3 52 11), (11, 0, op_al 0 12), (12, 0, op_gf 4 0 15), (15, 0, op_al 0 16)],
  [(16, 0, op_gf 4 3 19), (19, 0, op_ald 0 20), (20, 0, op_push (.inl (none, 32)) 22), (22, 0, op_icmp 0 39 25), (25, 0, op_al 0 26), (26, 0, op_gf 4 0 29), (29, 0, op_al 0 30), (30, 0, op_gf 4 3 33)],
  [(33, 0, op_ald 0 34), (34, 0, op_push (.inl (none, 10)) 36), (36, 0, op_icmp 1 52 39), (39, 4, op_al 0 40), (40, 0, op_dup 41), (41, 0, op_gf 4 3 44), (44, 0, op_push (.inl (none, 1)) 45), (45, 0, op_b2 (ab_add2K) 46), (46, 0, op_pf (tyX4 3) 4 3 49)],
  [(49, 0, op_goto 0), (52, 0, op_al 0 53), (53, 0, op_al 0 54), (54, 0, op_gf 4 3 57), (57, 0, op_pf (tyX4 4) 4 4 60), (60, 0, op_al 0 61), (61, 0, op_push (.inl (none, 0)) 62), (62, 0, op_pf (tyX4 5) 4 5 65)],
  [(65, 0, op_al 0 66), (66, 0, op_push (.inl (none, (-1))) 67), (67, 0, op_pf (tyX4 8) 4 8 70), (70, 0, op_al 0 71), (71, 0, op_gf 4 1 74), (74, 0, op_al 0 75), (75, 0, op_gf 4 2 78), (78, 0, op_icmp 5 103 81)],
  [(81, 0, op_al 0 82), (82, 0, op_gf 4 4 85), (85, 0, op_al 0 86), (86, 0, op_gf 4 2 89), (89, 0, op_icmp 2 103 92), (92, 0, op_al 0 93), (93, 0, op_al 0 94), (94, 0, op_gf 4 2 97)],
  [(97, 0, op_pf (tyX4 4) 4 4 100), (100, 0, op_goto 187), (103, 0, op_al 0 104), (104, 0, op_gf 4 4 107), (107, 0, op_al 0 108), (108, 0, op_gf 4 1 111), (111, 0, op_icmp 2 122 114)],
  [(114, 0, op_al 0 115), (115, 0, op_push (.inl (none, 1)) 116), (116, 0, op_pf (tyX4 5) 4 5 119), (119, 0, op_goto 187), (122, 0, op_al 0 123), (123, 0, op_gf 4 0 126), (126, 0, op_al 0 127), (127, 0, op_gf 4 4 130)],
  [(130, 0, op_ald 0 131), (131, 0, op_call 0 51 1 0 0 0 0 134), (134, 0, op_if 0 163 137), (137, 0, op_al 0 138), (138, 0, op_al 0 139), (139, 0, op_gf 4 0 142), (142, 0, op_al 0 143), (143, 0, op_gf 4 4 146)],
  [(146, 0, op_ald 0 147), (147, 0, op_pf (tyX4 5) 4 5 150), (150, 0, op_al 0 151), (151, 0, op_dup 152), (152, 0, op_gf 4 3 155), (155, 0, op_push (.inl (none, 1)) 156), (156, 0, op_b2 (ab_add2K) 157), (157, 0, op_pf (tyX4 3) 4 3 160)],
  [(160, 0, op_goto 187), (163, 0, op_al 0 164), (164, 0, op_call 6 26 1 0 0 0 0 167), (167, 0, op_al 0 168), (168, 0, op_al 0 169), (169, 0, op_gf 4 5 172), (172, 0, op_push (.inl (none, 2)) 173), (173, 0, op_icmp 1 183 176)],
  [(176, 0, op_al 0 177), (177, 0, op_call 6 27 1 0 0 0 0 180), (180, 0, op_goto 184), (183, 0, op_push (.inl (none, (-1))) 184), (184, 0, op_pf (tyX4 8) 4 8 187), (187, 2, op_goto 0)]]
noncomputable def tb_X11_octet : ab_tab := [[(0, 0, op_al 0 1), (1, 0, op_gf 11 1 4), (4, 0, op_il 1 5), (5, 0, op_ald 2 6), (6, 0, op_push (.inl (none, 255)) 9), (9, 0, op_pre (pr_sg2) (op_b2 (ab_an8K) 10)), (10, 1, op_goto 0)]]
noncomputable def tb_X11_bad : ab_tab := [[(0, 0, op_al 0 1), (1, 0, op_il 1 2), (2, 0, op_pf (tyX11 15) 11 15 5), (5, 0, op_al 0 6), (6, 0, op_al 0 7), (7, 0, op_gf 11 12 10), (10, 0, op_pf (tyX11 16) 11 16 13), (13, 0, op_push (.inl (none, 0)) 14), (14, 1, op_goto 0)]]
noncomputable def tb_X7_isShaded : ab_tab := [[(0, 0, op_al 0 1), (1, 0, op_gf 7 1 4), (4, 0, op_il 1 5), (5, 0, op_b2 (ab_binK (fun u v => u >>> (v &&& 31))) 6), (6, 0, op_push (.inl (none, 1)) 7), (7, 0, op_b2 (ab_an8K) 8), (8, 0, op_if 0 15 11), (11, 0, op_push (.inl (none, 1)) 12), (12, 0, op_goto 16), (15, 0, op_push (.inl (none, 0)) 16)],
  [(16, 1, op_goto 0)]]
noncomputable def tb_X6_readPlain : ab_tab := [[(0, 0, op_il 3 1), (1, 0, op_push (.inl (none, 16)) 3), (3, 0, op_icmp 0 18 6), (6, 0, op_il 3 7), (7, 0, op_push (.inl (none, 17)) 9), (9, 0, op_icmp 0 18 12), (12, 0, op_il 3 13), (13, 0, op_push (.inl (none, 18)) 15), (15, 0, op_icmp 1 27 18)],
  [(18, 0, op_al 0 19), (19, 0, op_il 3 20), (20, 0, op_push (.inl (none, 0)) 21), (21, 0, op_push (.inl (none, 0)) 22), (22, 0, op_call 8 9 4 0 0 0 0 25), (25, 0, op_push (.inl (none, 1)) 26), (26, 1, op_goto 0), (27, 0, op_il 3 28), (28, 0, op_push (.inl (none, 19)) 30), (30, 0, op_icmp 1 56 33)],
  [(33, 0, op_al 2 34), (34, 0, op_al 1 35), (35, 0, op_push (.inl (none, (-1))) 36), (36, 0, op_call 6 50 3 0 0 0 0 39), (39, 0, op_if 1 44 42), (42, 0, op_push (.inl (none, 0)) 43), (43, 1, op_goto 0), (44, 0, op_al 0 45), (45, 0, op_il 3 46), (46, 0, op_push (.inl (none, 0)) 47), (47, 0, op_al 2 48)],
  [(48, 0, op_gf 4 9 51), (51, 0, op_call 8 9 4 0 0 0 0 54), (54, 0, op_push (.inl (none, 1)) 55), (55, 1, op_goto 0), (56, 0, op_al 2 57), (57, 0, op_gf 4 5 60), (60, 0, op_is 4 62), (62, 0, op_il 4 64)],
  [(64, 0, op_push (.inl (none, 60)) 66), (66, 0, op_icmp 0 89 69), (69, 0, op_il 4 71), (71, 0, op_push (.inl (none, 61)) 73), (73, 0, op_icmp 0 89 76), (76, 0, op_il 4 78), (78, 0, op_push (.inl (none, 62)) 80)],
  [(80, 0, op_icmp 0 89 83), (83, 0, op_al 2 84), (84, 0, op_push (.inl (none, 1)) 85), (85, 0, op_call 6 1 2 0 0 0 0 88), (88, 1, op_goto 0), (89, 0, op_al 2 90), (90, 0, op_call 6 3 1 0 0 0 0 93), (93, 0, op_al 2 94), (94, 0, op_push (.inl (none, 0)) 95), (95, 0, op_push (.inl (none, 999)) 98)],
  [(98, 0, op_call 6 29 3 0 0 0 0 101), (101, 0, op_if 1 106 104), (104, 0, op_push (.inl (none, 0)) 105), (105, 1, op_goto 0), (106, 0, op_al 0 107), (107, 0, op_il 3 108), (108, 0, op_il 4 110), (110, 0, op_al 2 111), (111, 0, op_gf 4 9 114)],
  [(114, 0, op_call 8 9 4 0 0 0 0 117), (117, 0, op_push (.inl (none, 1)) 118), (118, 1, op_goto 0)]]
noncomputable def tb_X7_inBreach : ab_tab := [[(0, 0, op_al 1 1), (1, 0, op_il 2 2), (2, 0, op_al 0 3), (3, 0, op_gf 7 0 6), (6, 0, op_call 10 48 3 0 0 0 0 9), (9, 0, op_is 3 10), (10, 0, op_il 3 11), (11, 0, op_push (.inl (none, 10000)) 14), (14, 0, op_icmp 0 31 17)],
  [(17, 0, op_il 3 18), (18, 0, op_al 0 19), (19, 0, op_gf 7 3 22), (22, 0, op_il 2 23), (23, 0, op_ald 0 24), (24, 0, op_icmp 0 31 27), (27, 0, op_push (.inl (none, 1)) 28), (28, 0, op_goto 32), (31, 0, op_push (.inl (none, 0)) 32)],
  [(32, 1, op_goto 0)]]
noncomputable def tb_X6_addStep : ab_tab := [[(0, 0, op_al 0 1), (1, 0, op_gf 6 3 4), (4, 0, op_push (.inl (none, 40)) 6), (6, 0, op_icmp 3 49 9), (9, 0, op_pre (pr_dyn 0 0 2 (fun j a b => pr_at (1, j, 3))) (op_pre (pr_dyn 0 0 2 (fun j a b => pr_tW (a, b, 0, 0, 1, 19, 6) 40 (1, j, 3))) (op_al 0 10))), (10, 0, op_gf 6 0 13), (13, 0, op_al 0 14), (14, 0, op_gf 6 3 17)],
  [(17, 0, op_il 1 18), (18, 0, op_astK 19), (19, 0, op_al 0 20), (20, 0, op_gf 6 1 23), (23, 0, op_al 0 24), (24, 0, op_gf 6 3 27), (27, 0, op_il 2 28), (28, 0, op_ast 0 29), (29, 0, op_al 0 30), (30, 0, op_gf 6 2 33)],
  [(33, 0, op_al 0 34), (34, 0, op_gf 6 3 37), (37, 0, op_il 3 38), (38, 0, op_astK 39), (39, 0, op_pre (pr_dyn 0 0 2 (fun j a b => pr_tJ (a, b, 0, 0, 1, 19, 6) 40 (1, j, 3))) (op_al 0 40)), (40, 0, op_dup 41), (41, 0, op_gf 6 3 44), (44, 0, op_push (.inl (none, 1)) 45), (45, 0, op_b2 (ab_add2K) 46), (46, 0, op_pf (tyX6 3) 6 3 49)],
  [(49, 2, op_goto 0)]]
noncomputable def tb_X11_peek : ab_tab := [[(0, 0, op_al 0 1), (1, 0, op_gf 11 4 4), (4, 0, op_al 0 5), (5, 0, op_gf 11 3 8), (8, 0, op_icmp 3 27 11), (11, 0, op_al 0 12), (12, 0, op_gf 11 1 15), (15, 0, op_al 0 16)],
  [(16, 0, op_gf 11 4 19), (19, 0, op_ald 2 20), (20, 0, op_push (.inl (none, 255)) 23), (23, 0, op_b2 (ab_an8K) 24), (24, 0, op_goto 28), (27, 0, op_push (.inl (none, (-1))) 28), (28, 1, op_goto 0)]]
noncomputable def tb_X11_isLeaf : ab_tab := [[(0, 0, op_il 2 1), (1, 0, op_tsw 0 3 [32, 50, 56, 62] 82)],
  [],
  [(32, 0, op_al 0 33), (33, 0, op_gf 11 6 36), (36, 0, op_push (.inl (none, 103)) 38), (38, 0, op_il 1 39), (39, 0, op_b2 (ab_add2K) 40), (40, 0, op_ald 0 41), (41, 0, op_if 1 48 44), (44, 0, op_push (.inl (none, 1)) 45), (45, 0, op_goto 49)],
  [(48, 0, op_push (.inl (none, 0)) 49), (49, 1, op_goto 0), (50, 0, op_al 0 51), (51, 0, op_il 1 52), (52, 0, op_call 13 43 2 0 0 0 0 55), (55, 1, op_goto 0), (56, 0, op_al 0 57), (57, 0, op_il 1 58), (58, 0, op_call 13 97 2 0 0 0 0 61), (61, 1, op_goto 0), (62, 0, op_al 0 63), (63, 0, op_il 1 64)],
  [(64, 0, op_call 13 22 2 0 0 0 0 67), (67, 0, op_al 0 68), (68, 0, op_il 4 70), (70, 0, op_call 13 22 2 0 0 0 0 73), (73, 0, op_icmp 3 80 76), (76, 0, op_push (.inl (none, 1)) 77), (77, 0, op_goto 81)],
  [(80, 0, op_push (.inl (none, 0)) 81), (81, 1, op_goto 0), (82, 0, op_il 2 83), (83, 0, op_push (.inl (none, 4)) 84), (84, 0, op_icmp 1 103 87), (87, 0, op_push (.inl (none, 0)) 88), (88, 0, op_al 0 89), (89, 0, op_gf 11 6 92), (92, 0, op_push (.inl (none, 103)) 94), (94, 0, op_il 1 95), (95, 0, op_b2 (ab_add2K) 96)],
  [(96, 0, op_ald 0 97), (97, 0, op_call 0 125 2 0 0 0 0 100), (100, 0, op_goto 144), (103, 0, op_il 2 104), (104, 0, op_push (.inl (none, 5)) 105), (105, 0, op_icmp 1 125 108), (108, 0, op_push (.inl (none, 0)) 109), (109, 0, op_al 0 110), (110, 0, op_gf 11 6 113)],
  [(113, 0, op_push (.inl (none, 103)) 115), (115, 0, op_il 1 116), (116, 0, op_b2 (ab_add2K) 117), (117, 0, op_ald 0 118), (118, 0, op_ineg 119), (119, 0, op_call 0 125 2 0 0 0 0 122), (122, 0, op_goto 144), (125, 0, op_il 2 126), (126, 0, op_push (.inl (none, 6)) 128)],
  [(128, 0, op_icmp 1 143 131), (131, 0, op_al 0 132), (132, 0, op_gf 11 6 135), (135, 0, op_push (.inl (none, 110)) 137), (137, 0, op_il 1 138), (138, 0, op_b2 (ab_add2K) 139), (139, 0, op_ald 0 140), (140, 0, op_goto 144), (143, 0, op_il 1 144)],
  [(144, 0, op_is 5 146), (146, 0, op_il 3 147), (147, 0, op_push (.inl (none, 60)) 149), (149, 0, op_icmp 1 167 152), (152, 0, op_il 5 154), (154, 0, op_il 4 156), (156, 0, op_icmp 3 163 159), (159, 0, op_push (.inl (none, 1)) 160)],
  [(160, 0, op_goto 200), (163, 0, op_push (.inl (none, 0)) 164), (164, 0, op_goto 200), (167, 0, op_il 3 168), (168, 0, op_push (.inl (none, 61)) 170), (170, 0, op_icmp 1 188 173), (173, 0, op_il 5 175), (175, 0, op_il 4 177)],
  [(177, 0, op_icmp 1 184 180), (180, 0, op_push (.inl (none, 1)) 181), (181, 0, op_goto 200), (184, 0, op_push (.inl (none, 0)) 185), (185, 0, op_goto 200), (188, 0, op_il 5 190), (190, 0, op_il 4 192)],
  [(192, 0, op_icmp 5 199 195), (195, 0, op_push (.inl (none, 1)) 196), (196, 0, op_goto 200), (199, 0, op_push (.inl (none, 0)) 200), (200, 1, op_goto 0)]]
noncomputable def tb_X6_readOne : ab_tab := [[(0, 0, op_al 2 1), (1, 0, op_gf 4 8 4), (4, 0, op_is 4 6), (6, 0, op_al 2 7), (7, 0, op_gf 4 5 10), (10, 0, op_push (.inl (none, 40)) 12), (12, 0, op_icmp 1 19 15), (15, 0, op_push (.inl (none, 1)) 16)],
  [(16, 0, op_goto 20), (19, 0, op_push (.inl (none, 0)) 20), (20, 0, op_is 5 22), (22, 0, op_il 5 24), (24, 0, op_if 1 41 27), (27, 0, op_il 4 29), (29, 0, op_call 0 24 1 0 0 0 0 32)],
  [(32, 0, op_if 1 41 35), (35, 0, op_al 2 36), (36, 0, op_push (.inl (none, 1)) 37), (37, 0, op_call 6 1 2 0 0 0 0 40), (40, 1, op_goto 0), (41, 0, op_al 0 42), (42, 0, op_gf 6 4 45), (45, 0, op_push (.inl (none, 20)) 47), (47, 0, op_icmp 3 56 50)],
  [(50, 0, op_il 3 51), (51, 0, op_push (.inl (none, 8)) 53), (53, 0, op_icmp 5 62 56), (56, 0, op_al 2 57), (57, 0, op_push (.inl (none, 4)) 58), (58, 0, op_call 6 1 2 0 0 0 0 61), (61, 1, op_goto 0), (62, 0, op_al 0 63), (63, 0, op_dup 64)],
  [(64, 0, op_gf 6 4 67), (67, 0, op_push (.inl (none, 1)) 68), (68, 0, op_b2 (ab_add2K) 69), (69, 0, op_pf (tyX6 4) 6 4 72), (72, 0, op_al 2 73), (73, 0, op_call 6 3 1 0 0 0 0 76), (76, 0, op_il 5 78), (78, 0, op_if 0 108 81)],
  [(81, 0, op_al 0 82), (82, 0, op_al 1 83), (83, 0, op_al 2 84), (84, 0, op_il 3 85), (85, 0, op_push (.inl (none, 1)) 86), (86, 0, op_b2 (ab_add2K) 87), (87, 0, op_call 8 38 4 0 0 0 0 90), (90, 0, op_if 0 106 93), (93, 0, op_al 2 94), (94, 0, op_push (.inl (none, 41)) 96)],
  [(96, 0, op_call 6 28 2 0 0 0 0 99), (99, 0, op_if 0 106 102), (102, 0, op_push (.inl (none, 1)) 103), (103, 0, op_goto 107), (106, 0, op_push (.inl (none, 0)) 107), (107, 1, op_goto 0), (108, 0, op_il 4 110), (110, 0, op_push (.inl (none, 15)) 112)],
  [(112, 0, op_icmp 1 139 115), (115, 0, op_al 0 116), (116, 0, op_al 1 117), (117, 0, op_al 2 118), (118, 0, op_il 3 119), (119, 0, op_push (.inl (none, 1)) 120), (120, 0, op_b2 (ab_add2K) 121), (121, 0, op_call 8 12 4 0 0 0 0 124), (124, 0, op_if 1 129 127), (127, 0, op_push (.inl (none, 0)) 128)],
  [(128, 1, op_goto 0), (129, 0, op_al 0 130), (130, 0, op_push (.inl (none, 15)) 132), (132, 0, op_push (.inl (none, 0)) 133), (133, 0, op_push (.inl (none, 0)) 134), (134, 0, op_call 8 9 4 0 0 0 0 137), (137, 0, op_push (.inl (none, 1)) 138), (138, 1, op_goto 0), (139, 0, op_al 0 140), (140, 0, op_al 1 141), (141, 0, op_al 2 142), (142, 0, op_il 4 144)],
  [(144, 0, op_call 8 7 4 0 0 0 0 147), (147, 1, op_goto 0)]]
noncomputable def tb_X11_next : ab_tab := [[(0, 0, op_al 0 1), (1, 0, op_call 13 10 1 0 0 0 0 4), (4, 0, op_push (.inl (none, 32)) 6), (6, 0, op_icmp 0 18 9), (9, 0, op_al 0 10), (10, 0, op_call 13 10 1 0 0 0 0 13), (13, 0, op_push (.inl (none, 10)) 15), (15, 0, op_icmp 1 31 18)],
  [(18, 4, op_al 0 19), (19, 0, op_dup 20), (20, 0, op_gf 11 4 23), (23, 0, op_push (.inl (none, 1)) 24), (24, 0, op_b2 (ab_add2K) 25), (25, 0, op_pf (tyX11 4) 11 4 28), (28, 0, op_goto 0), (31, 0, op_al 0 32)],
  [(32, 0, op_al 0 33), (33, 0, op_gf 11 4 36), (36, 0, op_pf (tyX11 12) 11 12 39), (39, 0, op_al 0 40), (40, 0, op_push (.inl (none, 0)) 41), (41, 0, op_pf (tyX11 13) 11 13 44), (44, 0, op_al 0 45), (45, 0, op_gf 11 3 48)],
  [(48, 0, op_al 0 49), (49, 0, op_gf 11 5 52), (52, 0, op_icmp 5 80 55), (55, 0, op_al 0 56), (56, 0, op_gf 11 4 59), (59, 0, op_al 0 60), (60, 0, op_gf 11 5 63), (63, 0, op_icmp 2 80 66)],
  [(66, 0, op_al 0 67), (67, 0, op_al 0 68), (68, 0, op_gf 11 5 71), (71, 0, op_pf (tyX11 12) 11 12 74), (74, 0, op_al 0 75), (75, 0, op_push (.inl (none, 4)) 76), (76, 0, op_pf (tyX11 11) 11 11 79), (79, 2, op_goto 0)],
  [(80, 0, op_al 0 81), (81, 0, op_call 13 10 1 0 0 0 0 84), (84, 0, op_is 1 85), (85, 0, op_il 1 86), (86, 0, op_if 3 95 89), (89, 0, op_al 0 90), (90, 0, op_push (.inl (none, 0)) 91), (91, 0, op_pf (tyX11 11) 11 11 94), (94, 2, op_goto 0), (95, 0, op_il 1 96)],
  [(96, 0, op_call 0 15 1 0 0 0 0 99), (99, 0, op_if 1 164 102), (102, 0, op_il 1 103), (103, 0, op_call 0 20 1 0 0 0 0 106), (106, 0, op_if 1 164 109), (109, 0, op_al 0 110), (110, 0, op_il 1 111), (111, 0, op_push (.inl (none, 59)) 113)],
  [(113, 0, op_icmp 0 140 116), (116, 0, op_il 1 117), (117, 0, op_push (.inl (none, 40)) 119), (119, 0, op_icmp 0 140 122), (122, 0, op_il 1 123), (123, 0, op_push (.inl (none, 41)) 125), (125, 0, op_icmp 0 140 128)],
  [(128, 0, op_il 1 129), (129, 0, op_push (.inl (none, 60)) 131), (131, 0, op_icmp 2 144 134), (134, 0, op_il 1 135), (135, 0, op_push (.inl (none, 62)) 137), (137, 0, op_icmp 4 144 140), (140, 0, op_push (.inl (none, 3)) 141), (141, 0, op_goto 145)],
  [(144, 0, op_push (.inl (none, 4)) 145), (145, 0, op_pf (tyX11 11) 11 11 148), (148, 0, op_al 0 149), (149, 0, op_il 1 150), (150, 0, op_pf (tyX11 14) 11 14 153), (153, 0, op_al 0 154), (154, 0, op_dup 155), (155, 0, op_gf 11 4 158), (158, 0, op_push (.inl (none, 1)) 159), (159, 0, op_b2 (ab_add2K) 160)],
  [(160, 0, op_pf (tyX11 4) 11 4 163), (163, 2, op_goto 0), (164, 0, op_il 1 165), (165, 0, op_call 0 15 1 0 0 0 0 168), (168, 0, op_is 2 169), (169, 0, op_push (.inl (none, 1)) 170), (170, 0, op_is 3 171), (171, 0, op_al 0 172), (172, 0, op_push (.inr (.inl (.inl (none, 0)))) 173), (173, 0, op_pf (tyX11 17) 11 17 176)],
  [(176, 0, op_al 0 177), (177, 0, op_push (.inl (none, 0)) 178), (178, 0, op_pf (tyX11 14) 11 14 181), (181, 4, op_al 0 182), (182, 0, op_call 13 10 1 0 0 0 0 185), (185, 0, op_call 0 15 1 0 0 0 0 188), (188, 0, op_if 1 201 191), (191, 0, op_al 0 192)],
  [(192, 0, op_call 13 10 1 0 0 0 0 195), (195, 0, op_call 0 20 1 0 0 0 0 198), (198, 0, op_if 0 298 201), (201, 0, op_il 3 202), (202, 0, op_if 0 220 205), (205, 0, op_al 0 206), (206, 0, op_call 13 10 1 0 0 0 0 209)],
  [(209, 0, op_call 0 15 1 0 0 0 0 212), (212, 0, op_il 2 213), (213, 0, op_icmp 1 220 216), (216, 0, op_push (.inl (none, 1)) 217), (217, 0, op_goto 221), (220, 0, op_push (.inl (none, 0)) 221), (221, 0, op_is 3 222), (222, 0, op_al 0 223), (223, 0, op_gf 11 13 226)],
  [(226, 0, op_push (.inl (none, 7)) 228), (228, 0, op_icmp 3 248 231), (231, 0, op_al 0 232), (232, 0, op_al 0 233), (233, 0, op_gf 11 17 236), (236, 0, op_push (.inl (none, 8)) 238), (238, 0, op_lsh 239), (239, 0, op_al 0 240)],
  [(240, 0, op_call 13 10 1 0 0 0 0 243), (243, 0, op_i2l 244), (244, 0, op_l2 245), (245, 0, op_pf (tyX11 17) 11 17 248), (248, 0, op_al 0 249), (249, 0, op_gf 11 13 252), (252, 0, op_push (.inl (none, 3)) 253), (253, 0, op_icmp 3 275 256)],
  [(256, 0, op_al 0 257), (257, 0, op_push (.inl (none, 10)) 259), (259, 0, op_al 0 260), (260, 0, op_gf 11 14 263), (263, 0, op_b2 (ab_mul2K) 264), (264, 0, op_al 0 265), (265, 0, op_call 13 10 1 0 0 0 0 268), (268, 0, op_b2 (ab_add2K) 269), (269, 0, op_push (.inl (none, 48)) 271), (271, 0, op_b2 (ab_sub2K) 272)],
  [(272, 0, op_pf (tyX11 14) 11 14 275), (275, 0, op_al 0 276), (276, 0, op_dup 277), (277, 0, op_gf 11 13 280), (280, 0, op_push (.inl (none, 1)) 281), (281, 0, op_b2 (ab_add2K) 282), (282, 0, op_pf (tyX11 13) 11 13 285), (285, 0, op_al 0 286), (286, 0, op_dup 287), (287, 0, op_gf 11 4 290)],
  [(290, 0, op_push (.inl (none, 1)) 291), (291, 0, op_b2 (ab_add2K) 292), (292, 0, op_pf (tyX11 4) 11 4 295), (295, 0, op_goto 181), (298, 0, op_al 0 299), (299, 0, op_il 3 300), (300, 0, op_if 0 320 303), (303, 0, op_al 0 304)],
  [(304, 0, op_gf 11 13 307), (307, 0, op_il 2 308), (308, 0, op_if 0 316 311), (311, 0, op_push (.inl (none, 7)) 313), (313, 0, op_goto 317), (316, 0, op_push (.inl (none, 3)) 317), (317, 0, op_icmp 5 324 320)],
  [(320, 0, op_push (.inl (none, 4)) 321), (321, 0, op_goto 333), (324, 0, op_il 2 325), (325, 0, op_if 0 332 328), (328, 0, op_push (.inl (none, 1)) 329), (329, 0, op_goto 333), (332, 0, op_push (.inl (none, 2)) 333), (333, 0, op_pf (tyX11 11) 11 11 336)],
  [(336, 2, op_goto 0)]]
noncomputable def tb_X11_does : ab_tab := [[(0, 0, op_il 1 1), (1, 0, op_tsw 0 3 [32, 54, 80, 108] 115)],
  [],
  [(32, 0, op_al 0 33), (33, 0, op_il 2 34), (34, 0, op_il 3 35), (35, 0, op_call 13 77 3 0 0 0 0 38), (38, 0, op_is 4 40), (40, 0, op_il 4 42), (42, 0, op_if 1 51 45), (45, 0, op_al 0 46), (46, 0, op_il 2 47), (47, 0, op_il 3 48)],
  [(48, 0, op_call 13 72 3 0 0 0 0 51), (51, 0, op_il 4 53), (53, 1, op_goto 0), (54, 0, op_al 0 55), (55, 0, op_il 2 56), (56, 0, op_call 13 43 2 0 0 0 0 59), (59, 0, op_if 0 65 62), (62, 0, op_push (.inl (none, 11)) 64)],
  [(64, 1, op_goto 0), (65, 0, op_al 0 66), (66, 0, op_gf 11 6 69), (69, 0, op_push (.inl (none, 101)) 71), (71, 0, op_dup2 72), (72, 0, op_ald 0 73), (73, 0, op_push (.inl (none, 1)) 74), (74, 0, op_il 2 75), (75, 0, op_b2 (ab_binK (fun u v => u <<< (v &&& 31))) 76), (76, 0, op_b2 (ab_binK (fun u v => u ||| v)) 77), (77, 0, op_astK 78), (78, 0, op_push (.inl (none, 0)) 79), (79, 1, op_goto 0)],
  [(80, 0, op_al 0 81), (81, 0, op_il 2 82), (82, 0, op_call 13 43 2 0 0 0 0 85), (85, 0, op_if 1 91 88), (88, 0, op_push (.inl (none, 21)) 90), (90, 1, op_goto 0), (91, 0, op_al 0 92), (92, 0, op_gf 11 6 95), (95, 0, op_push (.inl (none, 101)) 97)],
  [(97, 0, op_dup2 98), (98, 0, op_ald 0 99), (99, 0, op_push (.inl (none, 1)) 100), (100, 0, op_il 2 101), (101, 0, op_b2 (ab_binK (fun u v => u <<< (v &&& 31))) 102), (102, 0, op_push (.inl (none, (-1))) 103), (103, 0, op_b2 (ab_binK (fun u v => u ^^^ v)) 104), (104, 0, op_b2 (ab_an8K) 105), (105, 0, op_astK 106), (106, 0, op_push (.inl (none, 0)) 107), (107, 1, op_goto 0), (108, 0, op_al 0 109), (109, 0, op_call 13 98 1 0 0 0 0 112)],
  [(112, 0, op_pop 113), (113, 0, op_push (.inl (none, 0)) 114), (114, 1, op_goto 0), (115, 0, op_al 0 116), (116, 0, op_gf 11 6 119), (119, 0, op_push (.inl (none, 100)) 121), (121, 0, op_ald 0 122), (122, 0, op_il 2 123), (123, 0, op_b2 (ab_add2K) 124), (124, 0, op_push (.inl (none, 400)) 127), (127, 0, op_icmp 5 133 130)],
  [(130, 0, op_push (.inl (none, 41)) 132), (132, 1, op_goto 0), (133, 0, op_al 0 134), (134, 0, op_il 2 135), (135, 0, op_call 13 78 2 0 0 0 0 138), (138, 0, op_pop 139), (139, 0, op_push (.inl (none, 0)) 140), (140, 1, op_goto 0)]]
noncomputable def tb_X11_isSmall : ab_tab := [[(0, 0, op_il 0 1), (1, 0, op_push (.inl (none, 97)) 3), (3, 0, op_icmp 2 16 6), (6, 0, op_il 0 7), (7, 0, op_push (.inl (none, 122)) 9), (9, 0, op_icmp 4 16 12), (12, 0, op_push (.inl (none, 1)) 13), (13, 0, op_goto 17)],
  [(16, 0, op_push (.inl (none, 0)) 17), (17, 1, op_goto 0)]]
noncomputable def tb_X7_copyFrom : ab_tab := [[(0, 0, op_al 0 1), (1, 0, op_al 1 2), (2, 0, op_gf 7 0 5), (5, 0, op_pf (tyX7 0) 7 0 8), (8, 0, op_al 0 9), (9, 0, op_al 1 10), (10, 0, op_gf 7 1 13), (13, 0, op_pf (tyX7 1) 7 1 16)],
  [(16, 0, op_al 0 17), (17, 0, op_al 1 18), (18, 0, op_gf 7 2 21), (21, 0, op_pf (tyX7 2) 7 2 24), (24, 0, op_al 1 25), (25, 0, op_gf 7 3 28), (28, 0, op_push (.inl (none, 0)) 29), (29, 0, op_al 0 30), (30, 0, op_gf 7 3 33)],
  [(33, 0, op_push (.inl (none, 0)) 34), (34, 0, op_push (.inl (none, 7)) 36), (36, 0, op_ac 0 39), (39, 0, op_al 1 40), (40, 0, op_gf 7 4 43), (43, 0, op_push (.inl (none, 0)) 44), (44, 0, op_al 0 45), (45, 0, op_gf 7 4 48)],
  [(48, 0, op_push (.inl (none, 0)) 49), (49, 0, op_push (.inl (none, 7)) 51), (51, 0, op_ac 0 54), (54, 0, op_al 1 55), (55, 0, op_gf 7 5 58), (58, 0, op_push (.inl (none, 0)) 59), (59, 0, op_al 0 60), (60, 0, op_gf 7 5 63), (63, 0, op_push (.inl (none, 0)) 64)],
  [(64, 0, op_push (.inl (none, 7)) 66), (66, 0, op_ac 0 69), (69, 2, op_goto 0)]]
noncomputable def tb_X11_lays : ab_tab := [[(0, 0, op_al 0 1), (1, 0, op_gf 11 35 4), (4, 0, op_al 0 5), (5, 0, op_gf 11 36 8), (8, 0, op_il 1 9), (9, 0, op_cv (-128) 127 10), (10, 0, op_ast 2 11), (11, 0, op_al 0 12), (12, 0, op_dup 13), (13, 0, op_gf 11 36 16)],
  [(16, 0, op_push (.inl (none, 1)) 17), (17, 0, op_b2 (ab_add2K) 18), (18, 0, op_pf (tyX11 36) 11 36 21), (21, 2, op_goto 0)]]
noncomputable def tb_X11_isIn : ab_tab := [[(0, 0, op_il 0 1), (1, 0, op_il 1 2), (2, 0, op_icmp 2 14 5), (5, 0, op_il 0 6), (6, 0, op_il 2 7), (7, 0, op_icmp 4 14 10), (10, 0, op_push (.inl (none, 1)) 11), (11, 0, op_goto 15), (14, 0, op_push (.inl (none, 0)) 15), (15, 1, op_goto 0)]]
noncomputable def tb_X11_isWord : ab_tab := [[(0, 0, op_al 0 1), (1, 0, op_gf 11 11 4), (4, 0, op_push (.inl (none, 1)) 5), (5, 0, op_icmp 1 21 8), (8, 0, op_al 0 9), (9, 0, op_gf 11 17 12), (12, 0, op_ll 1 13), (13, 0, op_lcmp 14), (14, 0, op_if 1 21 17)],
  [(17, 0, op_push (.inl (none, 1)) 18), (18, 0, op_goto 22), (21, 0, op_push (.inl (none, 0)) 22), (22, 1, op_goto 0)]]
noncomputable def tb_X11_isDigit : ab_tab := [[(0, 0, op_il 0 1), (1, 0, op_push (.inl (none, 48)) 3), (3, 0, op_icmp 2 16 6), (6, 0, op_il 0 7), (7, 0, op_push (.inl (none, 57)) 9), (9, 0, op_icmp 4 16 12), (12, 0, op_push (.inl (none, 1)) 13), (13, 0, op_goto 17)],
  [(16, 0, op_push (.inl (none, 0)) 17), (17, 1, op_goto 0)]]
noncomputable def tb_X11_bitOf : ab_tab := [[(0, 0, op_il 0 1), (1, 0, op_il 1 2), (2, 0, op_b2F 4 (ab_binK (fun u v => u >>> (v &&& 31))) 3), (3, 0, op_push (.inl (none, 1)) 4), (4, 0, op_b2F 1 (ab_an8K) 5), (5, 0, op_pre (pr_pB ) (op_push (.inl (none, 1)) 6)), (6, 0, op_icmp 1 13 9), (9, 0, op_push (.inl (none, 1)) 10), (10, 0, op_goto 14), (13, 0, op_push (.inl (none, 0)) 14), (14, 1, op_goto 0)]]
noncomputable def tb_X11_noonOf : ab_tab := [[(0, 0, op_al 0 1), (1, 0, op_gf 11 6 4), (4, 0, op_push (.inl (none, 6)) 6), (6, 0, op_il 1 7), (7, 0, op_b2 (ab_add2K) 8), (8, 0, op_ald 0 9), (9, 0, op_al 0 10), (10, 0, op_gf 11 6 13), (13, 0, op_push (.inl (none, 103)) 15), (15, 0, op_il 1 16)],
  [(16, 0, op_b2 (ab_add2K) 17), (17, 0, op_ald 0 18), (18, 0, op_b2 (ab_sub2K) 19), (19, 1, op_goto 0)]]
noncomputable def tb_X7_leaves : ab_tab := [[(0, 0, op_al 1 1), (1, 0, op_gf 8 13 4), (4, 0, op_il 2 5), (5, 0, op_ald 0 6), (6, 0, op_al 0 7), (7, 0, op_al 1 8), (8, 0, op_al 1 9), (9, 0, op_gf 8 11 12), (12, 0, op_il 2 13), (13, 0, op_ald 0 14), (14, 0, op_call 9 2 3 0 0 0 0 17)],
  [(17, 0, op_b2 (ab_add2K) 18), (18, 1, op_goto 0)]]
noncomputable def tb_X6_beginsOne : ab_tab := [[(0, 0, op_il 0 1), (1, 0, op_push (.inl (none, 1)) 2), (2, 0, op_icmp 0 22 5), (5, 0, op_il 0 6), (6, 0, op_push (.inl (none, 2)) 7), (7, 0, op_icmp 0 22 10), (10, 0, op_il 0 11), (11, 0, op_push (.inl (none, 15)) 13), (13, 0, op_icmp 2 26 16)],
  [(16, 0, op_il 0 17), (17, 0, op_push (.inl (none, 21)) 19), (19, 0, op_icmp 4 26 22), (22, 0, op_push (.inl (none, 1)) 23), (23, 0, op_goto 27), (26, 0, op_push (.inl (none, 0)) 27), (27, 1, op_goto 0)]]
noncomputable def tb_X6_readAll : ab_tab := [[(0, 0, op_al 0 1), (1, 0, op_al 1 2), (2, 0, op_al 2 3), (3, 0, op_il 3 4), (4, 0, op_call 8 12 4 0 0 0 0 7), (7, 0, op_if 1 12 10), (10, 0, op_push (.inl (none, 0)) 11), (11, 1, op_goto 0), (12, 0, op_push (.inl (none, 0)) 13), (13, 0, op_is 4 15), (15, 4, op_il 4 17)],
  [(17, 0, op_push (.inl (none, 20)) 19), (19, 0, op_icmp 3 61 22), (22, 0, op_al 2 23), (23, 0, op_gf 4 8 26), (26, 0, op_push (.inl (none, 14)) 28), (28, 0, op_icmp 1 61 31), (31, 0, op_al 2 32)],
  [(32, 0, op_call 6 3 1 0 0 0 0 35), (35, 0, op_al 0 36), (36, 0, op_al 1 37), (37, 0, op_al 2 38), (38, 0, op_il 3 39), (39, 0, op_call 8 12 4 0 0 0 0 42), (42, 0, op_if 1 47 45), (45, 0, op_push (.inl (none, 0)) 46), (46, 1, op_goto 0), (47, 0, op_al 0 48)],
  [(48, 0, op_push (.inl (none, 14)) 50), (50, 0, op_push (.inl (none, 0)) 51), (51, 0, op_push (.inl (none, 0)) 52), (52, 0, op_call 8 9 4 0 0 0 0 55), (55, 0, op_inc 4 1 58), (58, 0, op_goto 15), (61, 0, op_push (.inl (none, 1)) 62), (62, 1, op_goto 0)]]
noncomputable def tb_X4_readRun : ab_tab := [[(0, 0, op_push (.inl (none, 1)) 1), (1, 0, op_is 1 2), (2, 0, op_push (.inl (none, 1)) 3), (3, 0, op_is 2 4), (4, 0, op_al 0 5), (5, 0, op_push (.inr (.inl (.inl (none, 0)))) 6), (6, 0, op_pf (tyX4 6) 4 6 9), (9, 0, op_al 0 10), (10, 0, op_push (.inl (none, 0)) 11), (11, 0, op_pf (tyX4 7) 4 7 14), (14, 0, op_push (.inl (none, 1)) 15), (15, 0, op_is 3 16)],
  [(16, 0, op_il 3 17), (17, 0, op_if 0 228 20), (20, 0, op_al 0 21), (21, 0, op_gf 4 3 24), (24, 0, op_al 0 25), (25, 0, op_gf 4 1 28), (28, 0, op_icmp 3 228 31), (31, 0, op_al 0 32)],
  [(32, 0, op_gf 4 0 35), (35, 0, op_al 0 36), (36, 0, op_gf 4 3 39), (39, 0, op_ald 0 40), (40, 0, op_is 4 42), (42, 0, op_il 4 44), (44, 0, op_push (.inl (none, 97)) 46), (46, 0, op_icmp 2 60 49)],
  [(49, 0, op_il 4 51), (51, 0, op_push (.inl (none, 122)) 53), (53, 0, op_icmp 4 60 56), (56, 0, op_push (.inl (none, 1)) 57), (57, 0, op_goto 61), (60, 0, op_push (.inl (none, 0)) 61), (61, 0, op_is 5 63), (63, 0, op_il 4 65)],
  [(65, 0, op_push (.inl (none, 48)) 67), (67, 0, op_icmp 2 81 70), (70, 0, op_il 4 72), (72, 0, op_push (.inl (none, 57)) 74), (74, 0, op_icmp 4 81 77), (77, 0, op_push (.inl (none, 1)) 78), (78, 0, op_goto 82)],
  [(81, 0, op_push (.inl (none, 0)) 82), (82, 0, op_is 6 84), (84, 0, op_il 5 86), (86, 0, op_if 1 94 89), (89, 0, op_il 6 91), (91, 0, op_if 0 98 94), (94, 0, op_push (.inl (none, 1)) 95), (95, 0, op_goto 99)],
  [(98, 0, op_push (.inl (none, 0)) 99), (99, 0, op_is 3 100), (100, 0, op_il 3 101), (101, 0, op_if 0 225 104), (104, 4, op_il 1 105), (105, 0, op_if 0 131 108), (108, 0, op_il 5 110), (110, 0, op_if 0 131 113)],
  [(113, 0, op_al 0 114), (114, 0, op_gf 4 3 117), (117, 0, op_al 0 118), (118, 0, op_gf 4 4 121), (121, 0, op_b2 (ab_sub2K) 122), (122, 0, op_push (.inl (none, 7)) 124), (124, 0, op_icmp 3 131 127), (127, 0, op_push (.inl (none, 1)) 128)],
  [(128, 0, op_goto 132), (131, 0, op_push (.inl (none, 0)) 132), (132, 0, op_is 1 133), (133, 0, op_il 2 134), (134, 0, op_if 0 159 137), (137, 0, op_il 6 139), (139, 0, op_if 0 159 142), (142, 0, op_al 0 143), (143, 0, op_gf 4 3 146)],
  [(146, 0, op_al 0 147), (147, 0, op_gf 4 4 150), (150, 0, op_b2 (ab_sub2K) 151), (151, 0, op_push (.inl (none, 3)) 152), (152, 0, op_icmp 3 159 155), (155, 0, op_push (.inl (none, 1)) 156), (156, 0, op_goto 160), (159, 0, op_push (.inl (none, 0)) 160)],
  [(160, 0, op_is 2 161), (161, 0, op_al 0 162), (162, 0, op_il 1 163), (163, 0, op_if 0 180 166), (166, 0, op_al 0 167), (167, 0, op_gf 4 6 170), (170, 0, op_push (.inl (none, 8)) 172), (172, 0, op_lsh 173), (173, 0, op_il 4 175), (175, 0, op_i2l 176)],
  [(176, 0, op_l2 177), (177, 0, op_goto 184), (180, 0, op_al 0 181), (181, 0, op_gf 4 6 184), (184, 0, op_pf (tyX4 6) 4 6 187), (187, 0, op_al 0 188), (188, 0, op_il 2 189), (189, 0, op_if 0 208 192)],
  [(192, 0, op_al 0 193), (193, 0, op_gf 4 7 196), (196, 0, op_push (.inl (none, 10)) 198), (198, 0, op_b2 (ab_mul2K) 199), (199, 0, op_il 4 201), (201, 0, op_b2 (ab_add2K) 202), (202, 0, op_push (.inl (none, 48)) 204), (204, 0, op_b2 (ab_sub2K) 205), (205, 0, op_goto 212)],
  [(208, 0, op_al 0 209), (209, 0, op_gf 4 7 212), (212, 0, op_pf (tyX4 7) 4 7 215), (215, 0, op_al 0 216), (216, 0, op_dup 217), (217, 0, op_gf 4 3 220), (220, 0, op_push (.inl (none, 1)) 221), (221, 0, op_b2 (ab_add2K) 222), (222, 0, op_pf (tyX4 3) 4 3 225)],
  [(225, 0, op_goto 16), (228, 0, op_al 0 229), (229, 0, op_gf 4 3 232), (232, 0, op_al 0 233), (233, 0, op_gf 4 4 236), (236, 0, op_icmp 5 260 239), (239, 0, op_al 0 240)],
  [(240, 0, op_il 1 241), (241, 0, op_if 0 248 244), (244, 0, op_push (.inl (none, 2)) 245), (245, 0, op_goto 257), (248, 0, op_il 2 249), (249, 0, op_if 0 256 252), (252, 0, op_push (.inl (none, 3)) 253), (253, 0, op_goto 257)],
  [(256, 0, op_push (.inl (none, 0)) 257), (257, 0, op_pf (tyX4 5) 4 5 260), (260, 2, op_goto 0)]]
noncomputable def tb_X4_toldWord : ab_tab := [[(0, 0, op_push (.inl (none, 0)) 1), (1, 0, op_is 1 2), (2, 4, op_il 1 3), (3, 0, op_al 0 4), (4, 0, op_gf 4 14 7), (7, 0, op_len 8), (8, 0, op_icmp 3 33 11), (11, 0, op_al 0 12), (12, 0, op_gf 4 14 15), (15, 0, op_il 1 16)],
  [(16, 0, op_lald 17), (17, 0, op_al 0 18), (18, 0, op_gf 4 6 21), (21, 0, op_lcmp 22), (22, 0, op_if 1 27 25), (25, 0, op_il 1 26), (26, 1, op_goto 0), (27, 0, op_inc 1 1 30), (30, 0, op_goto 2)],
  [(33, 0, op_push (.inl (none, (-1))) 34), (34, 1, op_goto 0)]]
noncomputable def tb_X4_takeSign : ab_tab := [[(0, 0, op_al 0 1), (1, 0, op_gf 4 5 4), (4, 0, op_il 1 5), (5, 0, op_icmp 0 14 8), (8, 0, op_al 0 9), (9, 0, op_push (.inl (none, 1)) 10), (10, 0, op_call 6 1 2 0 0 0 0 13), (13, 1, op_goto 0), (14, 0, op_al 0 15), (15, 0, op_call 6 3 1 0 0 0 0 18)],
  [(18, 0, op_push (.inl (none, 1)) 19), (19, 1, op_goto 0)]]
noncomputable def tb_X4_takeNumber : ab_tab := [[(0, 0, op_al 0 1), (1, 0, op_gf 4 5 4), (4, 0, op_push (.inl (none, 3)) 5), (5, 0, op_icmp 0 14 8), (8, 0, op_al 0 9), (9, 0, op_push (.inl (none, 1)) 10), (10, 0, op_call 6 1 2 0 0 0 0 13), (13, 1, op_goto 0), (14, 0, op_al 0 15), (15, 0, op_gf 4 7 18)],
  [(18, 0, op_il 1 19), (19, 0, op_icmp 2 30 22), (22, 0, op_al 0 23), (23, 0, op_gf 4 7 26), (26, 0, op_il 2 27), (27, 0, op_icmp 5 36 30), (30, 0, op_al 0 31), (31, 0, op_push (.inl (none, 2)) 32)],
  [(32, 0, op_call 6 1 2 0 0 0 0 35), (35, 1, op_goto 0), (36, 0, op_al 0 37), (37, 0, op_al 0 38), (38, 0, op_gf 4 7 41), (41, 0, op_pf (tyX4 9) 4 9 44), (44, 0, op_al 0 45), (45, 0, op_call 6 3 1 0 0 0 0 48)],
  [(48, 0, op_push (.inl (none, 1)) 49), (49, 1, op_goto 0)]]
noncomputable def tb_X11_spells : ab_tab := [[(0, 0, op_push (.inl (none, 56)) 2), (2, 0, op_pre (pr_add [(3, 0, 0), (1, 0, 36)] [1, (-1)] 0) (op_is 3 3)), (3, 4, op_pre (pr_use) (op_il 3 4)), (4, 0, op_if 2 37 7), (7, 0, op_ll 1 8), (8, 0, op_il 3 9), (9, 0, op_lshC 10), (10, 0, op_push (.inr (.inl (.inl (none, 255)))) 13), (13, 0, op_landC 14), (14, 0, op_push (.inr (.inl (.inl (none, 0)))) 15), (15, 0, op_lcmp 16)],
  [(16, 0, op_if 0 31 19), (19, 0, op_al 0 20), (20, 0, op_ll 1 21), (21, 0, op_il 3 22), (22, 0, op_lshC 23), (23, 0, op_push (.inr (.inl (.inl (none, 255)))) 26), (26, 0, op_landC 27), (27, 0, op_l2i 28), (28, 0, op_call 13 17 2 0 0 0 0 31), (31, 0, op_pre (pr_try [(3, 0, 0), (1, 0, 36)] [1, (-1)] 0) (op_pre (pr_try [(3, 0, 0), (1, 0, 36)] [1, (-1)] 1) (op_pre (pr_try [(3, 0, 0), (1, 0, 36)] [1, (-1)] 2) (op_pre (pr_try [(3, 0, 0), (1, 0, 36)] [1, (-1)] 3) (op_pre (pr_try [(3, 0, 0), (1, 0, 36)] [1, (-1)] 4) (op_pre (pr_try [(3, 0, 0), (1, 0, 36)] [1, (-1)] 5) (op_pre (pr_try [(3, 0, 0), (1, 0, 36)] [1, (-1)] 6) (op_pre (pr_try [(3, 0, 0), (1, 0, 36)] [1, (-1)] 7) (op_pre (pr_try [(3, 0, 0), (1, 0, 36)] [1, (-1)] 8) (op_inc 3 (-8) 34))))))))))],
  [(34, 0, op_goto 3), (37, 2, op_goto 0)]]
noncomputable def tb_X11_says : ab_tab := [[(0, 0, op_al 0 1), (1, 0, op_push (.inl (none, 32)) 3), (3, 0, op_call 13 17 2 0 0 0 0 6), (6, 0, op_al 0 7), (7, 0, op_ll 1 8), (8, 0, op_call 13 30 2 0 0 0 0 11), (11, 2, op_goto 0)]]
noncomputable def tb_X8_limit : ab_tab := [[(0, 0, op_al 0 1), (1, 0, op_gf 8 15 4), (4, 0, op_push (.inl (none, 0)) 5), (5, 0, op_ald 0 6), (6, 1, op_goto 0)]]
noncomputable def tb_X11_isSign : ab_tab := [[(0, 0, op_al 0 1), (1, 0, op_gf 11 11 4), (4, 0, op_push (.inl (none, 3)) 5), (5, 0, op_icmp 1 20 8), (8, 0, op_al 0 9), (9, 0, op_gf 11 14 12), (12, 0, op_il 1 13), (13, 0, op_icmp 1 20 16)],
  [(16, 0, op_push (.inl (none, 1)) 17), (17, 0, op_goto 21), (20, 0, op_push (.inl (none, 0)) 21), (21, 1, op_goto 0)]]
noncomputable def tb_X11_sign : ab_tab := [[(0, 0, op_al 0 1), (1, 0, op_il 1 2), (2, 0, op_call 13 33 2 0 0 0 0 5), (5, 0, op_if 1 14 8), (8, 0, op_al 0 9), (9, 0, op_push (.inl (none, 1)) 10), (10, 0, op_call 13 5 2 0 0 0 0 13), (13, 1, op_goto 0), (14, 0, op_al 0 15), (15, 0, op_call 13 13 1 0 0 0 0 18)],
  [(18, 0, op_push (.inl (none, 1)) 19), (19, 1, op_goto 0)]]
noncomputable def tb_X11_leavesAt : ab_tab := [[(0, 0, op_al 0 1), (1, 0, op_gf 11 6 4), (4, 0, op_push (.inl (none, 84)) 6), (6, 0, op_il 1 7), (7, 0, op_b2 (ab_add2K) 8), (8, 0, op_ald 0 9), (9, 0, op_al 0 10), (10, 0, op_al 0 11), (11, 0, op_gf 11 6 14), (14, 0, op_push (.inl (none, 68)) 16)],
  [(16, 0, op_il 1 17), (17, 0, op_b2 (ab_add2K) 18), (18, 0, op_ald 0 19), (19, 0, op_call 13 22 2 0 0 0 0 22), (22, 0, op_b2 (ab_add2K) 23), (23, 1, op_goto 0)]]
noncomputable def tb_X7_comes : ab_tab := [[(0, 0, op_al 0 1), (1, 0, op_al 1 2), (2, 0, op_il 2 3), (3, 0, op_call 9 23 3 0 0 0 0 6), (6, 0, op_al 1 7), (7, 0, op_gf 8 14 10), (10, 0, op_il 2 11), (11, 0, op_ald 0 12), (12, 0, op_b2 (ab_add2K) 13), (13, 1, op_goto 0)]]
noncomputable def tb_X11_absolute : ab_tab := [[(0, 0, op_il 0 1), (1, 0, op_if 3 9 4), (4, 0, op_il 0 5), (5, 0, op_ineg 6), (6, 0, op_goto 10), (9, 0, op_il 0 10), (10, 1, op_goto 0)]]
noncomputable def tb_X6_readCond : ab_tab := [[(0, 0, op_al 0 1), (1, 0, op_al 1 2), (2, 0, op_al 2 3), (3, 0, op_il 3 4), (4, 0, op_call 8 25 4 0 0 0 0 7), (7, 0, op_if 1 12 10), (10, 0, op_push (.inl (none, 0)) 11), (11, 1, op_goto 0), (12, 0, op_push (.inl (none, 0)) 13), (13, 0, op_is 4 15), (15, 4, op_il 4 17)],
  [(17, 0, op_push (.inl (none, 20)) 19), (19, 0, op_icmp 3 61 22), (22, 0, op_al 2 23), (23, 0, op_gf 4 8 26), (26, 0, op_push (.inl (none, 13)) 28), (28, 0, op_icmp 1 61 31), (31, 0, op_al 2 32)],
  [(32, 0, op_call 6 3 1 0 0 0 0 35), (35, 0, op_al 0 36), (36, 0, op_al 1 37), (37, 0, op_al 2 38), (38, 0, op_il 3 39), (39, 0, op_call 8 25 4 0 0 0 0 42), (42, 0, op_if 1 47 45), (45, 0, op_push (.inl (none, 0)) 46), (46, 1, op_goto 0), (47, 0, op_al 0 48)],
  [(48, 0, op_push (.inl (none, 13)) 50), (50, 0, op_push (.inl (none, 0)) 51), (51, 0, op_push (.inl (none, 0)) 52), (52, 0, op_call 8 9 4 0 0 0 0 55), (55, 0, op_inc 4 1 58), (58, 0, op_goto 15), (61, 0, op_push (.inl (none, 1)) 62), (62, 1, op_goto 0)]]
noncomputable def tb_X8_change : ab_tab := [[(0, 0, op_al 0 1), (1, 0, op_gf 8 15 4), (4, 0, op_push (.inl (none, 1)) 5), (5, 0, op_ald 0 6), (6, 1, op_goto 0)]]
noncomputable def tb_X11_throwsIf : ab_tab := [[(0, 0, op_al 0 1), (1, 0, op_il 1 2), (2, 0, op_if 0 9 5), (5, 0, op_push (.inl (none, 1)) 6), (6, 0, op_goto 10), (9, 0, op_push (.inl (none, 0)) 10), (10, 0, op_pf (tyX11 0) 11 0 13), (13, 0, op_il 1 14), (14, 1, op_goto 0)]]
noncomputable def tb_X5_search : ab_tab := [[(0, 0, op_il 5 2), (2, 0, op_push (.inl (none, 8)) 4), (4, 0, op_icmp 2 8 7), (7, 2, op_goto 0), (8, 0, op_push (.inl (none, 0)) 9), (9, 0, op_is 6 11), (11, 4, op_il 6 13), (13, 0, op_al 1 14), (14, 0, op_gf 8 9 17)],
  [(17, 0, op_icmp 3 118 20), (20, 0, op_al 1 21), (21, 0, op_gf 8 11 24), (24, 0, op_il 6 26), (26, 0, op_ald 0 27), (27, 0, op_il 3 28), (28, 0, op_icmp 1 112 31), (31, 0, op_al 2 32)],
  [(32, 0, op_al 1 33), (33, 0, op_il 6 35), (35, 0, op_call 9 23 3 0 0 0 0 38), (38, 0, op_il 4 40), (40, 0, op_icmp 2 112 43), (43, 0, op_al 0 44), (44, 0, op_gf 5 0 47), (47, 0, op_il 5 49)],
  [(49, 0, op_il 6 51), (51, 0, op_ast 0 52), (52, 0, op_al 2 53), (53, 0, op_al 1 54), (54, 0, op_il 6 56), (56, 0, op_call 9 36 3 0 0 0 0 59), (59, 0, op_is 7 61), (61, 0, op_al 1 62), (62, 0, op_gf 8 12 65)],
  [(65, 0, op_il 6 67), (67, 0, op_ald 0 68), (68, 0, op_al 0 69), (69, 0, op_gf 5 4 72), (72, 0, op_icmp 1 88 75), (75, 0, op_al 0 76), (76, 0, op_il 7 78), (78, 0, op_il 5 80)],
  [(80, 0, op_push (.inl (none, 1)) 81), (81, 0, op_b2 (ab_add2K) 82), (82, 0, op_call 7 42 3 0 0 0 0 85), (85, 0, op_goto 112), (88, 0, op_al 0 89), (89, 0, op_al 1 90), (90, 0, op_al 2 91), (91, 0, op_al 1 92), (92, 0, op_gf 8 12 95), (95, 0, op_il 6 97)],
  [(97, 0, op_ald 0 98), (98, 0, op_il 7 100), (100, 0, op_al 1 101), (101, 0, op_call 10 39 1 0 0 0 0 104), (104, 0, op_b2 (ab_add2K) 105), (105, 0, op_il 5 107), (107, 0, op_push (.inl (none, 1)) 108), (108, 0, op_b2 (ab_add2K) 109), (109, 0, op_call 7 41 6 0 0 0 0 112)],
  [(112, 0, op_inc 6 1 115), (115, 0, op_goto 11), (118, 2, op_goto 0)]]
noncomputable def tb_X5_takeIfBetter : ab_tab := [[(0, 0, op_al 0 1), (1, 0, op_gf 5 3 4), (4, 0, op_push (.inl (none, (-1))) 5), (5, 0, op_icmp 0 32 8), (8, 0, op_il 1 9), (9, 0, op_al 0 10), (10, 0, op_gf 5 3 13), (13, 0, op_icmp 2 32 16)],
  [(16, 0, op_il 1 17), (17, 0, op_al 0 18), (18, 0, op_gf 5 3 21), (21, 0, op_icmp 1 56 24), (24, 0, op_il 2 25), (25, 0, op_al 0 26), (26, 0, op_gf 5 2 29), (29, 0, op_icmp 3 56 32)],
  [(32, 0, op_al 0 33), (33, 0, op_il 1 34), (34, 0, op_pf (tyX5 3) 5 3 37), (37, 0, op_al 0 38), (38, 0, op_il 2 39), (39, 0, op_pf (tyX5 2) 5 2 42), (42, 0, op_al 0 43), (43, 0, op_gf 5 0 46), (46, 0, op_push (.inl (none, 0)) 47), (47, 0, op_al 0 48)],
  [(48, 0, op_gf 5 1 51), (51, 0, op_push (.inl (none, 0)) 52), (52, 0, op_il 2 53), (53, 0, op_acp 56), (56, 2, op_goto 0)]]
noncomputable def tb_X11_isShaded : ab_tab := [[(0, 0, op_al 0 1), (1, 0, op_gf 11 6 4), (4, 0, op_push (.inl (none, 101)) 6), (6, 0, op_ald 0 7), (7, 0, op_il 1 8), (8, 0, op_call 0 21 2 0 0 0 0 11), (11, 1, op_goto 0)]]
noncomputable def tb_X11_isTown : ab_tab := [[(0, 0, op_il 1 1), (1, 0, op_push (.inl (none, 0)) 2), (2, 0, op_al 0 3), (3, 0, op_gf 11 6 6), (6, 0, op_push (.inl (none, 0)) 7), (7, 0, op_ald 0 8), (8, 0, op_push (.inl (none, 1)) 9), (9, 0, op_b2 (ab_sub2K) 10), (10, 0, op_call 0 18 3 0 0 0 0 13), (13, 1, op_goto 0)]]
noncomputable def tb_X11_takes : ab_tab := [[(0, 0, op_al 0 1), (1, 0, op_gf 11 11 4), (4, 0, op_push (.inl (none, 2)) 5), (5, 0, op_icmp 0 14 8), (8, 0, op_al 0 9), (9, 0, op_push (.inl (none, 1)) 10), (10, 0, op_call 13 5 2 0 0 0 0 13), (13, 1, op_goto 0), (14, 0, op_al 0 15), (15, 0, op_gf 11 14 18)],
  [(18, 0, op_il 1 19), (19, 0, op_il 2 20), (20, 0, op_call 0 18 3 0 0 0 0 23), (23, 0, op_if 1 32 26), (26, 0, op_al 0 27), (27, 0, op_push (.inl (none, 2)) 28), (28, 0, op_call 13 5 2 0 0 0 0 31), (31, 1, op_goto 0)],
  [(32, 0, op_al 0 33), (33, 0, op_al 0 34), (34, 0, op_gf 11 14 37), (37, 0, op_pf (tyX11 18) 11 18 40), (40, 0, op_al 0 41), (41, 0, op_call 13 13 1 0 0 0 0 44), (44, 0, op_push (.inl (none, 1)) 45), (45, 1, op_goto 0)]]
noncomputable def tb_X4_isName : ab_tab := [[(0, 0, op_al 0 1), (1, 0, op_gf 4 5 4), (4, 0, op_push (.inl (none, 2)) 5), (5, 0, op_icmp 1 20 8), (8, 0, op_al 0 9), (9, 0, op_gf 4 8 12), (12, 0, op_push (.inl (none, (-1))) 13), (13, 0, op_icmp 1 20 16)],
  [(16, 0, op_push (.inl (none, 1)) 17), (17, 0, op_goto 21), (20, 0, op_push (.inl (none, 0)) 21), (21, 1, op_goto 0)]]
noncomputable def tb_X8_townNamed : ab_tab := [[(0, 0, op_push (.inl (none, 0)) 1), (1, 0, op_is 3 2), (2, 4, op_il 3 3), (3, 0, op_al 0 4), (4, 0, op_gf 8 0 7), (7, 0, op_icmp 3 29 10), (10, 0, op_al 0 11), (11, 0, op_gf 8 1 14), (14, 0, op_il 3 15), (15, 0, op_lald 16)],
  [(16, 0, op_ll 1 17), (17, 0, op_lcmp 18), (18, 0, op_if 1 23 21), (21, 0, op_il 3 22), (22, 1, op_goto 0), (23, 0, op_inc 3 1 26), (26, 0, op_goto 2), (29, 0, op_push (.inl (none, (-1))) 30), (30, 1, op_goto 0)]]
noncomputable def tb_X8_dueOn : ab_tab := [[(0, 0, op_push (.inl (none, 0)) 1), (1, 0, op_is 3 2), (2, 4, op_il 3 3), (3, 0, op_al 0 4), (4, 0, op_gf 8 4 7), (7, 0, op_icmp 3 53 10), (10, 0, op_al 0 11), (11, 0, op_gf 8 5 14), (14, 0, op_il 3 15), (15, 0, op_ald 0 16)],
  [(16, 0, op_il 1 17), (17, 0, op_icmp 1 47 20), (20, 0, op_al 0 21), (21, 0, op_gf 8 6 24), (24, 0, op_il 3 25), (25, 0, op_ald 0 26), (26, 0, op_il 2 27), (27, 0, op_icmp 4 47 30), (30, 0, op_il 2 31), (31, 0, op_al 0 32)],
  [(32, 0, op_gf 8 7 35), (35, 0, op_il 3 36), (36, 0, op_ald 0 37), (37, 0, op_icmp 4 47 40), (40, 0, op_al 0 41), (41, 0, op_gf 8 8 44), (44, 0, op_il 3 45), (45, 0, op_ald 0 46), (46, 1, op_goto 0), (47, 0, op_inc 3 1 50)],
  [(50, 0, op_goto 2), (53, 0, op_push (.inl (none, 10000)) 56), (56, 1, op_goto 0)]]
noncomputable def tb_X11_once : ab_tab := [[(0, 0, op_al 0 1), (1, 0, op_gf 11 20 4), (4, 0, op_il 1 5), (5, 0, op_call 0 21 2 0 0 0 0 8), (8, 0, op_if 0 17 11), (11, 0, op_al 0 12), (12, 0, op_push (.inl (none, 3)) 13), (13, 0, op_call 13 5 2 0 0 0 0 16)],
  [(16, 1, op_goto 0), (17, 0, op_al 0 18), (18, 0, op_dup 19), (19, 0, op_gf 11 20 22), (22, 0, op_push (.inl (none, 1)) 23), (23, 0, op_il 1 24), (24, 0, op_b2 (ab_binK (fun u v => u <<< (v &&& 31))) 25), (25, 0, op_b2 (ab_binK (fun u v => u ||| v)) 26), (26, 0, op_pf (tyX11 20) 11 20 29), (29, 0, op_al 0 30), (30, 0, op_call 13 13 1 0 0 0 0 33)],
  [(33, 0, op_al 0 34), (34, 0, op_il 2 35), (35, 0, op_il 3 36), (36, 0, op_il 4 38), (38, 0, op_call 13 58 4 0 0 0 0 41), (41, 1, op_goto 0)]]
noncomputable def tb_X4_takeTown : ab_tab := [[(0, 0, op_al 0 1), (1, 0, op_call 6 46 1 0 0 0 0 4), (4, 0, op_if 1 13 7), (7, 0, op_al 0 8), (8, 0, op_push (.inl (none, 1)) 9), (9, 0, op_call 6 1 2 0 0 0 0 12), (12, 1, op_goto 0), (13, 0, op_al 1 14), (14, 0, op_al 0 15), (15, 0, op_gf 4 6 18)],
  [(18, 0, op_call 10 47 2 0 0 0 0 21), (21, 0, op_is 3 22), (22, 0, op_il 3 23), (23, 0, op_push (.inl (none, (-1))) 24), (24, 0, op_icmp 0 32 27), (27, 0, op_il 3 28), (28, 0, op_il 2 29), (29, 0, op_icmp 1 38 32)],
  [(32, 0, op_al 0 33), (33, 0, op_push (.inl (none, 3)) 34), (34, 0, op_call 6 1 2 0 0 0 0 37), (37, 1, op_goto 0), (38, 0, op_al 0 39), (39, 0, op_il 3 40), (40, 0, op_pf (tyX4 9) 4 9 43), (43, 0, op_al 0 44), (44, 0, op_call 6 3 1 0 0 0 0 47), (47, 0, op_push (.inl (none, 1)) 48)],
  [(48, 1, op_goto 0)]]
noncomputable def tb_X4_isSign : ab_tab := [[(0, 0, op_il 0 1), (1, 0, op_push (.inl (none, 59)) 3), (3, 0, op_icmp 0 36 6), (6, 0, op_il 0 7), (7, 0, op_push (.inl (none, 60)) 9), (9, 0, op_icmp 0 36 12), (12, 0, op_il 0 13), (13, 0, op_push (.inl (none, 61)) 15), (15, 0, op_icmp 0 36 18)],
  [(18, 0, op_il 0 19), (19, 0, op_push (.inl (none, 62)) 21), (21, 0, op_icmp 0 36 24), (24, 0, op_il 0 25), (25, 0, op_push (.inl (none, 40)) 27), (27, 0, op_icmp 0 36 30), (30, 0, op_il 0 31), (31, 0, op_push (.inl (none, 41)) 33)],
  [(33, 0, op_icmp 1 40 36), (36, 0, op_push (.inl (none, 1)) 37), (37, 0, op_goto 41), (40, 0, op_push (.inl (none, 0)) 41), (41, 1, op_goto 0)]]
noncomputable def tb_X7_wasBent : ab_tab := [[(0, 0, op_al 0 1), (1, 0, op_gf 7 2 4), (4, 0, op_il 1 5), (5, 0, op_b2 (ab_binK (fun u v => u >>> (v &&& 31))) 6), (6, 0, op_push (.inl (none, 1)) 7), (7, 0, op_b2 (ab_an8K) 8), (8, 0, op_if 0 15 11), (11, 0, op_push (.inl (none, 1)) 12), (12, 0, op_goto 16), (15, 0, op_push (.inl (none, 0)) 16)],
  [(16, 1, op_goto 0)]]
noncomputable def tb_X11_comesAt : ab_tab := [[(0, 0, op_al 0 1), (1, 0, op_il 1 2), (2, 0, op_call 13 35 2 0 0 0 0 5), (5, 0, op_al 0 6), (6, 0, op_gf 11 6 9), (9, 0, op_push (.inl (none, 92)) 11), (11, 0, op_il 1 12), (12, 0, op_b2 (ab_add2K) 13), (13, 0, op_ald 0 14), (14, 0, op_b2 (ab_add2K) 15), (15, 1, op_goto 0)]]
noncomputable def tb_X11_back : ab_tab := [[(0, 0, op_push (.inl (none, 0)) 1), (1, 0, op_is 1 2), (2, 4, op_il 1 3), (3, 0, op_push (.inl (none, 24)) 5), (5, 0, op_icmp 3 29 8), (8, 0, op_al 0 9), (9, 0, op_gf 11 6 12), (12, 0, op_push (.inl (none, 100)) 14), (14, 0, op_il 1 15), (15, 0, op_b2 (ab_add2K) 16)],
  [(16, 0, op_al 0 17), (17, 0, op_gf 11 22 20), (20, 0, op_il 1 21), (21, 0, op_ald 0 22), (22, 0, op_astK 23), (23, 0, op_inc 1 1 26), (26, 0, op_goto 2), (29, 2, op_goto 0)]]
noncomputable def tb_X11_mayTake : ab_tab := [[(0, 0, op_il 3 1), (1, 0, op_il 2 2), (2, 0, op_call 0 21 2 0 0 0 0 5), (5, 0, op_if 1 59 8), (8, 0, op_al 0 9), (9, 0, op_gf 11 6 12), (12, 0, op_push (.inl (none, 68)) 14), (14, 0, op_il 2 15), (15, 0, op_b2 (ab_add2K) 16)],
  [(16, 0, op_ald 0 17), (17, 0, op_al 0 18), (18, 0, op_gf 11 29 21), (21, 0, op_il 1 22), (22, 0, op_ald 0 23), (23, 0, op_icmp 1 59 26), (26, 0, op_al 0 27), (27, 0, op_il 2 28), (28, 0, op_call 13 35 2 0 0 0 0 31), (31, 0, op_al 0 32)],
  [(32, 0, op_gf 11 30 35), (35, 0, op_il 1 36), (36, 0, op_ald 0 37), (37, 0, op_il 1 38), (38, 0, op_if 5 50 41), (41, 0, op_al 0 42), (42, 0, op_gf 11 6 45), (45, 0, op_push (.inl (none, 4)) 46), (46, 0, op_ald 0 47), (47, 0, op_goto 51)],
  [(50, 0, op_push (.inl (none, 0)) 51), (51, 0, op_b2 (ab_add2K) 52), (52, 0, op_icmp 2 59 55), (55, 0, op_push (.inl (none, 1)) 56), (56, 0, op_goto 60), (59, 0, op_push (.inl (none, 0)) 60), (60, 1, op_goto 0)]]
noncomputable def tb_X7_whyNotBend : ab_tab := [[(0, 0, op_al 0 1), (1, 0, op_il 2 2), (2, 0, op_call 9 52 2 0 0 0 0 5), (5, 0, op_if 0 10 8), (8, 0, op_push (.inl (none, 1)) 9), (9, 1, op_goto 0), (10, 0, op_il 3 11), (11, 0, op_mm1 0 0 14), (14, 0, op_al 1 15), (15, 0, op_call 10 32 1 0 0 0 0 18)],
  [(18, 0, op_icmp 5 23 21), (21, 0, op_push (.inl (none, 2)) 22), (22, 1, op_goto 0), (23, 0, op_al 0 24), (24, 0, op_gf 7 3 27), (27, 0, op_il 2 28), (28, 0, op_ald 0 29), (29, 0, op_il 3 30), (30, 0, op_b2 (ab_add2K) 31), (31, 0, op_mm1 0 0 34)],
  [(34, 0, op_push (.inl (none, 30)) 36), (36, 0, op_icmp 5 43 39), (39, 0, op_push (.inl (none, 3)) 40), (40, 0, op_goto 44), (43, 0, op_push (.inl (none, 0)) 44), (44, 1, op_goto 0)]]
noncomputable def tb_X7_bendBy : ab_tab := [[(0, 0, op_al 0 1), (1, 0, op_gf 7 3 4), (4, 0, op_il 1 5), (5, 0, op_dup2 6), (6, 0, op_ald 0 7), (7, 0, op_il 2 8), (8, 0, op_b2 (ab_add2K) 9), (9, 0, op_ast 0 10), (10, 0, op_al 0 11), (11, 0, op_dup 12), (12, 0, op_gf 7 2 15), (15, 0, op_push (.inl (none, 1)) 16)],
  [(16, 0, op_il 1 17), (17, 0, op_b2 (ab_binK (fun u v => u <<< (v &&& 31))) 18), (18, 0, op_b2 (ab_binK (fun u v => u ||| v)) 19), (19, 0, op_pf (tyX7 2) 7 2 22), (22, 2, op_goto 0)]]
noncomputable def tb_X11_puts : ab_tab := [[(0, 0, op_al 0 1), (1, 0, op_il 2 2), (2, 0, op_il 3 3), (3, 0, op_call 13 45 3 0 0 0 0 6), (6, 0, op_if 1 11 9), (9, 0, op_push (.inl (none, 0)) 10), (10, 1, op_goto 0), (11, 0, op_al 0 12), (12, 0, op_gf 11 7 15), (15, 0, op_il 1 16)],
  [(16, 0, op_al 0 17), (17, 0, op_gf 11 18 20), (20, 0, op_astK 21), (21, 0, op_push (.inl (none, 1)) 22), (22, 1, op_goto 0)]]
noncomputable def tb_X6_copyFrom : ab_tab := [[(0, 0, op_al 0 1), (1, 0, op_al 1 2), (2, 0, op_gf 6 3 5), (5, 0, op_pf (tyX6 3) 6 3 8), (8, 0, op_al 0 9), (9, 0, op_al 1 10), (10, 0, op_gf 6 4 13), (13, 0, op_pf (tyX6 4) 6 4 16)],
  [(16, 0, op_al 1 17), (17, 0, op_gf 6 0 20), (20, 0, op_push (.inl (none, 0)) 21), (21, 0, op_al 0 22), (22, 0, op_gf 6 0 25), (25, 0, op_push (.inl (none, 0)) 26), (26, 0, op_push (.inl (none, 40)) 28), (28, 0, op_acF 31), (31, 0, op_al 1 32)],
  [(32, 0, op_gf 6 1 35), (35, 0, op_push (.inl (none, 0)) 36), (36, 0, op_al 0 37), (37, 0, op_gf 6 1 40), (40, 0, op_push (.inl (none, 0)) 41), (41, 0, op_push (.inl (none, 40)) 43), (43, 0, op_ac 0 46), (46, 0, op_al 1 47), (47, 0, op_gf 6 2 50)],
  [(50, 0, op_push (.inl (none, 0)) 51), (51, 0, op_al 0 52), (52, 0, op_gf 6 2 55), (55, 0, op_push (.inl (none, 0)) 56), (56, 0, op_push (.inl (none, 40)) 58), (58, 0, op_acF 61), (61, 2, op_goto 0)]]
noncomputable def tb_X6_plainHolds : ab_tab := [[(0, 0, op_pre (pr_loc 4) (op_al 2 1)), (1, 0, op_gf 7 3 4), (4, 0, op_il 3 5), (5, 0, op_ald 0 6), (6, 0, op_is 5 8), (8, 0, op_al 0 9), (9, 0, op_gf 6 0 12), (12, 0, op_il 4 14), (14, 0, op_ald 0 15), (15, 0, op_tsw 1 20 [159, 172, 199, 199, 199, 199, 199, 199, 199, 199, 199, 199, 199, 199, 199, 108, 119, 125, 132, 186] 199)],
  [],
  [],
  [],
  [],
  [],
  [(108, 0, op_il 5 110), (110, 0, op_if 1 117 113)],
  [(113, 0, op_push (.inl (none, 1)) 114), (114, 0, op_goto 118), (117, 0, op_push (.inl (none, 0)) 118), (118, 1, op_goto 0), (119, 0, op_al 2 120), (120, 0, op_il 3 121), (121, 0, op_call 9 6 2 0 0 0 0 124), (124, 1, op_goto 0), (125, 0, op_al 2 126), (126, 0, op_al 1 127), (127, 0, op_il 3 128)],
  [(128, 0, op_call 9 8 3 0 0 0 0 131), (131, 1, op_goto 0), (132, 0, op_al 2 133), (133, 0, op_al 1 134), (134, 0, op_il 3 135), (135, 0, op_call 9 2 3 0 0 0 0 138), (138, 0, op_al 2 139), (139, 0, op_al 1 140), (140, 0, op_al 0 141), (141, 0, op_gf 6 2 144)],
  [(144, 0, op_il 4 146), (146, 0, op_ald 0 147), (147, 0, op_pre (pr_dyn 0 0 2 (fun j a b => pr_tU (a, b, 0, 0, 1, 19, 6) (0, 4, 0))) (op_call 9 2 3 0 0 0 0 150)), (150, 0, op_icmp 3 157 153), (153, 0, op_push (.inl (none, 1)) 154), (154, 0, op_goto 158), (157, 0, op_push (.inl (none, 0)) 158), (158, 1, op_goto 0), (159, 0, op_al 0 160)],
  [(160, 0, op_il 5 162), (162, 0, op_push (.inl (none, 0)) 163), (163, 0, op_mm2 0 0 166), (166, 0, op_il 4 168), (168, 0, op_call 8 0 3 0 0 0 0 171), (171, 1, op_goto 0), (172, 0, op_al 0 173), (173, 0, op_il 5 175), (175, 0, op_ineg 176)],
  [(176, 0, op_push (.inl (none, 0)) 177), (177, 0, op_mm2 0 0 180), (180, 0, op_il 4 182), (182, 0, op_call 8 0 3 0 0 0 0 185), (185, 1, op_goto 0), (186, 0, op_al 0 187), (187, 0, op_al 2 188), (188, 0, op_gf 7 4 191), (191, 0, op_il 3 192)],
  [(192, 0, op_ald 0 193), (193, 0, op_il 4 195), (195, 0, op_call 8 0 3 0 0 0 0 198), (198, 1, op_goto 0), (199, 0, op_al 0 200), (200, 0, op_il 3 201), (201, 0, op_il 4 203), (203, 0, op_call 8 0 3 0 0 0 0 206), (206, 1, op_goto 0)]]
noncomputable def tb_X7_breachBits : ab_tab := [[(0, 0, op_push (.inl (none, 0)) 1), (1, 0, op_is 2 2), (2, 0, op_push (.inl (none, 0)) 3), (3, 0, op_is 3 4), (4, 4, op_il 3 5), (5, 0, op_al 1 6), (6, 0, op_gf 8 0 9), (9, 0, op_icmp 3 33 12), (12, 0, op_al 0 13), (13, 0, op_al 1 14), (14, 0, op_il 3 15), (15, 0, op_call 9 8 3 0 0 0 0 18)],
  [(18, 0, op_if 0 27 21), (21, 0, op_il 2 22), (22, 0, op_push (.inl (none, 1)) 23), (23, 0, op_il 3 24), (24, 0, op_b2 (ab_binK (fun u v => u <<< (v &&& 31))) 25), (25, 0, op_b2 (ab_binK (fun u v => u ||| v)) 26), (26, 0, op_is 2 27), (27, 0, op_inc 3 1 30), (30, 0, op_goto 4)],
  [(33, 0, op_il 2 34), (34, 1, op_goto 0)]]
noncomputable def tb_X3_put : ab_tab := [[(0, 0, op_push (.inl (none, 0)) 1), (1, 0, op_is 2 2), (2, 4, op_il 2 3), (3, 0, op_al 1 4), (4, 0, op_call 1 103 1 0 0 0 0 7), (7, 0, op_icmp 3 25 10), (10, 0, op_al 0 11), (11, 0, op_al 1 12), (12, 0, op_il 2 13), (13, 0, op_call 1 104 2 0 0 0 0 16)],
  [(16, 0, op_call 5 63 2 0 0 0 0 19), (19, 0, op_inc 2 1 22), (22, 0, op_goto 2), (25, 2, op_goto 0)]]
noncomputable def tb_X3_put_ : ab_tab := [[(0, 0, op_al 0 1), (1, 0, op_gf 3 1 4), (4, 0, op_al 0 5), (5, 0, op_gf 3 0 8), (8, 0, op_len 9), (9, 0, op_icmp 3 32 12), (12, 0, op_al 0 13), (13, 0, op_gf 3 0 16)],
  [(16, 0, op_al 0 17), (17, 0, op_gf 3 1 20), (20, 0, op_il 1 21), (21, 0, op_ast 0 22), (22, 0, op_al 0 23), (23, 0, op_dup 24), (24, 0, op_gf 3 1 27), (27, 0, op_push (.inl (none, 1)) 28), (28, 0, op_b2 (ab_add2K) 29), (29, 0, op_pf (tyX3 1) 3 1 32)],
  [(32, 2, op_goto 0)]]
noncomputable def tb_X11_tries : ab_tab := [[(0, 0, op_push (.inl (none, 0)) 1), (1, 0, op_is 1 2), (2, 4, op_il 1 3), (3, 0, op_push (.inl (none, 24)) 5), (5, 0, op_icmp 3 29 8), (8, 0, op_al 0 9), (9, 0, op_gf 11 22 12), (12, 0, op_il 1 13), (13, 0, op_al 0 14), (14, 0, op_gf 11 6 17)],
  [(17, 0, op_push (.inl (none, 100)) 19), (19, 0, op_il 1 20), (20, 0, op_b2 (ab_add2K) 21), (21, 0, op_ald 0 22), (22, 0, op_astK 23), (23, 0, op_inc 1 1 26), (26, 0, op_goto 2), (29, 2, op_goto 0)]]
noncomputable def tb_X1_keep : ab_tab := [[(0, 0, op_al 0 1), (1, 0, op_gf 1 1 4), (4, 0, op_push (.inl (none, 8)) 6), (6, 0, op_icmp 2 60 9), (9, 0, op_al 0 10), (10, 0, op_gf 1 0 13), (13, 0, op_push (.inl (none, 0)) 14), (14, 0, op_aald 7 15), (15, 0, op_as 2 16)],
  [(16, 0, op_push (.inl (none, 0)) 17), (17, 0, op_is 3 18), (18, 4, op_il 3 19), (19, 0, op_push (.inl (none, 1)) 20), (20, 0, op_b2 (ab_add2K) 21), (21, 0, op_push (.inl (none, 8)) 23), (23, 0, op_icmp 3 46 26), (26, 0, op_al 0 27), (27, 0, op_gf 1 0 30), (30, 0, op_il 3 31), (31, 0, op_al 0 32)],
  [(32, 0, op_gf 1 0 35), (35, 0, op_il 3 36), (36, 0, op_push (.inl (none, 1)) 37), (37, 0, op_b2 (ab_add2K) 38), (38, 0, op_aald 7 39), (39, 0, op_aast 7 40), (40, 0, op_inc 3 1 43), (43, 0, op_goto 18), (46, 0, op_al 0 47), (47, 0, op_gf 1 0 50)],
  [(50, 0, op_push (.inl (none, 7)) 52), (52, 0, op_al 2 53), (53, 0, op_aast 7 54), (54, 0, op_al 0 55), (55, 0, op_push (.inl (none, 7)) 57), (57, 0, op_pf (tyX1 1) 1 1 60), (60, 0, op_al 0 61), (61, 0, op_gf 1 0 64)],
  [(64, 0, op_al 0 65), (65, 0, op_gf 1 1 68), (68, 0, op_aald 7 69), (69, 0, op_al 1 70), (70, 0, op_call 9 16 2 0 0 0 0 73), (73, 0, op_al 0 74), (74, 0, op_dup 75), (75, 0, op_gf 1 1 78), (78, 0, op_push (.inl (none, 1)) 79), (79, 0, op_b2 (ab_add2K) 80)],
  [(80, 0, op_pf (tyX1 1) 1 1 83), (83, 2, op_goto 0)]]
noncomputable def tb_X11_breachSet : ab_tab := [[(0, 0, op_push (.inl (none, 0)) 1), (1, 0, op_is 1 2), (2, 0, op_push (.inl (none, 0)) 3), (3, 0, op_is 2 4), (4, 4, op_il 2 5), (5, 0, op_al 0 6), (6, 0, op_gf 11 6 9), (9, 0, op_push (.inl (none, 0)) 10), (10, 0, op_ald 0 11), (11, 0, op_icmp 3 38 14), (14, 0, op_il 1 15), (15, 0, op_al 0 16)],
  [(16, 0, op_il 2 17), (17, 0, op_call 13 97 2 0 0 0 0 20), (20, 0, op_if 0 29 23), (23, 0, op_push (.inl (none, 1)) 24), (24, 0, op_il 2 25), (25, 0, op_b2 (ab_binK (fun u v => u <<< (v &&& 31))) 26), (26, 0, op_goto 30), (29, 0, op_push (.inl (none, 0)) 30), (30, 0, op_b2 (ab_binK (fun u v => u ||| v)) 31), (31, 0, op_is 1 32)],
  [(32, 0, op_inc 2 1 35), (35, 0, op_goto 4), (38, 0, op_il 1 39), (39, 1, op_goto 0)]]
noncomputable def tb_X7_turnShade : ab_tab := [[(0, 0, op_al 0 1), (1, 0, op_dup 2), (2, 0, op_gf 7 1 5), (5, 0, op_push (.inl (none, 1)) 6), (6, 0, op_il 1 7), (7, 0, op_b2 (ab_binK (fun u v => u <<< (v &&& 31))) 8), (8, 0, op_b2 (ab_binK (fun u v => u ^^^ v)) 9), (9, 0, op_pf (tyX7 1) 7 1 12), (12, 2, op_goto 0)]]
noncomputable def tb_X7_springBack : ab_tab := [[(0, 0, op_push (.inl (none, 0)) 1), (1, 0, op_is 2 2), (2, 0, op_push (.inl (none, 0)) 3), (3, 0, op_is 3 4), (4, 4, op_il 3 5), (5, 0, op_al 1 6), (6, 0, op_gf 8 0 9), (9, 0, op_icmp 3 58 12), (12, 0, op_al 0 13), (13, 0, op_gf 7 3 16)],
  [(16, 0, op_il 3 17), (17, 0, op_ald 0 18), (18, 0, op_if 0 52 21), (21, 0, op_al 0 22), (22, 0, op_gf 7 3 25), (25, 0, op_il 3 26), (26, 0, op_dup2 27), (27, 0, op_ald 0 28), (28, 0, op_al 0 29), (29, 0, op_gf 7 3 32)],
  [(32, 0, op_il 3 33), (33, 0, op_ald 0 34), (34, 0, op_call 0 91 1 0 0 0 0 37), (37, 0, op_b2 (ab_sub2K) 38), (38, 0, op_ast 0 39), (39, 0, op_al 0 40), (40, 0, op_gf 7 5 43), (43, 0, op_il 3 44), (44, 0, op_dup2 45), (45, 0, op_ald 0 46), (46, 0, op_push (.inl (none, 1)) 47), (47, 0, op_b2 (ab_add2K) 48)],
  [(48, 0, op_ast 0 49), (49, 0, op_inc 2 1 52), (52, 0, op_inc 3 1 55), (55, 0, op_goto 4), (58, 0, op_il 2 59), (59, 1, op_goto 0)]]
noncomputable def tb_X7_draw : ab_tab := [[(0, 0, op_al 0 1), (1, 0, op_al 0 2), (2, 0, op_gf 7 6 5), (5, 0, op_push (.inl (none, 1103515245)) 7), (7, 0, op_b2 (ab_mul2K) 8), (8, 0, op_push (.inl (none, 12345)) 11), (11, 0, op_b2 (ab_add2K) 12), (12, 0, op_pf (tyX7 6) 7 6 15), (15, 0, op_il 1 16)],
  [(16, 0, op_if 5 31 19), (19, 0, op_al 0 20), (20, 0, op_gf 7 6 23), (23, 0, op_push (.inl (none, 8)) 25), (25, 0, op_b2 (ab_binK (fun u v => (u.toUInt32 >>> (v.toUInt32 &&& Int32.toUInt32 31)).toInt32)) 26), (26, 0, op_il 1 27), (27, 0, op_rem 28), (28, 0, op_goto 32)],
  [(32, 1, op_goto 0)]]
noncomputable def tb_X10_hasTown : ab_tab := [[(0, 0, op_il 1 1), (1, 0, op_if 2 19 4), (4, 0, op_il 1 5), (5, 0, op_al 0 6), (6, 0, op_gf 10 2 9), (9, 0, op_gf 8 0 12), (12, 0, op_icmp 3 19 15), (15, 0, op_push (.inl (none, 1)) 16)],
  [(16, 0, op_goto 20), (19, 0, op_push (.inl (none, 0)) 20), (20, 1, op_goto 0)]]
noncomputable def tb_X11_find : ab_tab := [[(0, 0, op_push (.inl (none, 0)) 1), (1, 0, op_is 3 2), (2, 4, op_il 3 3), (3, 0, op_il 2 4), (4, 0, op_icmp 3 31 7), (7, 0, op_al 0 8), (8, 0, op_gf 11 9 11), (11, 0, op_il 1 12), (12, 0, op_il 3 13), (13, 0, op_b2 (ab_add2K) 14), (14, 0, op_lald 15), (15, 0, op_al 0 16)],
  [(16, 0, op_gf 11 17 19), (19, 0, op_lcmp 20), (20, 0, op_if 1 25 23), (23, 0, op_il 3 24), (24, 1, op_goto 0), (25, 0, op_inc 3 1 28), (28, 0, op_goto 2), (31, 0, op_push (.inl (none, (-1))) 32)],
  [(32, 1, op_goto 0)]]
noncomputable def tb_X11_bends : ab_tab := [[(0, 0, op_al 0 1), (1, 0, op_gf 11 6 4), (4, 0, op_push (.inl (none, 103)) 6), (6, 0, op_il 1 7), (7, 0, op_b2 (ab_add2K) 8), (8, 0, op_dup2 9), (9, 0, op_ald 0 10), (10, 0, op_il 2 11), (11, 0, op_b2 (ab_add2K) 12), (12, 0, op_astK 13), (13, 0, op_al 0 14), (14, 0, op_gf 11 6 17)],
  [(17, 0, op_push (.inl (none, 102)) 19), (19, 0, op_dup2 20), (20, 0, op_ald 0 21), (21, 0, op_push (.inl (none, 1)) 22), (22, 0, op_il 1 23), (23, 0, op_b2 (ab_binK (fun u v => u <<< (v &&& 31))) 24), (24, 0, op_b2 (ab_binK (fun u v => u ||| v)) 25), (25, 0, op_astK 26), (26, 2, op_goto 0)]]
noncomputable def tb_X4_takeWay : ab_tab := [[(0, 0, op_al 0 1), (1, 0, op_gf 4 8 4), (4, 0, op_push (.inl (none, 1)) 5), (5, 0, op_icmp 0 22 8), (8, 0, op_al 0 9), (9, 0, op_gf 4 8 12), (12, 0, op_push (.inl (none, 2)) 13), (13, 0, op_icmp 0 22 16)],
  [(16, 0, op_al 0 17), (17, 0, op_push (.inl (none, 1)) 18), (18, 0, op_call 6 1 2 0 0 0 0 21), (21, 1, op_goto 0), (22, 0, op_al 0 23), (23, 0, op_al 0 24), (24, 0, op_gf 4 8 27), (27, 0, op_push (.inl (none, 1)) 28), (28, 0, op_icmp 1 35 31), (31, 0, op_push (.inl (none, 1)) 32)],
  [(32, 0, op_goto 36), (35, 0, op_push (.inl (none, (-1))) 36), (36, 0, op_pf (tyX4 11) 4 11 39), (39, 0, op_al 0 40), (40, 0, op_call 6 3 1 0 0 0 0 43), (43, 0, op_push (.inl (none, 1)) 44), (44, 1, op_goto 0)]]
noncomputable def tb_X8_frost : ab_tab := [[(0, 0, op_al 0 1), (1, 0, op_gf 8 15 4), (4, 0, op_push (.inl (none, 2)) 5), (5, 0, op_ald 0 6), (6, 1, op_goto 0)]]
noncomputable def tb_X11_dueOf : ab_tab := [[(0, 0, op_push (.inl (none, 0)) 1), (1, 0, op_is 3 2), (2, 4, op_il 3 3), (3, 0, op_al 0 4), (4, 0, op_gf 11 6 7), (7, 0, op_push (.inl (none, 1)) 8), (8, 0, op_ald 0 9), (9, 0, op_icmp 3 66 12), (12, 0, op_al 0 13), (13, 0, op_gf 11 6 16)],
  [(16, 0, op_push (.inl (none, 20)) 18), (18, 0, op_il 3 19), (19, 0, op_b2 (ab_add2K) 20), (20, 0, op_ald 0 21), (21, 0, op_il 1 22), (22, 0, op_icmp 1 60 25), (25, 0, op_il 2 26), (26, 0, op_al 0 27), (27, 0, op_gf 11 6 30), (30, 0, op_push (.inl (none, 32)) 32)],
  [(32, 0, op_il 3 33), (33, 0, op_b2 (ab_add2K) 34), (34, 0, op_ald 0 35), (35, 0, op_al 0 36), (36, 0, op_gf 11 6 39), (39, 0, op_push (.inl (none, 44)) 41), (41, 0, op_il 3 42), (42, 0, op_b2 (ab_add2K) 43), (43, 0, op_ald 0 44), (44, 0, op_call 0 18 3 0 0 0 0 47), (47, 0, op_if 0 60 50)],
  [(50, 0, op_al 0 51), (51, 0, op_gf 11 6 54), (54, 0, op_push (.inl (none, 56)) 56), (56, 0, op_il 3 57), (57, 0, op_b2 (ab_add2K) 58), (58, 0, op_ald 0 59), (59, 1, op_goto 0), (60, 0, op_inc 3 1 63), (63, 0, op_goto 2)],
  [(66, 0, op_push (.inl (none, 99)) 68), (68, 1, op_goto 0)]]
noncomputable def tb_X11_isName : ab_tab := [[(0, 0, op_al 0 1), (1, 0, op_gf 11 11 4), (4, 0, op_push (.inl (none, 1)) 5), (5, 0, op_icmp 1 12 8), (8, 0, op_push (.inl (none, 1)) 9), (9, 0, op_goto 13), (12, 0, op_push (.inl (none, 0)) 13), (13, 0, op_is 1 14), (14, 0, op_push (.inl (none, 0)) 15), (15, 0, op_is 2 16)],
  [(16, 4, op_il 2 17), (17, 0, op_push (.inl (none, 22)) 19), (19, 0, op_icmp 3 52 22), (22, 0, op_il 1 23), (23, 0, op_if 0 44 26), (26, 0, op_al 0 27), (27, 0, op_gf 11 17 30), (30, 0, op_al 0 31), (31, 0, op_gf 11 10 34)],
  [(34, 0, op_il 2 35), (35, 0, op_lald 36), (36, 0, op_lcmp 37), (37, 0, op_if 0 44 40), (40, 0, op_push (.inl (none, 1)) 41), (41, 0, op_goto 45), (44, 0, op_push (.inl (none, 0)) 45), (45, 0, op_is 1 46), (46, 0, op_inc 2 1 49)],
  [(49, 0, op_goto 16), (52, 0, op_il 1 53), (53, 1, op_goto 0)]]
noncomputable def tb_X11_whyBend : ab_tab := [[(0, 0, op_al 0 1), (1, 0, op_gf 11 6 4), (4, 0, op_push (.inl (none, 102)) 6), (6, 0, op_ald 0 7), (7, 0, op_il 1 8), (8, 0, op_call 0 21 2 0 0 0 0 11), (11, 0, op_if 0 18 14), (14, 0, op_push (.inl (none, 1)) 15), (15, 0, op_goto 59)],
  [(18, 0, op_il 2 19), (19, 0, op_call 0 37 1 0 0 0 0 22), (22, 0, op_al 0 23), (23, 0, op_gf 11 6 26), (26, 0, op_push (.inl (none, 3)) 27), (27, 0, op_ald 0 28), (28, 0, op_icmp 5 35 31), (31, 0, op_push (.inl (none, 2)) 32)],
  [(32, 0, op_goto 59), (35, 0, op_al 0 36), (36, 0, op_gf 11 6 39), (39, 0, op_push (.inl (none, 103)) 41), (41, 0, op_il 1 42), (42, 0, op_b2 (ab_add2K) 43), (43, 0, op_ald 0 44), (44, 0, op_il 2 45), (45, 0, op_b2 (ab_add2K) 46), (46, 0, op_call 0 37 1 0 0 0 0 49)],
  [(49, 0, op_push (.inl (none, 30)) 51), (51, 0, op_icmp 5 58 54), (54, 0, op_push (.inl (none, 3)) 55), (55, 0, op_goto 59), (58, 0, op_push (.inl (none, 0)) 59), (59, 1, op_goto 0)]]
noncomputable def tb_X11_goesOn : ab_tab := [[(0, 0, op_push (.inl (none, 0)) 1), (1, 0, op_is 2 2), (2, 4, op_il 2 3), (3, 0, op_il 1 4), (4, 0, op_icmp 3 96 7), (7, 0, op_al 0 8), (8, 0, op_gf 11 6 11), (11, 0, op_push (.inl (none, 100)) 13), (13, 0, op_ald 0 14), (14, 0, op_push (.inl (none, 400)) 17)],
  [(17, 0, op_icmp 3 96 20), (20, 0, op_push (.inl (none, 0)) 21), (21, 0, op_is 3 22), (22, 4, op_il 3 23), (23, 0, op_al 0 24), (24, 0, op_gf 11 6 27), (27, 0, op_push (.inl (none, 0)) 28), (28, 0, op_ald 0 29), (29, 0, op_icmp 3 71 32)],
  [(32, 0, op_al 0 33), (33, 0, op_gf 11 6 36), (36, 0, op_push (.inl (none, 110)) 38), (38, 0, op_il 3 39), (39, 0, op_b2 (ab_add2K) 40), (40, 0, op_dup2 41), (41, 0, op_ald 0 42), (42, 0, op_al 0 43), (43, 0, op_il 3 44), (44, 0, op_call 13 97 2 0 0 0 0 47), (47, 0, op_if 0 62 50)],
  [(50, 0, op_al 0 51), (51, 0, op_il 3 52), (52, 0, op_call 13 43 2 0 0 0 0 55), (55, 0, op_if 1 62 58), (58, 0, op_push (.inl (none, 1)) 59), (59, 0, op_goto 63), (62, 0, op_push (.inl (none, 0)) 63), (63, 0, op_b2 (ab_add2K) 64)],
  [(64, 0, op_astK 65), (65, 0, op_inc 3 1 68), (68, 0, op_goto 22), (71, 0, op_al 0 72), (72, 0, op_gf 11 6 75), (75, 0, op_push (.inl (none, 102)) 77), (77, 0, op_push (.inl (none, 0)) 78), (78, 0, op_astK 79), (79, 0, op_al 0 80)],
  [(80, 0, op_gf 11 6 83), (83, 0, op_push (.inl (none, 100)) 85), (85, 0, op_dup2 86), (86, 0, op_ald 0 87), (87, 0, op_push (.inl (none, 1)) 88), (88, 0, op_b2 (ab_add2K) 89), (89, 0, op_astK 90), (90, 0, op_inc 2 1 93), (93, 0, op_goto 2)],
  [(96, 0, op_il 2 97), (97, 1, op_goto 0)]]
noncomputable def tb_X4_begin : ab_tab := [[(0, 0, op_al 0 1), (1, 0, op_il 1 2), (2, 0, op_pf (tyX4 2) 4 2 5), (5, 0, op_al 0 6), (6, 0, op_push (.inl (none, 0)) 7), (7, 0, op_pf (tyX4 3) 4 3 10), (10, 0, op_al 0 11), (11, 0, op_push (.inl (none, 0)) 12), (12, 0, op_pf (tyX4 12) 4 12 15), (15, 0, op_al 0 16)],
  [(16, 0, op_push (.inl (none, 0)) 17), (17, 0, op_pf (tyX4 13) 4 13 20), (20, 0, op_al 0 21), (21, 0, op_call 6 3 1 0 0 0 0 24), (24, 2, op_goto 0)]]
noncomputable def tb_X4_atEnd : ab_tab := [[(0, 0, op_al 0 1), (1, 0, op_gf 4 5 4), (4, 0, op_push (.inl (none, 1)) 5), (5, 0, op_icmp 1 12 8), (8, 0, op_push (.inl (none, 1)) 9), (9, 0, op_goto 13), (12, 0, op_push (.inl (none, 0)) 13), (13, 1, op_goto 0)]]
noncomputable def tb_X7_passDay : ab_tab := [[(0, 0, op_push (.inl (none, 0)) 1), (1, 0, op_is 2 2), (2, 4, op_il 2 3), (3, 0, op_al 1 4), (4, 0, op_gf 8 0 7), (7, 0, op_icmp 3 43 10), (10, 0, op_al 0 11), (11, 0, op_il 2 12), (12, 0, op_call 9 6 2 0 0 0 0 15), (15, 0, op_if 1 37 18)],
  [(18, 0, op_al 0 19), (19, 0, op_al 1 20), (20, 0, op_il 2 21), (21, 0, op_call 9 8 3 0 0 0 0 24), (24, 0, op_if 0 37 27), (27, 0, op_al 0 28), (28, 0, op_gf 7 4 31), (31, 0, op_il 2 32)],
  [(32, 0, op_dup2 33), (33, 0, op_ald 0 34), (34, 0, op_push (.inl (none, 1)) 35), (35, 0, op_b2 (ab_add2K) 36), (36, 0, op_ast 0 37), (37, 0, op_inc 2 1 40), (40, 0, op_goto 2), (43, 0, op_al 0 44), (44, 0, op_dup 45), (45, 0, op_gf 7 0 48)],
  [(48, 0, op_push (.inl (none, 1)) 49), (49, 0, op_b2 (ab_add2K) 50), (50, 0, op_pf (tyX7 0) 7 0 53), (53, 0, op_al 0 54), (54, 0, op_push (.inl (none, 0)) 55), (55, 0, op_pf (tyX7 2) 7 2 58), (58, 2, op_goto 0)]]
noncomputable def tb_X7_passDays : ab_tab := [[(0, 0, op_push (.inl (none, 0)) 1), (1, 0, op_is 3 2), (2, 4, op_il 3 3), (3, 0, op_il 2 4), (4, 0, op_icmp 3 28 7), (7, 0, op_al 0 8), (8, 0, op_gf 7 0 11), (11, 0, op_push (.inl (none, 400)) 14), (14, 0, op_icmp 3 28 17)],
  [(17, 0, op_al 0 18), (18, 0, op_al 1 19), (19, 0, op_call 9 81 2 0 0 0 0 22), (22, 0, op_inc 3 1 25), (25, 0, op_goto 2), (28, 2, op_goto 0)]]
noncomputable def tb_X7_noonsUpTo : ab_tab := [[(0, 0, op_push (.inl (none, 0)) 1), (1, 0, op_is 4 3), (3, 0, op_push (.inl (none, 0)) 4), (4, 0, op_is 5 6), (6, 4, op_il 5 8), (8, 0, op_al 1 9), (9, 0, op_gf 8 0 12), (12, 0, op_icmp 3 50 15), (15, 0, op_il 5 17)],
  [(17, 0, op_il 2 18), (18, 0, op_icmp 0 44 21), (21, 0, op_al 0 22), (22, 0, op_il 5 24), (24, 0, op_call 9 6 2 0 0 0 0 27), (27, 0, op_if 1 44 30), (30, 0, op_al 0 31), (31, 0, op_al 1 32)],
  [(32, 0, op_il 5 34), (34, 0, op_call 9 2 3 0 0 0 0 37), (37, 0, op_il 3 38), (38, 0, op_icmp 4 44 41), (41, 0, op_inc 4 1 44), (44, 0, op_inc 5 1 47), (47, 0, op_goto 6)],
  [(50, 0, op_il 4 52), (52, 1, op_goto 0)]]
noncomputable def tb_X8_copyFrom : ab_tab := [[(0, 0, op_al 0 1), (1, 0, op_al 1 2), (2, 0, op_gf 8 0 5), (5, 0, op_pf (tyX8 0) 8 0 8), (8, 0, op_al 1 9), (9, 0, op_gf 8 1 12), (12, 0, op_push (.inl (none, 0)) 13), (13, 0, op_al 0 14), (14, 0, op_gf 8 1 17)],
  [(17, 0, op_push (.inl (none, 0)) 18), (18, 0, op_push (.inl (none, 7)) 20), (20, 0, op_ac 1 23), (23, 0, op_al 1 24), (24, 0, op_gf 8 2 27), (27, 0, op_push (.inl (none, 0)) 28), (28, 0, op_al 0 29), (29, 0, op_gf 8 2 32)],
  [(32, 0, op_push (.inl (none, 0)) 33), (33, 0, op_push (.inl (none, 7)) 35), (35, 0, op_ac 0 38), (38, 0, op_al 1 39), (39, 0, op_gf 8 3 42), (42, 0, op_push (.inl (none, 0)) 43), (43, 0, op_al 0 44), (44, 0, op_gf 8 3 47), (47, 0, op_push (.inl (none, 0)) 48)],
  [(48, 0, op_push (.inl (none, 7)) 50), (50, 0, op_ac 0 53), (53, 0, op_al 0 54), (54, 0, op_al 1 55), (55, 0, op_gf 8 4 58), (58, 0, op_pf (tyX8 4) 8 4 61), (61, 0, op_al 1 62), (62, 0, op_gf 8 5 65)],
  [(65, 0, op_push (.inl (none, 0)) 66), (66, 0, op_al 0 67), (67, 0, op_gf 8 5 70), (70, 0, op_push (.inl (none, 0)) 71), (71, 0, op_push (.inl (none, 12)) 73), (73, 0, op_ac 0 76), (76, 0, op_al 1 77), (77, 0, op_gf 8 6 80)],
  [(80, 0, op_push (.inl (none, 0)) 81), (81, 0, op_al 0 82), (82, 0, op_gf 8 6 85), (85, 0, op_push (.inl (none, 0)) 86), (86, 0, op_push (.inl (none, 12)) 88), (88, 0, op_ac 0 91), (91, 0, op_al 1 92), (92, 0, op_gf 8 7 95), (95, 0, op_push (.inl (none, 0)) 96)],
  [(96, 0, op_al 0 97), (97, 0, op_gf 8 7 100), (100, 0, op_push (.inl (none, 0)) 101), (101, 0, op_push (.inl (none, 12)) 103), (103, 0, op_ac 0 106), (106, 0, op_al 1 107), (107, 0, op_gf 8 8 110), (110, 0, op_push (.inl (none, 0)) 111), (111, 0, op_al 0 112)],
  [(112, 0, op_gf 8 8 115), (115, 0, op_push (.inl (none, 0)) 116), (116, 0, op_push (.inl (none, 12)) 118), (118, 0, op_ac 0 121), (121, 0, op_al 0 122), (122, 0, op_al 1 123), (123, 0, op_gf 8 9 126), (126, 0, op_pf (tyX8 9) 8 9 129)],
  [(129, 0, op_al 1 130), (130, 0, op_gf 8 10 133), (133, 0, op_push (.inl (none, 0)) 134), (134, 0, op_al 0 135), (135, 0, op_gf 8 10 138), (138, 0, op_push (.inl (none, 0)) 139), (139, 0, op_push (.inl (none, 8)) 141), (141, 0, op_ac 1 144)],
  [(144, 0, op_al 1 145), (145, 0, op_gf 8 11 148), (148, 0, op_push (.inl (none, 0)) 149), (149, 0, op_al 0 150), (150, 0, op_gf 8 11 153), (153, 0, op_push (.inl (none, 0)) 154), (154, 0, op_push (.inl (none, 8)) 156), (156, 0, op_ac 0 159), (159, 0, op_al 1 160)],
  [(160, 0, op_gf 8 12 163), (163, 0, op_push (.inl (none, 0)) 164), (164, 0, op_al 0 165), (165, 0, op_gf 8 12 168), (168, 0, op_push (.inl (none, 0)) 169), (169, 0, op_push (.inl (none, 8)) 171), (171, 0, op_ac 0 174), (174, 0, op_al 1 175), (175, 0, op_gf 8 13 178)],
  [(178, 0, op_push (.inl (none, 0)) 179), (179, 0, op_al 0 180), (180, 0, op_gf 8 13 183), (183, 0, op_push (.inl (none, 0)) 184), (184, 0, op_push (.inl (none, 8)) 186), (186, 0, op_ac 0 189), (189, 0, op_al 1 190), (190, 0, op_gf 8 14 193)],
  [(193, 0, op_push (.inl (none, 0)) 194), (194, 0, op_al 0 195), (195, 0, op_gf 8 14 198), (198, 0, op_push (.inl (none, 0)) 199), (199, 0, op_push (.inl (none, 8)) 201), (201, 0, op_ac 0 204), (204, 0, op_al 1 205), (205, 0, op_gf 8 15 208)],
  [(208, 0, op_push (.inl (none, 0)) 209), (209, 0, op_al 0 210), (210, 0, op_gf 8 15 213), (213, 0, op_push (.inl (none, 0)) 214), (214, 0, op_al 0 215), (215, 0, op_gf 8 15 218), (218, 0, op_len 219), (219, 0, op_ac 0 222), (222, 2, op_goto 0)]]
noncomputable def tb_X11_line : ab_tab := [[(0, 0, op_al 0 1), (1, 0, op_lfr 4), (4, 0, op_call 13 19 2 0 0 0 0 7), (7, 0, op_if 0 15 10), (10, 0, op_al 0 11), (11, 0, op_call 13 86 1 0 0 0 0 14), (14, 1, op_goto 0), (15, 0, op_al 0 16)],
  [(16, 0, op_lfr 19), (19, 0, op_call 13 19 2 0 0 0 0 22), (22, 0, op_if 0 30 25), (25, 0, op_al 0 26), (26, 0, op_call 13 87 1 0 0 0 0 29), (29, 1, op_goto 0), (30, 0, op_al 0 31), (31, 0, op_lfr 34)],
  [(34, 0, op_call 13 19 2 0 0 0 0 37), (37, 0, op_if 0 45 40), (40, 0, op_al 0 41), (41, 0, op_call 13 88 1 0 0 0 0 44), (44, 1, op_goto 0), (45, 0, op_al 0 46), (46, 0, op_lfr 49)],
  [(49, 0, op_call 13 19 2 0 0 0 0 52), (52, 0, op_if 0 65 55), (55, 0, op_al 0 56), (56, 0, op_push (.inl (none, 0)) 57), (57, 0, op_push (.inl (none, 3)) 58), (58, 0, op_push (.inl (none, 1)) 59), (59, 0, op_push (.inl (none, 10)) 61), (61, 0, op_call 13 49 5 0 0 0 0 64)],
  [(64, 1, op_goto 0), (65, 0, op_al 0 66), (66, 0, op_lfr 69), (69, 0, op_call 13 19 2 0 0 0 0 72), (72, 0, op_if 0 85 75), (75, 0, op_al 0 76), (76, 0, op_push (.inl (none, 1)) 77), (77, 0, op_push (.inl (none, 4)) 78), (78, 0, op_push (.inl (none, 0)) 79), (79, 0, op_push (.inl (none, 30)) 81)],
  [(81, 0, op_call 13 49 5 0 0 0 0 84), (84, 1, op_goto 0), (85, 0, op_al 0 86), (86, 0, op_lfr 89), (89, 0, op_call 13 19 2 0 0 0 0 92), (92, 0, op_if 0 107 95), (95, 0, op_al 0 96)],
  [(96, 0, op_push (.inl (none, 2)) 97), (97, 0, op_push (.inl (none, 5)) 98), (98, 0, op_push (.inl (none, 0)) 99), (99, 0, op_push (.inl (none, 12)) 101), (101, 0, op_call 13 49 5 0 0 0 0 104), (104, 0, op_goto 112), (107, 0, op_al 0 108), (108, 0, op_push (.inl (none, 1)) 109), (109, 0, op_call 13 5 2 0 0 0 0 112)],
  [(112, 1, op_goto 0)]]
noncomputable def tb_X11_readTown : ab_tab := [[(0, 0, op_al 0 1), (1, 0, op_gf 11 7 4), (4, 0, op_push (.inl (none, 0)) 5), (5, 0, op_ald 0 6), (6, 0, op_is 1 7), (7, 0, op_il 1 8), (8, 0, op_push (.inl (none, 7)) 10), (10, 0, op_icmp 1 19 13), (13, 0, op_al 0 14), (14, 0, op_push (.inl (none, 4)) 15), (15, 0, op_pre (pr_adc [(2, 2, 0), (2, 2, 1), (2, 2, 2), (3, 0, 0), (3, 1, 0), (3, 2, 0)] [1, 1, 1, (-1), (-1), (-1), (-1)] 0 0) (op_call 13 5 2 0 0 0 0 18))],
  [(18, 1, op_goto 0), (19, 0, op_al 0 20), (20, 0, op_call 13 13 1 0 0 0 0 23), (23, 0, op_al 0 24), (24, 0, op_push (.inl (none, 15)) 26), (26, 0, op_il 1 27), (27, 0, op_b2 (ab_add2K) 28), (28, 0, op_call 13 149 2 0 0 0 0 31), (31, 0, op_if 0 48 34)],
  [(34, 0, op_al 0 35), (35, 0, op_push (.inl (none, 6)) 37), (37, 0, op_il 1 38), (38, 0, op_b2 (ab_add2K) 39), (39, 0, op_push (.inl (none, 0)) 40), (40, 0, op_push (.inl (none, 60)) 42), (42, 0, op_call 13 58 4 0 0 0 0 45), (45, 0, op_if 1 50 48)],
  [(48, 0, op_pre (pr_adc [(2, 2, 0), (2, 2, 1), (2, 2, 2), (3, 0, 0), (3, 1, 0), (3, 2, 0)] [1, 1, 1, (-1), (-1), (-1), (-1)] 0 0) (op_push (.inl (none, 0)) 49)), (49, 1, op_goto 0), (50, 0, op_al 0 51), (51, 0, op_gf 11 7 54), (54, 0, op_push (.inl (none, 13)) 56), (56, 0, op_il 1 57), (57, 0, op_b2 (ab_add2K) 58), (58, 0, op_push (.inl (none, 0)) 59), (59, 0, op_astK 60), (60, 0, op_al 0 61), (61, 0, op_lfr 64)],
  [(64, 0, op_call 13 19 2 0 0 0 0 67), (67, 0, op_if 1 80 70), (70, 0, op_al 0 71), (71, 0, op_lfr 74), (74, 0, op_call 13 19 2 0 0 0 0 77), (77, 0, op_if 0 105 80)],
  [(80, 0, op_al 0 81), (81, 0, op_push (.inl (none, 1)) 82), (82, 0, op_push (.inl (none, 30)) 84), (84, 0, op_call 13 126 3 0 0 0 0 87), (87, 0, op_if 1 92 90), (90, 0, op_pre (pr_adc [(2, 2, 0), (2, 2, 1), (2, 2, 2), (3, 0, 0), (3, 1, 0), (3, 2, 0)] [1, 1, 1, (-1), (-1), (-1), (-1)] 0 0) (op_push (.inl (none, 0)) 91)), (91, 1, op_goto 0), (92, 0, op_al 0 93), (93, 0, op_gf 11 7 96)],
  [(96, 0, op_push (.inl (none, 13)) 98), (98, 0, op_il 1 99), (99, 0, op_b2 (ab_add2K) 100), (100, 0, op_al 0 101), (101, 0, op_gf 11 18 104), (104, 0, op_astK 105), (105, 0, op_al 0 106), (106, 0, op_gf 11 7 109), (109, 0, op_push (.inl (none, 0)) 110), (110, 0, op_dup2 111), (111, 0, op_ald 0 112)],
  [(112, 0, op_push (.inl (none, 1)) 113), (113, 0, op_b2 (ab_add2K) 114), (114, 0, op_astK 115), (115, 0, op_pre (pr_adc [(2, 2, 0), (2, 2, 1), (2, 2, 2), (3, 0, 0), (3, 1, 0), (3, 2, 0)] [1, 1, 1, (-1), (-1), (-1), (-1)] 0 1) (op_push (.inl (none, 1)) 116)), (116, 1, op_goto 0)]]
noncomputable def tb_X11_readTerm : ab_tab := [[(0, 0, op_al 0 1), (1, 0, op_gf 11 7 4), (4, 0, op_push (.inl (none, 1)) 5), (5, 0, op_ald 0 6), (6, 0, op_is 1 7), (7, 0, op_il 1 8), (8, 0, op_push (.inl (none, 12)) 10), (10, 0, op_icmp 1 19 13), (13, 0, op_al 0 14), (14, 0, op_push (.inl (none, 4)) 15), (15, 0, op_pre (pr_adc [(2, 2, 0), (2, 2, 1), (2, 2, 2), (3, 0, 0), (3, 1, 0), (3, 2, 0)] [1, 1, 1, (-1), (-1), (-1), (-1)] 0 0) (op_call 13 5 2 0 0 0 0 18))],
  [(18, 1, op_goto 0), (19, 0, op_al 0 20), (20, 0, op_call 13 13 1 0 0 0 0 23), (23, 0, op_al 0 24), (24, 0, op_push (.inl (none, 15)) 26), (26, 0, op_al 0 27), (27, 0, op_gf 11 7 30), (30, 0, op_push (.inl (none, 0)) 31), (31, 0, op_ald 0 32)],
  [(32, 0, op_call 13 101 3 0 0 0 0 35), (35, 0, op_if 1 40 38), (38, 0, op_pre (pr_adc [(2, 2, 0), (2, 2, 1), (2, 2, 2), (3, 0, 0), (3, 1, 0), (3, 2, 0)] [1, 1, 1, (-1), (-1), (-1), (-1)] 0 0) (op_push (.inl (none, 0)) 39)), (39, 1, op_goto 0), (40, 0, op_al 0 41), (41, 0, op_gf 11 7 44), (44, 0, op_push (.inl (none, 20)) 46), (46, 0, op_il 1 47), (47, 0, op_b2 (ab_add2K) 48)],
  [(48, 0, op_al 0 49), (49, 0, op_gf 11 18 52), (52, 0, op_astK 53), (53, 0, op_al 0 54), (54, 0, op_push (.inl (none, 32)) 56), (56, 0, op_il 1 57), (57, 0, op_b2 (ab_add2K) 58), (58, 0, op_push (.inl (none, 0)) 59), (59, 0, op_push (.inl (none, 399)) 62), (62, 0, op_call 13 58 4 0 0 0 0 65)],
  [(65, 0, op_if 0 101 68), (68, 0, op_al 0 69), (69, 0, op_push (.inl (none, 44)) 71), (71, 0, op_il 1 72), (72, 0, op_b2 (ab_add2K) 73), (73, 0, op_al 0 74), (74, 0, op_gf 11 7 77), (77, 0, op_push (.inl (none, 32)) 79), (79, 0, op_il 1 80)],
  [(80, 0, op_b2 (ab_add2K) 81), (81, 0, op_ald 0 82), (82, 0, op_push (.inl (none, 399)) 85), (85, 0, op_call 13 58 4 0 0 0 0 88), (88, 0, op_if 0 101 91), (91, 0, op_al 0 92), (92, 0, op_push (.inl (none, 0)) 93), (93, 0, op_push (.inl (none, 30)) 95), (95, 0, op_call 13 126 3 0 0 0 0 98)],
  [(98, 0, op_if 1 103 101), (101, 0, op_pre (pr_adc [(2, 2, 0), (2, 2, 1), (2, 2, 2), (3, 0, 0), (3, 1, 0), (3, 2, 0)] [1, 1, 1, (-1), (-1), (-1), (-1)] 0 0) (op_push (.inl (none, 0)) 102)), (102, 1, op_goto 0), (103, 0, op_al 0 104), (104, 0, op_gf 11 7 107), (107, 0, op_push (.inl (none, 56)) 109), (109, 0, op_il 1 110), (110, 0, op_b2 (ab_add2K) 111), (111, 0, op_al 0 112)],
  [(112, 0, op_gf 11 18 115), (115, 0, op_astK 116), (116, 0, op_al 0 117), (117, 0, op_gf 11 7 120), (120, 0, op_push (.inl (none, 1)) 121), (121, 0, op_dup2 122), (122, 0, op_ald 0 123), (123, 0, op_push (.inl (none, 1)) 124), (124, 0, op_b2 (ab_add2K) 125), (125, 0, op_astK 126), (126, 0, op_pre (pr_adc [(2, 2, 0), (2, 2, 1), (2, 2, 2), (3, 0, 0), (3, 1, 0), (3, 2, 0)] [1, 1, 1, (-1), (-1), (-1), (-1)] 0 1) (op_push (.inl (none, 1)) 127)), (127, 1, op_goto 0)]]
noncomputable def tb_X11_readTrain : ab_tab := [[(0, 0, op_al 0 1), (1, 0, op_gf 11 7 4), (4, 0, op_push (.inl (none, 2)) 5), (5, 0, op_ald 0 6), (6, 0, op_is 1 7), (7, 0, op_il 1 8), (8, 0, op_push (.inl (none, 8)) 10), (10, 0, op_icmp 1 19 13), (13, 0, op_al 0 14), (14, 0, op_push (.inl (none, 4)) 15), (15, 0, op_pre (pr_adc [(2, 2, 0), (2, 2, 1), (2, 2, 2), (3, 0, 0), (3, 1, 0), (3, 2, 0)] [1, 1, 1, (-1), (-1), (-1), (-1)] 0 0) (op_call 13 5 2 0 0 0 0 18))],
  [(18, 1, op_goto 0), (19, 0, op_al 0 20), (20, 0, op_call 13 13 1 0 0 0 0 23), (23, 0, op_al 0 24), (24, 0, op_push (.inl (none, 22)) 26), (26, 0, op_il 1 27), (27, 0, op_b2 (ab_add2K) 28), (28, 0, op_call 13 149 2 0 0 0 0 31), (31, 0, op_if 0 49 34)],
  [(34, 0, op_al 0 35), (35, 0, op_push (.inl (none, 15)) 37), (37, 0, op_al 0 38), (38, 0, op_gf 11 7 41), (41, 0, op_push (.inl (none, 0)) 42), (42, 0, op_ald 0 43), (43, 0, op_call 13 101 3 0 0 0 0 46), (46, 0, op_if 1 51 49)],
  [(49, 0, op_pre (pr_adc [(2, 2, 0), (2, 2, 1), (2, 2, 2), (3, 0, 0), (3, 1, 0), (3, 2, 0)] [1, 1, 1, (-1), (-1), (-1), (-1)] 0 0) (op_push (.inl (none, 0)) 50)), (50, 1, op_goto 0), (51, 0, op_al 0 52), (52, 0, op_gf 11 7 55), (55, 0, op_push (.inl (none, 68)) 57), (57, 0, op_il 1 58), (58, 0, op_b2 (ab_add2K) 59), (59, 0, op_al 0 60), (60, 0, op_gf 11 18 63), (63, 0, op_astK 64)],
  [(64, 0, op_al 0 65), (65, 0, op_push (.inl (none, 15)) 67), (67, 0, op_al 0 68), (68, 0, op_gf 11 7 71), (71, 0, op_push (.inl (none, 0)) 72), (72, 0, op_ald 0 73), (73, 0, op_call 13 92 3 0 0 0 0 76), (76, 0, op_if 1 81 79), (79, 0, op_pre (pr_adc [(2, 2, 0), (2, 2, 1), (2, 2, 2), (3, 0, 0), (3, 1, 0), (3, 2, 0)] [1, 1, 1, (-1), (-1), (-1), (-1)] 0 0) (op_push (.inl (none, 0)) 80))],
  [(80, 1, op_goto 0), (81, 0, op_al 0 82), (82, 0, op_gf 11 18 85), (85, 0, op_al 0 86), (86, 0, op_gf 11 7 89), (89, 0, op_push (.inl (none, 68)) 91), (91, 0, op_il 1 92), (92, 0, op_b2 (ab_add2K) 93), (93, 0, op_ald 0 94), (94, 0, op_icmp 1 103 97)],
  [(97, 0, op_al 0 98), (98, 0, op_push (.inl (none, 3)) 99), (99, 0, op_pre (pr_adc [(2, 2, 0), (2, 2, 1), (2, 2, 2), (3, 0, 0), (3, 1, 0), (3, 2, 0)] [1, 1, 1, (-1), (-1), (-1), (-1)] 0 0) (op_call 13 5 2 0 0 0 0 102)), (102, 1, op_goto 0), (103, 0, op_al 0 104), (104, 0, op_gf 11 7 107), (107, 0, op_push (.inl (none, 76)) 109), (109, 0, op_il 1 110), (110, 0, op_b2 (ab_add2K) 111), (111, 0, op_al 0 112)],
  [(112, 0, op_gf 11 18 115), (115, 0, op_astK 116), (116, 0, op_al 0 117), (117, 0, op_call 13 13 1 0 0 0 0 120), (120, 0, op_al 0 121), (121, 0, op_push (.inl (none, 84)) 123), (123, 0, op_il 1 124), (124, 0, op_b2 (ab_add2K) 125), (125, 0, op_push (.inl (none, 0)) 126), (126, 0, op_push (.inl (none, 600)) 129)],
  [(129, 0, op_call 13 58 4 0 0 0 0 132), (132, 0, op_if 0 150 135), (135, 0, op_al 0 136), (136, 0, op_push (.inl (none, 92)) 138), (138, 0, op_il 1 139), (139, 0, op_b2 (ab_add2K) 140), (140, 0, op_push (.inl (none, 1)) 141), (141, 0, op_push (.inl (none, 200)) 144)],
  [(144, 0, op_call 13 58 4 0 0 0 0 147), (147, 0, op_if 1 152 150), (150, 0, op_pre (pr_adc [(2, 2, 0), (2, 2, 1), (2, 2, 2), (3, 0, 0), (3, 1, 0), (3, 2, 0)] [1, 1, 1, (-1), (-1), (-1), (-1)] 0 0) (op_push (.inl (none, 0)) 151)), (151, 1, op_goto 0), (152, 0, op_al 0 153), (153, 0, op_gf 11 7 156), (156, 0, op_push (.inl (none, 2)) 157), (157, 0, op_dup2 158), (158, 0, op_ald 0 159), (159, 0, op_push (.inl (none, 1)) 160)],
  [(160, 0, op_b2 (ab_add2K) 161), (161, 0, op_astK 162), (162, 0, op_pre (pr_adc [(2, 2, 0), (2, 2, 1), (2, 2, 2), (3, 0, 0), (3, 1, 0), (3, 2, 0)] [1, 1, 1, (-1), (-1), (-1), (-1)] 0 1) (op_push (.inl (none, 1)) 163)), (163, 1, op_goto 0)]]
noncomputable def tb_X11_keep : ab_tab := [[(0, 0, op_al 0 1), (1, 0, op_gf 11 23 4), (4, 0, op_push (.inl (none, 8)) 6), (6, 0, op_icmp 1 45 9), (9, 0, op_push (.inl (none, 0)) 10), (10, 0, op_is 1 11), (11, 0, op_il 1 12), (12, 0, op_push (.inl (none, 168)) 15), (15, 0, op_icmp 3 39 18)],
  [(18, 0, op_al 0 19), (19, 0, op_gf 11 21 22), (22, 0, op_il 1 23), (23, 0, op_al 0 24), (24, 0, op_gf 11 21 27), (27, 0, op_il 1 28), (28, 0, op_push (.inl (none, 24)) 30), (30, 0, op_b2 (ab_add2K) 31), (31, 0, op_ald 0 32)],
  [(32, 0, op_astK 33), (33, 0, op_inc 1 1 36), (36, 0, op_goto 11), (39, 0, op_al 0 40), (40, 0, op_push (.inl (none, 7)) 42), (42, 0, op_pf (tyX11 23) 11 23 45), (45, 0, op_push (.inl (none, 0)) 46), (46, 0, op_is 1 47), (47, 0, op_il 1 48)],
  [(48, 0, op_push (.inl (none, 24)) 50), (50, 0, op_icmp 3 82 53), (53, 0, op_al 0 54), (54, 0, op_gf 11 21 57), (57, 0, op_push (.inl (none, 24)) 59), (59, 0, op_al 0 60), (60, 0, op_gf 11 23 63), (63, 0, op_b2 (ab_mul2K) 64)],
  [(64, 0, op_il 1 65), (65, 0, op_b2 (ab_add2K) 66), (66, 0, op_al 0 67), (67, 0, op_gf 11 6 70), (70, 0, op_push (.inl (none, 100)) 72), (72, 0, op_il 1 73), (73, 0, op_b2 (ab_add2K) 74), (74, 0, op_ald 0 75), (75, 0, op_astK 76), (76, 0, op_inc 1 1 79), (79, 0, op_goto 47)],
  [(82, 0, op_al 0 83), (83, 0, op_dup 84), (84, 0, op_gf 11 23 87), (87, 0, op_push (.inl (none, 1)) 88), (88, 0, op_b2 (ab_add2K) 89), (89, 0, op_pf (tyX11 23) 11 23 92), (92, 2, op_goto 0)]]
noncomputable def tb_J6_compare_7cf53 : ab_tab := [[(0, 0, op_il 0 1), (1, 0, op_il 1 2), (2, 0, op_icmp 3 9 5), (5, 0, op_push (.inl (none, (-1))) 6), (6, 0, op_goto 19), (9, 0, op_il 0 10), (10, 0, op_il 1 11), (11, 0, op_icmp 1 18 14), (14, 0, op_push (.inl (none, 0)) 15), (15, 0, op_goto 19)],
  [(18, 0, op_push (.inl (none, 1)) 19), (19, 1, op_goto 0)]]
noncomputable def tb_J6_signum_0f7a4 : ab_tab := [[(0, 0, op_il 0 1), (1, 0, op_push (.inl (none, 31)) 3), (3, 0, op_b2 (ab_binK (fun u v => u >>> (v &&& 31))) 4), (4, 0, op_il 0 5), (5, 0, op_ineg 6), (6, 0, op_push (.inl (none, 31)) 8), (8, 0, op_b2 (ab_binK (fun u v => (u.toUInt32 >>> (v.toUInt32 &&& Int32.toUInt32 31)).toInt32)) 9), (9, 0, op_b2 (ab_binK (fun u v => u ||| v)) 10), (10, 1, op_goto 0)]]
noncomputable def tb_X11_looksAt : ab_tab := [[(0, 0, op_al 0 1), (1, 0, op_call 13 76 1 0 0 0 0 4), (4, 0, op_if 1 13 7), (7, 0, op_al 0 8), (8, 0, op_push (.inl (none, 1)) 9), (9, 0, op_call 13 5 2 0 0 0 0 12), (12, 1, op_goto 0), (13, 0, op_al 0 14), (14, 0, op_al 0 15), (15, 0, op_il 1 16)],
  [(16, 0, op_il 2 17), (17, 0, op_call 13 71 3 0 0 0 0 20), (20, 0, op_pf (tyX11 18) 11 18 23), (23, 0, op_al 0 24), (24, 0, op_gf 11 18 27), (27, 0, op_if 3 38 30), (30, 0, op_al 0 31), (31, 0, op_push (.inl (none, 3)) 32)],
  [(32, 0, op_call 13 5 2 0 0 0 0 35), (35, 0, op_if 0 42 38), (38, 0, op_push (.inl (none, 1)) 39), (39, 0, op_goto 43), (42, 0, op_push (.inl (none, 0)) 43), (43, 1, op_goto 0)]]
noncomputable def tb_X7_drawDays : ab_tab := [[(0, 0, op_al 0 1), (1, 0, op_il 3 2), (2, 0, op_pf (tyX7 6) 7 6 5), (5, 0, op_push (.inl (none, 0)) 6), (6, 0, op_is 4 8), (8, 4, op_il 4 10), (10, 0, op_il 2 11), (11, 0, op_icmp 3 85 14), (14, 0, op_al 0 15), (15, 0, op_gf 7 0 18)],
  [(18, 0, op_push (.inl (none, 400)) 21), (21, 0, op_icmp 3 85 24), (24, 0, op_al 0 25), (25, 0, op_push (.inl (none, 12)) 27), (27, 0, op_call 9 69 2 0 0 0 0 30), (30, 0, op_al 1 31), (31, 0, op_call 10 74 1 0 0 0 0 34)],
  [(34, 0, op_icmp 3 43 37), (37, 0, op_al 0 38), (38, 0, op_al 1 39), (39, 0, op_call 9 68 2 0 0 0 0 42), (42, 0, op_pop 43), (43, 0, op_push (.inl (none, 0)) 44), (44, 0, op_is 5 46), (46, 4, op_il 5 48)],
  [(48, 0, op_al 1 49), (49, 0, op_gf 8 0 52), (52, 0, op_icmp 3 74 55), (55, 0, op_al 0 56), (56, 0, op_al 1 57), (57, 0, op_il 5 59), (59, 0, op_al 0 60), (60, 0, op_push (.inl (none, 8)) 62), (62, 0, op_call 9 69 2 0 0 0 0 65)],
  [(65, 0, op_call 9 120 4 0 0 0 0 68), (68, 0, op_inc 5 1 71), (71, 0, op_goto 46), (74, 0, op_al 0 75), (75, 0, op_al 1 76), (76, 0, op_call 9 81 2 0 0 0 0 79), (79, 0, op_inc 4 1 82)],
  [(82, 0, op_goto 8), (85, 2, op_goto 0)]]
noncomputable def tb_X7_middleNoon : ab_tab := [[(0, 0, op_push (.inl (none, 0)) 1), (1, 0, op_is 3 2), (2, 0, op_push (.inl (none, 0)) 3), (3, 0, op_is 4 5), (5, 4, op_il 4 7), (7, 0, op_al 1 8), (8, 0, op_gf 8 0 11), (11, 0, op_icmp 3 38 14), (14, 0, op_il 4 16)],
  [(16, 0, op_il 2 17), (17, 0, op_icmp 0 32 20), (20, 0, op_al 0 21), (21, 0, op_il 4 23), (23, 0, op_call 9 6 2 0 0 0 0 26), (26, 0, op_if 1 32 29), (29, 0, op_inc 3 1 32)],
  [(32, 0, op_inc 4 1 35), (35, 0, op_goto 5), (38, 0, op_push (.inl (none, 10000)) 41), (41, 0, op_is 4 43), (43, 0, op_push (.inl (none, 0)) 44), (44, 0, op_is 5 46), (46, 4, op_il 5 48)],
  [(48, 0, op_al 1 49), (49, 0, op_gf 8 0 52), (52, 0, op_icmp 3 110 55), (55, 0, op_il 5 57), (57, 0, op_il 2 58), (58, 0, op_icmp 0 104 61), (61, 0, op_al 0 62), (62, 0, op_il 5 64)],
  [(64, 0, op_call 9 6 2 0 0 0 0 67), (67, 0, op_if 1 104 70), (70, 0, op_al 0 71), (71, 0, op_al 1 72), (72, 0, op_il 5 74), (74, 0, op_call 9 2 3 0 0 0 0 77), (77, 0, op_is 6 79), (79, 0, op_il 6 81)],
  [(81, 0, op_il 4 83), (83, 0, op_icmp 3 104 86), (86, 0, op_push (.inl (none, 2)) 87), (87, 0, op_al 0 88), (88, 0, op_al 1 89), (89, 0, op_il 2 90), (90, 0, op_il 6 92), (92, 0, op_call 9 83 4 0 0 0 0 95), (95, 0, op_b2 (ab_mul2K) 96)],
  [(96, 0, op_il 3 97), (97, 0, op_icmp 2 104 100), (100, 0, op_il 6 102), (102, 0, op_is 4 104), (104, 0, op_inc 5 1 107), (107, 0, op_goto 46), (110, 0, op_il 4 112)],
  [(112, 1, op_goto 0)]]
noncomputable def tb_X9_readSetting : ab_tab := [[(0, 0, op_il 3 1), (1, 0, op_if 2 13 4), (4, 0, op_il 3 5), (5, 0, op_al 0 6), (6, 0, op_gf 9 0 9), (9, 0, op_len 10), (10, 0, op_icmp 2 19 13)],
  [(18, 1, op_goto 0), (19, 0, op_al 0 20), (20, 0, op_gf 9 0 23), (23, 0, op_il 3 24), (24, 0, op_ald 3 25), (25, 0, op_if 0 34 28), (28, 0, op_al 2 29), (29, 0, op_push (.inl (none, 3)) 30), (30, 0, op_call 6 1 2 0 0 0 0 33)],
  [(33, 1, op_goto 0), (34, 0, op_al 0 35), (35, 0, op_gf 9 0 38), (38, 0, op_il 3 39), (39, 0, op_push (.inl (none, 1)) 40), (40, 0, op_ast 3 41), (41, 0, op_al 2 42), (42, 0, op_call 6 3 1 0 0 0 0 45), (45, 0, op_al 2 46), (46, 0, op_push (.inr (.inr (5, 1))) 49)],
  [(49, 0, op_il 3 50), (50, 0, op_hld 51), (51, 0, op_push (.inr (.inr (5, 0))) 54), (54, 0, op_il 3 55), (55, 0, op_hld 56), (56, 0, op_call 6 29 3 0 0 0 0 59), (59, 0, op_if 1 64 62), (62, 0, op_push (.inl (none, 0)) 63), (63, 1, op_goto 0)],
  [(64, 0, op_al 1 65), (65, 0, op_gf 8 15 68), (68, 0, op_il 3 69), (69, 0, op_al 2 70), (70, 0, op_gf 4 9 73), (73, 0, op_ast 0 74), (74, 0, op_push (.inl (none, 1)) 75), (75, 1, op_goto 0)]]
noncomputable def tb_X10_roomOf : ab_tab := [[(0, 0, op_al 0 1), (1, 0, op_il 1 2), (2, 0, op_call 12 130 2 0 0 0 0 5), (5, 0, op_if 0 12 8), (8, 0, op_push (.inl (none, 0)) 9), (9, 0, op_goto 26), (12, 0, op_push (.inl (none, 30)) 14), (14, 0, op_il 2 15), (15, 0, op_al 0 16)],
  [(16, 0, op_gf 10 4 19), (19, 0, op_gf 7 3 22), (22, 0, op_il 1 23), (23, 0, op_ald 0 24), (24, 0, op_b2 (ab_mul2K) 25), (25, 0, op_b2 (ab_sub2K) 26), (26, 1, op_goto 0)]]
noncomputable def tb_X11_inBreach : ab_tab := [[(0, 0, op_al 0 1), (1, 0, op_il 1 2), (2, 0, op_call 13 127 2 0 0 0 0 5), (5, 0, op_if 0 36 8), (8, 0, op_al 0 9), (9, 0, op_il 1 10), (10, 0, op_al 0 11), (11, 0, op_gf 11 6 14), (14, 0, op_push (.inl (none, 100)) 16)],
  [(16, 0, op_ald 0 17), (17, 0, op_call 13 75 3 0 0 0 0 20), (20, 0, op_al 0 21), (21, 0, op_gf 11 6 24), (24, 0, op_push (.inl (none, 103)) 26), (26, 0, op_il 1 27), (27, 0, op_b2 (ab_add2K) 28), (28, 0, op_ald 0 29), (29, 0, op_icmp 0 36 32)],
  [(32, 0, op_push (.inl (none, 1)) 33), (33, 0, op_goto 37), (36, 0, op_push (.inl (none, 0)) 37), (37, 1, op_goto 0)]]
noncomputable def tb_X11_freezes : ab_tab := [[(0, 0, op_push (.inl (none, 0)) 1), (1, 0, op_is 1 2), (2, 0, op_push (.inl (none, 0)) 3), (3, 0, op_is 2 4), (4, 4, op_il 2 5), (5, 0, op_al 0 6), (6, 0, op_gf 11 6 9), (9, 0, op_push (.inl (none, 0)) 10), (10, 0, op_ald 0 11), (11, 0, op_icmp 3 75 14), (14, 0, op_al 0 15), (15, 0, op_gf 11 6 18)],
  [(18, 0, op_push (.inl (none, 103)) 20), (20, 0, op_il 2 21), (21, 0, op_b2 (ab_add2K) 22), (22, 0, op_ald 0 23), (23, 0, op_is 3 24), (24, 0, op_il 3 25), (25, 0, op_if 1 31 28), (28, 0, op_goto 69), (31, 0, op_al 0 32)],
  [(32, 0, op_gf 11 6 35), (35, 0, op_push (.inl (none, 103)) 37), (37, 0, op_il 2 38), (38, 0, op_b2 (ab_add2K) 39), (39, 0, op_il 3 40), (40, 0, op_if 5 49 43), (43, 0, op_il 3 44), (44, 0, op_push (.inl (none, 1)) 45), (45, 0, op_b2 (ab_sub2K) 46), (46, 0, op_goto 52)],
  [(49, 0, op_il 3 50), (50, 0, op_push (.inl (none, 1)) 51), (51, 0, op_b2 (ab_add2K) 52), (52, 0, op_astK 53), (53, 0, op_al 0 54), (54, 0, op_gf 11 6 57), (57, 0, op_push (.inl (none, 117)) 59), (59, 0, op_il 2 60), (60, 0, op_b2 (ab_add2K) 61), (61, 0, op_dup2 62), (62, 0, op_ald 0 63), (63, 0, op_push (.inl (none, 1)) 64)],
  [(64, 0, op_b2 (ab_add2K) 65), (65, 0, op_astK 66), (66, 0, op_inc 1 1 69), (69, 0, op_inc 2 1 72), (72, 0, op_goto 4), (75, 0, op_il 1 76), (76, 1, op_goto 0)]]
noncomputable def tb_X11_code : ab_tab := [[(0, 0, op_al 0 1), (1, 0, op_gf 11 8 4), (4, 0, op_push (.inl (none, 3)) 5), (5, 0, op_al 0 6), (6, 0, op_gf 11 42 9), (9, 0, op_mulF 10), (10, 0, op_il 1 11), (11, 0, op_astL 12), (12, 0, op_al 0 13), (13, 0, op_gf 11 8 16)],
  [(16, 0, op_push (.inl (none, 3)) 17), (17, 0, op_al 0 18), (18, 0, op_gf 11 42 21), (21, 0, op_mulF 22), (22, 0, op_push (.inl (none, 1)) 23), (23, 0, op_b2 (ab_add2K) 24), (24, 0, op_il 2 25), (25, 0, op_astL 26), (26, 0, op_al 0 27), (27, 0, op_gf 11 8 30), (30, 0, op_push (.inl (none, 3)) 31), (31, 0, op_al 0 32)],
  [(32, 0, op_gf 11 42 35), (35, 0, op_mulF 36), (36, 0, op_push (.inl (none, 2)) 37), (37, 0, op_b2 (ab_add2K) 38), (38, 0, op_il 3 39), (39, 0, op_astL 40), (40, 0, op_pre (pr_sV 6 162) (op_al 0 41)), (41, 0, op_dup 42), (42, 0, op_gf 11 42 45), (45, 0, op_push (.inl (none, 1)) 46), (46, 0, op_b2 (ab_add2K) 47), (47, 0, op_pf (tyX11 42) 11 42 50)],
  [(50, 2, op_goto 0)]]
noncomputable def tb_X11_joins : ab_tab := [[(0, 4, op_pre (pr_use) (op_al 0 1)), (1, 0, op_gf 11 44 4), (4, 0, op_if 5 73 7), (7, 0, op_al 0 8), (8, 0, op_gf 11 41 11), (11, 0, op_al 0 12), (12, 0, op_gf 11 44 15), (15, 0, op_push (.inl (none, 1)) 16)],
  [(16, 0, op_b2 (ab_sub2K) 17), (17, 0, op_aldK 18), (18, 0, op_push (.inl (none, 21)) 20), (20, 0, op_icmp 0 45 23), (23, 0, op_al 0 24), (24, 0, op_gf 11 41 27), (27, 0, op_al 0 28), (28, 0, op_gf 11 44 31), (31, 0, op_push (.inl (none, 1)) 32)],
  [(32, 0, op_b2 (ab_sub2K) 33), (33, 0, op_aldK 34), (34, 0, op_push (.inl (none, 22)) 36), (36, 0, op_icmp 1 73 39), (39, 0, op_il 1 40), (40, 0, op_push (.inl (none, 22)) 42), (42, 0, op_icmp 1 73 45), (45, 0, op_al 0 46), (46, 0, op_dup 47), (47, 0, op_gf 11 44 50)],
  [(50, 0, op_push (.inl (none, 1)) 51), (51, 0, op_b2 (ab_sub2K) 52), (52, 0, op_pf (tyX11 44) 11 44 55), (55, 0, op_al 0 56), (56, 0, op_al 0 57), (57, 0, op_gf 11 41 60), (60, 0, op_al 0 61), (61, 0, op_gf 11 44 64)],
  [(64, 0, op_aldK 65), (65, 0, op_push (.inl (none, 0)) 66), (66, 0, op_push (.inl (none, 0)) 67), (67, 0, op_call 13 99 4 0 0 0 0 70), (70, 0, op_pre (pr_add [(3, 2, 0), (1, 0, 44), (1, 0, 42), (3, 3, 0)] [2, (-1), (-1), (-1)] 0) (op_pre (pr_add [(3, 0, 0), (1, 0, 44)] [1, (-1)] 0) (op_goto 0))), (73, 2, op_goto 0)]]
noncomputable def tb_X11_takesName : ab_tab := [[(0, 0, op_al 0 1), (1, 0, op_il 1 2), (2, 0, op_il 2 3), (3, 0, op_call 13 92 3 0 0 0 0 6), (6, 0, op_if 1 11 9), (9, 0, op_push (.inl (none, 0)) 10), (10, 1, op_goto 0), (11, 0, op_al 0 12), (12, 0, op_call 13 13 1 0 0 0 0 15), (15, 0, op_push (.inl (none, 1)) 16)],
  [(16, 1, op_goto 0)]]
noncomputable def tb_X11_draw : ab_tab := [[(0, 0, op_al 0 1), (1, 0, op_al 0 2), (2, 0, op_gf 11 37 5), (5, 0, op_push (.inl (none, 1103515245)) 8), (8, 0, op_b2 (ab_mul2K) 9), (9, 0, op_push (.inl (none, 12345)) 12), (12, 0, op_b2 (ab_add2K) 13), (13, 0, op_pf (tyX11 37) 11 37 16)],
  [(16, 0, op_al 0 17), (17, 0, op_gf 11 37 20), (20, 0, op_push (.inl (none, 8)) 22), (22, 0, op_b2 (ab_binK (fun u v => (u.toUInt32 >>> (v.toUInt32 &&& Int32.toUInt32 31)).toInt32)) 23), (23, 0, op_il 1 24), (24, 0, op_rem 25), (25, 1, op_goto 0)]]
noncomputable def tb_J0_length_8abf5 : ab_tab := [[(0, 0, op_al 0 1), (1, 0, op_gval 4), (4, 0, op_tlen 5), (5, 0, op_al 0 6), (6, 0, op_call 1 105 1 0 0 0 0 9), (9, 0, op_b2 (ab_binK (fun u v => u >>> (v &&& 31))) 10), (10, 1, op_goto 0)]]
noncomputable def tb_J0_charAt_5068e : ab_tab := [[(0, 0, op_al 0 1), (1, 0, op_call 1 106 1 0 0 0 0 4), (4, 0, op_if 0 16 7), (7, 0, op_al 0 8), (8, 0, op_gval 11), (11, 0, op_il 1 12), (12, 0, op_call 0 108 2 0 0 0 0 15), (15, 1, op_goto 0)],
  [(24, 1, op_goto 0)]]
noncomputable def tb_J0_coder_7d493 : ab_tab := [[(0, 0, op_push (.inl (none, 1)) 3), (3, 0, op_if 0 13 6), (6, 0, op_al 0 7), (7, 0, op_gcod 10), (10, 0, op_goto 14), (14, 1, op_goto 0)]]
noncomputable def tb_J0_isLatin1_aae02 : ab_tab := [[(0, 0, op_push (.inl (none, 1)) 3), (3, 0, op_if 0 17 6), (6, 0, op_al 0 7), (7, 0, op_gcod 10), (10, 0, op_if 1 17 13), (13, 0, op_push (.inl (none, 1)) 14), (14, 0, op_goto 18)],
  [(18, 1, op_goto 0)]]
noncomputable def tb_J0_checkIndex_df160 : ab_tab := [[(0, 0, op_il 0 1), (1, 0, op_il 1 2), (2, 0, op_push (.inr (.inr (6, 0))) 5), (5, 0, op_call 0 109 3 0 0 0 0 8), (8, 0, op_pop 9), (9, 2, op_goto 0)]]
noncomputable def tb_J1_charAt_3b067 : ab_tab := [[(0, 0, op_il 1 1), (1, 0, op_al 0 2), (2, 0, op_tlen 3), (3, 0, op_call 0 107 2 0 0 0 0 6), (6, 0, op_al 0 7), (7, 0, op_il 1 8), (8, 0, op_tb 9), (9, 0, op_push (.inl (none, 255)) 12), (12, 0, op_b2 (ab_an8K) 13), (13, 0, op_cv 0 65535 14), (14, 1, op_goto 0)]]
noncomputable def tb_J3_checkIndex_8e157 : ab_tab := [[(0, 0, op_il 0 1), (1, 0, op_if 2 9 4), (4, 0, op_il 0 5), (5, 0, op_il 1 6), (6, 0, op_icmp 2 16 9)],
  [(16, 0, op_il 0 17), (17, 1, op_goto 0)]]
noncomputable def tb_X0_read : ab_tab := [[(0, 0, op_al 0 1), (1, 0, op_push (.inl (none, 0)) 2), (2, 0, op_pf (tyX0 3) 0 3 5), (5, 0, op_al 2 6), (6, 0, op_push (.inl (none, 400)) 9), (9, 0, op_call 6 79 2 0 0 0 0 12), (12, 4, op_al 2 13), (13, 0, op_call 6 80 1 0 0 0 0 16)],
  [(16, 0, op_if 1 92 19), (19, 0, op_al 0 20), (20, 0, op_gf 0 3 23), (23, 0, op_push (.inl (none, 40)) 25), (25, 0, op_icmp 4 92 28), (28, 0, op_al 2 29), (29, 0, op_gf 4 8 32)],
  [(32, 0, op_call 0 111 1 0 0 0 0 35), (35, 0, op_if 1 44 38), (38, 0, op_al 2 39), (39, 0, op_push (.inl (none, 1)) 40), (40, 0, op_call 6 1 2 0 0 0 0 43), (43, 1, op_goto 0), (44, 0, op_al 0 45), (45, 0, op_gf 0 3 48)],
  [(48, 0, op_push (.inl (none, 40)) 50), (50, 0, op_icmp 2 59 53), (53, 0, op_al 2 54), (54, 0, op_push (.inl (none, 4)) 55), (55, 0, op_call 6 1 2 0 0 0 0 58), (58, 1, op_goto 0), (59, 0, op_al 0 60), (60, 0, op_al 1 61), (61, 0, op_al 2 62), (62, 0, op_call 2 112 3 0 0 0 0 65)],
  [(65, 0, op_if 0 77 68), (68, 0, op_al 2 69), (69, 0, op_push (.inl (none, 59)) 71), (71, 0, op_call 6 28 2 0 0 0 0 74), (74, 0, op_if 1 79 77), (77, 0, op_push (.inl (none, 0)) 78), (78, 1, op_goto 0), (79, 0, op_al 0 80)],
  [(80, 0, op_dup 81), (81, 0, op_gf 0 3 84), (84, 0, op_push (.inl (none, 1)) 85), (85, 0, op_b2 (ab_add2K) 86), (86, 0, op_pf (tyX0 3) 0 3 89), (89, 0, op_goto 12), (92, 0, op_push (.inl (none, 1)) 93), (93, 1, op_goto 0)]]
noncomputable def tb_X0_isAct : ab_tab := [[(0, 0, op_il 0 1), (1, 0, op_push (.inl (none, 8)) 3), (3, 0, op_icmp 2 16 6), (6, 0, op_il 0 7), (7, 0, op_push (.inl (none, 12)) 9), (9, 0, op_icmp 4 16 12), (12, 0, op_push (.inl (none, 1)) 13), (13, 0, op_goto 17)],
  [(16, 0, op_push (.inl (none, 0)) 17), (17, 1, op_goto 0)]]
noncomputable def tb_X0_readLine : ab_tab := [[(0, 0, op_al 2 1), (1, 0, op_gf 4 8 4), (4, 0, op_is 3 5), (5, 0, op_al 0 6), (6, 0, op_gf 0 0 9), (9, 0, op_al 0 10), (10, 0, op_gf 0 3 13), (13, 0, op_il 3 14), (14, 0, op_ast 0 15), (15, 0, op_al 2 16)],
  [(16, 0, op_call 6 3 1 0 0 0 0 19), (19, 0, op_il 3 20), (20, 0, op_push (.inl (none, 8)) 22), (22, 0, op_icmp 0 37 25), (25, 0, op_il 3 26), (26, 0, op_push (.inl (none, 9)) 28), (28, 0, op_icmp 0 37 31), (31, 0, op_il 3 32)],
  [(32, 0, op_push (.inl (none, 10)) 34), (34, 0, op_icmp 1 61 37), (37, 0, op_al 2 38), (38, 0, op_al 1 39), (39, 0, op_push (.inl (none, (-1))) 40), (40, 0, op_call 6 50 3 0 0 0 0 43), (43, 0, op_if 1 48 46), (46, 0, op_push (.inl (none, 0)) 47), (47, 1, op_goto 0)],
  [(48, 0, op_al 0 49), (49, 0, op_gf 0 1 52), (52, 0, op_al 0 53), (53, 0, op_gf 0 3 56), (56, 0, op_al 2 57), (57, 0, op_gf 4 9 60), (60, 0, op_ast 0 61), (61, 0, op_il 3 62), (62, 0, op_push (.inl (none, 8)) 64)],
  [(64, 0, op_icmp 1 104 67), (67, 0, op_al 2 68), (68, 0, op_call 6 73 1 0 0 0 0 71), (71, 0, op_if 0 84 74), (74, 0, op_al 2 75), (75, 0, op_push (.inl (none, 1)) 76), (76, 0, op_push (.inl (none, 10)) 78), (78, 0, op_call 6 29 3 0 0 0 0 81)],
  [(81, 0, op_if 1 86 84), (84, 0, op_push (.inl (none, 0)) 85), (85, 1, op_goto 0), (86, 0, op_al 0 87), (87, 0, op_gf 0 2 90), (90, 0, op_al 0 91), (91, 0, op_gf 0 3 94), (94, 0, op_al 2 95), (95, 0, op_gf 4 11 98)],
  [(98, 0, op_al 2 99), (99, 0, op_gf 4 9 102), (102, 0, op_b2 (ab_mul2K) 103), (103, 0, op_ast 0 104), (104, 0, op_il 3 105), (105, 0, op_push (.inl (none, 12)) 107), (107, 0, op_icmp 1 135 110), (110, 0, op_al 2 111), (111, 0, op_push (.inl (none, 1)) 112)],
  [(112, 0, op_push (.inl (none, 60)) 114), (114, 0, op_call 6 29 3 0 0 0 0 117), (117, 0, op_if 1 122 120), (120, 0, op_push (.inl (none, 0)) 121), (121, 1, op_goto 0), (122, 0, op_al 0 123), (123, 0, op_gf 0 2 126), (126, 0, op_al 0 127), (127, 0, op_gf 0 3 130)],
  [(130, 0, op_al 2 131), (131, 0, op_gf 4 9 134), (134, 0, op_ast 0 135), (135, 0, op_push (.inl (none, 1)) 136), (136, 1, op_goto 0)]]
noncomputable def tb_X0_judge : ab_tab := [[(0, 0, op_al 0 1), (1, 0, op_push (.inl (none, 1)) 2), (2, 0, op_pf (tyX0 4) 0 4 5), (5, 0, op_al 0 6), (6, 0, op_push (.inl (none, (-1))) 7), (7, 0, op_pf (tyX0 5) 0 5 10), (10, 0, op_al 0 11), (11, 0, op_push (.inl (none, 0)) 12), (12, 0, op_pf (tyX0 6) 0 6 15), (15, 0, op_al 0 16)],
  [(16, 0, op_push (.inl (none, 0)) 17), (17, 0, op_pf (tyX0 7) 0 7 20), (20, 4, op_al 0 21), (21, 0, op_gf 0 7 24), (24, 0, op_al 0 25), (25, 0, op_gf 0 3 28), (28, 0, op_icmp 3 83 31), (31, 0, op_al 0 32)],
  [(32, 0, op_gf 0 6 35), (35, 0, op_if 1 83 38), (38, 0, op_al 0 39), (39, 0, op_al 0 40), (40, 0, op_al 1 41), (41, 0, op_al 2 42), (42, 0, op_al 0 43), (43, 0, op_gf 0 7 46), (46, 0, op_call 2 135 4 0 0 0 0 49)],
  [(49, 0, op_pf (tyX0 6) 0 6 52), (52, 0, op_al 0 53), (53, 0, op_gf 0 6 56), (56, 0, op_if 1 72 59), (59, 0, op_al 0 60), (60, 0, op_dup 61), (61, 0, op_gf 0 7 64)],
  [(64, 0, op_push (.inl (none, 1)) 65), (65, 0, op_b2 (ab_add2K) 66), (66, 0, op_pf (tyX0 7) 0 7 69), (69, 0, op_goto 20), (72, 0, op_al 0 73), (73, 0, op_al 0 74), (74, 0, op_gf 0 7 77), (77, 0, op_pf (tyX0 5) 0 5 80)],
  [(80, 0, op_goto 20), (83, 0, op_al 0 84), (84, 0, op_al 2 85), (85, 0, op_gf 7 0 88), (88, 0, op_pf (tyX0 8) 0 8 91), (91, 0, op_al 0 92), (92, 0, op_al 2 93), (93, 0, op_al 1 94), (94, 0, op_call 9 61 2 0 0 0 0 97)],
  [(97, 0, op_pf (tyX0 9) 0 9 100), (100, 2, op_goto 0)]]
noncomputable def tb_X0_liveDays : ab_tab := [[(0, 0, op_al 1 1), (1, 0, op_gf 7 0 4), (4, 0, op_il 2 5), (5, 0, op_b2 (ab_add2K) 6), (6, 0, op_push (.inl (none, 400)) 9), (9, 0, op_icmp 5 15 12), (12, 0, op_push (.inl (none, 41)) 14), (14, 1, op_goto 0), (15, 0, op_al 1 16)],
  [(16, 0, op_al 0 17), (17, 0, op_il 2 18), (18, 0, op_call 9 82 3 0 0 0 0 21), (21, 0, op_push (.inl (none, 0)) 22), (22, 1, op_goto 0)]]
noncomputable def tb_X3_write : ab_tab := [[(0, 0, op_al 0 1), (1, 0, op_push (.inl (none, 0)) 2), (2, 0, op_pf (tyX3 1) 3 1 5), (5, 0, op_push (.inl (none, 48)) 7), (7, 0, op_is 5 9), (9, 4, op_il 5 11), (11, 0, op_if 2 42 14), (14, 0, op_ll 1 15), (15, 0, op_il 5 17)],
  [(17, 0, op_lsh 18), (18, 0, op_l2i 19), (19, 0, op_push (.inl (none, 255)) 22), (22, 0, op_b2 (ab_an8K) 23), (23, 0, op_is 6 25), (25, 0, op_il 6 27), (27, 0, op_if 0 36 30), (30, 0, op_al 0 31), (31, 0, op_il 6 33)],
  [(33, 0, op_call 5 63 2 0 0 0 0 36), (36, 0, op_inc 5 (-8) 39), (39, 0, op_goto 9), (42, 0, op_al 0 43), (43, 0, op_push (.inr (.inr (3, 1))) 45), (45, 0, op_call 5 62 2 0 0 0 0 48)],
  [(48, 0, op_il 3 49), (49, 0, op_if 1 61 52), (52, 0, op_al 0 53), (53, 0, op_push (.inr (.inr (3, 2))) 55), (55, 0, op_call 5 62 2 0 0 0 0 58), (58, 0, op_goto 84), (61, 0, op_al 0 62), (62, 0, op_il 3 63), (63, 0, op_if 5 71 66)],
  [(66, 0, op_push (.inr (.inr (3, 3))) 68), (68, 0, op_goto 73), (71, 0, op_push (.inr (.inr (3, 4))) 73), (73, 0, op_call 5 62 2 0 0 0 0 76), (76, 0, op_al 0 77), (77, 0, op_il 3 78), (78, 0, op_mm1 0 0 81)],
  [(81, 0, op_call 5 139 2 0 0 0 0 84), (84, 0, op_il 4 86), (86, 0, op_if 0 95 89), (89, 0, op_al 0 90), (90, 0, op_push (.inr (.inr (3, 5))) 92), (92, 0, op_call 5 62 2 0 0 0 0 95), (95, 2, op_goto 0)]]
noncomputable def tb_X4_takeNewName : ab_tab := [[(0, 0, op_al 0 1), (1, 0, op_call 6 46 1 0 0 0 0 4), (4, 0, op_if 1 13 7), (7, 0, op_al 0 8), (8, 0, op_push (.inl (none, 1)) 9), (9, 0, op_call 6 1 2 0 0 0 0 12), (12, 1, op_goto 0), (13, 0, op_al 1 14), (14, 0, op_al 0 15), (15, 0, op_gf 4 6 18)],
  [(18, 0, op_call 10 143 2 0 0 0 0 21), (21, 0, op_if 0 30 24), (24, 0, op_al 0 25), (25, 0, op_push (.inl (none, 3)) 26), (26, 0, op_call 6 1 2 0 0 0 0 29), (29, 1, op_goto 0), (30, 0, op_al 0 31), (31, 0, op_al 0 32)],
  [(32, 0, op_gf 4 6 35), (35, 0, op_pf (tyX4 10) 4 10 38), (38, 0, op_al 0 39), (39, 0, op_call 6 3 1 0 0 0 0 42), (42, 0, op_push (.inl (none, 1)) 43), (43, 1, op_goto 0)]]
noncomputable def tb_X6_read : ab_tab := [[(0, 0, op_al 0 1), (1, 0, op_push (.inl (none, 0)) 2), (2, 0, op_pf (tyX6 3) 6 3 5), (5, 0, op_al 0 6), (6, 0, op_push (.inl (none, 0)) 7), (7, 0, op_pf (tyX6 4) 6 4 10), (10, 0, op_al 2 11), (11, 0, op_push (.inl (none, 200)) 14), (14, 0, op_call 6 79 2 0 0 0 0 17)],
  [(17, 0, op_al 0 18), (18, 0, op_al 1 19), (19, 0, op_al 2 20), (20, 0, op_push (.inl (none, 1)) 21), (21, 0, op_call 8 38 4 0 0 0 0 24), (24, 0, op_if 0 46 27), (27, 0, op_al 2 28), (28, 0, op_call 6 80 1 0 0 0 0 31), (31, 0, op_if 1 42 34)],
  [(34, 0, op_al 2 35), (35, 0, op_push (.inl (none, 1)) 36), (36, 0, op_call 6 1 2 0 0 0 0 39), (39, 0, op_if 0 46 42), (42, 0, op_push (.inl (none, 1)) 43), (43, 0, op_goto 47), (46, 0, op_push (.inl (none, 0)) 47), (47, 1, op_goto 0)]]
noncomputable def tb_X6_holds : ab_tab := [[(0, 0, op_push (.inr (.inl (.inl (none, 0)))) 1), (1, 0, op_ls 4 3), (3, 0, op_push (.inl (none, 0)) 4), (4, 0, op_is 6 6), (6, 4, op_il 6 8), (8, 0, op_al 0 9), (9, 0, op_gf 6 3 12), (12, 0, op_icmp 3 122 15), (15, 0, op_ll 4 17)],
  [(17, 0, op_push (.inl (none, 1)) 18), (18, 0, op_lsh 19), (19, 0, op_ls 7 21), (21, 0, op_al 0 22), (22, 0, op_gf 6 0 25), (25, 0, op_il 6 27), (27, 0, op_ald 0 28), (28, 0, op_tsw 13 15 [79, 65, 56] 91)],
  [],
  [(56, 0, op_ll 4 58), (58, 0, op_lfr 59), (59, 0, op_l2 60), (60, 0, op_ls 4 62), (62, 0, op_goto 116)],
  [(65, 0, op_ll 7 67), (67, 0, op_ll 4 69), (69, 0, op_lfr 72), (72, 0, op_l2 73), (73, 0, op_l2 74), (74, 0, op_ls 4 76), (76, 0, op_goto 116), (79, 0, op_ll 7 81)],
  [(81, 0, op_ll 4 83), (83, 0, op_lfr 84), (84, 0, op_l2 85), (85, 0, op_l2 86), (86, 0, op_ls 4 88), (88, 0, op_goto 116), (91, 0, op_ll 4 93), (93, 0, op_push (.inl (none, 1)) 94), (94, 0, op_lsh 95), (95, 0, op_al 0 96)],
  [(96, 0, op_al 1 97), (97, 0, op_al 2 98), (98, 0, op_il 3 99), (99, 0, op_il 6 101), (101, 0, op_call 8 60 5 0 0 0 0 104), (104, 0, op_if 0 111 107), (107, 0, op_push (.inl (none, 1)) 108), (108, 0, op_goto 112), (111, 0, op_push (.inl (none, 0)) 112)],
  [(112, 0, op_i2l 113), (113, 0, op_l2 114), (114, 0, op_ls 4 116), (116, 0, op_inc 6 1 119), (119, 0, op_goto 6), (122, 0, op_ll 4 124), (124, 0, op_lfr 125), (125, 0, op_l2 126), (126, 0, op_push (.inr (.inl (.inl (none, 0)))) 127), (127, 0, op_lcmp 128)],
  [(128, 0, op_if 0 135 131), (131, 0, op_push (.inl (none, 1)) 132), (132, 0, op_goto 136), (135, 0, op_push (.inl (none, 0)) 136), (136, 1, op_goto 0)]]
noncomputable def tb_X7_beginIn : ab_tab := [[(0, 0, op_al 0 1), (1, 0, op_push (.inl (none, 0)) 2), (2, 0, op_pf (tyX7 0) 7 0 5), (5, 0, op_al 0 6), (6, 0, op_push (.inl (none, 0)) 7), (7, 0, op_pf (tyX7 1) 7 1 10), (10, 0, op_al 0 11), (11, 0, op_push (.inl (none, 0)) 12), (12, 0, op_pf (tyX7 2) 7 2 15), (15, 0, op_push (.inl (none, 0)) 16)],
  [(16, 0, op_is 2 17), (17, 4, op_il 2 18), (18, 0, op_push (.inl (none, 7)) 20), (20, 0, op_icmp 3 67 23), (23, 0, op_al 0 24), (24, 0, op_gf 7 3 27), (27, 0, op_il 2 28), (28, 0, op_il 2 29), (29, 0, op_al 1 30), (30, 0, op_gf 8 0 33)],
  [(33, 0, op_icmp 3 45 36), (36, 0, op_al 1 37), (37, 0, op_gf 8 3 40), (40, 0, op_il 2 41), (41, 0, op_ald 0 42), (42, 0, op_goto 46), (45, 0, op_push (.inl (none, 0)) 46), (46, 0, op_ast 0 47), (47, 0, op_al 0 48)],
  [(48, 0, op_gf 7 4 51), (51, 0, op_il 2 52), (52, 0, op_push (.inl (none, 0)) 53), (53, 0, op_ast 0 54), (54, 0, op_al 0 55), (55, 0, op_gf 7 5 58), (58, 0, op_il 2 59), (59, 0, op_push (.inl (none, 0)) 60), (60, 0, op_ast 0 61), (61, 0, op_inc 2 1 64)],
  [(64, 0, op_goto 17), (67, 2, op_goto 0)]]
noncomputable def tb_X7_actByDraw : ab_tab := [[(0, 0, op_il 3 1), (1, 0, op_push (.inl (none, 2)) 2), (2, 0, op_icmp 1 13 5), (5, 0, op_al 0 6), (6, 0, op_il 2 7), (7, 0, op_call 9 67 2 0 0 0 0 10), (10, 0, op_goto 47), (13, 0, op_il 3 14), (14, 0, op_push (.inl (none, 2)) 15), (15, 0, op_icmp 3 47 18)],
  [(18, 0, op_il 3 19), (19, 0, op_if 1 26 22), (22, 0, op_push (.inl (none, 1)) 23), (23, 0, op_goto 27), (26, 0, op_push (.inl (none, (-1))) 27), (27, 0, op_is 4 29), (29, 0, op_al 0 30), (30, 0, op_al 1 31), (31, 0, op_il 2 32)],
  [(32, 0, op_il 4 34), (34, 0, op_call 9 56 4 0 0 0 0 37), (37, 0, op_if 1 47 40), (40, 0, op_al 0 41), (41, 0, op_il 2 42), (42, 0, op_il 4 44), (44, 0, op_call 9 57 3 0 0 0 0 47), (47, 2, op_goto 0)]]
noncomputable def tb_X9_readLine : ab_tab := [[(0, 0, op_al 2 1), (1, 0, op_gf 4 8 4), (4, 0, op_tsw 0 7 [52, 86, 86, 59, 66, 73, 73, 73] 86)],
  [],
  [],
  [(52, 0, op_al 0 53), (53, 0, op_al 1 54), (54, 0, op_al 2 55), (55, 0, op_call 11 145 3 0 0 0 0 58), (58, 1, op_goto 0), (59, 0, op_al 0 60), (60, 0, op_al 1 61), (61, 0, op_al 2 62), (62, 0, op_call 11 146 3 0 0 0 0 65)],
  [(65, 1, op_goto 0), (66, 0, op_al 0 67), (67, 0, op_al 1 68), (68, 0, op_al 2 69), (69, 0, op_call 11 147 3 0 0 0 0 72), (72, 1, op_goto 0), (73, 0, op_al 0 74), (74, 0, op_al 1 75), (75, 0, op_al 2 76), (76, 0, op_al 2 77), (77, 0, op_gf 4 8 80)],
  [(80, 0, op_push (.inl (none, 5)) 81), (81, 0, op_b2 (ab_sub2K) 82), (82, 0, op_call 11 95 4 0 0 0 0 85), (85, 1, op_goto 0), (86, 0, op_al 2 87), (87, 0, op_push (.inl (none, 1)) 88), (88, 0, op_call 6 1 2 0 0 0 0 91), (91, 1, op_goto 0)]]
noncomputable def tb_X10_hasTrain : ab_tab := [[(0, 0, op_il 1 1), (1, 0, op_if 2 19 4), (4, 0, op_il 1 5), (5, 0, op_al 0 6), (6, 0, op_gf 10 2 9), (9, 0, op_gf 8 9 12), (12, 0, op_icmp 3 19 15), (15, 0, op_push (.inl (none, 1)) 16)],
  [(16, 0, op_goto 20), (19, 0, op_push (.inl (none, 0)) 20), (20, 1, op_goto 0)]]
noncomputable def tb_X11_taken : ab_tab := [[(0, 0, op_al 0 1), (1, 0, op_al 0 2), (2, 0, op_gf 11 2 5), (5, 0, op_pf (tyX11 3) 11 3 8), (8, 0, op_al 0 9), (9, 0, op_push (.inl (none, 0)) 10), (10, 0, op_pf (tyX11 2) 11 2 13), (13, 0, op_al 0 14), (14, 0, op_push (.inl (none, 0)) 15), (15, 0, op_pf (tyX11 4) 11 4 18)],
  [(18, 0, op_al 0 19), (19, 0, op_il 1 20), (20, 0, op_pf (tyX11 5) 11 5 23), (23, 2, op_goto 0)]]
noncomputable def tb_X11_lesser : ab_tab := [[(0, 0, op_il 0 1), (1, 0, op_il 1 2), (2, 0, op_icmp 3 9 5), (5, 0, op_il 0 6), (6, 0, op_goto 10), (9, 0, op_il 1 10), (10, 1, op_goto 0)]]
noncomputable def tb_X11_greater : ab_tab := [[(0, 0, op_il 0 1), (1, 0, op_il 1 2), (2, 0, op_icmp 5 9 5), (5, 0, op_il 0 6), (6, 0, op_goto 10), (9, 0, op_il 1 10), (10, 1, op_goto 0)]]
noncomputable def tb_X11_takesWay : ab_tab := [[(0, 0, op_al 0 1), (1, 0, op_lfr 4), (4, 0, op_call 13 19 2 0 0 0 0 7), (7, 0, op_is 3 8), (8, 0, op_il 3 9), (9, 0, op_if 1 28 12), (12, 0, op_al 0 13), (13, 0, op_lfr 16)],
  [(16, 0, op_call 13 19 2 0 0 0 0 19), (19, 0, op_if 1 28 22), (22, 0, op_al 0 23), (23, 0, op_push (.inl (none, 1)) 24), (24, 0, op_call 13 5 2 0 0 0 0 27), (27, 1, op_goto 0), (28, 0, op_al 0 29), (29, 0, op_call 13 13 1 0 0 0 0 32)],
  [(32, 0, op_al 0 33), (33, 0, op_il 1 34), (34, 0, op_il 2 35), (35, 0, op_call 13 45 3 0 0 0 0 38), (38, 0, op_if 1 43 41), (41, 0, op_push (.inl (none, 0)) 42), (42, 1, op_goto 0), (43, 0, op_al 0 44), (44, 0, op_il 3 45), (45, 0, op_if 0 56 48)],
  [(48, 0, op_al 0 49), (49, 0, op_gf 11 18 52), (52, 0, op_ineg 53), (53, 0, op_goto 60), (56, 0, op_al 0 57), (57, 0, op_gf 11 18 60), (60, 0, op_pf (tyX11 18) 11 18 63), (63, 0, op_push (.inl (none, 1)) 64)],
  [(64, 1, op_goto 0)]]
noncomputable def tb_X11_hasDue : ab_tab := [[(0, 0, op_al 0 1), (1, 0, op_il 1 2), (2, 0, op_al 0 3), (3, 0, op_gf 11 6 6), (6, 0, op_push (.inl (none, 100)) 8), (8, 0, op_ald 0 9), (9, 0, op_call 13 75 3 0 0 0 0 12), (12, 0, op_push (.inl (none, 99)) 14), (14, 0, op_icmp 0 21 17)],
  [(17, 0, op_push (.inl (none, 1)) 18), (18, 0, op_goto 22), (21, 0, op_push (.inl (none, 0)) 22), (22, 1, op_goto 0)]]
noncomputable def tb_X11_sumOf : ab_tab := [[(0, 0, op_push (.inl (none, 0)) 1), (1, 0, op_is 2 2), (2, 0, op_push (.inl (none, 0)) 3), (3, 0, op_is 3 4), (4, 4, op_il 3 5), (5, 0, op_al 0 6), (6, 0, op_gf 11 6 9), (9, 0, op_push (.inl (none, 0)) 10), (10, 0, op_ald 0 11), (11, 0, op_icmp 3 31 14), (14, 0, op_il 2 15), (15, 0, op_al 0 16)],
  [(16, 0, op_gf 11 6 19), (19, 0, op_il 1 20), (20, 0, op_il 3 21), (21, 0, op_b2 (ab_add2K) 22), (22, 0, op_ald 0 23), (23, 0, op_b2 (ab_add2K) 24), (24, 0, op_is 2 25), (25, 0, op_inc 3 1 28), (28, 0, op_goto 4), (31, 0, op_il 2 32)],
  [(32, 1, op_goto 0)]]
noncomputable def tb_X11_draws : ab_tab := [[(0, 0, op_al 0 1), (1, 0, op_il 2 2), (2, 0, op_pf (tyX11 37) 11 37 5), (5, 0, op_push (.inl (none, 0)) 6), (6, 0, op_is 3 7), (7, 4, op_il 3 8), (8, 0, op_il 1 9), (9, 0, op_icmp 3 142 12), (12, 0, op_al 0 13), (13, 0, op_gf 11 6 16)],
  [(16, 0, op_push (.inl (none, 100)) 18), (18, 0, op_ald 0 19), (19, 0, op_push (.inl (none, 400)) 22), (22, 0, op_icmp 3 142 25), (25, 0, op_al 0 26), (26, 0, op_push (.inl (none, 12)) 28), (28, 0, op_call 13 102 2 0 0 0 0 31), (31, 0, op_al 0 32)],
  [(32, 0, op_gf 11 6 35), (35, 0, op_push (.inl (none, 5)) 36), (36, 0, op_ald 0 37), (37, 0, op_icmp 3 45 40), (40, 0, op_al 0 41), (41, 0, op_call 13 98 1 0 0 0 0 44), (44, 0, op_pop 45), (45, 0, op_push (.inl (none, 0)) 46), (46, 0, op_is 4 48)],
  [(48, 4, op_il 4 50), (50, 0, op_al 0 51), (51, 0, op_gf 11 6 54), (54, 0, op_push (.inl (none, 0)) 55), (55, 0, op_ald 0 56), (56, 0, op_icmp 3 130 59), (59, 0, op_al 0 60), (60, 0, op_push (.inl (none, 8)) 62), (62, 0, op_call 13 102 2 0 0 0 0 65)],
  [(65, 0, op_is 5 67), (67, 0, op_il 5 69), (69, 0, op_if 1 76 72), (72, 0, op_push (.inl (none, 1)) 73), (73, 0, op_goto 77), (76, 0, op_push (.inl (none, (-1))) 77), (77, 0, op_is 6 79), (79, 0, op_il 5 81)],
  [(81, 0, op_push (.inl (none, 2)) 82), (82, 0, op_icmp 3 104 85), (85, 0, op_al 0 86), (86, 0, op_il 4 88), (88, 0, op_il 6 90), (90, 0, op_call 13 77 3 0 0 0 0 93), (93, 0, op_if 1 104 96)],
  [(96, 0, op_al 0 97), (97, 0, op_il 4 99), (99, 0, op_il 6 101), (101, 0, op_call 13 72 3 0 0 0 0 104), (104, 0, op_il 5 106), (106, 0, op_push (.inl (none, 2)) 107), (107, 0, op_icmp 1 124 110), (110, 0, op_al 0 111), (111, 0, op_gf 11 6 114)],
  [(114, 0, op_push (.inl (none, 101)) 116), (116, 0, op_dup2 117), (117, 0, op_ald 0 118), (118, 0, op_push (.inl (none, 1)) 119), (119, 0, op_il 4 121), (121, 0, op_b2 (ab_binK (fun u v => u <<< (v &&& 31))) 122), (122, 0, op_b2 (ab_binK (fun u v => u ^^^ v)) 123), (123, 0, op_astK 124), (124, 0, op_inc 4 1 127), (127, 0, op_goto 48)],
  [(130, 0, op_al 0 131), (131, 0, op_push (.inl (none, 1)) 132), (132, 0, op_call 13 78 2 0 0 0 0 135), (135, 0, op_pop 136), (136, 0, op_inc 3 1 139), (139, 0, op_goto 7), (142, 0, op_il 3 143), (143, 1, op_goto 0)]]
noncomputable def tb_X10_hasDue : ab_tab := [[(0, 0, op_al 0 1), (1, 0, op_gf 10 2 4), (4, 0, op_il 1 5), (5, 0, op_al 0 6), (6, 0, op_gf 10 4 9), (9, 0, op_gf 7 0 12), (12, 0, op_call 10 48 3 0 0 0 0 15), (15, 0, op_push (.inl (none, 10000)) 18)],
  [(18, 0, op_icmp 0 25 21), (21, 0, op_push (.inl (none, 1)) 22), (22, 0, op_goto 26), (25, 0, op_push (.inl (none, 0)) 26), (26, 1, op_goto 0)]]
noncomputable def tb_X10_added : ab_tab := [[(0, 0, op_push (.inl (none, 0)) 1), (1, 0, op_is 2 2), (2, 0, op_push (.inl (none, 0)) 3), (3, 0, op_is 3 4), (4, 4, op_il 3 5), (5, 0, op_al 0 6), (6, 0, op_gf 10 2 9), (9, 0, op_gf 8 0 12), (12, 0, op_icmp 3 27 15), (15, 0, op_il 2 16)],
  [(16, 0, op_al 1 17), (17, 0, op_il 3 18), (18, 0, op_ald 0 19), (19, 0, op_b2 (ab_add2K) 20), (20, 0, op_is 2 21), (21, 0, op_inc 3 1 24), (24, 0, op_goto 4), (27, 0, op_il 2 28), (28, 1, op_goto 0)]]
noncomputable def tb_X11_isTrain : ab_tab := [[(0, 0, op_il 1 1), (1, 0, op_push (.inl (none, 0)) 2), (2, 0, op_al 0 3), (3, 0, op_gf 11 6 6), (6, 0, op_push (.inl (none, 2)) 7), (7, 0, op_ald 0 8), (8, 0, op_push (.inl (none, 1)) 9), (9, 0, op_b2 (ab_sub2K) 10), (10, 0, op_call 0 18 3 0 0 0 0 13), (13, 1, op_goto 0)]]
noncomputable def tb_X11_sorts : ab_tab := [[(0, 0, op_push (.inl (none, 0)) 1), (1, 0, op_is 2 2), (2, 0, op_push (.inl (none, 0)) 3), (3, 0, op_is 3 4), (4, 4, op_il 3 5), (5, 0, op_al 0 6), (6, 0, op_gf 11 6 9), (9, 0, op_push (.inl (none, 0)) 10), (10, 0, op_ald 0 11), (11, 0, op_icmp 3 98 14), (14, 0, op_al 0 15), (15, 0, op_il 3 16)],
  [(16, 0, op_call 13 43 2 0 0 0 0 19), (19, 0, op_if 1 92 22), (22, 0, op_il 3 23), (23, 0, op_il 1 24), (24, 0, op_icmp 1 30 27), (27, 0, op_goto 92), (30, 0, op_il 2 31), (31, 0, op_is 4 33)],
  [(33, 4, op_il 4 35), (35, 0, op_if 5 77 38), (38, 0, op_al 0 39), (39, 0, op_gf 11 24 42), (42, 0, op_il 4 44), (44, 0, op_push (.inl (none, 1)) 45), (45, 0, op_b2 (ab_sub2K) 46), (46, 0, op_ald 0 47), (47, 0, op_al 0 48)],
  [(48, 0, op_il 3 49), (49, 0, op_call 13 22 2 0 0 0 0 52), (52, 0, op_icmp 5 77 55), (55, 0, op_al 0 56), (56, 0, op_gf 11 24 59), (59, 0, op_il 4 61), (61, 0, op_al 0 62), (62, 0, op_gf 11 24 65)],
  [(65, 0, op_il 4 67), (67, 0, op_push (.inl (none, 1)) 68), (68, 0, op_b2 (ab_sub2K) 69), (69, 0, op_ald 0 70), (70, 0, op_astK 71), (71, 0, op_inc 4 (-1) 74), (74, 0, op_goto 33), (77, 0, op_al 0 78), (78, 0, op_gf 11 24 81)],
  [(81, 0, op_il 4 83), (83, 0, op_al 0 84), (84, 0, op_il 3 85), (85, 0, op_call 13 22 2 0 0 0 0 88), (88, 0, op_astK 89), (89, 0, op_inc 2 1 92), (92, 0, op_inc 3 1 95), (95, 0, op_goto 4)],
  [(98, 0, op_il 2 99), (99, 1, op_goto 0)]]
noncomputable def tb_X11_roomOf : ab_tab := [[(0, 0, op_al 0 1), (1, 0, op_il 1 2), (2, 0, op_call 13 127 2 0 0 0 0 5), (5, 0, op_if 0 12 8), (8, 0, op_push (.inl (none, 0)) 9), (9, 0, op_goto 43), (12, 0, op_il 2 13), (13, 0, op_if 0 31 16)],
  [(16, 0, op_push (.inl (none, 30)) 18), (18, 0, op_al 0 19), (19, 0, op_gf 11 6 22), (22, 0, op_push (.inl (none, 103)) 24), (24, 0, op_il 1 25), (25, 0, op_b2 (ab_add2K) 26), (26, 0, op_ald 0 27), (27, 0, op_b2 (ab_sub2K) 28), (28, 0, op_goto 43), (31, 0, op_push (.inl (none, 30)) 33)],
  [(33, 0, op_al 0 34), (34, 0, op_gf 11 6 37), (37, 0, op_push (.inl (none, 103)) 39), (39, 0, op_il 1 40), (40, 0, op_b2 (ab_add2K) 41), (41, 0, op_ald 0 42), (42, 0, op_b2 (ab_add2K) 43), (43, 1, op_goto 0)]]
noncomputable def tb_X0_live : ab_tab := [[(0, 0, op_al 0 1), (1, 0, op_gf 0 0 4), (4, 0, op_il 3 5), (5, 0, op_ald 0 6), (6, 0, op_tsw 8 11 [36, 54, 65, 76] 84)],
  [],
  [(36, 0, op_al 1 37), (37, 0, op_al 2 38), (38, 0, op_al 0 39), (39, 0, op_gf 0 1 42), (42, 0, op_il 3 43), (43, 0, op_ald 0 44), (44, 0, op_al 0 45), (45, 0, op_gf 0 2 48)],
  [(48, 0, op_il 3 49), (49, 0, op_ald 0 50), (50, 0, op_call 0 136 4 0 0 0 0 53), (53, 1, op_goto 0), (54, 0, op_al 2 55), (55, 0, op_al 0 56), (56, 0, op_gf 0 1 59), (59, 0, op_il 3 60), (60, 0, op_ald 0 61), (61, 0, op_call 0 137 2 0 0 0 0 64)],
  [(64, 1, op_goto 0), (65, 0, op_al 2 66), (66, 0, op_al 0 67), (67, 0, op_gf 0 1 70), (70, 0, op_il 3 71), (71, 0, op_ald 0 72), (72, 0, op_call 0 138 2 0 0 0 0 75), (75, 1, op_goto 0), (76, 0, op_al 2 77), (77, 0, op_al 1 78), (78, 0, op_call 9 68 2 0 0 0 0 81)],
  [(81, 0, op_pop 82), (82, 0, op_push (.inl (none, 0)) 83), (83, 1, op_goto 0), (84, 0, op_al 1 85), (85, 0, op_al 2 86), (86, 0, op_al 0 87), (87, 0, op_gf 0 2 90), (90, 0, op_il 3 91), (91, 0, op_ald 0 92), (92, 0, op_call 0 114 3 0 0 0 0 95), (95, 1, op_goto 0)]]
noncomputable def tb_X0_liveBend : ab_tab := [[(0, 0, op_al 1 1), (1, 0, op_al 0 2), (2, 0, op_il 2 3), (3, 0, op_il 3 4), (4, 0, op_call 9 56 4 0 0 0 0 7), (7, 0, op_is 4 9), (9, 0, op_il 4 11), (11, 0, op_if 1 20 14), (14, 0, op_al 1 15), (15, 0, op_il 2 16)],
  [(16, 0, op_il 3 17), (17, 0, op_call 9 57 3 0 0 0 0 20), (20, 0, op_il 4 22), (22, 1, op_goto 0)]]
noncomputable def tb_X0_liveShade : ab_tab := [[(0, 0, op_al 0 1), (1, 0, op_il 1 2), (2, 0, op_call 9 6 2 0 0 0 0 5), (5, 0, op_if 0 11 8), (8, 0, op_push (.inl (none, 11)) 10), (10, 1, op_goto 0), (11, 0, op_al 0 12), (12, 0, op_il 1 13), (13, 0, op_call 9 67 2 0 0 0 0 16)],
  [(16, 0, op_push (.inl (none, 0)) 17), (17, 1, op_goto 0)]]
noncomputable def tb_X0_liveClear : ab_tab := [[(0, 0, op_al 0 1), (1, 0, op_il 1 2), (2, 0, op_call 9 6 2 0 0 0 0 5), (5, 0, op_if 1 11 8), (8, 0, op_push (.inl (none, 21)) 10), (10, 1, op_goto 0), (11, 0, op_al 0 12), (12, 0, op_il 1 13), (13, 0, op_call 9 67 2 0 0 0 0 16)],
  [(16, 0, op_push (.inl (none, 0)) 17), (17, 1, op_goto 0)]]
noncomputable def tb_X3_putMinutes : ab_tab := [[(0, 0, op_il 1 1), (1, 0, op_push (.inl (none, 9)) 3), (3, 0, op_icmp 5 17 6), (6, 0, op_al 0 7), (7, 0, op_push (.inl (none, 48)) 9), (9, 0, op_il 1 10), (10, 0, op_push (.inl (none, 10)) 12), (12, 0, op_div 13), (13, 0, op_b2 (ab_add2K) 14), (14, 0, op_call 5 63 2 0 0 0 0 17)],
  [(17, 0, op_al 0 18), (18, 0, op_push (.inl (none, 48)) 20), (20, 0, op_il 1 21), (21, 0, op_push (.inl (none, 10)) 23), (23, 0, op_rem 24), (24, 0, op_b2 (ab_add2K) 25), (25, 0, op_call 5 63 2 0 0 0 0 28), (28, 2, op_goto 0)]]
noncomputable def tb_X7_bendToDues : ab_tab := [[(0, 0, op_push (.inl (none, 0)) 1), (1, 0, op_is 2 2), (2, 4, op_il 2 3), (3, 0, op_al 1 4), (4, 0, op_gf 8 0 7), (7, 0, op_icmp 3 69 10), (10, 0, op_al 1 11), (11, 0, op_il 2 12), (12, 0, op_al 0 13), (13, 0, op_gf 7 0 16)],
  [(16, 0, op_call 10 48 3 0 0 0 0 19), (19, 0, op_is 3 20), (20, 0, op_il 3 21), (21, 0, op_push (.inl (none, 10000)) 24), (24, 0, op_icmp 0 63 27), (27, 0, op_il 3 28), (28, 0, op_al 0 29), (29, 0, op_gf 7 3 32)],
  [(32, 0, op_il 2 33), (33, 0, op_ald 0 34), (34, 0, op_b2 (ab_sub2K) 35), (35, 0, op_is 4 37), (37, 0, op_al 0 38), (38, 0, op_gf 7 3 41), (41, 0, op_il 2 42), (42, 0, op_dup2 43), (43, 0, op_ald 0 44), (44, 0, op_al 1 45), (45, 0, op_call 10 32 1 0 0 0 0 48)],
  [(48, 0, op_ineg 49), (49, 0, op_al 1 50), (50, 0, op_call 10 32 1 0 0 0 0 53), (53, 0, op_il 4 55), (55, 0, op_mm2 0 0 58), (58, 0, op_mm2 0 0 61), (61, 0, op_b2 (ab_add2K) 62), (62, 0, op_ast 0 63), (63, 0, op_inc 2 1 66)],
  [(66, 0, op_goto 2), (69, 2, op_goto 0)]]
noncomputable def tb_X7_comeNearer : ab_tab := [[(0, 0, op_push (.inl (none, 0)) 1), (1, 0, op_is 2 2), (2, 0, op_push (.inl (none, 0)) 3), (3, 0, op_is 3 4), (4, 4, op_il 3 5), (5, 0, op_al 1 6), (6, 0, op_gf 8 0 9), (9, 0, op_icmp 3 108 12), (12, 0, op_al 0 13), (13, 0, op_il 3 14), (14, 0, op_call 9 6 2 0 0 0 0 17)],
  [(17, 0, op_if 1 102 20), (20, 0, op_al 1 21), (21, 0, op_il 3 22), (22, 0, op_al 0 23), (23, 0, op_gf 7 0 26), (26, 0, op_call 10 48 3 0 0 0 0 29), (29, 0, op_push (.inl (none, 10000)) 32)],
  [(32, 0, op_icmp 1 102 35), (35, 0, op_al 0 36), (36, 0, op_al 1 37), (37, 0, op_il 3 38), (38, 0, op_call 9 94 3 0 0 0 0 41), (41, 0, op_is 4 43), (43, 0, op_al 0 44), (44, 0, op_gf 7 3 47), (47, 0, op_il 3 48)],
  [(48, 0, op_ald 0 49), (49, 0, op_al 0 50), (50, 0, op_al 1 51), (51, 0, op_il 3 52), (52, 0, op_call 9 2 3 0 0 0 0 55), (55, 0, op_il 4 57), (57, 0, op_call 0 90 2 0 0 0 0 60), (60, 0, op_b2 (ab_add2K) 61), (61, 0, op_is 5 63), (63, 0, op_il 4 65)],
  [(65, 0, op_push (.inl (none, 10000)) 68), (68, 0, op_icmp 0 102 71), (71, 0, op_il 5 73), (73, 0, op_al 0 74), (74, 0, op_gf 7 3 77), (77, 0, op_il 3 78), (78, 0, op_ald 0 79), (79, 0, op_icmp 0 102 82)],
  [(82, 0, op_il 5 84), (84, 0, op_mm1 0 0 87), (87, 0, op_push (.inl (none, 30)) 89), (89, 0, op_icmp 4 102 92), (92, 0, op_al 0 93), (93, 0, op_gf 7 3 96)],
  [(96, 0, op_il 3 97), (97, 0, op_il 5 99), (99, 0, op_ast 0 100), (100, 0, op_push (.inl (none, 1)) 101), (101, 0, op_is 2 102), (102, 0, op_inc 3 1 105), (105, 0, op_goto 4), (108, 0, op_il 2 109), (109, 1, op_goto 0)]]
noncomputable def tb_X8_makeEmpty : ab_tab := [[(0, 0, op_al 0 1), (1, 0, op_push (.inl (none, 0)) 2), (2, 0, op_pf (tyX8 0) 8 0 5), (5, 0, op_al 0 6), (6, 0, op_push (.inl (none, 0)) 7), (7, 0, op_pf (tyX8 4) 8 4 10), (10, 0, op_al 0 11), (11, 0, op_push (.inl (none, 0)) 12), (12, 0, op_pf (tyX8 9) 8 9 15), (15, 0, op_al 0 16)],
  [(16, 0, op_gf 8 15 19), (19, 0, op_push (.inl (none, 0)) 20), (20, 0, op_push (.inl (none, 3)) 21), (21, 0, op_ast 0 22), (22, 0, op_al 0 23), (23, 0, op_gf 8 15 26), (26, 0, op_push (.inl (none, 1)) 27), (27, 0, op_push (.inl (none, 2)) 28), (28, 0, op_ast 0 29), (29, 0, op_al 0 30), (30, 0, op_gf 8 15 33)],
  [(33, 0, op_push (.inl (none, 2)) 34), (34, 0, op_push (.inl (none, 1)) 35), (35, 0, op_ast 0 36), (36, 2, op_goto 0)]]
noncomputable def tb_X8_isTold : ab_tab := [[(0, 0, op_push (.inl (none, 0)) 1), (1, 0, op_is 3 2), (2, 4, op_il 3 3), (3, 0, op_al 0 4), (4, 0, op_gf 8 9 7), (7, 0, op_icmp 3 29 10), (10, 0, op_al 0 11), (11, 0, op_gf 8 10 14), (14, 0, op_il 3 15), (15, 0, op_lald 16)],
  [(16, 0, op_ll 1 17), (17, 0, op_lcmp 18), (18, 0, op_if 1 23 21), (21, 0, op_push (.inl (none, 1)) 22), (22, 1, op_goto 0), (23, 0, op_inc 3 1 26), (26, 0, op_goto 2), (29, 0, op_al 0 30), (30, 0, op_ll 1 31), (31, 0, op_call 10 47 2 0 0 0 0 34)],
  [(34, 0, op_push (.inl (none, (-1))) 35), (35, 0, op_icmp 0 42 38), (38, 0, op_push (.inl (none, 1)) 39), (39, 0, op_goto 43), (42, 0, op_push (.inl (none, 0)) 43), (43, 1, op_goto 0)]]
noncomputable def tb_X9_readInto : ab_tab := [[(0, 0, op_al 1 1), (1, 0, op_call 10 142 1 0 0 0 0 4), (4, 0, op_push (.inl (none, 0)) 5), (5, 0, op_is 3 6), (6, 4, op_il 3 7), (7, 0, op_al 0 8), (8, 0, op_gf 9 0 11), (11, 0, op_len 12), (12, 0, op_icmp 3 28 15), (15, 0, op_al 0 16)],
  [(16, 0, op_gf 9 0 19), (19, 0, op_il 3 20), (20, 0, op_push (.inl (none, 0)) 21), (21, 0, op_ast 3 22), (22, 0, op_inc 3 1 25), (25, 0, op_goto 6), (28, 0, op_al 2 29), (29, 0, op_push (.inl (none, 900)) 32)],
  [(32, 0, op_call 6 79 2 0 0 0 0 35), (35, 0, op_push (.inl (none, 0)) 36), (36, 0, op_is 3 37), (37, 4, op_al 2 38), (38, 0, op_call 6 80 1 0 0 0 0 41), (41, 0, op_if 1 77 44), (44, 0, op_il 3 45), (45, 0, op_push (.inl (none, 900)) 48)],
  [(48, 0, op_icmp 4 77 51), (51, 0, op_al 0 52), (52, 0, op_al 1 53), (53, 0, op_al 2 54), (54, 0, op_call 11 121 3 0 0 0 0 57), (57, 0, op_if 0 69 60), (60, 0, op_al 2 61), (61, 0, op_push (.inl (none, 59)) 63), (63, 0, op_call 6 28 2 0 0 0 0 66)],
  [(66, 0, op_if 1 71 69), (69, 0, op_push (.inl (none, (-1))) 70), (70, 1, op_goto 0), (71, 0, op_inc 3 1 74), (74, 0, op_goto 37), (77, 0, op_il 3 78), (78, 1, op_goto 0)]]
noncomputable def tb_X9_readTown : ab_tab := [[(0, 0, op_al 1 1), (1, 0, op_gf 8 0 4), (4, 0, op_is 3 5), (5, 0, op_il 3 6), (6, 0, op_push (.inl (none, 7)) 8), (8, 0, op_icmp 2 17 11), (11, 0, op_al 2 12), (12, 0, op_push (.inl (none, 4)) 13), (13, 0, op_call 6 1 2 0 0 0 0 16)],
  [(16, 1, op_goto 0), (17, 0, op_al 2 18), (18, 0, op_call 6 3 1 0 0 0 0 21), (21, 0, op_al 2 22), (22, 0, op_al 1 23), (23, 0, op_call 6 116 2 0 0 0 0 26), (26, 0, op_if 0 39 29), (29, 0, op_al 2 30), (30, 0, op_push (.inl (none, 0)) 31), (31, 0, op_push (.inl (none, 60)) 33)],
  [(33, 0, op_call 6 29 3 0 0 0 0 36), (36, 0, op_if 1 41 39), (39, 0, op_push (.inl (none, 0)) 40), (40, 1, op_goto 0), (41, 0, op_al 1 42), (42, 0, op_gf 8 1 45), (45, 0, op_il 3 46), (46, 0, op_al 2 47), (47, 0, op_gf 4 10 50)],
  [(50, 0, op_last 51), (51, 0, op_al 1 52), (52, 0, op_gf 8 2 55), (55, 0, op_il 3 56), (56, 0, op_al 2 57), (57, 0, op_gf 4 9 60), (60, 0, op_ast 0 61), (61, 0, op_al 1 62), (62, 0, op_gf 8 3 65)],
  [(65, 0, op_il 3 66), (66, 0, op_push (.inl (none, 0)) 67), (67, 0, op_ast 0 68), (68, 0, op_al 1 69), (69, 0, op_dup 70), (70, 0, op_gf 8 0 73), (73, 0, op_push (.inl (none, 1)) 74), (74, 0, op_b2 (ab_add2K) 75), (75, 0, op_pf (tyX8 0) 8 0 78), (78, 0, op_al 2 79), (79, 0, op_gf 4 5 82)],
  [(82, 0, op_push (.inl (none, 59)) 84), (84, 0, op_icmp 1 89 87), (87, 0, op_push (.inl (none, 1)) 88), (88, 1, op_goto 0), (89, 0, op_al 2 90), (90, 0, op_call 6 73 1 0 0 0 0 93), (93, 0, op_if 0 106 96)],
  [(96, 0, op_al 2 97), (97, 0, op_push (.inl (none, 1)) 98), (98, 0, op_push (.inl (none, 30)) 100), (100, 0, op_call 6 29 3 0 0 0 0 103), (103, 0, op_if 1 108 106), (106, 0, op_push (.inl (none, 0)) 107), (107, 1, op_goto 0), (108, 0, op_al 1 109), (109, 0, op_gf 8 3 112)],
  [(112, 0, op_il 3 113), (113, 0, op_al 2 114), (114, 0, op_gf 4 11 117), (117, 0, op_al 2 118), (118, 0, op_gf 4 9 121), (121, 0, op_b2 (ab_mul2K) 122), (122, 0, op_ast 0 123), (123, 0, op_push (.inl (none, 1)) 124), (124, 1, op_goto 0)]]
noncomputable def tb_X9_readTerm : ab_tab := [[(0, 0, op_al 1 1), (1, 0, op_gf 8 4 4), (4, 0, op_is 3 5), (5, 0, op_il 3 6), (6, 0, op_push (.inl (none, 12)) 8), (8, 0, op_icmp 2 17 11), (11, 0, op_al 2 12), (12, 0, op_push (.inl (none, 4)) 13), (13, 0, op_call 6 1 2 0 0 0 0 16)],
  [(16, 1, op_goto 0), (17, 0, op_al 2 18), (18, 0, op_call 6 3 1 0 0 0 0 21), (21, 0, op_al 2 22), (22, 0, op_al 1 23), (23, 0, op_push (.inl (none, (-1))) 24), (24, 0, op_call 6 50 3 0 0 0 0 27), (27, 0, op_if 1 32 30), (30, 0, op_push (.inl (none, 0)) 31), (31, 1, op_goto 0)],
  [(32, 0, op_al 1 33), (33, 0, op_gf 8 5 36), (36, 0, op_il 3 37), (37, 0, op_al 2 38), (38, 0, op_gf 4 9 41), (41, 0, op_ast 0 42), (42, 0, op_al 2 43), (43, 0, op_push (.inl (none, 0)) 44), (44, 0, op_push (.inl (none, 399)) 47), (47, 0, op_call 6 29 3 0 0 0 0 50)],
  [(50, 0, op_if 1 55 53), (53, 0, op_push (.inl (none, 0)) 54), (54, 1, op_goto 0), (55, 0, op_al 1 56), (56, 0, op_gf 8 6 59), (59, 0, op_il 3 60), (60, 0, op_al 2 61), (61, 0, op_gf 4 9 64)],
  [(64, 0, op_ast 0 65), (65, 0, op_al 2 66), (66, 0, op_al 1 67), (67, 0, op_gf 8 6 70), (70, 0, op_il 3 71), (71, 0, op_ald 0 72), (72, 0, op_push (.inl (none, 399)) 75), (75, 0, op_call 6 29 3 0 0 0 0 78), (78, 0, op_if 1 83 81)],
  [(81, 0, op_push (.inl (none, 0)) 82), (82, 1, op_goto 0), (83, 0, op_al 1 84), (84, 0, op_gf 8 7 87), (87, 0, op_il 3 88), (88, 0, op_al 2 89), (89, 0, op_gf 4 9 92), (92, 0, op_ast 0 93), (93, 0, op_al 2 94), (94, 0, op_call 6 73 1 0 0 0 0 97)],
  [(97, 0, op_if 0 110 100), (100, 0, op_al 2 101), (101, 0, op_push (.inl (none, 0)) 102), (102, 0, op_push (.inl (none, 30)) 104), (104, 0, op_call 6 29 3 0 0 0 0 107), (107, 0, op_if 1 112 110), (110, 0, op_push (.inl (none, 0)) 111), (111, 1, op_goto 0)],
  [(112, 0, op_al 1 113), (113, 0, op_gf 8 8 116), (116, 0, op_il 3 117), (117, 0, op_al 2 118), (118, 0, op_gf 4 11 121), (121, 0, op_al 2 122), (122, 0, op_gf 4 9 125), (125, 0, op_b2 (ab_mul2K) 126), (126, 0, op_ast 0 127), (127, 0, op_al 1 128)],
  [(128, 0, op_dup 129), (129, 0, op_gf 8 4 132), (132, 0, op_push (.inl (none, 1)) 133), (133, 0, op_b2 (ab_add2K) 134), (134, 0, op_pf (tyX8 4) 8 4 137), (137, 0, op_push (.inl (none, 1)) 138), (138, 1, op_goto 0)]]
noncomputable def tb_X9_readTrain : ab_tab := [[(0, 0, op_al 1 1), (1, 0, op_gf 8 9 4), (4, 0, op_is 3 5), (5, 0, op_il 3 6), (6, 0, op_push (.inl (none, 8)) 8), (8, 0, op_icmp 2 17 11), (11, 0, op_al 2 12), (12, 0, op_push (.inl (none, 4)) 13), (13, 0, op_call 6 1 2 0 0 0 0 16)],
  [(16, 1, op_goto 0), (17, 0, op_al 2 18), (18, 0, op_call 6 3 1 0 0 0 0 21), (21, 0, op_al 2 22), (22, 0, op_al 1 23), (23, 0, op_call 6 116 2 0 0 0 0 26), (26, 0, op_if 1 31 29), (29, 0, op_push (.inl (none, 0)) 30), (30, 1, op_goto 0), (31, 0, op_al 1 32)],
  [(32, 0, op_gf 8 10 35), (35, 0, op_il 3 36), (36, 0, op_al 2 37), (37, 0, op_gf 4 10 40), (40, 0, op_last 41), (41, 0, op_al 2 42), (42, 0, op_al 1 43), (43, 0, op_push (.inl (none, (-1))) 44), (44, 0, op_call 6 50 3 0 0 0 0 47), (47, 0, op_if 1 52 50)],
  [(50, 0, op_push (.inl (none, 0)) 51), (51, 1, op_goto 0), (52, 0, op_al 1 53), (53, 0, op_gf 8 11 56), (56, 0, op_il 3 57), (57, 0, op_al 2 58), (58, 0, op_gf 4 9 61), (61, 0, op_ast 0 62), (62, 0, op_al 2 63), (63, 0, op_al 1 64)],
  [(64, 0, op_al 1 65), (65, 0, op_gf 8 11 68), (68, 0, op_il 3 69), (69, 0, op_ald 0 70), (70, 0, op_call 6 50 3 0 0 0 0 73), (73, 0, op_if 1 78 76), (76, 0, op_push (.inl (none, 0)) 77), (77, 1, op_goto 0), (78, 0, op_al 1 79), (79, 0, op_gf 8 12 82)],
  [(82, 0, op_il 3 83), (83, 0, op_al 2 84), (84, 0, op_gf 4 9 87), (87, 0, op_ast 0 88), (88, 0, op_al 2 89), (89, 0, op_push (.inl (none, 0)) 90), (90, 0, op_push (.inl (none, 600)) 93), (93, 0, op_call 6 29 3 0 0 0 0 96)],
  [(96, 0, op_if 1 101 99), (99, 0, op_push (.inl (none, 0)) 100), (100, 1, op_goto 0), (101, 0, op_al 1 102), (102, 0, op_gf 8 13 105), (105, 0, op_il 3 106), (106, 0, op_al 2 107), (107, 0, op_gf 4 9 110), (110, 0, op_ast 0 111), (111, 0, op_al 2 112)],
  [(112, 0, op_push (.inl (none, 1)) 113), (113, 0, op_push (.inl (none, 200)) 116), (116, 0, op_call 6 29 3 0 0 0 0 119), (119, 0, op_if 1 124 122), (122, 0, op_push (.inl (none, 0)) 123), (123, 1, op_goto 0), (124, 0, op_al 1 125), (125, 0, op_gf 8 14 128)],
  [(128, 0, op_il 3 129), (129, 0, op_al 2 130), (130, 0, op_gf 4 9 133), (133, 0, op_ast 0 134), (134, 0, op_al 1 135), (135, 0, op_dup 136), (136, 0, op_gf 8 9 139), (139, 0, op_push (.inl (none, 1)) 140), (140, 0, op_b2 (ab_add2K) 141), (141, 0, op_pf (tyX8 9) 8 9 144)],
  [(144, 0, op_push (.inl (none, 1)) 145), (145, 1, op_goto 0)]]
noncomputable def tb_X10_bendsAdded : ab_tab := [[(0, 0, op_al 0 1), (1, 0, op_al 0 2), (2, 0, op_gf 10 4 5), (5, 0, op_gf 7 3 8), (8, 0, op_call 12 131 2 0 0 0 0 11), (11, 1, op_goto 0)]]
noncomputable def tb_X11_fresh : ab_tab := [[(0, 0, op_al 0 1), (1, 0, op_call 13 76 1 0 0 0 0 4), (4, 0, op_if 1 13 7), (7, 0, op_al 0 8), (8, 0, op_push (.inl (none, 1)) 9), (9, 0, op_call 13 5 2 0 0 0 0 12), (12, 1, op_goto 0), (13, 0, op_al 0 14), (14, 0, op_push (.inl (none, 15)) 16)],
  [(16, 0, op_al 0 17), (17, 0, op_gf 11 7 20), (20, 0, op_push (.inl (none, 0)) 21), (21, 0, op_ald 0 22), (22, 0, op_call 13 71 3 0 0 0 0 25), (25, 0, op_if 3 43 28), (28, 0, op_al 0 29), (29, 0, op_push (.inl (none, 22)) 31), (31, 0, op_al 0 32)],
  [(32, 0, op_gf 11 7 35), (35, 0, op_push (.inl (none, 2)) 36), (36, 0, op_ald 0 37), (37, 0, op_call 13 71 3 0 0 0 0 40), (40, 0, op_if 2 49 43), (43, 0, op_al 0 44), (44, 0, op_push (.inl (none, 3)) 45), (45, 0, op_call 13 5 2 0 0 0 0 48)],
  [(48, 1, op_goto 0), (49, 0, op_al 0 50), (50, 0, op_gf 11 9 53), (53, 0, op_il 1 54), (54, 0, op_al 0 55), (55, 0, op_gf 11 17 58), (58, 0, op_last 59), (59, 0, op_al 0 60), (60, 0, op_call 13 13 1 0 0 0 0 63), (63, 0, op_push (.inl (none, 1)) 64)],
  [(64, 1, op_goto 0)]]
noncomputable def tb_X11_nots : ab_tab := [[(0, 0, op_pre (pr_add [(3, 2, 0), (1, 0, 44), (1, 0, 42), (3, 3, 0)] [2, (-1), (-1), (-1)] 0) (op_pre (pr_add [(3, 0, 0), (1, 0, 44)] [1, (-1)] 0) (op_al 0 1))), (1, 0, op_gf 11 44 4), (4, 0, op_if 5 54 7), (7, 0, op_al 0 8), (8, 0, op_gf 11 41 11), (11, 0, op_al 0 12), (12, 0, op_gf 11 44 15), (15, 0, op_push (.inl (none, 1)) 16)],
  [(16, 0, op_b2 (ab_sub2K) 17), (17, 0, op_ald 0 18), (18, 0, op_push (.inl (none, 20)) 20), (20, 0, op_icmp 1 54 23), (23, 4, op_pre (pr_use) (op_al 0 24)), (24, 0, op_dup 25), (25, 0, op_gf 11 44 28), (28, 0, op_push (.inl (none, 1)) 29), (29, 0, op_b2 (ab_sub2K) 30), (30, 0, op_pf (tyX11 44) 11 44 33)],
  [(33, 0, op_al 0 34), (34, 0, op_dup 35), (35, 0, op_gf 11 45 38), (38, 0, op_push (.inl (none, 1)) 39), (39, 0, op_b2 (ab_sub2K) 40), (40, 0, op_pf (tyX11 45) 11 45 43), (43, 0, op_al 0 44), (44, 0, op_push (.inl (none, 20)) 46), (46, 0, op_push (.inl (none, 0)) 47), (47, 0, op_push (.inl (none, 0)) 48)],
  [(48, 0, op_call 13 99 4 0 0 0 0 51), (51, 0, op_goto 0), (54, 2, op_goto 0)]]
noncomputable def tb_X1_takeBack : ab_tab := [[(0, 0, op_al 0 1), (1, 0, op_gf 1 1 4), (4, 0, op_if 4 9 7), (7, 0, op_push (.inl (none, (-1))) 8), (8, 1, op_goto 0), (9, 0, op_al 0 10), (10, 0, op_dup 11), (11, 0, op_gf 1 1 14), (14, 0, op_push (.inl (none, 1)) 15), (15, 0, op_b2 (ab_sub2K) 16)],
  [(16, 0, op_pf (tyX1 1) 1 1 19), (19, 0, op_al 1 20), (20, 0, op_al 0 21), (21, 0, op_gf 1 0 24), (24, 0, op_al 0 25), (25, 0, op_gf 1 1 28), (28, 0, op_aald 7 29), (29, 0, op_call 9 16 2 0 0 0 0 32)],
  [(32, 0, op_al 0 33), (33, 0, op_gf 1 1 36), (36, 1, op_goto 0)]]
noncomputable def tb_X10_minutesOff : ab_tab := [[(0, 0, op_push (.inl (none, 0)) 1), (1, 0, op_is 1 2), (2, 0, op_push (.inl (none, 0)) 3), (3, 0, op_is 2 4), (4, 4, op_il 2 5), (5, 0, op_al 0 6), (6, 0, op_gf 10 2 9), (9, 0, op_gf 8 0 12), (12, 0, op_icmp 3 36 15), (15, 0, op_il 1 16)],
  [(16, 0, op_al 0 17), (17, 0, op_gf 10 4 20), (20, 0, op_gf 7 3 23), (23, 0, op_il 2 24), (24, 0, op_ald 0 25), (25, 0, op_mm1 0 0 28), (28, 0, op_b2 (ab_add2K) 29), (29, 0, op_is 1 30), (30, 0, op_inc 2 1 33)],
  [(33, 0, op_goto 4), (36, 0, op_il 1 37), (37, 1, op_goto 0)]]
noncomputable def tb_X11_clears : ab_tab := [[(0, 0, op_push (.inl (none, 0)) 1), (1, 0, op_is 1 2), (2, 0, op_il 1 3), (3, 0, op_push (.inl (none, 100)) 5), (5, 0, op_icmp 3 21 8), (8, 0, op_al 0 9), (9, 0, op_gf 11 7 12), (12, 0, op_il 1 13), (13, 0, op_push (.inl (none, 0)) 14), (14, 0, op_astK 15), (15, 0, op_inc 1 1 18)],
  [(18, 0, op_goto 2), (21, 0, op_al 0 22), (22, 0, op_gf 11 7 25), (25, 0, op_push (.inl (none, 3)) 26), (26, 0, op_push (.inl (none, 3)) 27), (27, 0, op_astK 28), (28, 0, op_al 0 29), (29, 0, op_gf 11 7 32)],
  [(32, 0, op_push (.inl (none, 4)) 33), (33, 0, op_push (.inl (none, 2)) 34), (34, 0, op_astK 35), (35, 0, op_al 0 36), (36, 0, op_gf 11 7 39), (39, 0, op_push (.inl (none, 5)) 40), (40, 0, op_push (.inl (none, 1)) 41), (41, 0, op_astK 42), (42, 2, op_goto 0)]]
noncomputable def tb_X11_movesToDues : ab_tab := [[(0, 0, op_push (.inl (none, 0)) 1), (1, 0, op_is 1 2), (2, 4, op_il 1 3), (3, 0, op_al 0 4), (4, 0, op_gf 11 6 7), (7, 0, op_push (.inl (none, 0)) 8), (8, 0, op_ald 0 9), (9, 0, op_icmp 3 93 12), (12, 0, op_al 0 13), (13, 0, op_il 1 14), (14, 0, op_call 13 97 2 0 0 0 0 17)],
  [(17, 0, op_if 1 23 20), (20, 0, op_goto 87), (23, 0, op_al 0 24), (24, 0, op_il 1 25), (25, 0, op_al 0 26), (26, 0, op_gf 11 6 29), (29, 0, op_push (.inl (none, 100)) 31), (31, 0, op_ald 0 32)],
  [(32, 0, op_call 13 75 3 0 0 0 0 35), (35, 0, op_al 0 36), (36, 0, op_gf 11 6 39), (39, 0, op_push (.inl (none, 103)) 41), (41, 0, op_il 1 42), (42, 0, op_b2 (ab_add2K) 43), (43, 0, op_ald 0 44), (44, 0, op_b2 (ab_sub2K) 45), (45, 0, op_is 2 46), (46, 0, op_al 0 47), (47, 0, op_gf 11 6 50)],
  [(50, 0, op_push (.inl (none, 103)) 52), (52, 0, op_il 1 53), (53, 0, op_b2 (ab_add2K) 54), (54, 0, op_dup2 55), (55, 0, op_ald 0 56), (56, 0, op_il 2 57), (57, 0, op_if 5 73 60), (60, 0, op_il 2 61), (61, 0, op_al 0 62), (62, 0, op_gf 11 6 65)],
  [(65, 0, op_push (.inl (none, 3)) 66), (66, 0, op_ald 0 67), (67, 0, op_call 0 124 2 0 0 0 0 70), (70, 0, op_goto 85), (73, 0, op_il 2 74), (74, 0, op_ineg 75), (75, 0, op_al 0 76), (76, 0, op_gf 11 6 79), (79, 0, op_push (.inl (none, 3)) 80)],
  [(80, 0, op_ald 0 81), (81, 0, op_call 0 124 2 0 0 0 0 84), (84, 0, op_ineg 85), (85, 0, op_b2 (ab_add2K) 86), (86, 0, op_astK 87), (87, 0, op_inc 1 1 90), (90, 0, op_goto 2), (93, 2, op_goto 0)]]
noncomputable def tb_X11_comesNearer : ab_tab := [[(0, 0, op_al 0 1), (1, 0, op_il 1 2), (2, 0, op_call 13 127 2 0 0 0 0 5), (5, 0, op_if 1 16 8), (8, 0, op_al 0 9), (9, 0, op_il 1 10), (10, 0, op_call 13 43 2 0 0 0 0 13), (13, 0, op_if 0 18 16)],
  [(16, 0, op_push (.inl (none, 0)) 17), (17, 1, op_goto 0), (18, 0, op_al 0 19), (19, 0, op_il 1 20), (20, 0, op_call 13 133 2 0 0 0 0 23), (23, 0, op_is 2 24), (24, 0, op_il 2 25), (25, 0, op_if 0 46 28), (28, 0, op_al 0 29), (29, 0, op_gf 11 24 32)],
  [(32, 0, op_il 2 33), (33, 0, op_push (.inl (none, 1)) 34), (34, 0, op_b2 (ab_sub2K) 35), (35, 0, op_push (.inl (none, 2)) 36), (36, 0, op_div 37), (37, 0, op_ald 0 38), (38, 0, op_al 0 39), (39, 0, op_il 1 40), (40, 0, op_call 13 22 2 0 0 0 0 43), (43, 0, op_icmp 1 48 46), (46, 0, op_push (.inl (none, 0)) 47), (47, 1, op_goto 0)],
  [(48, 0, op_al 0 49), (49, 0, op_il 1 50), (50, 0, op_call 13 22 2 0 0 0 0 53), (53, 0, op_al 0 54), (54, 0, op_gf 11 24 57), (57, 0, op_il 2 58), (58, 0, op_push (.inl (none, 1)) 59), (59, 0, op_b2 (ab_sub2K) 60), (60, 0, op_push (.inl (none, 2)) 61), (61, 0, op_div 62), (62, 0, op_ald 0 63), (63, 0, op_icmp 5 70 66)],
  [(66, 0, op_push (.inl (none, 1)) 67), (67, 0, op_goto 71), (70, 0, op_push (.inl (none, (-1))) 71), (71, 0, op_is 3 72), (72, 0, op_al 0 73), (73, 0, op_gf 11 6 76), (76, 0, op_push (.inl (none, 103)) 78), (78, 0, op_il 1 79), (79, 0, op_b2 (ab_add2K) 80)],
  [(80, 0, op_ald 0 81), (81, 0, op_il 3 82), (82, 0, op_b2 (ab_add2K) 83), (83, 0, op_call 0 37 1 0 0 0 0 86), (86, 0, op_push (.inl (none, 30)) 88), (88, 0, op_icmp 5 93 91), (91, 0, op_push (.inl (none, 0)) 92), (92, 1, op_goto 0), (93, 0, op_al 0 94), (94, 0, op_gf 11 6 97)],
  [(97, 0, op_push (.inl (none, 103)) 99), (99, 0, op_il 1 100), (100, 0, op_b2 (ab_add2K) 101), (101, 0, op_dup2 102), (102, 0, op_ald 0 103), (103, 0, op_il 3 104), (104, 0, op_b2 (ab_add2K) 105), (105, 0, op_astK 106), (106, 0, op_push (.inl (none, 1)) 107), (107, 1, op_goto 0)]]
noncomputable def tb_X11_bookLine : ab_tab := [[(0, 0, op_push (.inl (none, 3)) 1), (1, 0, op_al 0 2), (2, 0, op_gf 11 38 5), (5, 0, op_mulF 6), (6, 0, op_is 1 7), (7, 0, op_al 0 8), (8, 0, op_lfr 11), (11, 0, op_call 13 19 2 0 0 0 0 14), (14, 0, op_if 0 21 17)],
  [(17, 0, op_push (.inl (none, 0)) 18), (18, 0, op_goto 78), (21, 0, op_al 0 22), (22, 0, op_lfr 25), (25, 0, op_call 13 19 2 0 0 0 0 28), (28, 0, op_if 0 35 31), (31, 0, op_push (.inl (none, 1)) 32)],
  [(32, 0, op_goto 78), (35, 0, op_al 0 36), (36, 0, op_lfr 39), (39, 0, op_call 13 19 2 0 0 0 0 42), (42, 0, op_if 0 49 45), (45, 0, op_push (.inl (none, 2)) 46), (46, 0, op_goto 78)],
  [(49, 0, op_al 0 50), (50, 0, op_lfr 53), (53, 0, op_call 13 19 2 0 0 0 0 56), (56, 0, op_if 0 63 59), (59, 0, op_push (.inl (none, 3)) 60), (60, 0, op_goto 78), (63, 0, op_al 0 64)],
  [(64, 0, op_lfr 67), (67, 0, op_call 13 19 2 0 0 0 0 70), (70, 0, op_if 0 77 73), (73, 0, op_push (.inl (none, 4)) 74), (74, 0, op_goto 78), (77, 0, op_push (.inl (none, (-1))) 78), (78, 0, op_is 2 79), (79, 0, op_il 2 80)],
  [(80, 0, op_if 3 89 83), (83, 0, op_al 0 84), (84, 0, op_push (.inl (none, 1)) 85), (85, 0, op_call 13 5 2 0 0 0 0 88), (88, 1, op_goto 0), (89, 0, op_al 0 90), (90, 0, op_gf 11 38 93), (93, 0, op_push (.inl (none, 40)) 95), (95, 0, op_icmp 1 104 98)],
  [(98, 0, op_al 0 99), (99, 0, op_push (.inl (none, 4)) 100), (100, 0, op_call 13 5 2 0 0 0 0 103), (103, 1, op_goto 0), (104, 0, op_al 0 105), (105, 0, op_call 13 13 1 0 0 0 0 108), (108, 0, op_al 0 109), (109, 0, op_gf 11 8 112)],
  [(112, 0, op_il 1 113), (113, 0, op_il 2 114), (114, 0, op_astL 115), (115, 0, op_il 2 116), (116, 0, op_push (.inl (none, 3)) 117), (117, 0, op_icmp 1 122 120), (120, 0, op_push (.inl (none, 1)) 121), (121, 1, op_goto 0), (122, 0, op_il 2 123), (123, 0, op_push (.inl (none, 4)) 124), (124, 0, op_icmp 1 140 127), (127, 0, op_al 0 128)],
  [(128, 0, op_push (.inl (none, 1)) 129), (129, 0, op_push (.inl (none, 60)) 131), (131, 0, op_call 13 45 3 0 0 0 0 134), (134, 0, op_if 1 156 137), (137, 0, op_goto 154), (140, 0, op_al 0 141), (141, 0, op_push (.inl (none, 0)) 142), (142, 0, op_al 0 143), (143, 0, op_gf 11 6 146)],
  [(146, 0, op_push (.inl (none, 0)) 147), (147, 0, op_ald 0 148), (148, 0, op_call 13 101 3 0 0 0 0 151), (151, 0, op_if 1 156 154), (154, 0, op_push (.inl (none, 0)) 155), (155, 1, op_goto 0), (156, 0, op_al 0 157), (157, 0, op_gf 11 8 160)],
  [(160, 0, op_il 1 161), (161, 0, op_push (.inl (none, 1)) 162), (162, 0, op_b2 (ab_add2K) 163), (163, 0, op_al 0 164), (164, 0, op_gf 11 18 167), (167, 0, op_astL 168), (168, 0, op_il 2 169), (169, 0, op_if 5 174 172), (172, 0, op_push (.inl (none, 1)) 173), (173, 1, op_goto 0), (174, 0, op_al 0 175), (175, 0, op_push (.inl (none, 1)) 176)],
  [(176, 0, op_push (.inl (none, 10)) 178), (178, 0, op_call 13 126 3 0 0 0 0 181), (181, 0, op_if 1 186 184), (184, 0, op_push (.inl (none, 0)) 185), (185, 1, op_goto 0), (186, 0, op_al 0 187), (187, 0, op_gf 11 8 190), (190, 0, op_il 1 191), (191, 0, op_push (.inl (none, 2)) 192)],
  [(192, 0, op_b2 (ab_add2K) 193), (193, 0, op_al 0 194), (194, 0, op_gf 11 18 197), (197, 0, op_astL 198), (198, 0, op_push (.inl (none, 1)) 199), (199, 1, op_goto 0)]]
noncomputable def tb_X11_leafOf : ab_tab := [[(0, 0, op_al 0 1), (1, 0, op_lfr 4), (4, 0, op_call 13 19 2 0 0 0 0 7), (7, 0, op_if 0 14 10), (10, 0, op_push (.inl (none, 0)) 11), (11, 0, op_goto 115), (14, 0, op_al 0 15), (15, 0, op_lfr 18)],
  [(18, 0, op_call 13 19 2 0 0 0 0 21), (21, 0, op_if 0 28 24), (24, 0, op_push (.inl (none, 1)) 25), (25, 0, op_goto 115), (28, 0, op_al 0 29), (29, 0, op_lfr 32)],
  [(32, 0, op_call 13 19 2 0 0 0 0 35), (35, 0, op_if 0 42 38), (38, 0, op_push (.inl (none, 2)) 39), (39, 0, op_goto 115), (42, 0, op_al 0 43), (43, 0, op_lfr 46), (46, 0, op_call 13 19 2 0 0 0 0 49)],
  [(49, 0, op_if 0 56 52), (52, 0, op_push (.inl (none, 3)) 53), (53, 0, op_goto 115), (56, 0, op_al 0 57), (57, 0, op_lfr 60), (60, 0, op_call 13 19 2 0 0 0 0 63), (63, 0, op_if 0 70 66)],
  [(66, 0, op_push (.inl (none, 4)) 67), (67, 0, op_goto 115), (70, 0, op_al 0 71), (71, 0, op_lfr 74), (74, 0, op_call 13 19 2 0 0 0 0 77), (77, 0, op_if 0 84 80)],
  [(80, 0, op_push (.inl (none, 5)) 81), (81, 0, op_goto 115), (84, 0, op_al 0 85), (85, 0, op_lfr 88), (88, 0, op_call 13 19 2 0 0 0 0 91), (91, 0, op_if 0 99 94), (94, 0, op_push (.inl (none, 6)) 96)],
  [(96, 0, op_goto 115), (99, 0, op_al 0 100), (100, 0, op_lfr 103), (103, 0, op_call 13 19 2 0 0 0 0 106), (106, 0, op_if 0 114 109), (109, 0, op_push (.inl (none, 7)) 111), (111, 0, op_goto 115)],
  [(114, 0, op_push (.inl (none, (-1))) 115), (115, 1, op_goto 0)]]
noncomputable def tb_X11_operand : ab_tab := [[(0, 0, op_al 0 1), (1, 0, op_lfr 4), (4, 0, op_call 13 19 2 0 0 0 0 7), (7, 0, op_is 1 8), (8, 0, op_al 0 9), (9, 0, op_push (.inl (none, 40)) 11), (11, 0, op_call 13 33 2 0 0 0 0 14), (14, 0, op_is 2 15), (15, 0, op_al 0 16)],
  [(16, 0, op_call 13 157 1 0 0 0 0 19), (19, 0, op_is 3 20), (20, 0, op_il 1 21), (21, 0, op_if 1 38 24), (24, 0, op_il 2 25), (25, 0, op_if 1 38 28), (28, 0, op_il 3 29), (29, 0, op_if 3 38 32)],
  [(32, 0, op_al 0 33), (33, 0, op_push (.inl (none, 1)) 34), (34, 0, op_call 13 5 2 0 0 0 0 37), (37, 1, op_goto 0), (38, 0, op_al 0 39), (39, 0, op_gf 11 43 42), (42, 0, op_push (.inl (none, 20)) 44), (44, 0, op_icmp 0 56 47), (47, 0, op_al 0 48)],
  [(48, 0, op_gf 11 45 51), (51, 0, op_push (.inl (none, 8)) 53), (53, 0, op_icmp 5 62 56), (56, 0, op_al 0 57), (57, 0, op_push (.inl (none, 4)) 58), (58, 0, op_call 13 5 2 0 0 0 0 61), (61, 1, op_goto 0), (62, 0, op_al 0 63), (63, 0, op_dup 64)],
  [(64, 0, op_gf 11 43 67), (67, 0, op_push (.inl (none, 1)) 68), (68, 0, op_b2 (ab_add2K) 69), (69, 0, op_pf (tyX11 43) 11 43 72), (72, 0, op_al 0 73), (73, 0, op_call 13 13 1 0 0 0 0 76), (76, 0, op_il 1 77), (77, 0, op_if 1 84 80)],
  [(80, 0, op_il 2 81), (81, 0, op_if 0 126 84), (84, 0, op_al 0 85), (85, 0, op_gf 11 41 88), (88, 0, op_al 0 89), (89, 0, op_gf 11 44 92), (92, 0, op_il 1 93), (93, 0, op_if 0 101 96)],
  [(96, 0, op_push (.inl (none, 20)) 98), (98, 0, op_goto 103), (101, 0, op_push (.inl (none, 23)) 103), (103, 0, op_astK 104), (104, 0, op_al 0 105), (105, 0, op_dup 106), (106, 0, op_gf 11 44 109), (109, 0, op_push (.inl (none, 1)) 110), (110, 0, op_b2 (ab_add2K) 111), (111, 0, op_pf (tyX11 44) 11 44 114)],
  [(114, 0, op_pre (pr_sP 6 162) (op_al 0 115)), (115, 0, op_dup 116), (116, 0, op_gf 11 45 119), (119, 0, op_push (.inl (none, 1)) 120), (120, 0, op_b2 (ab_add2K) 121), (121, 0, op_pf (tyX11 45) 11 45 124), (124, 0, op_push (.inl (none, 1)) 125), (125, 1, op_goto 0), (126, 0, op_al 0 127), (127, 0, op_push (.inl (none, 1)) 128)],
  [(128, 0, op_pf (tyX11 46) 11 46 131), (131, 0, op_il 3 132), (132, 0, op_push (.inl (none, 3)) 133), (133, 0, op_icmp 3 145 136), (136, 0, op_al 0 137), (137, 0, op_il 3 138), (138, 0, op_push (.inl (none, 0)) 139), (139, 0, op_push (.inl (none, 0)) 140), (140, 0, op_call 13 99 4 0 0 0 0 143), (143, 0, op_push (.inl (none, 1)) 144)],
  [(144, 1, op_goto 0), (145, 0, op_il 3 146), (146, 0, op_push (.inl (none, 3)) 147), (147, 0, op_icmp 1 182 150), (150, 0, op_al 0 151), (151, 0, op_push (.inl (none, 0)) 152), (152, 0, op_al 0 153), (153, 0, op_gf 11 6 156), (156, 0, op_push (.inl (none, 0)) 157), (157, 0, op_ald 0 158), (158, 0, op_call 13 92 3 0 0 0 0 161)],
  [(161, 0, op_if 1 166 164), (164, 0, op_push (.inl (none, 0)) 165), (165, 1, op_goto 0), (166, 0, op_al 0 167), (167, 0, op_il 3 168), (168, 0, op_push (.inl (none, 0)) 169), (169, 0, op_al 0 170), (170, 0, op_gf 11 18 173), (173, 0, op_call 13 99 4 0 0 0 0 176)],
  [(176, 0, op_al 0 177), (177, 0, op_call 13 13 1 0 0 0 0 180), (180, 0, op_push (.inl (none, 1)) 181), (181, 1, op_goto 0), (182, 0, op_al 0 183), (183, 0, op_gf 11 11 186), (186, 0, op_push (.inl (none, 3)) 187), (187, 0, op_icmp 1 208 190), (190, 0, op_al 0 191), (191, 0, op_gf 11 14 194)],
  [(194, 0, op_push (.inl (none, 60)) 196), (196, 0, op_icmp 2 208 199), (199, 0, op_al 0 200), (200, 0, op_gf 11 14 203), (203, 0, op_push (.inl (none, 62)) 205), (205, 0, op_icmp 5 214 208)],
  [(208, 0, op_al 0 209), (209, 0, op_push (.inl (none, 1)) 210), (210, 0, op_call 13 5 2 0 0 0 0 213), (213, 1, op_goto 0), (214, 0, op_al 0 215), (215, 0, op_gf 11 14 218), (218, 0, op_is 4 220), (220, 0, op_al 0 221), (221, 0, op_call 13 13 1 0 0 0 0 224)],
  [(224, 0, op_al 0 225), (225, 0, op_gf 11 11 228), (228, 0, op_push (.inl (none, 2)) 229), (229, 0, op_icmp 0 238 232), (232, 0, op_al 0 233), (233, 0, op_push (.inl (none, 1)) 234), (234, 0, op_call 13 5 2 0 0 0 0 237), (237, 1, op_goto 0), (238, 0, op_al 0 239), (239, 0, op_il 3 240)],
  [(240, 0, op_il 4 242), (242, 0, op_al 0 243), (243, 0, op_gf 11 14 246), (246, 0, op_call 13 99 4 0 0 0 0 249), (249, 0, op_al 0 250), (250, 0, op_call 13 13 1 0 0 0 0 253), (253, 0, op_push (.inl (none, 1)) 254), (254, 1, op_goto 0)]]
noncomputable def tb_X11_behind : ab_tab := [[(0, 0, op_al 0 1), (1, 0, op_call 13 150 1 0 0 0 0 4), (4, 0, op_al 0 5), (5, 0, op_lfr 8), (8, 0, op_call 13 19 2 0 0 0 0 11), (11, 0, op_if 1 24 14), (14, 0, op_al 0 15), (15, 0, op_lfr 18)],
  [(18, 0, op_call 13 19 2 0 0 0 0 21), (21, 0, op_if 0 92 24), (24, 0, op_al 0 25), (25, 0, op_al 0 26), (26, 0, op_lfr 29), (29, 0, op_call 13 19 2 0 0 0 0 32)],
  [(32, 0, op_if 0 40 35), (35, 0, op_push (.inl (none, 21)) 37), (37, 0, op_goto 42), (40, 0, op_push (.inl (none, 22)) 42), (42, 0, op_pre (pr_add [(1, 0, 44), (1, 0, 44)] [1, (-1)] 0) (op_call 13 100 2 0 0 0 0 45)), (45, 0, op_al 0 46), (46, 0, op_gf 11 41 49)],
  [(49, 0, op_al 0 50), (50, 0, op_gf 11 44 53), (53, 0, op_al 0 54), (54, 0, op_lfr 57), (57, 0, op_call 13 19 2 0 0 0 0 60), (60, 0, op_if 0 68 63), (63, 0, op_push (.inl (none, 21)) 65)],
  [(65, 0, op_goto 70), (68, 0, op_push (.inl (none, 22)) 70), (70, 0, op_astK 71), (71, 0, op_al 0 72), (72, 0, op_dup 73), (73, 0, op_gf 11 44 76), (76, 0, op_push (.inl (none, 1)) 77), (77, 0, op_b2 (ab_add2K) 78), (78, 0, op_pf (tyX11 44) 11 44 81)],
  [(81, 0, op_pre (pr_sP 6 162) (op_al 0 82)), (82, 0, op_push (.inl (none, 0)) 83), (83, 0, op_pf (tyX11 46) 11 46 86), (86, 0, op_pre (pr_add2 [(3, 1, 0), (1, 0, 44)] [1, (-1)] 1) (op_al 0 87)), (87, 0, op_call 13 13 1 0 0 0 0 90), (90, 0, op_push (.inl (none, 1)) 91), (91, 1, op_goto 0), (92, 0, op_al 0 93), (93, 0, op_push (.inl (none, 22)) 95), (95, 0, op_pre (pr_add [(1, 0, 44), (1, 0, 44)] [1, (-1)] 0) (op_call 13 100 2 0 0 0 0 98))],
  [(98, 0, op_al 0 99), (99, 0, op_push (.inl (none, 41)) 101), (101, 0, op_call 13 33 2 0 0 0 0 104), (104, 0, op_if 0 114 107), (107, 0, op_al 0 108), (108, 0, op_gf 11 44 111), (111, 0, op_if 1 120 114)],
  [(114, 0, op_al 0 115), (115, 0, op_push (.inl (none, 1)) 116), (116, 0, op_call 13 5 2 0 0 0 0 119), (119, 1, op_goto 0), (120, 0, op_al 0 121), (121, 0, op_dup 122), (122, 0, op_gf 11 44 125), (125, 0, op_push (.inl (none, 1)) 126), (126, 0, op_b2 (ab_sub2K) 127), (127, 0, op_pf (tyX11 44) 11 44 130)],
  [(130, 0, op_pre (pr_sD 6 162) (op_al 0 131)), (131, 0, op_dup 132), (132, 0, op_gf 11 45 135), (135, 0, op_push (.inl (none, 1)) 136), (136, 0, op_b2 (ab_sub2K) 137), (137, 0, op_pf (tyX11 45) 11 45 140), (140, 0, op_pre (pr_add2 [(3, 1, 0), (1, 0, 44)] [1, (-1)] (-1)) (op_al 0 141)), (141, 0, op_call 13 13 1 0 0 0 0 144)],
  [(144, 0, op_push (.inl (none, 1)) 145), (145, 1, op_goto 0)]]
noncomputable def tb_X11_isSaid : ab_tab := [[(0, 0, op_push (.inl (none, 0)) 1), (1, 0, op_is 2 2), (2, 0, op_push (.inl (none, 0)) 3), (3, 0, op_is 3 4), (4, 4, op_pre (pr_loc 3) (op_il 3 5)), (5, 0, op_al 0 6), (6, 0, op_gf 11 6 9), (9, 0, op_push (.inl (none, 124)) 11), (11, 0, op_ald 0 12), (12, 0, op_icmp 3 210 15), (15, 0, op_push (.inl (none, 125)) 17)],
  [(17, 0, op_push (.inl (none, 3)) 18), (18, 0, op_il 3 19), (19, 0, op_b2 (ab_mul2K) 20), (20, 0, op_b2 (ab_add2K) 21), (21, 0, op_is 4 23), (23, 0, op_al 0 24), (24, 0, op_gf 11 6 27), (27, 0, op_il 4 29), (29, 0, op_ald 0 30), (30, 0, op_pre (pr_rU 1 124 3 2) (op_push (.inl (none, 20)) 32))],
  [(32, 0, op_icmp 1 62 35), (35, 0, op_al 0 36), (36, 0, op_gf 11 47 39), (39, 0, op_il 2 40), (40, 0, op_push (.inl (none, 1)) 41), (41, 0, op_b2 (ab_sub2K) 42), (42, 0, op_al 0 43), (43, 0, op_gf 11 47 46), (46, 0, op_il 2 47), (47, 0, op_push (.inl (none, 1)) 48)],
  [(48, 0, op_b2 (ab_sub2K) 49), (49, 0, op_ald 3 50), (50, 0, op_if 1 57 53), (53, 0, op_push (.inl (none, 1)) 54), (54, 0, op_goto 58), (57, 0, op_push (.inl (none, 0)) 58), (58, 0, op_ast 3 59), (59, 0, op_goto 204), (62, 0, op_al 0 63), (63, 0, op_gf 11 6 66)],
  [(66, 0, op_il 4 68), (68, 0, op_ald 0 69), (69, 0, op_push (.inl (none, 21)) 71), (71, 0, op_icmp 0 86 74), (74, 0, op_al 0 75), (75, 0, op_gf 11 6 78), (78, 0, op_il 4 80)],
  [(80, 0, op_ald 0 81), (81, 0, op_push (.inl (none, 22)) 83), (83, 0, op_icmp 1 165 86), (86, 0, op_inc 2 (-1) 89), (89, 0, op_al 0 90), (90, 0, op_gf 11 47 93), (93, 0, op_il 2 94), (94, 0, op_push (.inl (none, 1)) 95), (95, 0, op_b2 (ab_sub2K) 96)],
  [(96, 0, op_al 0 97), (97, 0, op_gf 11 6 100), (100, 0, op_il 4 102), (102, 0, op_ald 0 103), (103, 0, op_push (.inl (none, 21)) 105), (105, 0, op_icmp 1 136 108), (108, 0, op_al 0 109), (109, 0, op_gf 11 47 112)],
  [(112, 0, op_il 2 113), (113, 0, op_push (.inl (none, 1)) 114), (114, 0, op_b2 (ab_sub2K) 115), (115, 0, op_ald 3 116), (116, 0, op_if 0 132 119), (119, 0, op_al 0 120), (120, 0, op_gf 11 47 123), (123, 0, op_il 2 124), (124, 0, op_ald 3 125), (125, 0, op_if 0 132 128)],
  [(128, 0, op_push (.inl (none, 1)) 129), (129, 0, op_goto 161), (132, 0, op_push (.inl (none, 0)) 133), (133, 0, op_goto 161), (136, 0, op_al 0 137), (137, 0, op_gf 11 47 140), (140, 0, op_il 2 141), (141, 0, op_push (.inl (none, 1)) 142), (142, 0, op_b2 (ab_sub2K) 143), (143, 0, op_ald 3 144)],
  [(144, 0, op_if 1 156 147), (147, 0, op_al 0 148), (148, 0, op_gf 11 47 151), (151, 0, op_il 2 152), (152, 0, op_ald 3 153), (153, 0, op_if 0 160 156), (156, 0, op_push (.inl (none, 1)) 157), (157, 0, op_goto 161)],
  [(160, 0, op_push (.inl (none, 0)) 161), (161, 0, op_ast 3 162), (162, 0, op_goto 204), (165, 0, op_al 0 166), (166, 0, op_gf 11 47 169), (169, 0, op_il 2 170), (170, 0, op_al 0 171), (171, 0, op_il 1 172), (172, 0, op_al 0 173), (173, 0, op_gf 11 6 176)],
  [(176, 0, op_il 4 178), (178, 0, op_ald 0 179), (179, 0, op_al 0 180), (180, 0, op_gf 11 6 183), (183, 0, op_il 4 185), (185, 0, op_push (.inl (none, 1)) 186), (186, 0, op_b2 (ab_add2K) 187), (187, 0, op_ald 0 188), (188, 0, op_al 0 189), (189, 0, op_gf 11 6 192)],
  [(192, 0, op_il 4 194), (194, 0, op_push (.inl (none, 2)) 195), (195, 0, op_b2 (ab_add2K) 196), (196, 0, op_ald 0 197), (197, 0, op_pre (pr_rT 1 124 3) (op_call 13 11 5 0 0 0 0 200)), (200, 0, op_ast 3 201), (201, 0, op_inc 2 1 204), (204, 0, op_inc 3 1 207), (207, 0, op_goto 4)],
  [(210, 0, op_al 0 211), (211, 0, op_gf 11 47 214), (214, 0, op_push (.inl (none, 0)) 215), (215, 0, op_ald 3 216), (216, 1, op_goto 0)]]
noncomputable def tb_X0_init : ab_tab := [[(0, 0, op_al 0 1), (1, 0, op_oi 4), (4, 0, op_al 0 5), (5, 0, op_push (.inl (none, 40)) 7), (7, 0, op_na 0 (.inl (none, 0)) 3 120 9), (9, 0, op_pf (tyX0 0) 0 0 12), (12, 0, op_al 0 13), (13, 0, op_push (.inl (none, 40)) 15), (15, 0, op_na 0 (.inl (none, 0)) 3 120 17)],
  [(17, 0, op_pf (tyX0 1) 0 1 20), (20, 0, op_al 0 21), (21, 0, op_push (.inl (none, 40)) 23), (23, 0, op_na 0 (.inl (none, 0)) 3 120 25), (25, 0, op_pf (tyX0 2) 0 2 28), (28, 0, op_al 0 29), (29, 0, op_push (.inl (none, 0)) 30), (30, 0, op_pf (tyX0 3) 0 3 33)],
  [(33, 0, op_al 0 34), (34, 0, op_push (.inl (none, 0)) 35), (35, 0, op_pf (tyX0 4) 0 4 38), (38, 0, op_al 0 39), (39, 0, op_push (.inl (none, (-1))) 40), (40, 0, op_pf (tyX0 5) 0 5 43), (43, 0, op_al 0 44), (44, 0, op_push (.inl (none, 0)) 45), (45, 0, op_pf (tyX0 6) 0 6 48)],
  [(48, 0, op_al 0 49), (49, 0, op_push (.inl (none, 0)) 50), (50, 0, op_pf (tyX0 7) 0 7 53), (53, 0, op_al 0 54), (54, 0, op_push (.inl (none, 0)) 55), (55, 0, op_pf (tyX0 8) 0 8 58), (58, 0, op_al 0 59), (59, 0, op_push (.inl (none, 0)) 60), (60, 0, op_pf (tyX0 9) 0 9 63), (63, 2, op_goto 0)]]
noncomputable def tb_X1_init : ab_tab := [[(0, 0, op_al 0 1), (1, 0, op_oi 4), (4, 0, op_al 0 5), (5, 0, op_push (.inl (none, 8)) 7), (7, 0, op_na 11 (.inr (.inr (0, 0))) 33 232 10), (10, 0, op_pf (tyX1 0) 1 0 13), (13, 0, op_al 0 14), (14, 0, op_push (.inl (none, 0)) 15), (15, 0, op_pf (tyX1 1) 1 1 18)],
  [(18, 0, op_push (.inl (none, 0)) 19), (19, 0, op_is 1 20), (20, 0, op_il 1 21), (21, 0, op_push (.inl (none, 8)) 23), (23, 0, op_icmp 3 45 26), (26, 0, op_al 0 27), (27, 0, op_gf 1 0 30), (30, 0, op_il 1 31), (31, 0, op_new 7 7 fs_X7 33 232 34)],
  [(34, 0, op_dup 35), (35, 0, op_call 9 170 1 3 21 33 232 38), (38, 0, op_aast 7 39), (39, 0, op_inc 1 1 42), (42, 0, op_goto 20), (45, 2, op_goto 0)]]
noncomputable def tb_X2_init : ab_tab := [[(0, 0, op_al 0 1), (1, 0, op_oi 4), (4, 0, op_al 0 5), (5, 0, op_new 8 16 fs_X8 22 281 8), (8, 0, op_dup 9), (9, 0, op_call 10 171 1 13 112 22 281 12), (12, 0, op_pf (tyX2 0) 2 0 15), (15, 0, op_al 0 16)],
  [(16, 0, op_new 7 7 fs_X7 22 281 19), (19, 0, op_dup 20), (20, 0, op_call 9 170 1 3 21 22 281 23), (23, 0, op_pf (tyX2 1) 2 1 26), (26, 0, op_al 0 27), (27, 0, op_new 6 5 fs_X6 22 281 30), (30, 0, op_dup 31), (31, 0, op_call 8 169 1 3 120 22 281 34)],
  [(34, 0, op_pf (tyX2 2) 2 2 37), (37, 0, op_al 0 38), (38, 0, op_push (.inl (none, 0)) 39), (39, 0, op_pf (tyX2 3) 2 3 42), (42, 2, op_goto 0)]]
noncomputable def tb_X3_init : ab_tab := [[(0, 0, op_al 0 1), (1, 0, op_oi 4), (4, 0, op_al 0 5), (5, 0, op_push (.inl (none, 40)) 7), (7, 0, op_na 0 (.inl (none, 0)) 1 40 9), (9, 0, op_pf (tyX3 0) 3 0 12), (12, 0, op_al 0 13), (13, 0, op_push (.inl (none, 0)) 14), (14, 0, op_pf (tyX3 1) 3 1 17)],
  [(17, 2, op_goto 0)]]
noncomputable def tb_X4_init : ab_tab := [[(0, 0, op_al 0 1), (1, 0, op_oi 4), (4, 0, op_al 0 5), (5, 0, op_push (.inl (none, 940)) 8), (8, 0, op_na 0 (.inl (none, 0)) 2 962 10), (10, 0, op_pf (tyX4 0) 4 0 13), (13, 0, op_al 0 14), (14, 0, op_push (.inl (none, 0)) 15), (15, 0, op_pf (tyX4 1) 4 1 18)],
  [(18, 0, op_al 0 19), (19, 0, op_push (.inl (none, 0)) 20), (20, 0, op_pf (tyX4 2) 4 2 23), (23, 0, op_al 0 24), (24, 0, op_push (.inl (none, 0)) 25), (25, 0, op_pf (tyX4 3) 4 3 28), (28, 0, op_al 0 29), (29, 0, op_push (.inl (none, 0)) 30), (30, 0, op_pf (tyX4 4) 4 4 33)],
  [(33, 0, op_al 0 34), (34, 0, op_push (.inl (none, 0)) 35), (35, 0, op_pf (tyX4 5) 4 5 38), (38, 0, op_al 0 39), (39, 0, op_push (.inr (.inl (.inl (none, 0)))) 40), (40, 0, op_pf (tyX4 6) 4 6 43), (43, 0, op_al 0 44), (44, 0, op_push (.inl (none, 0)) 45), (45, 0, op_pf (tyX4 7) 4 7 48)],
  [(48, 0, op_al 0 49), (49, 0, op_push (.inl (none, (-1))) 50), (50, 0, op_pf (tyX4 8) 4 8 53), (53, 0, op_al 0 54), (54, 0, op_push (.inl (none, 0)) 55), (55, 0, op_pf (tyX4 9) 4 9 58), (58, 0, op_al 0 59), (59, 0, op_push (.inr (.inl (.inl (none, 0)))) 60), (60, 0, op_pf (tyX4 10) 4 10 63), (63, 0, op_al 0 64)],
  [(64, 0, op_push (.inl (none, 1)) 65), (65, 0, op_pf (tyX4 11) 4 11 68), (68, 0, op_al 0 69), (69, 0, op_push (.inl (none, 0)) 70), (70, 0, op_pf (tyX4 12) 4 12 73), (73, 0, op_al 0 74), (74, 0, op_push (.inl (none, 0)) 75), (75, 0, op_pf (tyX4 13) 4 13 78), (78, 0, op_al 0 79), (79, 0, op_push (.inl (none, 22)) 81)],
  [(81, 0, op_na 1 (.inr (.inl (.inl (none, 0)))) 2 962 83), (83, 0, op_pf (tyX4 14) 4 14 86), (86, 0, op_push (.inl (none, 0)) 87), (87, 0, op_is 1 88), (88, 0, op_push (.inl (none, 0)) 89), (89, 0, op_is 2 90), (90, 0, op_il 2 91), (91, 0, op_push (.inr (.inr (3, 0))) 93), (93, 0, op_call 1 103 1 0 0 2 962 96)],
  [(96, 0, op_icmp 3 154 99), (99, 0, op_il 1 100), (100, 0, op_al 0 101), (101, 0, op_gf 4 14 104), (104, 0, op_len 105), (105, 0, op_icmp 3 154 108), (108, 0, op_push (.inr (.inr (3, 0))) 110), (110, 0, op_il 2 111), (111, 0, op_call 1 104 2 0 0 2 962 114)],
  [(114, 0, op_push (.inl (none, 32)) 116), (116, 0, op_icmp 1 125 119), (119, 0, op_inc 1 1 122), (122, 0, op_goto 148), (125, 0, op_al 0 126), (126, 0, op_gf 4 14 129)],
  [(129, 0, op_il 1 130), (130, 0, op_al 0 131), (131, 0, op_gf 4 14 134), (134, 0, op_il 1 135), (135, 0, op_laldC 136), (136, 0, op_push (.inl (none, 8)) 138), (138, 0, op_lshlC 139), (139, 0, op_push (.inr (.inr (3, 0))) 141), (141, 0, op_il 2 142), (142, 0, op_call 1 104 2 0 0 2 962 145)],
  [(145, 0, op_i2l 146), (146, 0, op_lorC 147), (147, 0, op_lastC 148), (148, 0, op_inc 2 1 151), (151, 0, op_goto 90), (154, 2, op_goto 0)]]
noncomputable def tb_X4_put : ab_tab := [[(0, 0, op_push (.inl (none, 24)) 2), (2, 0, op_is 2 3), (3, 0, op_il 2 4), (4, 0, op_if 2 51 7), (7, 0, op_al 0 8), (8, 0, op_gf 4 1 11), (11, 0, op_al 0 12), (12, 0, op_gf 4 0 15), (15, 0, op_len 16)],
  [(16, 0, op_icmp 3 45 19), (19, 0, op_al 0 20), (20, 0, op_gf 4 0 23), (23, 0, op_al 0 24), (24, 0, op_gf 4 1 27), (27, 0, op_il 1 28), (28, 0, op_il 2 29), (29, 0, op_b2 (ab_binK (fun u v => (u.toUInt32 >>> (v.toUInt32 &&& Int32.toUInt32 31)).toInt32)) 30), (30, 0, op_push (.inl (none, 255)) 33)],
  [(33, 0, op_b2 (ab_an8K) 34), (34, 0, op_ast 0 35), (35, 0, op_al 0 36), (36, 0, op_dup 37), (37, 0, op_gf 4 1 40), (40, 0, op_push (.inl (none, 1)) 41), (41, 0, op_b2 (ab_add2K) 42), (42, 0, op_pf (tyX4 1) 4 1 45), (45, 0, op_inc 2 (-8) 48)],
  [(48, 0, op_goto 3), (51, 2, op_goto 0)]]
noncomputable def tb_X5_init : ab_tab := [[(0, 0, op_al 0 1), (1, 0, op_oi 4), (4, 0, op_al 0 5), (5, 0, op_push (.inl (none, 8)) 7), (7, 0, op_na 0 (.inl (none, 0)) 2 16 9), (9, 0, op_pf (tyX5 0) 5 0 12), (12, 0, op_al 0 13), (13, 0, op_push (.inl (none, 8)) 15), (15, 0, op_na 0 (.inl (none, 0)) 2 16 17)],
  [(17, 0, op_pf (tyX5 1) 5 1 20), (20, 0, op_al 0 21), (21, 0, op_push (.inl (none, 0)) 22), (22, 0, op_pf (tyX5 2) 5 2 25), (25, 0, op_al 0 26), (26, 0, op_push (.inl (none, (-1))) 27), (27, 0, op_pf (tyX5 3) 5 3 30), (30, 0, op_al 0 31), (31, 0, op_push (.inl (none, (-1))) 32)],
  [(32, 0, op_pf (tyX5 4) 5 4 35), (35, 2, op_goto 0)]]
noncomputable def tb_X5_find : ab_tab := [[(0, 0, op_al 0 1), (1, 0, op_push (.inl (none, (-1))) 2), (2, 0, op_pf (tyX5 3) 5 3 5), (5, 0, op_al 0 6), (6, 0, op_il 4 8), (8, 0, op_pf (tyX5 4) 5 4 11), (11, 0, op_al 0 12), (12, 0, op_al 1 13), (13, 0, op_al 2 14), (14, 0, op_il 3 15), (15, 0, op_il 5 17)],
  [(17, 0, op_push (.inl (none, 0)) 18), (18, 0, op_call 7 41 6 0 0 0 0 21), (21, 0, op_al 0 22), (22, 0, op_gf 5 3 25), (25, 1, op_goto 0)]]
noncomputable def tb_X6_init : ab_tab := [[(0, 0, op_al 0 1), (1, 0, op_oi 4), (4, 0, op_al 0 5), (5, 0, op_push (.inl (none, 40)) 7), (7, 0, op_na 0 (.inl (none, 0)) 3 120 9), (9, 0, op_pf (tyX6 0) 6 0 12), (12, 0, op_al 0 13), (13, 0, op_push (.inl (none, 40)) 15), (15, 0, op_na 0 (.inl (none, 0)) 3 120 17)],
  [(17, 0, op_pf (tyX6 1) 6 1 20), (20, 0, op_al 0 21), (21, 0, op_push (.inl (none, 40)) 23), (23, 0, op_na 0 (.inl (none, 0)) 3 120 25), (25, 0, op_pf (tyX6 2) 6 2 28), (28, 0, op_al 0 29), (29, 0, op_push (.inl (none, 0)) 30), (30, 0, op_pf (tyX6 3) 6 3 33)],
  [(33, 0, op_al 0 34), (34, 0, op_push (.inl (none, 0)) 35), (35, 0, op_pf (tyX6 4) 6 4 38), (38, 2, op_goto 0)]]
noncomputable def tb_X7_init : ab_tab := [[(0, 0, op_al 0 1), (1, 0, op_oi 4), (4, 0, op_al 0 5), (5, 0, op_push (.inl (none, 0)) 6), (6, 0, op_pf (tyX7 0) 7 0 9), (9, 0, op_al 0 10), (10, 0, op_push (.inl (none, 0)) 11), (11, 0, op_pf (tyX7 1) 7 1 14), (14, 0, op_al 0 15), (15, 0, op_push (.inl (none, 0)) 16)],
  [(16, 0, op_pf (tyX7 2) 7 2 19), (19, 0, op_al 0 20), (20, 0, op_push (.inl (none, 7)) 22), (22, 0, op_na 0 (.inl (none, 0)) 3 21 24), (24, 0, op_pf (tyX7 3) 7 3 27), (27, 0, op_al 0 28), (28, 0, op_push (.inl (none, 7)) 30), (30, 0, op_na 0 (.inl (none, 0)) 3 21 32)],
  [(32, 0, op_pf (tyX7 4) 7 4 35), (35, 0, op_al 0 36), (36, 0, op_push (.inl (none, 7)) 38), (38, 0, op_na 0 (.inl (none, 0)) 3 21 40), (40, 0, op_pf (tyX7 5) 7 5 43), (43, 0, op_al 0 44), (44, 0, op_push (.inl (none, 0)) 45), (45, 0, op_pf (tyX7 6) 7 6 48)],
  [(48, 2, op_goto 0)]]
noncomputable def tb_X8_init : ab_tab := [[(0, 0, op_al 0 1), (1, 0, op_oi 4), (4, 0, op_al 0 5), (5, 0, op_push (.inl (none, 0)) 6), (6, 0, op_pf (tyX8 0) 8 0 9), (9, 0, op_al 0 10), (10, 0, op_push (.inl (none, 7)) 12), (12, 0, op_na 1 (.inr (.inl (.inl (none, 0)))) 13 112 14), (14, 0, op_pf (tyX8 1) 8 1 17)],
  [(17, 0, op_al 0 18), (18, 0, op_push (.inl (none, 7)) 20), (20, 0, op_na 0 (.inl (none, 0)) 13 112 22), (22, 0, op_pf (tyX8 2) 8 2 25), (25, 0, op_al 0 26), (26, 0, op_push (.inl (none, 7)) 28), (28, 0, op_na 0 (.inl (none, 0)) 13 112 30), (30, 0, op_pf (tyX8 3) 8 3 33)],
  [(33, 0, op_al 0 34), (34, 0, op_push (.inl (none, 0)) 35), (35, 0, op_pf (tyX8 4) 8 4 38), (38, 0, op_al 0 39), (39, 0, op_push (.inl (none, 12)) 41), (41, 0, op_na 0 (.inl (none, 0)) 13 112 43), (43, 0, op_pf (tyX8 5) 8 5 46), (46, 0, op_al 0 47), (47, 0, op_push (.inl (none, 12)) 49)],
  [(49, 0, op_na 0 (.inl (none, 0)) 13 112 51), (51, 0, op_pf (tyX8 6) 8 6 54), (54, 0, op_al 0 55), (55, 0, op_push (.inl (none, 12)) 57), (57, 0, op_na 0 (.inl (none, 0)) 13 112 59), (59, 0, op_pf (tyX8 7) 8 7 62), (62, 0, op_al 0 63), (63, 0, op_push (.inl (none, 12)) 65)],
  [(65, 0, op_na 0 (.inl (none, 0)) 13 112 67), (67, 0, op_pf (tyX8 8) 8 8 70), (70, 0, op_al 0 71), (71, 0, op_push (.inl (none, 0)) 72), (72, 0, op_pf (tyX8 9) 8 9 75), (75, 0, op_al 0 76), (76, 0, op_push (.inl (none, 8)) 78), (78, 0, op_na 1 (.inr (.inl (.inl (none, 0)))) 13 112 80)],
  [(80, 0, op_pf (tyX8 10) 8 10 83), (83, 0, op_al 0 84), (84, 0, op_push (.inl (none, 8)) 86), (86, 0, op_na 0 (.inl (none, 0)) 13 112 88), (88, 0, op_pf (tyX8 11) 8 11 91), (91, 0, op_al 0 92), (92, 0, op_push (.inl (none, 8)) 94), (94, 0, op_na 0 (.inl (none, 0)) 13 112 96)],
  [(96, 0, op_pf (tyX8 12) 8 12 99), (99, 0, op_al 0 100), (100, 0, op_push (.inl (none, 8)) 102), (102, 0, op_na 0 (.inl (none, 0)) 13 112 104), (104, 0, op_pf (tyX8 13) 8 13 107), (107, 0, op_al 0 108), (108, 0, op_push (.inl (none, 8)) 110), (110, 0, op_na 0 (.inl (none, 0)) 13 112 112)],
  [(112, 0, op_pf (tyX8 14) 8 14 115), (115, 0, op_al 0 116), (116, 0, op_push (.inl (none, 3)) 117), (117, 0, op_na 0 (.inl (none, 0)) 13 112 119), (119, 0, op_dup 120), (120, 0, op_push (.inl (none, 0)) 121), (121, 0, op_push (.inl (none, 3)) 122), (122, 0, op_ast 0 123), (123, 0, op_dup 124), (124, 0, op_push (.inl (none, 1)) 125), (125, 0, op_push (.inl (none, 2)) 126), (126, 0, op_ast 0 127), (127, 0, op_dup 128)],
  [(128, 0, op_push (.inl (none, 2)) 129), (129, 0, op_push (.inl (none, 1)) 130), (130, 0, op_ast 0 131), (131, 0, op_pf (tyX8 15) 8 15 134), (134, 2, op_goto 0)]]
noncomputable def tb_X9_init : ab_tab := [[(0, 0, op_al 0 1), (1, 0, op_oi 4), (4, 0, op_al 0 5), (5, 0, op_push (.inr (.inr (5, 0))) 8), (8, 0, op_hlen 9), (9, 0, op_na 3 (.inl (none, 0)) 1 3 11), (11, 0, op_pf (tyX9 0) 9 0 14), (14, 2, op_goto 0)]]
noncomputable def tb_X10_init : ab_tab := [[(0, 0, op_al 0 1), (1, 0, op_oi 4), (4, 0, op_al 0 5), (5, 0, op_new 4 15 fs_X4 141 2556 8), (8, 0, op_dup 9), (9, 0, op_call 6 165 1 2 962 141 2556 12), (12, 0, op_pf (tyX10 0) 10 0 15), (15, 0, op_al 0 16)],
  [(16, 0, op_new 9 1 fs_X9 141 2556 19), (19, 0, op_dup 20), (20, 0, op_call 11 172 1 1 3 141 2556 23), (23, 0, op_pf (tyX10 1) 10 1 26), (26, 0, op_al 0 27), (27, 0, op_new 8 16 fs_X8 141 2556 30), (30, 0, op_dup 31), (31, 0, op_call 10 171 1 13 112 141 2556 34)],
  [(34, 0, op_pf (tyX10 2) 10 2 37), (37, 0, op_al 0 38), (38, 0, op_new 8 16 fs_X8 141 2556 41), (41, 0, op_dup 42), (42, 0, op_call 10 171 1 13 112 141 2556 45), (45, 0, op_pf (tyX10 3) 10 3 48)],
  [(48, 0, op_al 0 49), (49, 0, op_new 7 7 fs_X7 141 2556 52), (52, 0, op_dup 53), (53, 0, op_call 9 170 1 3 21 141 2556 56), (56, 0, op_pf (tyX10 4) 10 4 59), (59, 0, op_al 0 60), (60, 0, op_new 7 7 fs_X7 141 2556 63), (63, 0, op_dup 64)],
  [(64, 0, op_call 9 170 1 3 21 141 2556 67), (67, 0, op_pf (tyX10 5) 10 5 70), (70, 0, op_al 0 71), (71, 0, op_new 1 2 fs_X1 141 2556 74), (74, 0, op_dup 75), (75, 0, op_call 3 162 1 33 232 141 2556 78), (78, 0, op_pf (tyX10 6) 10 6 81)],
  [(81, 0, op_al 0 82), (82, 0, op_new 6 5 fs_X6 141 2556 85), (85, 0, op_dup 86), (86, 0, op_call 8 169 1 3 120 141 2556 89), (89, 0, op_pf (tyX10 7) 10 7 92), (92, 0, op_al 0 93), (93, 0, op_new 6 5 fs_X6 141 2556 96)],
  [(96, 0, op_dup 97), (97, 0, op_call 8 169 1 3 120 141 2556 100), (100, 0, op_pf (tyX10 8) 10 8 103), (103, 0, op_al 0 104), (104, 0, op_new 0 10 fs_X0 141 2556 107), (107, 0, op_dup 108), (108, 0, op_call 2 161 1 3 120 141 2556 111), (111, 0, op_pf (tyX10 9) 10 9 114)],
  [(114, 0, op_al 0 115), (115, 0, op_new 5 5 fs_X5 141 2556 118), (118, 0, op_dup 119), (119, 0, op_call 7 167 1 2 16 141 2556 122), (122, 0, op_pf (tyX10 10) 10 10 125), (125, 0, op_al 0 126), (126, 0, op_new 3 2 fs_X3 141 2556 129)],
  [(129, 0, op_dup 130), (130, 0, op_call 5 164 1 1 40 141 2556 133), (133, 0, op_pf (tyX10 11) 10 11 136), (136, 0, op_al 0 137), (137, 0, op_push (.inl (none, 2)) 138), (138, 0, op_na 6 (.inr (.inr (0, 0))) 141 2556 141), (141, 0, op_dup 142), (142, 0, op_push (.inl (none, 0)) 143), (143, 0, op_new 2 4 fs_X2 141 2556 146)],
  [(146, 0, op_dup 147), (147, 0, op_call 4 163 1 22 281 141 2556 150), (150, 0, op_aast 2 151), (151, 0, op_dup 152), (152, 0, op_push (.inl (none, 1)) 153), (153, 0, op_new 2 4 fs_X2 141 2556 156), (156, 0, op_dup 157), (157, 0, op_call 4 163 1 22 281 141 2556 160)],
  [(160, 0, op_aast 2 161), (161, 0, op_pf (tyX10 12) 10 12 164), (164, 0, op_al 0 165), (165, 0, op_push (.inl (none, 7)) 167), (167, 0, op_na 0 (.inl (none, 0)) 141 2556 169), (169, 0, op_pf (tyX10 13) 10 13 172), (172, 0, op_al 0 173), (173, 0, op_push (.inl (none, (-1))) 174), (174, 0, op_pf (tyX10 14) 10 14 177)],
  [(177, 0, op_al 0 178), (178, 0, op_push (.inl (none, 7)) 180), (180, 0, op_na 0 (.inl (none, 0)) 141 2556 182), (182, 0, op_pf (tyX10 15) 10 15 185), (185, 0, op_al 0 186), (186, 0, op_push (.inl (none, (-1))) 187), (187, 0, op_pf (tyX10 16) 10 16 190), (190, 2, op_goto 0)]]
noncomputable def tb_X10_feed : ab_tab := [[(0, 0, op_al 0 1), (1, 0, op_gf 10 0 4), (4, 0, op_gf 4 1 7), (7, 0, op_push (.inl (none, 20)) 9), (9, 0, op_b2 (ab_add2K) 10), (10, 0, op_push (.inl (none, 940)) 13), (13, 0, op_icmp 5 18 16)],
  [(16, 0, op_push (.inl (none, (-1))) 17), (17, 1, op_goto 0), (18, 0, op_al 0 19), (19, 0, op_gf 10 0 22), (22, 0, op_il 1 23), (23, 0, op_call 6 166 2 0 0 0 0 26), (26, 0, op_al 0 27), (27, 0, op_gf 10 0 30), (30, 0, op_il 2 31), (31, 0, op_call 6 166 2 0 0 0 0 34)],
  [(34, 0, op_al 0 35), (35, 0, op_gf 10 0 38), (38, 0, op_il 3 39), (39, 0, op_call 6 166 2 0 0 0 0 42), (42, 0, op_al 0 43), (43, 0, op_gf 10 0 46), (46, 0, op_il 4 48)],
  [(48, 0, op_call 6 166 2 0 0 0 0 51), (51, 0, op_al 0 52), (52, 0, op_gf 10 0 55), (55, 0, op_il 5 57), (57, 0, op_call 6 166 2 0 0 0 0 60), (60, 0, op_al 0 61), (61, 0, op_gf 10 0 64)],
  [(64, 0, op_gf 4 1 67), (67, 1, op_goto 0)]]
noncomputable def tb_X10_end : ab_tab := [[(0, 0, op_il 1 1), (1, 0, op_if 2 15 4), (4, 0, op_il 1 5), (5, 0, op_al 0 6), (6, 0, op_gf 10 0 9), (9, 0, op_gf 4 1 12), (12, 0, op_icmpF 5 4 17 15), (15, 0, op_push (.inl (none, 0)) 16)],
  [(16, 1, op_goto 0), (17, 0, op_al 0 18), (18, 0, op_gf 10 0 21), (21, 0, op_il 1 22), (22, 0, op_pf (tyX4 1) 4 1 25), (25, 0, op_push (.inl (none, 1)) 26), (26, 1, op_goto 0)]]
noncomputable def tb_X10_valley : ab_tab := [[(0, 0, op_al 0 1), (1, 0, op_gf 10 1 4), (4, 0, op_al 0 5), (5, 0, op_gf 10 3 8), (8, 0, op_al 0 9), (9, 0, op_gf 10 0 12), (12, 0, op_call 11 144 3 0 0 0 0 15), (15, 0, op_is 1 16)],
  [(16, 0, op_al 0 17), (17, 0, op_gf 10 0 20), (20, 0, op_push (.inl (none, 0)) 21), (21, 0, op_pf (tyX4 1) 4 1 24), (24, 0, op_il 1 25), (25, 0, op_push (.inl (none, (-1))) 26), (26, 0, op_icmp 1 39 29), (29, 0, op_push (.inl (none, (-1))) 30), (30, 0, op_al 0 31), (31, 0, op_gf 10 0 34)],
  [(34, 0, op_gf 4 13 37), (37, 0, op_b2 (ab_sub2K) 38), (38, 1, op_goto 0), (39, 0, op_al 0 40), (40, 0, op_gf 10 2 43), (43, 0, op_as 2 44), (44, 0, op_al 0 45), (45, 0, op_al 0 46), (46, 0, op_gf 10 3 49)],
  [(49, 0, op_pf (tyX10 2) 10 2 52), (52, 0, op_al 0 53), (53, 0, op_al 2 54), (54, 0, op_pf (tyX10 3) 10 3 57), (57, 0, op_al 0 58), (58, 0, op_gf 10 4 61), (61, 0, op_al 0 62), (62, 0, op_gf 10 2 65)],
  [(65, 0, op_call 9 119 2 0 0 0 0 68), (68, 0, op_al 0 69), (69, 0, op_gf 10 7 72), (72, 0, op_push (.inl (none, 0)) 73), (73, 0, op_pf (tyX6 3) 6 3 76), (76, 0, op_al 0 77), (77, 0, op_gf 10 6 80)],
  [(80, 0, op_push (.inl (none, 0)) 81), (81, 0, op_pf (tyX1 1) 1 1 84), (84, 0, op_il 1 85), (85, 1, op_goto 0)]]
noncomputable def tb_X10_fault : ab_tab := [[(0, 0, op_al 0 1), (1, 0, op_gf 10 0 4), (4, 0, op_gf 4 12 7), (7, 1, op_goto 0)]]
noncomputable def tb_X10_town : ab_tab := [[(0, 0, op_al 0 1), (1, 0, op_il 1 2), (2, 0, op_call 12 70 2 0 0 1 6 5), (5, 0, op_if 1 18 8), (8, 3, op_goto 0)],
  [(18, 0, op_il 2 19), (19, 0, op_tsw 0 8 [68, 78, 88, 105, 126, 136, 146, 159, 176] 190)],
  [],
  [],
  [(68, 0, op_al 0 69), (69, 0, op_gf 10 2 72), (72, 0, op_gf 8 2 75), (75, 0, op_il 1 76), (76, 0, op_ald 0 77), (77, 1, op_goto 0), (78, 0, op_al 0 79), (79, 0, op_gf 10 4 82)],
  [(82, 0, op_gf 7 3 85), (85, 0, op_il 1 86), (86, 0, op_ald 0 87), (87, 1, op_goto 0), (88, 0, op_al 0 89), (89, 0, op_gf 10 4 92), (92, 0, op_il 1 93), (93, 0, op_call 9 6 2 0 0 1 6 96)],
  [(96, 0, op_if 0 103 99), (99, 0, op_push (.inl (none, 1)) 100), (100, 0, op_goto 104), (103, 0, op_push (.inl (none, 0)) 104), (104, 1, op_goto 0), (105, 0, op_al 0 106), (106, 0, op_gf 10 4 109), (109, 0, op_al 0 110), (110, 0, op_gf 10 2 113)],
  [(113, 0, op_il 1 114), (114, 0, op_call 9 8 3 0 0 1 6 117), (117, 0, op_if 0 124 120), (120, 0, op_push (.inl (none, 1)) 121), (121, 0, op_goto 125), (124, 0, op_push (.inl (none, 0)) 125), (125, 1, op_goto 0), (126, 0, op_al 0 127), (127, 0, op_gf 10 4 130)],
  [(130, 0, op_gf 7 4 133), (133, 0, op_il 1 134), (134, 0, op_ald 0 135), (135, 1, op_goto 0), (136, 0, op_al 0 137), (137, 0, op_gf 10 4 140), (140, 0, op_gf 7 5 143), (143, 0, op_il 1 144)],
  [(144, 0, op_ald 0 145), (145, 1, op_goto 0), (146, 0, op_al 0 147), (147, 0, op_gf 10 4 150), (150, 0, op_al 0 151), (151, 0, op_gf 10 2 154), (154, 0, op_il 1 155), (155, 0, op_call 9 2 3 0 0 1 6 158), (158, 1, op_goto 0), (159, 0, op_al 0 160)],
  [(160, 0, op_gf 10 4 163), (163, 0, op_il 1 164), (164, 0, op_call 9 52 2 0 0 1 6 167), (167, 0, op_if 0 174 170), (170, 0, op_push (.inl (none, 1)) 171), (171, 0, op_goto 175), (174, 0, op_push (.inl (none, 0)) 175), (175, 1, op_goto 0)],
  [(176, 0, op_al 0 177), (177, 0, op_il 1 178), (178, 0, op_call 12 130 2 0 0 1 6 181), (181, 0, op_if 0 188 184), (184, 0, op_push (.inl (none, 1)) 185), (185, 0, op_goto 189), (188, 0, op_push (.inl (none, 0)) 189), (189, 1, op_goto 0), (190, 3, op_goto 0)]]
noncomputable def tb_X10_due : ab_tab := [[(0, 0, op_al 0 1), (1, 0, op_il 1 2), (2, 0, op_call 12 70 2 0 0 1 6 5), (5, 0, op_if 0 19 8), (8, 0, op_il 2 9), (9, 0, op_if 2 19 12), (12, 0, op_il 2 13), (13, 0, op_push (.inl (none, 400)) 16)],
  [(16, 0, op_icmp 2 29 19), (19, 3, op_goto 0), (29, 0, op_al 0 30), (30, 0, op_gf 10 2 33)],
  [(33, 0, op_il 1 34), (34, 0, op_il 2 35), (35, 0, op_call 10 48 3 0 0 1 6 38), (38, 0, op_is 3 39), (39, 0, op_il 3 40), (40, 0, op_push (.inl (none, 10000)) 43), (43, 0, op_icmp 1 56 46), (46, 3, op_goto 0)],
  [(56, 0, op_il 3 57), (57, 1, op_goto 0)]]
noncomputable def tb_X10_train : ab_tab := [[(0, 0, op_al 0 1), (1, 0, op_il 1 2), (2, 0, op_call 12 122 2 0 0 1 6 5), (5, 0, op_if 1 18 8), (8, 3, op_goto 0)],
  [(18, 0, op_il 2 19), (19, 0, op_tsw 0 6 [60, 70, 80, 90, 100, 113, 126] 160)],
  [],
  [(60, 0, op_al 0 61), (61, 0, op_gf 10 2 64)],
  [(64, 0, op_gf 8 11 67), (67, 0, op_il 1 68), (68, 0, op_ald 0 69), (69, 1, op_goto 0), (70, 0, op_al 0 71), (71, 0, op_gf 10 2 74), (74, 0, op_gf 8 12 77), (77, 0, op_il 1 78), (78, 0, op_ald 0 79), (79, 1, op_goto 0)],
  [(80, 0, op_al 0 81), (81, 0, op_gf 10 2 84), (84, 0, op_gf 8 13 87), (87, 0, op_il 1 88), (88, 0, op_ald 0 89), (89, 1, op_goto 0), (90, 0, op_al 0 91), (91, 0, op_gf 10 2 94), (94, 0, op_gf 8 14 97)],
  [(97, 0, op_il 1 98), (98, 0, op_ald 0 99), (99, 1, op_goto 0), (100, 0, op_al 0 101), (101, 0, op_gf 10 4 104), (104, 0, op_al 0 105), (105, 0, op_gf 10 2 108), (108, 0, op_il 1 109), (109, 0, op_call 9 23 3 0 0 1 6 112)],
  [(112, 1, op_goto 0), (113, 0, op_al 0 114), (114, 0, op_gf 10 4 117), (117, 0, op_al 0 118), (118, 0, op_gf 10 2 121), (121, 0, op_il 1 122), (122, 0, op_call 9 36 3 0 0 1 6 125), (125, 1, op_goto 0), (126, 0, op_al 0 127), (127, 0, op_gf 10 4 130)],
  [(130, 0, op_al 0 131), (131, 0, op_gf 10 2 134), (134, 0, op_il 1 135), (135, 0, op_call 9 36 3 0 0 1 6 138), (138, 0, op_al 0 139), (139, 0, op_gf 10 4 142), (142, 0, op_al 0 143), (143, 0, op_gf 10 2 146)],
  [(146, 0, op_al 0 147), (147, 0, op_gf 10 2 150), (150, 0, op_gf 8 12 153), (153, 0, op_il 1 154), (154, 0, op_ald 0 155), (155, 0, op_call 9 2 3 0 0 1 6 158), (158, 0, op_b2 (ab_sub2K) 159), (159, 1, op_goto 0)],
  [(160, 3, op_goto 0)]]
noncomputable def tb_X10_shows : ab_tab := [[(0, 0, op_al 0 1), (1, 0, op_il 1 2), (2, 0, op_call 12 70 2 0 0 1 6 5), (5, 0, op_if 0 30 8), (8, 0, op_il 2 9), (9, 0, op_if 2 30 12), (12, 0, op_il 2 13), (13, 0, op_push (.inl (none, 999)) 16)],
  [(16, 0, op_icmp 4 30 19), (19, 0, op_al 0 20), (20, 0, op_gf 10 4 23), (23, 0, op_il 1 24), (24, 0, op_call 9 6 2 0 0 1 6 27), (27, 0, op_if 0 40 30), (30, 3, op_goto 0)],
  [(40, 0, op_il 2 41), (41, 0, op_al 0 42), (42, 0, op_gf 10 4 45), (45, 0, op_al 0 46), (46, 0, op_gf 10 2 49)],
  [(49, 0, op_il 1 50), (50, 0, op_call 9 2 3 0 0 1 6 53), (53, 0, op_b2 (ab_sub2K) 54), (54, 1, op_goto 0)]]
noncomputable def tb_X10_now : ab_tab := [[(0, 0, op_il 1 1), (1, 0, op_tsw 0 6 [44, 52, 57, 69, 77, 89, 101] 106)],
  [],
  [(44, 0, op_al 0 45), (45, 0, op_gf 10 4 48)],
  [(48, 0, op_gf 7 0 51), (51, 1, op_goto 0), (52, 0, op_al 0 53), (53, 0, op_call 12 148 1 0 0 1 6 56), (56, 1, op_goto 0), (57, 0, op_al 0 58), (58, 0, op_gf 10 4 61), (61, 0, op_al 0 62), (62, 0, op_gf 10 2 65)],
  [(65, 0, op_call 9 61 2 0 0 1 6 68), (68, 1, op_goto 0), (69, 0, op_al 0 70), (70, 0, op_gf 10 4 73), (73, 0, op_gf 7 1 76), (76, 1, op_goto 0), (77, 0, op_al 0 78), (78, 0, op_al 0 79), (79, 0, op_gf 10 4 82)],
  [(82, 0, op_gf 7 4 85), (85, 0, op_call 12 131 2 0 0 1 6 88), (88, 1, op_goto 0), (89, 0, op_al 0 90), (90, 0, op_al 0 91), (91, 0, op_gf 10 4 94), (94, 0, op_gf 7 5 97)],
  [(97, 0, op_call 12 131 2 0 0 1 6 100), (100, 1, op_goto 0), (101, 0, op_al 0 102), (102, 0, op_call 12 152 1 0 0 1 6 105), (105, 1, op_goto 0), (106, 3, op_goto 0)]]
noncomputable def tb_X10_bend : ab_tab := [[(0, 0, op_al 0 1), (1, 0, op_il 1 2), (2, 0, op_call 12 70 2 0 0 0 0 5), (5, 0, op_if 0 24 8), (8, 0, op_il 2 9), (9, 0, op_push (.inl (none, (-10))) 11), (11, 0, op_icmp 2 24 14), (14, 0, op_il 2 15), (15, 0, op_push (.inl (none, 10)) 17)],
  [(17, 0, op_icmp 4 24 20), (20, 0, op_il 2 21), (21, 0, op_if 1 26 24), (24, 0, op_push (.inl (none, (-1))) 25), (25, 1, op_goto 0), (26, 0, op_al 0 27), (27, 0, op_gf 10 4 30), (30, 0, op_al 0 31), (31, 0, op_gf 10 2 34)],
  [(34, 0, op_il 1 35), (35, 0, op_il 2 36), (36, 0, op_call 9 56 4 0 0 0 0 39), (39, 0, op_is 3 40), (40, 0, op_il 3 41), (41, 0, op_if 1 64 44), (44, 0, op_al 0 45), (45, 0, op_gf 10 6 48)],
  [(48, 0, op_al 0 49), (49, 0, op_gf 10 4 52), (52, 0, op_call 3 65 2 0 0 0 0 55), (55, 0, op_al 0 56), (56, 0, op_gf 10 4 59), (59, 0, op_il 1 60), (60, 0, op_il 2 61), (61, 0, op_call 9 57 3 0 0 0 0 64)],
  [(64, 0, op_il 3 65), (65, 1, op_goto 0)]]
noncomputable def tb_X10_shade : ab_tab := [[(0, 0, op_al 0 1), (1, 0, op_il 1 2), (2, 0, op_call 12 70 2 0 0 0 0 5), (5, 0, op_if 1 10 8), (8, 0, op_push (.inl (none, (-1))) 9), (9, 1, op_goto 0), (10, 0, op_al 0 11), (11, 0, op_gf 10 4 14), (14, 0, op_il 1 15), (15, 0, op_call 9 6 2 0 0 0 0 18)],
  [(18, 0, op_if 0 23 21), (21, 0, op_push (.inl (none, 1)) 22), (22, 1, op_goto 0), (23, 0, op_al 0 24), (24, 0, op_gf 10 6 27), (27, 0, op_al 0 28), (28, 0, op_gf 10 4 31), (31, 0, op_call 3 65 2 0 0 0 0 34)],
  [(34, 0, op_al 0 35), (35, 0, op_gf 10 4 38), (38, 0, op_il 1 39), (39, 0, op_call 9 67 2 0 0 0 0 42), (42, 0, op_push (.inl (none, 0)) 43), (43, 1, op_goto 0)]]
noncomputable def tb_X10_clear : ab_tab := [[(0, 0, op_al 0 1), (1, 0, op_il 1 2), (2, 0, op_call 12 70 2 0 0 0 0 5), (5, 0, op_if 1 10 8), (8, 0, op_push (.inl (none, (-1))) 9), (9, 1, op_goto 0), (10, 0, op_al 0 11), (11, 0, op_gf 10 4 14), (14, 0, op_il 1 15), (15, 0, op_call 9 6 2 0 0 0 0 18)],
  [(18, 0, op_if 1 23 21), (21, 0, op_push (.inl (none, 1)) 22), (22, 1, op_goto 0), (23, 0, op_al 0 24), (24, 0, op_gf 10 6 27), (27, 0, op_al 0 28), (28, 0, op_gf 10 4 31), (31, 0, op_call 3 65 2 0 0 0 0 34)],
  [(34, 0, op_al 0 35), (35, 0, op_gf 10 4 38), (38, 0, op_il 1 39), (39, 0, op_call 9 67 2 0 0 0 0 42), (42, 0, op_push (.inl (none, 0)) 43), (43, 1, op_goto 0)]]
noncomputable def tb_X10_freeze : ab_tab := [[(0, 0, op_al 0 1), (1, 0, op_gf 10 6 4), (4, 0, op_al 0 5), (5, 0, op_gf 10 4 8), (8, 0, op_call 3 65 2 0 0 0 0 11), (11, 0, op_al 0 12), (12, 0, op_gf 10 4 15), (15, 0, op_al 0 16)],
  [(16, 0, op_gf 10 2 19), (19, 0, op_call 9 68 2 0 0 0 0 22), (22, 1, op_goto 0)]]
noncomputable def tb_X10_days : ab_tab := [[(0, 0, op_il 1 1), (1, 0, op_push (.inl (none, 1)) 2), (2, 0, op_icmp 2 11 5), (5, 0, op_il 1 6), (6, 0, op_push (.inl (none, 60)) 8), (8, 0, op_icmp 5 13 11), (11, 0, op_push (.inl (none, (-1))) 12), (12, 1, op_goto 0), (13, 0, op_il 1 14), (14, 0, op_push (.inl (none, 400)) 17)],
  [(17, 0, op_al 0 18), (18, 0, op_gf 10 4 21), (21, 0, op_gf 7 0 24), (24, 0, op_b2 (ab_sub2K) 25), (25, 0, op_mm2 0 0 28), (28, 0, op_is 2 29), (29, 0, op_il 2 30), (30, 0, op_if 5 44 33)],
  [(33, 0, op_al 0 34), (34, 0, op_gf 10 6 37), (37, 0, op_al 0 38), (38, 0, op_gf 10 4 41), (41, 0, op_call 3 65 2 0 0 0 0 44), (44, 0, op_al 0 45), (45, 0, op_gf 10 4 48)],
  [(48, 0, op_al 0 49), (49, 0, op_gf 10 2 52), (52, 0, op_il 2 53), (53, 0, op_call 9 82 3 0 0 0 0 56), (56, 0, op_il 2 57), (57, 1, op_goto 0)]]
noncomputable def tb_X10_undo : ab_tab := [[(0, 0, op_al 0 1), (1, 0, op_gf 10 6 4), (4, 0, op_al 0 5), (5, 0, op_gf 10 4 8), (8, 0, op_call 3 151 2 0 0 0 0 11), (11, 1, op_goto 0)]]
noncomputable def tb_X10_noonLong : ab_tab := [[(0, 0, op_push (.inl (none, 10000)) 3), (3, 0, op_is 1 4), (4, 0, op_push (.inl (none, (-10000))) 7), (7, 0, op_is 2 8), (8, 0, op_push (.inl (none, 0)) 9), (9, 0, op_is 3 10), (10, 4, op_il 3 11), (11, 0, op_al 0 12), (12, 0, op_gf 10 2 15), (15, 0, op_gf 8 0 18)],
  [(18, 0, op_icmp 3 72 21), (21, 0, op_al 0 22), (22, 0, op_gf 10 4 25), (25, 0, op_il 3 26), (26, 0, op_call 9 6 2 0 0 1 6 29), (29, 0, op_if 1 66 32)],
  [(32, 0, op_il 1 33), (33, 0, op_al 0 34), (34, 0, op_gf 10 4 37), (37, 0, op_al 0 38), (38, 0, op_gf 10 2 41), (41, 0, op_il 3 42), (42, 0, op_call 9 2 3 0 0 1 6 45), (45, 0, op_mm2 1 6 48)],
  [(48, 0, op_is 1 49), (49, 0, op_il 2 50), (50, 0, op_al 0 51), (51, 0, op_gf 10 4 54), (54, 0, op_al 0 55), (55, 0, op_gf 10 2 58), (58, 0, op_il 3 59), (59, 0, op_call 9 2 3 0 0 1 6 62), (62, 0, op_mm2 1 6 65)],
  [(65, 0, op_is 2 66), (66, 0, op_inc 3 1 69), (69, 0, op_goto 10), (72, 0, op_il 1 73), (73, 0, op_push (.inl (none, 10000)) 76), (76, 0, op_icmp 1 90 79), (79, 3, op_goto 0)],
  [(90, 0, op_il 2 91), (91, 0, op_il 1 92), (92, 0, op_b2 (ab_sub2K) 93), (93, 1, op_goto 0)]]
noncomputable def tb_X10_oneNoon : ab_tab := [[(0, 0, op_al 0 1), (1, 0, op_gf 10 4 4), (4, 0, op_al 0 5), (5, 0, op_gf 10 2 8), (8, 0, op_push (.inl (none, (-1))) 9), (9, 0, op_call 9 94 3 0 0 1 6 12), (12, 0, op_is 1 13), (13, 0, op_il 1 14), (14, 0, op_push (.inl (none, 10000)) 17)],
  [(17, 0, op_icmp 1 31 20), (20, 3, op_goto 0), (31, 0, op_il 1 32)],
  [(32, 1, op_goto 0)]]
noncomputable def tb_X10_even : ab_tab := [[(0, 0, op_al 0 1), (1, 0, op_call 12 148 1 0 0 0 0 4), (4, 0, op_is 1 5), (5, 0, op_il 1 6), (6, 0, op_if 5 13 9), (9, 0, op_push (.inl (none, (-1))) 10), (10, 0, op_goto 14), (13, 0, op_push (.inl (none, 1)) 14), (14, 0, op_is 2 15), (15, 0, op_il 1 16)],
  [(16, 0, op_mm1 0 0 19), (19, 0, op_is 3 20), (20, 0, op_push (.inl (none, 0)) 21), (21, 0, op_is 4 23), (23, 0, op_push (.inl (none, 0)) 24), (24, 0, op_is 5 26), (26, 4, op_il 5 28), (28, 0, op_al 0 29), (29, 0, op_gf 10 2 32)],
  [(32, 0, op_gf 8 0 35), (35, 0, op_icmp 3 56 38), (38, 0, op_il 4 40), (40, 0, op_al 0 41), (41, 0, op_il 5 43), (43, 0, op_il 2 44), (44, 0, op_call 12 96 3 0 0 0 0 47), (47, 0, op_b2 (ab_add2K) 48)],
  [(48, 0, op_is 4 50), (50, 0, op_inc 5 1 53), (53, 0, op_goto 26), (56, 0, op_il 4 58), (58, 0, op_il 3 59), (59, 0, op_icmp 3 64 62), (62, 0, op_push (.inl (none, (-1))) 63), (63, 1, op_goto 0)],
  [(64, 0, op_il 3 65), (65, 0, op_is 5 67), (67, 0, op_push (.inl (none, 0)) 68), (68, 0, op_is 6 70), (70, 4, op_il 6 72), (72, 0, op_al 0 73), (73, 0, op_gf 10 2 76), (76, 0, op_gf 8 0 79), (79, 0, op_icmp 3 129 82)],
  [(82, 0, op_il 4 84), (84, 0, op_al 0 85), (85, 0, op_il 6 87), (87, 0, op_il 2 88), (88, 0, op_call 12 96 3 0 0 0 0 91), (91, 0, op_b2 (ab_sub2K) 92), (92, 0, op_is 4 94), (94, 0, op_push (.inl (none, 0)) 95), (95, 0, op_il 5 97)],
  [(97, 0, op_il 4 99), (99, 0, op_b2 (ab_sub2K) 100), (100, 0, op_mm2 0 0 103), (103, 0, op_is 7 105), (105, 0, op_al 0 106), (106, 0, op_gf 10 13 109), (109, 0, op_il 6 111), (111, 0, op_il 2 112)],
  [(112, 0, op_il 7 114), (114, 0, op_b2 (ab_mul2K) 115), (115, 0, op_ast 0 116), (116, 0, op_il 5 118), (118, 0, op_il 7 120), (120, 0, op_b2 (ab_sub2K) 121), (121, 0, op_is 5 123), (123, 0, op_inc 6 1 126), (126, 0, op_goto 70)],
  [(129, 0, op_al 0 130), (130, 0, op_al 0 131), (131, 0, op_gf 10 2 134), (134, 0, op_gf 8 0 137), (137, 0, op_pf (tyX10 14) 10 14 140), (140, 0, op_il 3 141), (141, 1, op_goto 0)]]
noncomputable def tb_X10_evenAt : ab_tab := [[(0, 0, op_il 1 1), (1, 0, op_if 2 12 4), (4, 0, op_il 1 5), (5, 0, op_al 0 6), (6, 0, op_gf 10 14 9), (9, 0, op_icmp 2 23 12), (12, 3, op_goto 0)],
  [(23, 0, op_al 0 24), (24, 0, op_gf 10 13 27), (27, 0, op_il 1 28), (28, 0, op_ald 0 29), (29, 1, op_goto 0)]]
noncomputable def tb_X10_kept : ab_tab := [[(0, 0, op_al 0 1), (1, 0, op_gf 10 5 4), (4, 0, op_al 0 5), (5, 0, op_gf 10 4 8), (8, 0, op_call 9 16 2 0 0 0 0 11), (11, 0, op_push (.inl (none, 0)) 12), (12, 0, op_is 1 13), (13, 4, op_il 1 14), (14, 0, op_push (.inl (none, 200)) 17)],
  [(17, 0, op_icmp 3 85 20), (20, 0, op_al 0 21), (21, 0, op_gf 10 5 24), (24, 0, op_gf 7 0 27), (27, 0, op_push (.inl (none, 400)) 30), (30, 0, op_icmp 3 85 33)],
  [(33, 0, op_al 0 34), (34, 0, op_gf 10 5 37), (37, 0, op_al 0 38), (38, 0, op_gf 10 2 41), (41, 0, op_call 9 140 2 0 0 0 0 44), (44, 0, op_al 0 45), (45, 0, op_gf 10 5 48)],
  [(48, 0, op_al 0 49), (49, 0, op_gf 10 2 52), (52, 0, op_call 9 61 2 0 0 0 0 55), (55, 0, op_if 1 66 58), (58, 0, op_al 0 59), (59, 0, op_gf 10 5 62), (62, 0, op_gf 7 0 65)],
  [(65, 1, op_goto 0), (66, 0, op_al 0 67), (67, 0, op_gf 10 5 70), (70, 0, op_dup 71), (71, 0, op_gf 7 0 74), (74, 0, op_push (.inl (none, 1)) 75), (75, 0, op_b2 (ab_add2K) 76), (76, 0, op_pf (tyX7 0) 7 0 79), (79, 0, op_inc 1 1 82)],
  [(82, 0, op_goto 13), (85, 0, op_push (.inl (none, (-1))) 86), (86, 1, op_goto 0)]]
noncomputable def tb_X10_worst : ab_tab := [[(0, 0, op_il 1 1), (1, 0, op_push (.inl (none, 1)) 2), (2, 0, op_icmp 2 11 5), (5, 0, op_il 1 6), (6, 0, op_push (.inl (none, 60)) 8), (8, 0, op_icmp 5 13 11), (11, 0, op_push (.inl (none, (-1))) 12), (12, 1, op_goto 0), (13, 0, op_al 0 14), (14, 0, op_gf 10 5 17)],
  [(17, 0, op_al 0 18), (18, 0, op_gf 10 4 21), (21, 0, op_call 9 16 2 0 0 0 0 24), (24, 0, op_al 0 25), (25, 0, op_gf 10 5 28), (28, 0, op_al 0 29), (29, 0, op_gf 10 2 32)],
  [(32, 0, op_il 1 33), (33, 0, op_call 9 82 3 0 0 0 0 36), (36, 0, op_push (.inl (none, (-1))) 37), (37, 0, op_is 2 38), (38, 0, op_push (.inl (none, 0)) 39), (39, 0, op_is 3 40), (40, 0, op_push (.inl (none, 0)) 41), (41, 0, op_is 4 43), (43, 4, op_il 4 45), (45, 0, op_al 0 46), (46, 0, op_gf 10 2 49)],
  [(49, 0, op_gf 8 0 52), (52, 0, op_icmp 3 96 55), (55, 0, op_al 0 56), (56, 0, op_gf 10 5 59), (59, 0, op_gf 7 4 62), (62, 0, op_il 4 64)],
  [(64, 0, op_ald 0 65), (65, 0, op_al 0 66), (66, 0, op_gf 10 4 69), (69, 0, op_gf 7 4 72), (72, 0, op_il 4 74), (74, 0, op_ald 0 75), (75, 0, op_b2 (ab_sub2K) 76), (76, 0, op_is 5 78), (78, 0, op_il 5 80)],
  [(80, 0, op_il 3 81), (81, 0, op_icmp 5 90 84), (84, 0, op_il 5 86), (86, 0, op_is 3 87), (87, 0, op_il 4 89), (89, 0, op_is 2 90), (90, 0, op_inc 4 1 93), (93, 0, op_goto 43)],
  [(96, 0, op_il 2 97), (97, 1, op_goto 0)]]
noncomputable def tb_X10_spare : ab_tab := [[(0, 0, op_al 0 1), (1, 0, op_il 1 2), (2, 0, op_call 12 122 2 0 0 1 6 5), (5, 0, op_if 0 37 8), (8, 0, op_al 0 9), (9, 0, op_il 2 10), (10, 0, op_call 12 122 2 0 0 1 6 13), (13, 0, op_if 0 37 16)],
  [(16, 0, op_al 0 17), (17, 0, op_gf 10 2 20), (20, 0, op_gf 8 12 23), (23, 0, op_il 1 24), (24, 0, op_ald 0 25), (25, 0, op_al 0 26), (26, 0, op_gf 10 2 29), (29, 0, op_gf 8 11 32)],
  [(32, 0, op_il 2 33), (33, 0, op_ald 0 34), (34, 0, op_icmp 0 48 37), (37, 3, op_goto 0)],
  [(48, 0, op_al 0 49), (49, 0, op_gf 10 4 52), (52, 0, op_al 0 53), (53, 0, op_gf 10 2 56), (56, 0, op_il 2 57), (57, 0, op_call 9 23 3 0 0 1 6 60), (60, 0, op_al 0 61), (61, 0, op_gf 10 4 64)],
  [(64, 0, op_al 0 65), (65, 0, op_gf 10 2 68), (68, 0, op_il 1 69), (69, 0, op_call 9 36 3 0 0 1 6 72), (72, 0, op_b2 (ab_sub2K) 73), (73, 0, op_al 0 74), (74, 0, op_gf 10 2 77), (77, 0, op_call 10 39 1 0 0 1 6 80)],
  [(80, 0, op_b2 (ab_sub2K) 81), (81, 1, op_goto 0)]]
noncomputable def tb_X10_route : ab_tab := [[(0, 0, op_al 0 1), (1, 0, op_il 1 2), (2, 0, op_call 12 70 2 0 0 0 0 5), (5, 0, op_if 0 32 8), (8, 0, op_al 0 9), (9, 0, op_il 2 10), (10, 0, op_call 12 70 2 0 0 0 0 13), (13, 0, op_if 0 32 16)],
  [(16, 0, op_il 1 17), (17, 0, op_il 2 18), (18, 0, op_icmp 0 32 21), (21, 0, op_il 3 22), (22, 0, op_if 2 32 25), (25, 0, op_il 3 26), (26, 0, op_push (.inl (none, 999)) 29), (29, 0, op_icmp 5 34 32)],
  [(32, 0, op_push (.inl (none, (-1))) 33), (33, 1, op_goto 0), (34, 0, op_al 0 35), (35, 0, op_gf 10 10 38), (38, 0, op_al 0 39), (39, 0, op_gf 10 2 42), (42, 0, op_al 0 43), (43, 0, op_gf 10 4 46), (46, 0, op_il 1 47), (47, 0, op_il 2 48)],
  [(48, 0, op_il 3 49), (49, 0, op_call 7 168 6 0 0 0 0 52), (52, 1, op_goto 0)]]
noncomputable def tb_X10_routeAt : ab_tab := [[(0, 0, op_il 1 1), (1, 0, op_if 2 27 4), (4, 0, op_il 1 5), (5, 0, op_al 0 6), (6, 0, op_gf 10 10 9), (9, 0, op_gf 5 2 12), (12, 0, op_icmp 3 27 15), (15, 0, op_al 0 16)],
  [(16, 0, op_gf 10 10 19), (19, 0, op_gf 5 1 22), (22, 0, op_il 1 23), (23, 0, op_ald 0 24), (24, 0, op_goto 28), (27, 0, op_push (.inl (none, (-1))) 28), (28, 1, op_goto 0)]]
noncomputable def tb_X10_shadows : ab_tab := [[(0, 0, op_al 0 1), (1, 0, op_gf 10 0 4), (4, 0, op_gf 4 1 7), (7, 0, op_is 1 8), (8, 0, op_al 0 9), (9, 0, op_gf 10 0 12), (12, 0, op_push (.inl (none, 0)) 13), (13, 0, op_pf (tyX4 1) 4 1 16)],
  [(16, 0, op_il 1 17), (17, 0, op_push (.inl (none, 2)) 18), (18, 0, op_icmp 2 33 21), (21, 0, op_il 1 22), (22, 0, op_push (.inl (none, 20)) 24), (24, 0, op_icmp 4 33 27), (27, 0, op_il 1 28), (28, 0, op_push (.inl (none, 2)) 29), (29, 0, op_rem 30), (30, 0, op_if 0 35 33)],
  [(33, 0, op_push (.inl (none, (-1))) 34), (34, 1, op_goto 0), (35, 0, op_al 0 36), (36, 0, op_gf 10 5 39), (39, 0, op_al 0 40), (40, 0, op_gf 10 4 43), (43, 0, op_call 9 16 2 0 0 0 0 46), (46, 0, op_push (.inl (none, 0)) 47), (47, 0, op_is 2 48)],
  [(48, 4, op_il 2 49), (49, 0, op_push (.inl (none, 1)) 50), (50, 0, op_b2 (ab_add2K) 51), (51, 0, op_il 1 52), (52, 0, op_icmp 3 134 55), (55, 0, op_al 0 56), (56, 0, op_gf 10 0 59), (59, 0, op_gf 4 0 62), (62, 0, op_il 2 63), (63, 0, op_ald 0 64)],
  [(64, 0, op_is 3 65), (65, 0, op_al 0 66), (66, 0, op_il 3 67), (67, 0, op_call 12 70 2 0 0 0 0 70), (70, 0, op_if 1 75 73), (73, 0, op_push (.inl (none, (-1))) 74), (74, 1, op_goto 0), (75, 0, op_al 0 76), (76, 0, op_gf 10 0 79), (79, 0, op_gf 4 0 82)],
  [(82, 0, op_il 2 83), (83, 0, op_push (.inl (none, 1)) 84), (84, 0, op_b2 (ab_add2K) 85), (85, 0, op_ald 0 86), (86, 0, op_push (.inl (none, 100)) 88), (88, 0, op_b2 (ab_sub2K) 89), (89, 0, op_al 0 90), (90, 0, op_gf 10 2 93), (93, 0, op_gf 8 2 96)],
  [(96, 0, op_il 3 97), (97, 0, op_ald 0 98), (98, 0, op_b2 (ab_add2K) 99), (99, 0, op_is 4 101), (101, 0, op_il 4 103), (103, 0, op_push (.inl (none, (-30))) 105), (105, 0, op_icmp 2 115 108), (108, 0, op_il 4 110), (110, 0, op_push (.inl (none, 30)) 112)],
  [(112, 0, op_icmp 5 117 115), (115, 0, op_push (.inl (none, (-1))) 116), (116, 1, op_goto 0), (117, 0, op_al 0 118), (118, 0, op_gf 10 5 121), (121, 0, op_gf 7 3 124), (124, 0, op_il 3 125), (125, 0, op_il 4 127), (127, 0, op_ast 0 128)],
  [(128, 0, op_inc 2 2 131), (131, 0, op_goto 48), (134, 0, op_al 0 135), (135, 0, op_gf 10 5 138), (138, 0, op_al 0 139), (139, 0, op_gf 10 2 142), (142, 0, op_call 9 61 2 0 0 0 0 145)],
  [(145, 1, op_goto 0)]]
noncomputable def tb_X10_votes : ab_tab := [[(0, 0, op_al 0 1), (1, 0, op_il 1 2), (2, 0, op_call 12 70 2 0 0 1 6 5), (5, 0, op_if 0 20 8), (8, 0, op_il 2 9), (9, 0, op_push (.inl (none, (-60))) 11), (11, 0, op_icmp 2 20 14), (14, 0, op_il 2 15), (15, 0, op_push (.inl (none, 60)) 17)],
  [(17, 0, op_icmp 5 31 20), (20, 3, op_goto 0), (31, 0, op_al 0 32)],
  [(32, 0, op_gf 10 4 35), (35, 0, op_al 0 36), (36, 0, op_gf 10 2 39), (39, 0, op_il 1 40), (40, 0, op_call 9 2 3 0 0 1 6 43), (43, 0, op_is 3 44), (44, 0, op_push (.inl (none, 0)) 45), (45, 0, op_is 4 47), (47, 0, op_push (.inl (none, 0)) 48)],
  [(48, 0, op_is 5 50), (50, 4, op_il 5 52), (52, 0, op_al 0 53), (53, 0, op_gf 10 2 56), (56, 0, op_gf 8 0 59), (59, 0, op_icmp 3 107 62), (62, 0, op_al 0 63), (63, 0, op_gf 10 4 66)],
  [(66, 0, op_al 0 67), (67, 0, op_gf 10 2 70), (70, 0, op_il 5 72), (72, 0, op_call 9 2 3 0 0 1 6 75), (75, 0, op_is 6 77), (77, 0, op_il 4 79), (79, 0, op_il 3 80)],
  [(80, 0, op_il 6 82), (82, 0, op_b2 (ab_sub2K) 83), (83, 0, op_mm1 1 6 86), (86, 0, op_il 3 87), (87, 0, op_il 2 88), (88, 0, op_b2 (ab_sub2K) 89), (89, 0, op_il 6 91), (91, 0, op_b2 (ab_sub2K) 92), (92, 0, op_mm1 1 6 95), (95, 0, op_call 0 90 2 0 0 1 6 98)],
  [(98, 0, op_b2 (ab_add2K) 99), (99, 0, op_is 4 101), (101, 0, op_inc 5 1 104), (104, 0, op_goto 50), (107, 0, op_il 4 109), (109, 1, op_goto 0)]]
noncomputable def tb_X10_nearer : ab_tab := [[(0, 0, op_al 0 1), (1, 0, op_gf 10 5 4), (4, 0, op_al 0 5), (5, 0, op_gf 10 4 8), (8, 0, op_call 9 16 2 0 0 0 0 11), (11, 0, op_push (.inl (none, 0)) 12), (12, 0, op_is 1 13), (13, 0, op_push (.inl (none, 1)) 14), (14, 0, op_is 2 15), (15, 4, op_il 2 16)],
  [(16, 0, op_if 0 43 19), (19, 0, op_il 1 20), (20, 0, op_push (.inl (none, 60)) 22), (22, 0, op_icmp 3 43 25), (25, 0, op_al 0 26), (26, 0, op_gf 10 5 29), (29, 0, op_al 0 30), (30, 0, op_gf 10 2 33)],
  [(33, 0, op_call 9 141 2 0 0 0 0 36), (36, 0, op_is 2 37), (37, 0, op_inc 1 1 40), (40, 0, op_goto 15), (43, 0, op_push (.inl (none, 0)) 44), (44, 0, op_is 3 45), (45, 4, op_il 3 46), (46, 0, op_al 0 47), (47, 0, op_gf 10 2 50)],
  [(50, 0, op_gf 8 0 53), (53, 0, op_icmp 3 77 56), (56, 0, op_al 0 57), (57, 0, op_gf 10 15 60), (60, 0, op_il 3 61), (61, 0, op_al 0 62), (62, 0, op_gf 10 5 65)],
  [(65, 0, op_gf 7 3 68), (68, 0, op_il 3 69), (69, 0, op_ald 0 70), (70, 0, op_ast 0 71), (71, 0, op_inc 3 1 74), (74, 0, op_goto 45), (77, 0, op_al 0 78), (78, 0, op_al 0 79), (79, 0, op_gf 10 2 82)],
  [(82, 0, op_gf 8 0 85), (85, 0, op_pf (tyX10 16) 10 16 88), (88, 0, op_il 1 89), (89, 1, op_goto 0)]]
noncomputable def tb_X10_nearerAt : ab_tab := [[(0, 0, op_il 1 1), (1, 0, op_if 2 12 4), (4, 0, op_il 1 5), (5, 0, op_al 0 6), (6, 0, op_gf 10 16 9), (9, 0, op_icmp 2 23 12), (12, 3, op_goto 0)],
  [(23, 0, op_al 0 24), (24, 0, op_gf 10 15 27), (27, 0, op_il 1 28), (28, 0, op_ald 0 29), (29, 1, op_goto 0)]]
noncomputable def tb_X10_right : ab_tab := [[(0, 0, op_al 0 1), (1, 0, op_il 1 2), (2, 0, op_call 12 70 2 0 0 0 0 5), (5, 0, op_if 0 19 8), (8, 0, op_il 2 9), (9, 0, op_push (.inl (none, 1)) 10), (10, 0, op_icmp 2 19 13), (13, 0, op_il 2 14), (14, 0, op_push (.inl (none, 60)) 16)],
  [(16, 0, op_icmp 5 21 19), (19, 0, op_push (.inl (none, (-1))) 20), (20, 1, op_goto 0), (21, 0, op_push (.inl (none, 0)) 22), (22, 0, op_is 3 23), (23, 0, op_al 0 24), (24, 0, op_gf 10 4 27), (27, 0, op_gf 7 0 30), (30, 0, op_il 2 31), (31, 0, op_b2 (ab_add2K) 32)],
  [(32, 0, op_push (.inl (none, 400)) 35), (35, 0, op_mm2 0 0 38), (38, 0, op_is 4 40), (40, 0, op_al 0 41), (41, 0, op_gf 10 4 44), (44, 0, op_gf 7 0 47), (47, 0, op_is 5 49)],
  [(49, 4, op_il 5 51), (51, 0, op_il 4 53), (53, 0, op_icmp 3 78 56), (56, 0, op_al 0 57), (57, 0, op_gf 10 2 60), (60, 0, op_il 1 61), (61, 0, op_il 5 63), (63, 0, op_call 10 48 3 0 0 0 0 66)],
  [(66, 0, op_if 1 72 69), (69, 0, op_inc 3 1 72), (72, 0, op_inc 5 1 75), (75, 0, op_goto 49), (78, 0, op_il 3 79), (79, 1, op_goto 0)]]
noncomputable def tb_X10_turns : ab_tab := [[(0, 0, op_al 0 1), (1, 0, op_il 1 2), (2, 0, op_call 12 70 2 0 0 0 0 5), (5, 0, op_if 1 10 8), (8, 0, op_push (.inl (none, (-1))) 9), (9, 1, op_goto 0), (10, 0, op_al 0 11), (11, 0, op_gf 10 2 14), (14, 0, op_il 1 15), (15, 0, op_al 0 16)],
  [(16, 0, op_gf 10 4 19), (19, 0, op_gf 7 0 22), (22, 0, op_push (.inl (none, 1)) 23), (23, 0, op_b2 (ab_sub2K) 24), (24, 0, op_call 10 48 3 0 0 0 0 27), (27, 0, op_is 2 28), (28, 0, op_al 0 29), (29, 0, op_gf 10 4 32)],
  [(32, 0, op_gf 7 0 35), (35, 0, op_is 3 36), (36, 4, op_il 3 37), (37, 0, op_push (.inl (none, 400)) 40), (40, 0, op_icmp 3 64 43), (43, 0, op_al 0 44), (44, 0, op_gf 10 2 47), (47, 0, op_il 1 48)],
  [(48, 0, op_il 3 49), (49, 0, op_call 10 48 3 0 0 0 0 52), (52, 0, op_il 2 53), (53, 0, op_icmp 0 58 56), (56, 0, op_il 3 57), (57, 1, op_goto 0), (58, 0, op_inc 3 1 61), (61, 0, op_goto 36)],
  [(64, 0, op_push (.inl (none, (-1))) 65), (65, 1, op_goto 0)]]
noncomputable def tb_X10_motto : ab_tab := [[(0, 0, op_al 0 1), (1, 0, op_il 1 2), (2, 0, op_call 12 70 2 0 0 0 0 5), (5, 0, op_if 1 10 8), (8, 0, op_push (.inl (none, (-1))) 9), (9, 1, op_goto 0), (10, 0, op_al 0 11), (11, 0, op_gf 10 11 14), (14, 0, op_al 0 15), (15, 0, op_gf 10 2 18)],
  [(18, 0, op_gf 8 1 21), (21, 0, op_il 1 22), (22, 0, op_lald 23), (23, 0, op_al 0 24), (24, 0, op_gf 10 4 27), (27, 0, op_gf 7 3 30), (30, 0, op_il 1 31), (31, 0, op_ald 0 32)],
  [(32, 0, op_al 0 33), (33, 0, op_gf 10 4 36), (36, 0, op_il 1 37), (37, 0, op_call 9 6 2 0 0 0 0 40), (40, 0, op_call 5 115 4 0 0 0 0 43), (43, 0, op_al 0 44), (44, 0, op_gf 10 11 47), (47, 0, op_gf 3 1 50)],
  [(50, 1, op_goto 0)]]
noncomputable def tb_X10_byteAt : ab_tab := [[(0, 0, op_il 1 1), (1, 0, op_if 2 27 4), (4, 0, op_il 1 5), (5, 0, op_al 0 6), (6, 0, op_gf 10 11 9), (9, 0, op_gf 3 1 12), (12, 0, op_icmp 3 27 15), (15, 0, op_al 0 16)],
  [(16, 0, op_gf 10 11 19), (19, 0, op_gf 3 0 22), (22, 0, op_il 1 23), (23, 0, op_ald 0 24), (24, 0, op_goto 28), (27, 0, op_push (.inl (none, (-1))) 28), (28, 1, op_goto 0)]]
noncomputable def tb_X10_drawn : ab_tab := [[(0, 0, op_il 1 1), (1, 0, op_push (.inl (none, 1)) 2), (2, 0, op_icmp 2 21 5), (5, 0, op_il 1 6), (6, 0, op_push (.inl (none, 60)) 8), (8, 0, op_icmp 4 21 11), (11, 0, op_al 0 12), (12, 0, op_gf 10 2 15), (15, 0, op_gf 8 0 18)],
  [(18, 0, op_if 1 23 21), (21, 0, op_push (.inl (none, (-1))) 22), (22, 1, op_goto 0), (23, 0, op_il 1 24), (24, 0, op_push (.inl (none, 400)) 27), (27, 0, op_al 0 28), (28, 0, op_gf 10 4 31), (31, 0, op_gf 7 0 34)],
  [(34, 0, op_b2 (ab_sub2K) 35), (35, 0, op_mm2 0 0 38), (38, 0, op_is 3 39), (39, 0, op_il 3 40), (40, 0, op_if 5 54 43), (43, 0, op_al 0 44), (44, 0, op_gf 10 6 47), (47, 0, op_al 0 48)],
  [(48, 0, op_gf 10 4 51), (51, 0, op_call 3 65 2 0 0 0 0 54), (54, 0, op_al 0 55), (55, 0, op_gf 10 4 58), (58, 0, op_al 0 59), (59, 0, op_gf 10 2 62), (62, 0, op_il 3 63), (63, 0, op_il 2 64)],
  [(64, 0, op_call 9 93 4 0 0 0 0 67), (67, 0, op_il 3 68), (68, 1, op_goto 0)]]
noncomputable def tb_X10_odds : ab_tab := [[(0, 0, op_al 0 1), (1, 0, op_il 1 2), (2, 0, op_call 12 70 2 0 0 0 0 5), (5, 0, op_if 0 19 8), (8, 0, op_il 2 9), (9, 0, op_push (.inl (none, 1)) 10), (10, 0, op_icmp 2 19 13), (13, 0, op_il 2 14), (14, 0, op_push (.inl (none, 30)) 16)],
  [(16, 0, op_icmp 5 21 19), (19, 0, op_push (.inl (none, (-1))) 20), (20, 1, op_goto 0), (21, 0, op_push (.inl (none, 0)) 22), (22, 0, op_is 4 24), (24, 0, op_push (.inl (none, 0)) 25), (25, 0, op_is 5 27), (27, 4, op_il 5 29), (29, 0, op_il 2 30), (30, 0, op_icmp 3 91 33)],
  [(33, 0, op_al 0 34), (34, 0, op_gf 10 5 37), (37, 0, op_al 0 38), (38, 0, op_gf 10 4 41), (41, 0, op_call 9 16 2 0 0 0 0 44), (44, 0, op_al 0 45), (45, 0, op_gf 10 5 48)],
  [(48, 0, op_al 0 49), (49, 0, op_gf 10 2 52), (52, 0, op_push (.inl (none, 20)) 54), (54, 0, op_il 3 55), (55, 0, op_il 5 57), (57, 0, op_b2 (ab_add2K) 58), (58, 0, op_call 9 93 4 0 0 0 0 61), (61, 0, op_al 0 62), (62, 0, op_gf 10 5 65)],
  [(65, 0, op_gf 7 4 68), (68, 0, op_il 1 69), (69, 0, op_ald 0 70), (70, 0, op_al 0 71), (71, 0, op_gf 10 4 74), (74, 0, op_gf 7 4 77), (77, 0, op_il 1 78), (78, 0, op_ald 0 79), (79, 0, op_icmp 5 85 82)],
  [(82, 0, op_inc 4 1 85), (85, 0, op_inc 5 1 88), (88, 0, op_goto 27), (91, 0, op_il 4 93), (93, 1, op_goto 0)]]
noncomputable def tb_X10_book : ab_tab := [[(0, 0, op_il 1 1), (1, 0, op_if 0 13 4), (4, 0, op_il 1 5), (5, 0, op_push (.inl (none, 1)) 6), (6, 0, op_icmp 0 13 9), (9, 0, op_push (.inl (none, (-1000))) 12), (12, 1, op_goto 0), (13, 0, op_al 0 14), (14, 0, op_gf 10 9 17)],
  [(17, 0, op_al 0 18), (18, 0, op_gf 10 2 21), (21, 0, op_al 0 22), (22, 0, op_gf 10 0 25), (25, 0, op_call 2 110 3 0 0 0 0 28), (28, 0, op_is 2 29), (29, 0, op_al 0 30), (30, 0, op_gf 10 0 33)],
  [(33, 0, op_push (.inl (none, 0)) 34), (34, 0, op_pf (tyX4 1) 4 1 37), (37, 0, op_il 2 38), (38, 0, op_if 1 52 41), (41, 0, op_push (.inl (none, (-2))) 43), (43, 0, op_al 0 44), (44, 0, op_gf 10 0 47), (47, 0, op_gf 4 13 50)],
  [(50, 0, op_b2 (ab_sub2K) 51), (51, 1, op_goto 0), (52, 0, op_al 0 53), (53, 0, op_gf 10 5 56), (56, 0, op_al 0 57), (57, 0, op_gf 10 4 60), (60, 0, op_call 9 16 2 0 0 0 0 63), (63, 0, op_al 0 64)],
  [(64, 0, op_gf 10 9 67), (67, 0, op_al 0 68), (68, 0, op_gf 10 2 71), (71, 0, op_al 0 72), (72, 0, op_gf 10 5 75), (75, 0, op_call 2 113 3 0 0 0 0 78), (78, 0, op_il 1 79), (79, 0, op_push (.inl (none, 1)) 80)],
  [(80, 0, op_icmp 1 105 83), (83, 0, op_al 0 84), (84, 0, op_gf 10 6 87), (87, 0, op_al 0 88), (88, 0, op_gf 10 4 91), (91, 0, op_call 3 65 2 0 0 0 0 94), (94, 0, op_al 0 95), (95, 0, op_gf 10 4 98)],
  [(98, 0, op_al 0 99), (99, 0, op_gf 10 5 102), (102, 0, op_call 9 16 2 0 0 0 0 105), (105, 0, op_al 0 106), (106, 0, op_gf 10 9 109), (109, 0, op_gf 0 5 112)],
  [(112, 1, op_goto 0)]]
noncomputable def tb_X10_told : ab_tab := [[(0, 0, op_al 0 1), (1, 0, op_gf 10 9 4), (4, 0, op_gf 0 4 7), (7, 0, op_if 1 12 10), (10, 0, op_push (.inl (none, (-1))) 11), (11, 1, op_goto 0), (12, 0, op_il 1 13), (13, 0, op_tsw 0 3 [44, 52, 60, 68] 76)],
  [],
  [(44, 0, op_al 0 45), (45, 0, op_gf 10 9 48)],
  [(48, 0, op_gf 0 6 51), (51, 1, op_goto 0), (52, 0, op_al 0 53), (53, 0, op_gf 10 9 56), (56, 0, op_gf 0 7 59), (59, 1, op_goto 0), (60, 0, op_al 0 61), (61, 0, op_gf 10 9 64)],
  [(64, 0, op_gf 0 8 67), (67, 1, op_goto 0), (68, 0, op_al 0 69), (69, 0, op_gf 10 9 72), (72, 0, op_gf 0 9 75), (75, 1, op_goto 0), (76, 0, op_push (.inl (none, (-1))) 77), (77, 1, op_goto 0)]]
noncomputable def tb_X10_sentence : ab_tab := [[(0, 0, op_al 0 1), (1, 0, op_gf 10 8 4), (4, 0, op_al 0 5), (5, 0, op_gf 10 2 8), (8, 0, op_al 0 9), (9, 0, op_gf 10 0 12), (12, 0, op_call 8 117 3 0 0 0 0 15), (15, 0, op_is 1 16)],
  [(16, 0, op_al 0 17), (17, 0, op_gf 10 0 20), (20, 0, op_push (.inl (none, 0)) 21), (21, 0, op_pf (tyX4 1) 4 1 24), (24, 0, op_il 1 25), (25, 0, op_if 1 38 28), (28, 0, op_push (.inl (none, (-1))) 29), (29, 0, op_al 0 30), (30, 0, op_gf 10 0 33)],
  [(33, 0, op_gf 4 13 36), (36, 0, op_b2 (ab_sub2K) 37), (37, 1, op_goto 0), (38, 0, op_al 0 39), (39, 0, op_gf 10 7 42), (42, 0, op_as 2 43), (43, 0, op_al 0 44), (44, 0, op_al 0 45), (45, 0, op_gf 10 8 48)],
  [(48, 0, op_pf (tyX10 7) 10 7 51), (51, 0, op_al 0 52), (52, 0, op_al 2 53), (53, 0, op_pf (tyX10 8) 10 8 56), (56, 0, op_al 0 57), (57, 0, op_gf 10 7 60), (60, 0, op_gf 6 4 63), (63, 1, op_goto 0)]]
noncomputable def tb_X10_said : ab_tab := [[(0, 0, op_al 0 1), (1, 0, op_gf 10 7 4), (4, 0, op_gf 6 3 7), (7, 0, op_if 1 12 10), (10, 0, op_push (.inl (none, (-1))) 11), (11, 1, op_goto 0), (12, 0, op_push (.inl (none, 0)) 13), (13, 0, op_is 2 14), (14, 0, op_push (.inl (none, 0)) 15), (15, 0, op_is 3 16)],
  [(16, 4, op_il 3 17), (17, 0, op_al 0 18), (18, 0, op_gf 10 2 21), (21, 0, op_gf 8 0 24), (24, 0, op_icmp 3 62 27), (27, 0, op_al 0 28), (28, 0, op_gf 10 7 31), (31, 0, op_al 0 32)],
  [(32, 0, op_gf 10 2 35), (35, 0, op_al 0 36), (36, 0, op_gf 10 4 39), (39, 0, op_il 3 40), (40, 0, op_call 8 118 4 0 0 0 0 43), (43, 0, op_if 0 56 46), (46, 0, op_il 2 47), (47, 0, op_il 1 48)],
  [(48, 0, op_icmp 1 53 51), (51, 0, op_il 3 52), (52, 1, op_goto 0), (53, 0, op_inc 2 1 56), (56, 0, op_inc 3 1 59), (59, 0, op_goto 16), (62, 0, op_il 1 63), (63, 0, op_push (.inl (none, (-1))) 64)],
  [(64, 0, op_icmp 1 71 67), (67, 0, op_il 2 68), (68, 0, op_goto 72), (71, 0, op_push (.inl (none, (-1))) 72), (72, 1, op_goto 0)]]
noncomputable def tb_X10_image : ab_tab := [[(0, 0, op_il 1 1), (1, 0, op_if 2 13 4), (4, 0, op_il 1 5), (5, 0, op_al 0 6), (6, 0, op_gf 10 12 9), (9, 0, op_len 10), (10, 0, op_icmp 2 15 13), (13, 0, op_push (.inl (none, 0)) 14), (14, 1, op_goto 0), (15, 0, op_al 0 16)],
  [(16, 0, op_gf 10 12 19), (19, 0, op_il 1 20), (20, 0, op_aald 2 21), (21, 0, op_as 2 22), (22, 0, op_al 2 23), (23, 0, op_gf 2 0 26), (26, 0, op_al 0 27), (27, 0, op_gf 10 2 30), (30, 0, op_call 10 84 2 0 0 0 0 33)],
  [(33, 0, op_al 2 34), (34, 0, op_gf 2 1 37), (37, 0, op_al 0 38), (38, 0, op_gf 10 4 41), (41, 0, op_call 9 16 2 0 0 0 0 44), (44, 0, op_al 2 45), (45, 0, op_gf 2 2 48)],
  [(48, 0, op_al 0 49), (49, 0, op_gf 10 7 52), (52, 0, op_call 8 59 2 0 0 0 0 55), (55, 0, op_pre (pr_tT (22, 24, 0, 0, 1, 19, 6) 23 25 40) (op_pre (pr_tT (122, 124, 0, 0, 1, 19, 6) 23 25 40) (op_pre (pr_tT (144, 146, 0, 0, 1, 19, 6) 23 25 40) (op_pre (pr_tT (23, 25, 0, 0, 1, 19, 6) 22 24 40) (op_pre (pr_tT (122, 124, 0, 0, 1, 19, 6) 22 24 40) (op_pre (pr_tT (144, 146, 0, 0, 1, 19, 6) 22 24 40) (op_pre (pr_tT (23, 25, 0, 0, 1, 19, 6) 122 124 40) (op_pre (pr_tT (22, 24, 0, 0, 1, 19, 6) 122 124 40) (op_pre (pr_tT (144, 146, 0, 0, 1, 19, 6) 122 124 40) (op_pre (pr_tT (23, 25, 0, 0, 1, 19, 6) 144 146 40) (op_pre (pr_tT (22, 24, 0, 0, 1, 19, 6) 144 146 40) (op_pre (pr_tT (122, 124, 0, 0, 1, 19, 6) 144 146 40) (op_al 2 56))))))))))))), (56, 0, op_push (.inl (none, 1)) 57), (57, 0, op_pf (tyX2 3) 2 3 60), (60, 0, op_push (.inl (none, 1)) 61), (61, 1, op_goto 0)]]
noncomputable def tb_X10_restore : ab_tab := [[(0, 0, op_il 1 1), (1, 0, op_if 2 25 4), (4, 0, op_il 1 5), (5, 0, op_al 0 6), (6, 0, op_gf 10 12 9), (9, 0, op_len 10), (10, 0, op_icmp 3 25 13), (13, 0, op_al 0 14), (14, 0, op_gf 10 12 17)],
  [(17, 0, op_il 1 18), (18, 0, op_aald 2 19), (19, 0, op_gf 2 3 22), (22, 0, op_if 1 27 25), (25, 0, op_push (.inl (none, 0)) 26), (26, 1, op_goto 0), (27, 0, op_al 0 28), (28, 0, op_gf 10 12 31), (31, 0, op_il 1 32)],
  [(32, 0, op_aald 2 33), (33, 0, op_as 2 34), (34, 0, op_al 0 35), (35, 0, op_gf 10 2 38), (38, 0, op_al 2 39), (39, 0, op_gf 2 0 42), (42, 0, op_call 10 84 2 0 0 0 0 45), (45, 0, op_al 0 46), (46, 0, op_gf 10 4 49)],
  [(49, 0, op_al 2 50), (50, 0, op_gf 2 1 53), (53, 0, op_call 9 16 2 0 0 0 0 56), (56, 0, op_al 0 57), (57, 0, op_gf 10 7 60), (60, 0, op_al 2 61), (61, 0, op_gf 2 2 64)],
  [(64, 0, op_call 8 59 2 0 0 0 0 67), (67, 0, op_pre (pr_tT (22, 24, 0, 0, 1, 19, 6) 23 25 40) (op_pre (pr_tT (122, 124, 0, 0, 1, 19, 6) 23 25 40) (op_pre (pr_tT (144, 146, 0, 0, 1, 19, 6) 23 25 40) (op_pre (pr_tT (23, 25, 0, 0, 1, 19, 6) 22 24 40) (op_pre (pr_tT (122, 124, 0, 0, 1, 19, 6) 22 24 40) (op_pre (pr_tT (144, 146, 0, 0, 1, 19, 6) 22 24 40) (op_pre (pr_tT (23, 25, 0, 0, 1, 19, 6) 122 124 40) (op_pre (pr_tT (22, 24, 0, 0, 1, 19, 6) 122 124 40) (op_pre (pr_tT (144, 146, 0, 0, 1, 19, 6) 122 124 40) (op_pre (pr_tT (23, 25, 0, 0, 1, 19, 6) 144 146 40) (op_pre (pr_tT (22, 24, 0, 0, 1, 19, 6) 144 146 40) (op_pre (pr_tT (122, 124, 0, 0, 1, 19, 6) 144 146 40) (op_al 0 68))))))))))))), (68, 0, op_gf 10 6 71), (71, 0, op_push (.inl (none, 0)) 72), (72, 0, op_pf (tyX1 1) 1 1 75), (75, 0, op_push (.inl (none, 1)) 76), (76, 1, op_goto 0)]]
noncomputable def tb_X10_count : ab_tab := [[(0, 0, op_il 1 1), (1, 0, op_tsw 0 6 [44, 52, 60, 68, 76, 84, 92] 100)],
  [],
  [(44, 0, op_al 0 45), (45, 0, op_gf 10 2 48)],
  [(48, 0, op_gf 8 0 51), (51, 1, op_goto 0), (52, 0, op_al 0 53), (53, 0, op_gf 10 2 56), (56, 0, op_gf 8 4 59), (59, 1, op_goto 0), (60, 0, op_al 0 61), (61, 0, op_gf 10 2 64)],
  [(64, 0, op_gf 8 9 67), (67, 1, op_goto 0), (68, 0, op_al 0 69), (69, 0, op_gf 10 2 72), (72, 0, op_call 10 32 1 0 0 0 0 75), (75, 1, op_goto 0), (76, 0, op_al 0 77), (77, 0, op_gf 10 2 80)],
  [(80, 0, op_call 10 39 1 0 0 0 0 83), (83, 1, op_goto 0), (84, 0, op_al 0 85), (85, 0, op_gf 10 2 88), (88, 0, op_call 10 74 1 0 0 0 0 91), (91, 1, op_goto 0), (92, 0, op_al 0 93), (93, 0, op_gf 10 0 96)],
  [(96, 0, op_gf 4 1 99), (99, 1, op_goto 0), (100, 0, op_push (.inl (none, (-1))) 101), (101, 1, op_goto 0)]]
noncomputable def tb_X11_feed : ab_tab := [[(0, 0, op_al 0 1), (1, 0, op_push (.inl (none, 0)) 2), (2, 0, op_pf (tyX11 0) 11 0 5), (5, 0, op_pre (pr_use) (op_al 0 6)), (6, 0, op_gf 11 2 9), (9, 0, op_push (.inl (none, 20)) 11), (11, 0, op_b2 (ab_add2K) 12), (12, 0, op_push (.inl (none, 940)) 15), (15, 0, op_icmp 5 20 18)],
  [(18, 0, op_push (.inl (none, (-1))) 19), (19, 1, op_goto 0), (20, 0, op_al 0 21), (21, 0, op_il 1 22), (22, 0, op_call 13 216 2 0 0 0 0 25), (25, 0, op_al 0 26), (26, 0, op_il 2 27), (27, 0, op_call 13 216 2 0 0 0 0 30), (30, 0, op_al 0 31), (31, 0, op_il 3 32)],
  [(32, 0, op_call 13 216 2 0 0 0 0 35), (35, 0, op_al 0 36), (36, 0, op_il 4 38), (38, 0, op_call 13 216 2 0 0 0 0 41), (41, 0, op_al 0 42), (42, 0, op_il 5 44), (44, 0, op_call 13 216 2 0 0 0 0 47), (47, 0, op_al 0 48)],
  [(48, 0, op_gf 11 2 51), (51, 1, op_goto 0)]]
noncomputable def tb_X11_four : ab_tab := [[(0, 0, op_push (.inl (none, 24)) 2), (2, 0, op_is 2 3), (3, 0, op_il 2 4), (4, 0, op_if 2 36 7), (7, 0, op_al 0 8), (8, 0, op_gf 11 1 11), (11, 0, op_al 0 12), (12, 0, op_gf 11 2 15), (15, 0, op_il 1 16)],
  [(16, 0, op_il 2 17), (17, 0, op_b2 (ab_binK (fun u v => u >>> (v &&& 31))) 18), (18, 0, op_cv (-128) 127 19), (19, 0, op_ast 2 20), (20, 0, op_al 0 21), (21, 0, op_dup 22), (22, 0, op_gf 11 2 25), (25, 0, op_push (.inl (none, 1)) 26), (26, 0, op_b2 (ab_add2K) 27), (27, 0, op_pf (tyX11 2) 11 2 30), (30, 0, op_inc 2 (-8) 33)],
  [(33, 0, op_goto 3), (36, 2, op_goto 0)]]
noncomputable def tb_X11_end : ab_tab := [[(0, 0, op_al 0 1), (1, 0, op_push (.inl (none, 0)) 2), (2, 0, op_pf (tyX11 0) 11 0 5), (5, 0, op_il 1 6), (6, 0, op_if 2 17 9), (9, 0, op_il 1 10), (10, 0, op_al 0 11), (11, 0, op_gf 11 2 14), (14, 0, op_icmpF 5 4 19 17)],
  [(17, 0, op_push (.inl (none, 0)) 18), (18, 1, op_goto 0), (19, 0, op_al 0 20), (20, 0, op_il 1 21), (21, 0, op_pf (tyX11 2) 11 2 24), (24, 0, op_push (.inl (none, 1)) 25), (25, 1, op_goto 0)]]
noncomputable def tb_X11_init : ab_tab := [[(0, 0, op_al 0 1), (1, 0, op_oi 4), (4, 0, op_al 0 5), (5, 0, op_push (.inl (none, 940)) 8), (8, 0, op_na 2 (.inl (none, 0)) 23 2596 10), (10, 0, op_pf (tyX11 1) 11 1 13), (13, 0, op_al 0 14), (14, 0, op_push (.inl (none, 305)) 17)],
  [(17, 0, op_na 0 (.inl (none, 0)) 23 2596 19), (19, 0, op_pf (tyX11 6) 11 6 22), (22, 0, op_al 0 23), (23, 0, op_push (.inl (none, 100)) 25), (25, 0, op_na 0 (.inl (none, 0)) 23 2596 27), (27, 0, op_pf (tyX11 7) 11 7 30), (30, 0, op_al 0 31), (31, 0, op_push (.inl (none, 135)) 34)],
  [(34, 0, op_na 0 (.inl (none, 0)) 23 2596 36), (36, 0, op_pf (tyX11 8) 11 8 39), (39, 0, op_al 0 40), (40, 0, op_push (.inl (none, 30)) 42), (42, 0, op_na 1 (.inr (.inl (.inl (none, 0)))) 23 2596 44), (44, 0, op_pf (tyX11 9) 11 9 47), (47, 0, op_al 0 48)],
  [(48, 0, op_push (.inl (none, 22)) 50), (50, 0, op_na 1 (.inr (.inl (.inl (none, 0)))) 23 2596 52), (52, 0, op_pf (tyX11 10) 11 10 55), (55, 0, op_al 0 56), (56, 0, op_push (.inl (none, 192)) 59), (59, 0, op_na 0 (.inl (none, 0)) 23 2596 61), (61, 0, op_pf (tyX11 21) 11 21 64)],
  [(64, 0, op_al 0 65), (65, 0, op_push (.inl (none, 24)) 67), (67, 0, op_na 0 (.inl (none, 0)) 23 2596 69), (69, 0, op_pf (tyX11 22) 11 22 72), (72, 0, op_al 0 73), (73, 0, op_push (.inl (none, 7)) 75), (75, 0, op_na 0 (.inl (none, 0)) 23 2596 77), (77, 0, op_pf (tyX11 24) 11 24 80)],
  [(80, 0, op_al 0 81), (81, 0, op_push (.inl (none, 7)) 83), (83, 0, op_na 0 (.inl (none, 0)) 23 2596 85), (85, 0, op_pf (tyX11 25) 11 25 88), (88, 0, op_al 0 89), (89, 0, op_push (.inl (none, 7)) 91), (91, 0, op_na 0 (.inl (none, 0)) 23 2596 93), (93, 0, op_pf (tyX11 26) 11 26 96)],
  [(96, 0, op_al 0 97), (97, 0, op_push (.inl (none, (-1))) 98), (98, 0, op_pf (tyX11 27) 11 27 101), (101, 0, op_al 0 102), (102, 0, op_push (.inl (none, (-1))) 103), (103, 0, op_pf (tyX11 28) 11 28 106), (106, 0, op_al 0 107), (107, 0, op_push (.inl (none, 9)) 109), (109, 0, op_na 0 (.inl (none, 0)) 23 2596 111), (111, 0, op_pf (tyX11 29) 11 29 114)],
  [(114, 0, op_al 0 115), (115, 0, op_push (.inl (none, 9)) 117), (117, 0, op_na 0 (.inl (none, 0)) 23 2596 119), (119, 0, op_pf (tyX11 30) 11 30 122), (122, 0, op_al 0 123), (123, 0, op_push (.inl (none, 9)) 125), (125, 0, op_na 0 (.inl (none, 0)) 23 2596 127), (127, 0, op_pf (tyX11 31) 11 31 130)],
  [(130, 0, op_al 0 131), (131, 0, op_push (.inl (none, 8)) 133), (133, 0, op_na 0 (.inl (none, 0)) 23 2596 135), (135, 0, op_pf (tyX11 32) 11 32 138), (138, 0, op_al 0 139), (139, 0, op_push (.inl (none, 8)) 141), (141, 0, op_na 0 (.inl (none, 0)) 23 2596 143), (143, 0, op_pf (tyX11 33) 11 33 146)],
  [(146, 0, op_al 0 147), (147, 0, op_push (.inl (none, (-1))) 148), (148, 0, op_pf (tyX11 34) 11 34 151), (151, 0, op_al 0 152), (152, 0, op_push (.inl (none, 48)) 154), (154, 0, op_na 2 (.inl (none, 0)) 23 2596 156), (156, 0, op_pf (tyX11 35) 11 35 159), (159, 0, op_al 0 160)],
  [(160, 0, op_push (.inl (none, 4)) 161), (161, 0, op_na 0 (.inl (none, 0)) 23 2596 163), (163, 0, op_pf (tyX11 39) 11 39 166), (166, 0, op_al 0 167), (167, 0, op_push (.inl (none, 45)) 169), (169, 0, op_na 0 (.inl (none, 0)) 23 2596 171), (171, 0, op_pf (tyX11 41) 11 41 174), (174, 0, op_al 0 175), (175, 0, op_push (.inl (none, 45)) 177)],
  [(177, 0, op_na 3 (.inl (none, 0)) 23 2596 179), (179, 0, op_pf (tyX11 47) 11 47 182), (182, 0, op_al 0 183), (183, 0, op_push (.inl (none, 610)) 186), (186, 0, op_na 0 (.inl (none, 0)) 23 2596 188), (188, 0, op_pf (tyX11 48) 11 48 191), (191, 0, op_al 0 192)],
  [(192, 0, op_push (.inl (none, 30)) 194), (194, 0, op_na 1 (.inr (.inl (.inl (none, 0)))) 23 2596 196), (196, 0, op_pf (tyX11 49) 11 49 199), (199, 0, op_al 0 200), (200, 0, op_push (.inl (none, 2)) 201), (201, 0, op_na 3 (.inl (none, 0)) 23 2596 203), (203, 0, op_pf (tyX11 50) 11 50 206), (206, 0, op_al 0 207), (207, 0, op_gf 11 10 210)],
  [(210, 0, op_push (.inl (none, 0)) 211), (211, 0, op_push (.inr (.inl (.inl (none, 1953462126)))) 214), (214, 0, op_lastC 215), (215, 0, op_al 0 216), (216, 0, op_gf 11 10 219), (219, 0, op_push (.inl (none, 1)) 220), (220, 0, op_push (.inr (.inl (.inl (none, 1717662580)))) 223), (223, 0, op_lastC 224)],
  [(224, 0, op_al 0 225), (225, 0, op_gf 11 10 228), (228, 0, op_push (.inl (none, 2)) 229), (229, 0, op_push (.inr (.inl (.inl (none, 1936486263)))) 232), (232, 0, op_lastC 233), (233, 0, op_al 0 234), (234, 0, op_gf 11 10 237), (237, 0, op_push (.inl (none, 3)) 238), (238, 0, op_push (.inr (.inl (.inl (none, 1952805485)))) 241)],
  [(241, 0, op_lastC 242), (242, 0, op_al 0 243), (243, 0, op_gf 11 10 246), (246, 0, op_push (.inl (none, 4)) 247), (247, 0, op_push (.inr (.inl (.inl (none, 500135192942)))) 250), (250, 0, op_lastC 251), (251, 0, op_al 0 252), (252, 0, op_gf 11 10 255), (255, 0, op_push (.inl (none, 5)) 256)],
  [(256, 0, op_push (.inr (.inl (.inl (none, 465625246068)))) 259), (259, 0, op_lastC 260), (260, 0, op_al 0 261), (261, 0, op_gf 11 10 264), (264, 0, op_push (.inl (none, 6)) 266), (266, 0, op_push (.inr (.inl (.inl (none, 109299962373989)))) 269), (269, 0, op_lastC 270), (270, 0, op_al 0 271), (271, 0, op_gf 11 10 274)],
  [(274, 0, op_push (.inl (none, 7)) 276), (276, 0, op_push (.inr (.inl (.inl (none, 440006570868)))) 279), (279, 0, op_lastC 280), (280, 0, op_al 0 281), (281, 0, op_gf 11 10 284), (284, 0, op_push (.inl (none, 8)) 286), (286, 0, op_push (.inr (.inl (.inl (none, 1650814564)))) 289)],
  [(289, 0, op_lastC 290), (290, 0, op_al 0 291), (291, 0, op_gf 11 10 294), (294, 0, op_push (.inl (none, 9)) 296), (296, 0, op_push (.inr (.inl (.inl (none, 495672452197)))) 299), (299, 0, op_lastC 300), (300, 0, op_al 0 301), (301, 0, op_gf 11 10 304)],
  [(304, 0, op_push (.inl (none, 10)) 306), (306, 0, op_push (.inr (.inl (.inl (none, 427020345714)))) 309), (309, 0, op_lastC 310), (310, 0, op_al 0 311), (311, 0, op_gf 11 10 314), (314, 0, op_push (.inl (none, 11)) 316), (316, 0, op_push (.inr (.inl (.inl (none, 112641513454181)))) 319), (319, 0, op_lastC 320)],
  [(320, 0, op_al 0 321), (321, 0, op_gf 11 10 324), (324, 0, op_push (.inl (none, 12)) 326), (326, 0, op_push (.inr (.inl (.inl (none, 6578553)))) 329), (329, 0, op_lastC 330), (330, 0, op_al 0 331), (331, 0, op_gf 11 10 334), (334, 0, op_push (.inl (none, 13)) 336)],
  [(336, 0, op_push (.inr (.inl (.inl (none, 28530)))) 339), (339, 0, op_lastC 340), (340, 0, op_al 0 341), (341, 0, op_gf 11 10 344), (344, 0, op_push (.inl (none, 14)) 346), (346, 0, op_push (.inr (.inl (.inl (none, 6385252)))) 349), (349, 0, op_lastC 350), (350, 0, op_al 0 351), (351, 0, op_gf 11 10 354)],
  [(354, 0, op_push (.inl (none, 15)) 356), (356, 0, op_push (.inr (.inl (.inl (none, 7237492)))) 359), (359, 0, op_lastC 360), (360, 0, op_al 0 361), (361, 0, op_gf 11 10 364), (364, 0, op_push (.inl (none, 16)) 366), (366, 0, op_push (.inr (.inl (.inl (none, 491394656372)))) 369)],
  [(369, 0, op_lastC 370), (370, 0, op_al 0 371), (371, 0, op_gf 11 10 374), (374, 0, op_push (.inl (none, 17)) 376), (376, 0, op_push (.inr (.inl (.inl (none, 126892147762532)))) 379), (379, 0, op_lastC 380), (380, 0, op_al 0 381), (381, 0, op_gf 11 10 384)],
  [(384, 0, op_push (.inl (none, 18)) 386), (386, 0, op_push (.inr (.inl (.inl (none, 108243466675048)))) 389), (389, 0, op_lastC 390), (390, 0, op_al 0 391), (391, 0, op_gf 11 10 394), (394, 0, op_push (.inl (none, 19)) 396), (396, 0, op_push (.inr (.inl (.inl (none, 418363302244)))) 399), (399, 0, op_lastC 400)],
  [(400, 0, op_al 0 401), (401, 0, op_gf 11 10 404), (404, 0, op_push (.inl (none, 20)) 406), (406, 0, op_push (.inr (.inl (.inl (none, 108243635103086)))) 409), (409, 0, op_lastC 410), (410, 0, op_al 0 411), (411, 0, op_gf 11 10 414), (414, 0, op_push (.inl (none, 21)) 416)],
  [(416, 0, op_push (.inr (.inl (.inl (none, 121450625394034)))) 419), (419, 0, op_lastC 420), (420, 0, op_al 0 421), (421, 0, op_call 13 153 1 0 0 23 2596 424), (424, 0, op_push (.inl (none, 0)) 425), (425, 0, op_is 1 426), (426, 0, op_il 1 427), (427, 0, op_push (.inl (none, 100)) 429), (429, 0, op_icmp 3 450 432)],
  [(432, 0, op_al 0 433), (433, 0, op_gf 11 6 436), (436, 0, op_il 1 437), (437, 0, op_al 0 438), (438, 0, op_gf 11 7 441), (441, 0, op_il 1 442), (442, 0, op_ald 0 443), (443, 0, op_astK 444), (444, 0, op_inc 1 1 447), (447, 0, op_goto 426)],
  [(450, 2, op_goto 0)]]
noncomputable def tb_X11_valley : ab_tab := [[(0, 0, op_al 0 1), (1, 0, op_push (.inl (none, 0)) 2), (2, 0, op_pf (tyX11 0) 11 0 5), (5, 0, op_al 0 6), (6, 0, op_push (.inl (none, 900)) 9), (9, 0, op_call 13 123 2 0 0 0 0 12), (12, 0, op_al 0 13), (13, 0, op_push (.inl (none, 0)) 14), (14, 0, op_pf (tyX11 15) 11 15 17)],
  [(17, 0, op_al 0 18), (18, 0, op_push (.inl (none, 0)) 19), (19, 0, op_pf (tyX11 19) 11 19 22), (22, 0, op_al 0 23), (23, 0, op_push (.inl (none, 0)) 24), (24, 0, op_pf (tyX11 20) 11 20 27), (27, 0, op_al 0 28), (28, 0, op_call 13 153 1 0 0 0 0 31), (31, 0, op_al 0 32)],
  [(32, 0, op_call 13 13 1 0 0 0 0 35), (35, 4, op_al 0 36), (36, 0, op_gf 11 11 39), (39, 0, op_if 0 78 42), (42, 0, op_al 0 43), (43, 0, op_call 13 85 1 0 0 0 0 46), (46, 0, op_if 0 58 49)],
  [(49, 0, op_al 0 50), (50, 0, op_push (.inl (none, 59)) 52), (52, 0, op_call 13 34 2 0 0 0 0 55), (55, 0, op_if 1 65 58), (58, 0, op_push (.inl (none, (-1))) 59), (59, 0, op_al 0 60), (60, 0, op_gf 11 16 63), (63, 0, op_b2 (ab_sub2K) 64)],
  [(64, 1, op_goto 0), (65, 0, op_al 0 66), (66, 0, op_dup 67), (67, 0, op_gf 11 19 70), (70, 0, op_push (.inl (none, 1)) 71), (71, 0, op_b2 (ab_add2K) 72), (72, 0, op_pf (tyX11 19) 11 19 75), (75, 0, op_goto 35), (78, 4, op_push (.inl (none, 0)) 79), (79, 0, op_is 1 80)],
  [(80, 0, op_il 1 81), (81, 0, op_push (.inl (none, 305)) 84), (84, 0, op_icmp 3 115 87), (87, 0, op_al 0 88), (88, 0, op_gf 11 6 91), (91, 0, op_il 1 92), (92, 0, op_il 1 93), (93, 0, op_push (.inl (none, 100)) 95), (95, 0, op_icmp 3 107 98)],
  [(98, 0, op_al 0 99), (99, 0, op_gf 11 7 102), (102, 0, op_il 1 103), (103, 0, op_ald 0 104), (104, 0, op_goto 108), (107, 0, op_push (.inl (none, 0)) 108), (108, 0, op_astK 109), (109, 0, op_inc 1 1 112)],
  [(112, 0, op_goto 80), (115, 0, op_pre (pr_r0 1 124) (op_push (.inl (none, 0)) 116)), (116, 0, op_is 1 117), (117, 4, op_il 1 118), (118, 0, op_push (.inl (none, 15)) 120), (120, 0, op_icmp 3 144 123), (123, 0, op_al 0 124), (124, 0, op_gf 11 9 127), (127, 0, op_il 1 128)],
  [(128, 0, op_al 0 129), (129, 0, op_gf 11 9 132), (132, 0, op_push (.inl (none, 15)) 134), (134, 0, op_il 1 135), (135, 0, op_b2 (ab_add2K) 136), (136, 0, op_lald 137), (137, 0, op_last 138), (138, 0, op_inc 1 1 141), (141, 0, op_goto 117)],
  [(144, 0, op_push (.inl (none, 0)) 145), (145, 0, op_is 1 146), (146, 4, op_il 1 147), (147, 0, op_al 0 148), (148, 0, op_gf 11 6 151), (151, 0, op_push (.inl (none, 0)) 152), (152, 0, op_ald 0 153), (153, 0, op_icmp 3 180 156), (156, 0, op_al 0 157), (157, 0, op_gf 11 6 160)],
  [(160, 0, op_push (.inl (none, 103)) 162), (162, 0, op_il 1 163), (163, 0, op_b2 (ab_add2K) 164), (164, 0, op_al 0 165), (165, 0, op_gf 11 6 168), (168, 0, op_push (.inl (none, 13)) 170), (170, 0, op_il 1 171), (171, 0, op_b2 (ab_add2K) 172), (172, 0, op_ald 0 173), (173, 0, op_astK 174), (174, 0, op_inc 1 1 177)],
  [(177, 0, op_goto 146), (180, 0, op_al 0 181), (181, 0, op_push (.inl (none, 0)) 182), (182, 0, op_pf (tyX11 23) 11 23 185), (185, 0, op_al 0 186), (186, 0, op_gf 11 19 189), (189, 1, op_goto 0)]]
noncomputable def tb_X11_fault : ab_tab := [[(0, 0, op_al 0 1), (1, 0, op_push (.inl (none, 0)) 2), (2, 0, op_pf (tyX11 0) 11 0 5), (5, 0, op_al 0 6), (6, 0, op_gf 11 15 9), (9, 1, op_goto 0)]]
noncomputable def tb_X11_town : ab_tab := [[(0, 0, op_al 0 1), (1, 0, op_al 0 2), (2, 0, op_il 1 3), (3, 0, op_call 13 44 2 0 0 0 0 6), (6, 0, op_if 0 19 9), (9, 0, op_il 2 10), (10, 0, op_push (.inl (none, 0)) 11), (11, 0, op_push (.inl (none, 8)) 13), (13, 0, op_call 0 18 3 0 0 0 0 16)],
  [(16, 0, op_if 1 23 19), (19, 0, op_push (.inl (none, 1)) 20), (20, 0, op_goto 24), (23, 0, op_push (.inl (none, 0)) 24), (24, 0, op_call 13 40 2 0 0 0 0 27), (27, 0, op_if 0 32 30), (30, 0, op_push (.inl (none, 0)) 31), (31, 1, op_goto 0)],
  [(32, 0, op_il 2 33), (33, 0, op_tsw 0 7 [80, 90, 100, 114, 128, 138, 148, 154] 166)],
  [],
  [],
  [(80, 0, op_al 0 81), (81, 0, op_gf 11 6 84), (84, 0, op_push (.inl (none, 6)) 86), (86, 0, op_il 1 87), (87, 0, op_b2 (ab_add2K) 88), (88, 0, op_ald 0 89), (89, 1, op_goto 0), (90, 0, op_al 0 91), (91, 0, op_gf 11 6 94), (94, 0, op_push (.inl (none, 103)) 96)],
  [(96, 0, op_il 1 97), (97, 0, op_b2 (ab_add2K) 98), (98, 0, op_ald 0 99), (99, 1, op_goto 0), (100, 0, op_al 0 101), (101, 0, op_il 1 102), (102, 0, op_call 13 43 2 0 0 0 0 105), (105, 0, op_if 0 112 108), (108, 0, op_push (.inl (none, 1)) 109), (109, 0, op_goto 113)],
  [(112, 0, op_push (.inl (none, 0)) 113), (113, 1, op_goto 0), (114, 0, op_al 0 115), (115, 0, op_il 1 116), (116, 0, op_call 13 97 2 0 0 0 0 119), (119, 0, op_if 0 126 122), (122, 0, op_push (.inl (none, 1)) 123), (123, 0, op_goto 127), (126, 0, op_push (.inl (none, 0)) 127), (127, 1, op_goto 0)],
  [(128, 0, op_al 0 129), (129, 0, op_gf 11 6 132), (132, 0, op_push (.inl (none, 110)) 134), (134, 0, op_il 1 135), (135, 0, op_b2 (ab_add2K) 136), (136, 0, op_ald 0 137), (137, 1, op_goto 0), (138, 0, op_al 0 139), (139, 0, op_gf 11 6 142), (142, 0, op_push (.inl (none, 117)) 144)],
  [(144, 0, op_il 1 145), (145, 0, op_b2 (ab_add2K) 146), (146, 0, op_ald 0 147), (147, 1, op_goto 0), (148, 0, op_al 0 149), (149, 0, op_il 1 150), (150, 0, op_call 13 22 2 0 0 0 0 153), (153, 1, op_goto 0), (154, 0, op_al 0 155), (155, 0, op_gf 11 6 158), (158, 0, op_push (.inl (none, 102)) 160)],
  [(160, 0, op_ald 0 161), (161, 0, op_il 1 162), (162, 0, op_b2 (ab_binK (fun u v => u >>> (v &&& 31))) 163), (163, 0, op_push (.inl (none, 1)) 164), (164, 0, op_b2 (ab_an8K) 165), (165, 1, op_goto 0), (166, 0, op_al 0 167), (167, 0, op_il 1 168), (168, 0, op_call 13 127 2 0 0 0 0 171), (171, 0, op_if 0 178 174), (174, 0, op_push (.inl (none, 1)) 175), (175, 0, op_goto 179)],
  [(178, 0, op_push (.inl (none, 0)) 179), (179, 1, op_goto 0)]]
noncomputable def tb_X11_due : ab_tab := [[(0, 0, op_al 0 1), (1, 0, op_al 0 2), (2, 0, op_il 1 3), (3, 0, op_call 13 44 2 0 0 0 0 6), (6, 0, op_if 0 31 9), (9, 0, op_il 2 10), (10, 0, op_push (.inl (none, 0)) 11), (11, 0, op_push (.inl (none, 399)) 14), (14, 0, op_call 0 18 3 0 0 0 0 17)],
  [(17, 0, op_if 0 31 20), (20, 0, op_al 0 21), (21, 0, op_il 1 22), (22, 0, op_il 2 23), (23, 0, op_call 13 75 3 0 0 0 0 26), (26, 0, op_push (.inl (none, 99)) 28), (28, 0, op_icmp 1 35 31), (31, 0, op_push (.inl (none, 1)) 32)],
  [(32, 0, op_goto 36), (35, 0, op_push (.inl (none, 0)) 36), (36, 0, op_call 13 40 2 0 0 0 0 39), (39, 0, op_if 0 44 42), (42, 0, op_push (.inl (none, 0)) 43), (43, 1, op_goto 0), (44, 0, op_al 0 45), (45, 0, op_il 1 46), (46, 0, op_il 2 47), (47, 0, op_call 13 75 3 0 0 0 0 50)],
  [(50, 1, op_goto 0)]]
noncomputable def tb_X11_train : ab_tab := [[(0, 0, op_al 0 1), (1, 0, op_al 0 2), (2, 0, op_il 1 3), (3, 0, op_call 13 132 2 0 0 0 0 6), (6, 0, op_if 0 19 9), (9, 0, op_il 2 10), (10, 0, op_push (.inl (none, 0)) 11), (11, 0, op_push (.inl (none, 6)) 13), (13, 0, op_call 0 18 3 0 0 0 0 16)],
  [(16, 0, op_if 1 23 19), (19, 0, op_push (.inl (none, 1)) 20), (20, 0, op_goto 24), (23, 0, op_push (.inl (none, 0)) 24), (24, 0, op_call 13 40 2 0 0 0 0 27), (27, 0, op_if 0 32 30), (30, 0, op_push (.inl (none, 0)) 31), (31, 1, op_goto 0)],
  [(32, 0, op_il 2 33), (33, 0, op_tsw 0 5 [72, 82, 92, 102, 112, 118] 124)],
  [],
  [(72, 0, op_al 0 73), (73, 0, op_gf 11 6 76), (76, 0, op_push (.inl (none, 68)) 78), (78, 0, op_il 1 79), (79, 0, op_b2 (ab_add2K) 80)],
  [(80, 0, op_ald 0 81), (81, 1, op_goto 0), (82, 0, op_al 0 83), (83, 0, op_gf 11 6 86), (86, 0, op_push (.inl (none, 76)) 88), (88, 0, op_il 1 89), (89, 0, op_b2 (ab_add2K) 90), (90, 0, op_ald 0 91), (91, 1, op_goto 0), (92, 0, op_al 0 93), (93, 0, op_gf 11 6 96)],
  [(96, 0, op_push (.inl (none, 84)) 98), (98, 0, op_il 1 99), (99, 0, op_b2 (ab_add2K) 100), (100, 0, op_ald 0 101), (101, 1, op_goto 0), (102, 0, op_al 0 103), (103, 0, op_gf 11 6 106), (106, 0, op_push (.inl (none, 92)) 108), (108, 0, op_il 1 109), (109, 0, op_b2 (ab_add2K) 110), (110, 0, op_ald 0 111), (111, 1, op_goto 0)],
  [(112, 0, op_al 0 113), (113, 0, op_il 1 114), (114, 0, op_call 13 35 2 0 0 0 0 117), (117, 1, op_goto 0), (118, 0, op_al 0 119), (119, 0, op_il 1 120), (120, 0, op_call 13 53 2 0 0 0 0 123), (123, 1, op_goto 0), (124, 0, op_al 0 125), (125, 0, op_il 1 126), (126, 0, op_call 13 53 2 0 0 0 0 129)],
  [(129, 0, op_al 0 130), (130, 0, op_al 0 131), (131, 0, op_gf 11 6 134), (134, 0, op_push (.inl (none, 76)) 136), (136, 0, op_il 1 137), (137, 0, op_b2 (ab_add2K) 138), (138, 0, op_ald 0 139), (139, 0, op_call 13 22 2 0 0 0 0 142), (142, 0, op_b2 (ab_sub2K) 143), (143, 1, op_goto 0)]]
noncomputable def tb_X11_shows : ab_tab := [[(0, 0, op_al 0 1), (1, 0, op_al 0 2), (2, 0, op_il 1 3), (3, 0, op_call 13 44 2 0 0 0 0 6), (6, 0, op_if 0 28 9), (9, 0, op_il 2 10), (10, 0, op_push (.inl (none, 0)) 11), (11, 0, op_push (.inl (none, 999)) 14), (14, 0, op_call 0 18 3 0 0 0 0 17)],
  [(17, 0, op_if 0 28 20), (20, 0, op_al 0 21), (21, 0, op_il 1 22), (22, 0, op_call 13 43 2 0 0 0 0 25), (25, 0, op_if 0 32 28), (28, 0, op_push (.inl (none, 1)) 29), (29, 0, op_goto 33)],
  [(32, 0, op_push (.inl (none, 0)) 33), (33, 0, op_call 13 40 2 0 0 0 0 36), (36, 0, op_if 0 41 39), (39, 0, op_push (.inl (none, 0)) 40), (40, 1, op_goto 0), (41, 0, op_il 2 42), (42, 0, op_al 0 43), (43, 0, op_il 1 44), (44, 0, op_call 13 22 2 0 0 0 0 47), (47, 0, op_b2 (ab_sub2K) 48)],
  [(48, 1, op_goto 0)]]
noncomputable def tb_X11_now : ab_tab := [[(0, 0, op_al 0 1), (1, 0, op_il 1 2), (2, 0, op_push (.inl (none, 0)) 3), (3, 0, op_push (.inl (none, 6)) 5), (5, 0, op_call 0 18 3 0 0 0 0 8), (8, 0, op_if 1 15 11), (11, 0, op_push (.inl (none, 1)) 12), (12, 0, op_goto 16), (15, 0, op_push (.inl (none, 0)) 16)],
  [(16, 0, op_call 13 40 2 0 0 0 0 19), (19, 0, op_if 0 24 22), (22, 0, op_push (.inl (none, 0)) 23), (23, 1, op_goto 0), (24, 0, op_il 1 25), (25, 0, op_tsw 0 5 [64, 72, 79, 84, 92, 99] 106)],
  [],
  [],
  [(64, 0, op_al 0 65), (65, 0, op_gf 11 6 68), (68, 0, op_push (.inl (none, 100)) 70), (70, 0, op_ald 0 71), (71, 1, op_goto 0), (72, 0, op_al 0 73), (73, 0, op_push (.inl (none, 103)) 75), (75, 0, op_call 13 128 2 0 0 0 0 78), (78, 1, op_goto 0), (79, 0, op_al 0 80)],
  [(80, 0, op_call 13 66 1 0 0 0 0 83), (83, 1, op_goto 0), (84, 0, op_al 0 85), (85, 0, op_gf 11 6 88), (88, 0, op_push (.inl (none, 101)) 90), (90, 0, op_ald 0 91), (91, 1, op_goto 0), (92, 0, op_al 0 93), (93, 0, op_push (.inl (none, 110)) 95), (95, 0, op_call 13 128 2 0 0 0 0 98)],
  [(98, 1, op_goto 0), (99, 0, op_al 0 100), (100, 0, op_push (.inl (none, 117)) 102), (102, 0, op_call 13 128 2 0 0 0 0 105), (105, 1, op_goto 0), (106, 0, op_push (.inl (none, 0)) 107), (107, 0, op_is 2 108), (108, 0, op_push (.inl (none, 0)) 109), (109, 0, op_is 3 110), (110, 4, op_il 3 111), (111, 0, op_al 0 112)],
  [(112, 0, op_gf 11 6 115), (115, 0, op_push (.inl (none, 0)) 116), (116, 0, op_ald 0 117), (117, 0, op_icmp 3 141 120), (120, 0, op_il 2 121), (121, 0, op_al 0 122), (122, 0, op_gf 11 6 125), (125, 0, op_push (.inl (none, 103)) 127), (127, 0, op_il 3 128)],
  [(128, 0, op_b2 (ab_add2K) 129), (129, 0, op_ald 0 130), (130, 0, op_call 0 37 1 0 0 0 0 133), (133, 0, op_b2 (ab_add2K) 134), (134, 0, op_is 2 135), (135, 0, op_inc 3 1 138), (138, 0, op_goto 110), (141, 0, op_il 2 142), (142, 1, op_goto 0)]]
noncomputable def tb_X11_bend : ab_tab := [[(0, 0, op_al 0 1), (1, 0, op_push (.inl (none, 0)) 2), (2, 0, op_pf (tyX11 0) 11 0 5), (5, 0, op_al 0 6), (6, 0, op_il 1 7), (7, 0, op_call 13 44 2 0 0 0 0 10), (10, 0, op_if 0 28 13), (13, 0, op_il 2 14), (14, 0, op_push (.inl (none, (-10))) 16)],
  [(16, 0, op_push (.inl (none, 10)) 18), (18, 0, op_call 0 18 3 0 0 0 0 21), (21, 0, op_if 0 28 24), (24, 0, op_il 2 25), (25, 0, op_if 1 30 28), (28, 0, op_push (.inl (none, (-1))) 29), (29, 1, op_goto 0), (30, 0, op_al 0 31), (31, 0, op_il 1 32)],
  [(32, 0, op_il 2 33), (33, 0, op_call 13 77 3 0 0 0 0 36), (36, 0, op_is 3 37), (37, 0, op_il 3 38), (38, 0, op_if 5 43 41), (41, 0, op_il 3 42), (42, 1, op_goto 0), (43, 0, op_al 0 44), (44, 0, op_call 13 89 1 0 0 0 0 47), (47, 0, op_al 0 48)],
  [(48, 0, op_il 1 49), (49, 0, op_il 2 50), (50, 0, op_call 13 72 3 0 0 0 0 53), (53, 0, op_push (.inl (none, 0)) 54), (54, 1, op_goto 0)]]
noncomputable def tb_X11_shade : ab_tab := [[(0, 0, op_al 0 1), (1, 0, op_push (.inl (none, 0)) 2), (2, 0, op_pf (tyX11 0) 11 0 5), (5, 0, op_al 0 6), (6, 0, op_il 1 7), (7, 0, op_call 13 44 2 0 0 0 0 10), (10, 0, op_if 1 15 13), (13, 0, op_push (.inl (none, (-1))) 14), (14, 1, op_goto 0), (15, 0, op_al 0 16)],
  [(16, 0, op_il 1 17), (17, 0, op_call 13 43 2 0 0 0 0 20), (20, 0, op_if 0 25 23), (23, 0, op_push (.inl (none, 1)) 24), (24, 1, op_goto 0), (25, 0, op_al 0 26), (26, 0, op_call 13 89 1 0 0 0 0 29), (29, 0, op_al 0 30), (30, 0, op_gf 11 6 33)],
  [(33, 0, op_push (.inl (none, 101)) 35), (35, 0, op_dup2 36), (36, 0, op_ald 0 37), (37, 0, op_push (.inl (none, 1)) 38), (38, 0, op_il 1 39), (39, 0, op_b2 (ab_binK (fun u v => u <<< (v &&& 31))) 40), (40, 0, op_b2 (ab_binK (fun u v => u ||| v)) 41), (41, 0, op_astK 42), (42, 0, op_push (.inl (none, 0)) 43), (43, 1, op_goto 0)]]
noncomputable def tb_X11_clear : ab_tab := [[(0, 0, op_al 0 1), (1, 0, op_push (.inl (none, 0)) 2), (2, 0, op_pf (tyX11 0) 11 0 5), (5, 0, op_al 0 6), (6, 0, op_il 1 7), (7, 0, op_call 13 44 2 0 0 0 0 10), (10, 0, op_if 1 15 13), (13, 0, op_push (.inl (none, (-1))) 14), (14, 1, op_goto 0), (15, 0, op_al 0 16)],
  [(16, 0, op_il 1 17), (17, 0, op_call 13 43 2 0 0 0 0 20), (20, 0, op_if 1 25 23), (23, 0, op_push (.inl (none, 1)) 24), (24, 1, op_goto 0), (25, 0, op_al 0 26), (26, 0, op_call 13 89 1 0 0 0 0 29), (29, 0, op_al 0 30), (30, 0, op_gf 11 6 33)],
  [(33, 0, op_push (.inl (none, 101)) 35), (35, 0, op_dup2 36), (36, 0, op_ald 0 37), (37, 0, op_push (.inl (none, 1)) 38), (38, 0, op_il 1 39), (39, 0, op_b2 (ab_binK (fun u v => u <<< (v &&& 31))) 40), (40, 0, op_push (.inl (none, (-1))) 41), (41, 0, op_b2 (ab_binK (fun u v => u ^^^ v)) 42), (42, 0, op_b2 (ab_an8K) 43), (43, 0, op_astK 44), (44, 0, op_push (.inl (none, 0)) 45), (45, 1, op_goto 0)]]
noncomputable def tb_X11_freeze : ab_tab := [[(0, 0, op_al 0 1), (1, 0, op_push (.inl (none, 0)) 2), (2, 0, op_pf (tyX11 0) 11 0 5), (5, 0, op_al 0 6), (6, 0, op_call 13 89 1 0 0 0 0 9), (9, 0, op_al 0 10), (10, 0, op_call 13 98 1 0 0 0 0 13), (13, 1, op_goto 0)]]
noncomputable def tb_X11_days : ab_tab := [[(0, 0, op_al 0 1), (1, 0, op_push (.inl (none, 0)) 2), (2, 0, op_pf (tyX11 0) 11 0 5), (5, 0, op_il 1 6), (6, 0, op_push (.inl (none, 1)) 7), (7, 0, op_push (.inl (none, 60)) 9), (9, 0, op_call 0 18 3 0 0 0 0 12), (12, 0, op_if 1 17 15), (15, 0, op_push (.inl (none, (-1))) 16)],
  [(16, 1, op_goto 0), (17, 0, op_al 0 18), (18, 0, op_gf 11 6 21), (21, 0, op_push (.inl (none, 100)) 23), (23, 0, op_ald 0 24), (24, 0, op_push (.inl (none, 400)) 27), (27, 0, op_icmp 1 32 30), (30, 0, op_push (.inl (none, 0)) 31), (31, 1, op_goto 0)],
  [(32, 0, op_al 0 33), (33, 0, op_call 13 89 1 0 0 0 0 36), (36, 0, op_al 0 37), (37, 0, op_il 1 38), (38, 0, op_call 13 78 2 0 0 0 0 41), (41, 1, op_goto 0)]]
noncomputable def tb_X11_undo : ab_tab := [[(0, 0, op_al 0 1), (1, 0, op_push (.inl (none, 0)) 2), (2, 0, op_pf (tyX11 0) 11 0 5), (5, 0, op_al 0 6), (6, 0, op_gf 11 23 9), (9, 0, op_if 1 14 12), (12, 0, op_push (.inl (none, (-1))) 13), (13, 1, op_goto 0), (14, 0, op_al 0 15), (15, 0, op_dup 16)],
  [(16, 0, op_gf 11 23 19), (19, 0, op_push (.inl (none, 1)) 20), (20, 0, op_b2 (ab_sub2K) 21), (21, 0, op_pf (tyX11 23) 11 23 24), (24, 0, op_push (.inl (none, 0)) 25), (25, 0, op_is 1 26), (26, 4, op_il 1 27), (27, 0, op_push (.inl (none, 24)) 29), (29, 0, op_icmp 3 61 32)],
  [(32, 0, op_al 0 33), (33, 0, op_gf 11 6 36), (36, 0, op_push (.inl (none, 100)) 38), (38, 0, op_il 1 39), (39, 0, op_b2 (ab_add2K) 40), (40, 0, op_al 0 41), (41, 0, op_gf 11 21 44), (44, 0, op_push (.inl (none, 24)) 46), (46, 0, op_al 0 47), (47, 0, op_gf 11 23 50)],
  [(50, 0, op_b2 (ab_mul2K) 51), (51, 0, op_il 1 52), (52, 0, op_b2 (ab_add2K) 53), (53, 0, op_ald 0 54), (54, 0, op_astK 55), (55, 0, op_inc 1 1 58), (58, 0, op_goto 26), (61, 0, op_al 0 62), (62, 0, op_gf 11 23 65)],
  [(65, 1, op_goto 0)]]
noncomputable def tb_X11_noonLong : ab_tab := [[(0, 0, op_al 0 1), (1, 0, op_push (.inl (none, (-1))) 2), (2, 0, op_call 13 133 2 0 0 0 0 5), (5, 0, op_is 1 6), (6, 0, op_al 0 7), (7, 0, op_il 1 8), (8, 0, op_if 1 15 11), (11, 0, op_push (.inl (none, 1)) 12), (12, 0, op_goto 16), (15, 0, op_push (.inl (none, 0)) 16)],
  [(16, 0, op_call 13 40 2 0 0 0 0 19), (19, 0, op_if 0 26 22), (22, 0, op_push (.inl (none, 0)) 23), (23, 0, op_goto 41), (26, 0, op_al 0 27), (27, 0, op_gf 11 24 30), (30, 0, op_il 1 31), (31, 0, op_push (.inl (none, 1)) 32)],
  [(32, 0, op_b2 (ab_sub2K) 33), (33, 0, op_ald 0 34), (34, 0, op_al 0 35), (35, 0, op_gf 11 24 38), (38, 0, op_push (.inl (none, 0)) 39), (39, 0, op_ald 0 40), (40, 0, op_b2 (ab_sub2K) 41), (41, 1, op_goto 0)]]
noncomputable def tb_X11_oneNoon : ab_tab := [[(0, 0, op_al 0 1), (1, 0, op_push (.inl (none, (-1))) 2), (2, 0, op_call 13 133 2 0 0 0 0 5), (5, 0, op_is 1 6), (6, 0, op_al 0 7), (7, 0, op_il 1 8), (8, 0, op_if 1 15 11), (11, 0, op_push (.inl (none, 1)) 12), (12, 0, op_goto 16), (15, 0, op_push (.inl (none, 0)) 16)],
  [(16, 0, op_call 13 40 2 0 0 0 0 19), (19, 0, op_if 0 26 22), (22, 0, op_push (.inl (none, 0)) 23), (23, 0, op_goto 36), (26, 0, op_al 0 27), (27, 0, op_gf 11 24 30), (30, 0, op_il 1 31), (31, 0, op_push (.inl (none, 1)) 32)],
  [(32, 0, op_b2 (ab_sub2K) 33), (33, 0, op_push (.inl (none, 2)) 34), (34, 0, op_div 35), (35, 0, op_ald 0 36), (36, 1, op_goto 0)]]
noncomputable def tb_X11_even : ab_tab := [[(0, 0, op_al 0 1), (1, 0, op_push (.inl (none, 0)) 2), (2, 0, op_pf (tyX11 0) 11 0 5), (5, 0, op_al 0 6), (6, 0, op_push (.inl (none, 103)) 8), (8, 0, op_call 13 128 2 0 0 0 0 11), (11, 0, op_is 1 12), (12, 0, op_il 1 13), (13, 0, op_if 3 20 16)],
  [(16, 0, op_push (.inl (none, 1)) 17), (17, 0, op_goto 21), (20, 0, op_push (.inl (none, 0)) 21), (21, 0, op_is 2 22), (22, 0, op_il 1 23), (23, 0, op_call 0 37 1 0 0 0 0 26), (26, 0, op_is 3 27), (27, 0, op_push (.inl (none, 0)) 28), (28, 0, op_is 4 30), (30, 0, op_push (.inl (none, 0)) 31), (31, 0, op_is 5 33)],
  [(33, 4, op_il 5 35), (35, 0, op_al 0 36), (36, 0, op_gf 11 6 39), (39, 0, op_push (.inl (none, 0)) 40), (40, 0, op_ald 0 41), (41, 0, op_icmp 3 62 44), (44, 0, op_il 4 46), (46, 0, op_al 0 47), (47, 0, op_il 5 49)],
  [(49, 0, op_il 2 50), (50, 0, op_call 13 134 3 0 0 0 0 53), (53, 0, op_b2 (ab_add2K) 54), (54, 0, op_is 4 56), (56, 0, op_inc 5 1 59), (59, 0, op_goto 33), (62, 0, op_il 4 64)],
  [(64, 0, op_il 3 65), (65, 0, op_icmp 3 70 68), (68, 0, op_push (.inl (none, (-1))) 69), (69, 1, op_goto 0), (70, 0, op_al 0 71), (71, 0, op_al 0 72), (72, 0, op_gf 11 6 75), (75, 0, op_push (.inl (none, 0)) 76), (76, 0, op_ald 0 77), (77, 0, op_pf (tyX11 27) 11 27 80)],
  [(80, 0, op_push (.inl (none, 0)) 81), (81, 0, op_is 5 83), (83, 4, op_il 5 85), (85, 0, op_al 0 86), (86, 0, op_gf 11 6 89), (89, 0, op_push (.inl (none, 0)) 90), (90, 0, op_ald 0 91), (91, 0, op_icmp 3 146 94), (94, 0, op_il 4 96)],
  [(96, 0, op_al 0 97), (97, 0, op_il 5 99), (99, 0, op_il 2 100), (100, 0, op_call 13 134 3 0 0 0 0 103), (103, 0, op_b2 (ab_sub2K) 104), (104, 0, op_is 4 106), (106, 0, op_push (.inl (none, 0)) 107), (107, 0, op_il 3 108), (108, 0, op_il 4 110), (110, 0, op_b2 (ab_sub2K) 111), (111, 0, op_call 0 125 2 0 0 0 0 114)],
  [(114, 0, op_is 6 116), (116, 0, op_al 0 117), (117, 0, op_gf 11 25 120), (120, 0, op_il 5 122), (122, 0, op_il 2 123), (123, 0, op_if 0 131 126), (126, 0, op_il 6 128)],
  [(128, 0, op_goto 134), (131, 0, op_il 6 133), (133, 0, op_ineg 134), (134, 0, op_astK 135), (135, 0, op_il 3 136), (136, 0, op_il 6 138), (138, 0, op_b2 (ab_sub2K) 139), (139, 0, op_is 3 140), (140, 0, op_inc 5 1 143), (143, 0, op_goto 83)],
  [(146, 0, op_il 1 147), (147, 0, op_call 0 37 1 0 0 0 0 150), (150, 1, op_goto 0)]]
noncomputable def tb_X11_evenAt : ab_tab := [[(0, 0, op_al 0 1), (1, 0, op_il 1 2), (2, 0, op_push (.inl (none, 0)) 3), (3, 0, op_al 0 4), (4, 0, op_gf 11 27 7), (7, 0, op_push (.inl (none, 1)) 8), (8, 0, op_b2 (ab_sub2K) 9), (9, 0, op_call 0 18 3 0 0 0 0 12), (12, 0, op_if 1 19 15), (15, 0, op_push (.inl (none, 1)) 16)],
  [(16, 0, op_goto 20), (19, 0, op_push (.inl (none, 0)) 20), (20, 0, op_call 13 40 2 0 0 0 0 23), (23, 0, op_if 0 30 26), (26, 0, op_push (.inl (none, 0)) 27), (27, 0, op_goto 36), (30, 0, op_al 0 31), (31, 0, op_gf 11 25 34)],
  [(34, 0, op_il 1 35), (35, 0, op_ald 0 36), (36, 1, op_goto 0)]]
noncomputable def tb_X11_kept : ab_tab := [[(0, 0, op_al 0 1), (1, 0, op_push (.inl (none, 0)) 2), (2, 0, op_pf (tyX11 0) 11 0 5), (5, 0, op_al 0 6), (6, 0, op_call 13 64 1 0 0 0 0 9), (9, 0, op_push (.inl (none, (-1))) 10), (10, 0, op_is 1 11), (11, 0, op_push (.inl (none, 0)) 12), (12, 0, op_is 2 13), (13, 4, op_il 2 14), (14, 0, op_push (.inl (none, 200)) 17)],
  [(17, 0, op_icmp 3 73 20), (20, 0, op_il 1 21), (21, 0, op_if 3 73 24), (24, 0, op_al 0 25), (25, 0, op_gf 11 6 28), (28, 0, op_push (.inl (none, 100)) 30), (30, 0, op_ald 0 31), (31, 0, op_push (.inl (none, 400)) 34)],
  [(34, 0, op_icmp 3 73 37), (37, 0, op_al 0 38), (38, 0, op_call 13 154 1 0 0 0 0 41), (41, 0, op_al 0 42), (42, 0, op_call 13 66 1 0 0 0 0 45), (45, 0, op_if 1 56 48)],
  [(48, 0, op_al 0 49), (49, 0, op_gf 11 6 52), (52, 0, op_push (.inl (none, 100)) 54), (54, 0, op_ald 0 55), (55, 0, op_is 1 56), (56, 0, op_al 0 57), (57, 0, op_gf 11 6 60), (60, 0, op_push (.inl (none, 100)) 62), (62, 0, op_dup2 63), (63, 0, op_ald 0 64)],
  [(64, 0, op_push (.inl (none, 1)) 65), (65, 0, op_b2 (ab_add2K) 66), (66, 0, op_astK 67), (67, 0, op_inc 2 1 70), (70, 0, op_goto 13), (73, 0, op_al 0 74), (74, 0, op_call 13 54 1 0 0 0 0 77), (77, 0, op_il 1 78), (78, 1, op_goto 0)]]
noncomputable def tb_X11_worst : ab_tab := [[(0, 0, op_al 0 1), (1, 0, op_push (.inl (none, 0)) 2), (2, 0, op_pf (tyX11 0) 11 0 5), (5, 0, op_il 1 6), (6, 0, op_push (.inl (none, 1)) 7), (7, 0, op_push (.inl (none, 60)) 9), (9, 0, op_call 0 18 3 0 0 0 0 12), (12, 0, op_if 1 17 15), (15, 0, op_push (.inl (none, (-1))) 16)],
  [(16, 1, op_goto 0), (17, 0, op_al 0 18), (18, 0, op_call 13 64 1 0 0 0 0 21), (21, 0, op_al 0 22), (22, 0, op_il 1 23), (23, 0, op_call 13 78 2 0 0 0 0 26), (26, 0, op_pop 27), (27, 0, op_push (.inl (none, (-1))) 28), (28, 0, op_is 2 29), (29, 0, op_push (.inl (none, 0)) 30), (30, 0, op_is 3 31), (31, 0, op_push (.inl (none, 0)) 32)],
  [(32, 0, op_is 4 34), (34, 4, op_il 4 36), (36, 0, op_al 0 37), (37, 0, op_gf 11 6 40), (40, 0, op_push (.inl (none, 0)) 41), (41, 0, op_ald 0 42), (42, 0, op_icmp 3 89 45), (45, 0, op_al 0 46), (46, 0, op_gf 11 6 49)],
  [(49, 0, op_push (.inl (none, 110)) 51), (51, 0, op_il 4 53), (53, 0, op_b2 (ab_add2K) 54), (54, 0, op_ald 0 55), (55, 0, op_al 0 56), (56, 0, op_gf 11 22 59), (59, 0, op_push (.inl (none, 10)) 61), (61, 0, op_il 4 63), (63, 0, op_b2 (ab_add2K) 64)],
  [(64, 0, op_ald 0 65), (65, 0, op_b2 (ab_sub2K) 66), (66, 0, op_is 5 68), (68, 0, op_il 5 70), (70, 0, op_il 3 71), (71, 0, op_icmp 4 77 74), (74, 0, op_goto 83), (77, 0, op_il 5 79), (79, 0, op_is 3 80)],
  [(80, 0, op_il 4 82), (82, 0, op_is 2 83), (83, 0, op_inc 4 1 86), (86, 0, op_goto 34), (89, 0, op_al 0 90), (90, 0, op_call 13 54 1 0 0 0 0 93), (93, 0, op_il 2 94), (94, 1, op_goto 0)]]
noncomputable def tb_X11_spare : ab_tab := [[(0, 0, op_al 0 1), (1, 0, op_al 0 2), (2, 0, op_il 1 3), (3, 0, op_call 13 132 2 0 0 0 0 6), (6, 0, op_if 0 38 9), (9, 0, op_al 0 10), (10, 0, op_il 2 11), (11, 0, op_call 13 132 2 0 0 0 0 14), (14, 0, op_if 0 38 17)],
  [(17, 0, op_al 0 18), (18, 0, op_gf 11 6 21), (21, 0, op_push (.inl (none, 68)) 23), (23, 0, op_il 2 24), (24, 0, op_b2 (ab_add2K) 25), (25, 0, op_ald 0 26), (26, 0, op_al 0 27), (27, 0, op_gf 11 6 30), (30, 0, op_push (.inl (none, 76)) 32)],
  [(32, 0, op_il 1 33), (33, 0, op_b2 (ab_add2K) 34), (34, 0, op_ald 0 35), (35, 0, op_icmp 0 42 38), (38, 0, op_push (.inl (none, 1)) 39), (39, 0, op_goto 43), (42, 0, op_push (.inl (none, 0)) 43), (43, 0, op_call 13 40 2 0 0 0 0 46), (46, 0, op_if 0 51 49)],
  [(49, 0, op_push (.inl (none, 0)) 50), (50, 1, op_goto 0), (51, 0, op_al 0 52), (52, 0, op_il 2 53), (53, 0, op_call 13 35 2 0 0 0 0 56), (56, 0, op_al 0 57), (57, 0, op_il 1 58), (58, 0, op_call 13 53 2 0 0 0 0 61), (61, 0, op_b2 (ab_sub2K) 62), (62, 0, op_al 0 63), (63, 0, op_gf 11 6 66)],
  [(66, 0, op_push (.inl (none, 4)) 67), (67, 0, op_ald 0 68), (68, 0, op_b2 (ab_sub2K) 69), (69, 1, op_goto 0)]]
noncomputable def tb_X11_route : ab_tab := [[(0, 0, op_al 0 1), (1, 0, op_push (.inl (none, 0)) 2), (2, 0, op_pf (tyX11 0) 11 0 5), (5, 0, op_al 0 6), (6, 0, op_il 1 7), (7, 0, op_call 13 44 2 0 0 0 0 10), (10, 0, op_if 0 37 13), (13, 0, op_al 0 14), (14, 0, op_il 2 15), (15, 0, op_call 13 44 2 0 0 0 0 18)],
  [(18, 0, op_if 0 37 21), (21, 0, op_il 1 22), (22, 0, op_il 2 23), (23, 0, op_icmp 0 37 26), (26, 0, op_il 3 27), (27, 0, op_push (.inl (none, 0)) 28), (28, 0, op_push (.inl (none, 999)) 31), (31, 0, op_call 0 18 3 0 0 0 0 34)],
  [(34, 0, op_if 1 39 37), (37, 0, op_push (.inl (none, (-1))) 38), (38, 1, op_goto 0), (39, 0, op_push (.inl (none, 1000000)) 42), (42, 0, op_is 4 44), (44, 0, op_push (.inl (none, 0)) 45), (45, 0, op_is 5 47), (47, 0, op_push (.inl (none, 0)) 48)],
  [(48, 0, op_is 6 50), (50, 0, op_pre (pr_p0 6) (op_push (.inl (none, 0)) 51)), (51, 0, op_is 7 53), (53, 0, op_al 0 54), (54, 0, op_gf 11 29 57), (57, 0, op_push (.inl (none, 0)) 58), (58, 0, op_il 1 59), (59, 0, op_astK 60), (60, 0, op_al 0 61), (61, 0, op_gf 11 30 64)],
  [(64, 0, op_push (.inl (none, 0)) 65), (65, 0, op_il 3 66), (66, 0, op_astK 67), (67, 0, op_al 0 68), (68, 0, op_gf 11 31 71), (71, 0, op_push (.inl (none, 0)) 72), (72, 0, op_push (.inl (none, 0)) 73), (73, 0, op_astK 74), (74, 0, op_il 7 76), (76, 0, op_if 2 299 79), (79, 0, op_al 0 80)],
  [(80, 0, op_gf 11 31 83), (83, 0, op_il 7 85), (85, 0, op_ald 0 86), (86, 0, op_is 8 88), (88, 0, op_il 8 90), (90, 0, op_al 0 91), (91, 0, op_gf 11 6 94), (94, 0, op_push (.inl (none, 2)) 95), (95, 0, op_ald 0 96)],
  [(96, 0, op_icmpN 126 99), (99, 4, op_inc 7 (-1) 102), (102, 0, op_il 7 104), (104, 0, op_if 2 74 107), (107, 0, op_il 6 109), (109, 0, op_push (.inl (none, 1)) 110), (110, 0, op_al 0 111), (111, 0, op_gf 11 32 114)],
  [(114, 0, op_il 7 116), (116, 0, op_ald 0 117), (117, 0, op_b2F 3 (ab_binK (fun u v => u <<< (v &&& 31))) 118), (118, 0, op_push (.inl (none, (-1))) 119), (119, 0, op_b2F 2 (ab_binK (fun u v => u ^^^ v)) 120), (120, 0, op_b2F 1 (ab_an8K) 121), (121, 0, op_pre (pr_pA ) (op_is 6 123)), (123, 0, op_goto 74), (126, 4, op_pre (pr_use) (op_al 0 127)), (127, 0, op_gf 11 31 130)],
  [(130, 0, op_il 7 132), (132, 0, op_dup2 133), (133, 0, op_ald 0 134), (134, 0, op_push (.inl (none, 1)) 135), (135, 0, op_b2 (ab_add2K) 136), (136, 0, op_astK 137), (137, 0, op_pre (pr_try [(2, 1, 2), (2, 157, 0)] [1, (-1)] 0) (op_pre (pr_try [(2, 1, 2), (2, 157, 1)] [1, (-1)] 0) (op_pre (pr_try [(2, 1, 2), (2, 157, 2)] [1, (-1)] 0) (op_pre (pr_try [(2, 1, 2), (2, 157, 3)] [1, (-1)] 0) (op_pre (pr_try [(2, 1, 2), (2, 157, 4)] [1, (-1)] 0) (op_pre (pr_try [(2, 1, 2), (2, 157, 5)] [1, (-1)] 0) (op_pre (pr_try [(2, 1, 2), (2, 157, 6)] [1, (-1)] 0) (op_pre (pr_try [(2, 1, 2), (2, 157, 7)] [1, (-1)] 0) (op_pre (pr_try [(2, 1, 2), (2, 157, 8)] [1, (-1)] 0) (op_al 0 138)))))))))), (138, 0, op_il 7 140), (140, 0, op_il 8 142), (142, 0, op_il 6 144)],
  [(144, 0, op_call 13 55 4 0 0 0 0 147), (147, 0, op_if 1 153 150), (150, 0, op_goto 74), (153, 0, op_al 0 154), (154, 0, op_gf 11 32 157), (157, 0, op_il 7 159), (159, 0, op_il 8 161)],
  [(161, 0, op_astK 162), (162, 0, op_al 0 163), (163, 0, op_il 8 165), (165, 0, op_call 13 53 2 0 0 0 0 168), (168, 0, op_is 9 170), (170, 0, op_al 0 171), (171, 0, op_gf 11 6 174), (174, 0, op_push (.inl (none, 76)) 176)],
  [(176, 0, op_il 8 178), (178, 0, op_b2 (ab_add2K) 179), (179, 0, op_ald 0 180), (180, 0, op_il 2 181), (181, 0, op_icmp 0 233 184), (184, 0, op_il 6 186), (186, 0, op_push (.inl (none, 1)) 187), (187, 0, op_il 8 189), (189, 0, op_b2F 3 (ab_binK (fun u v => u <<< (v &&& 31))) 190), (190, 0, op_b2F 0 (ab_binK (fun u v => u ||| v)) 191), (191, 0, op_pre (pr_pO ) (op_is 6 193))],
  [(193, 0, op_inc 7 1 196), (196, 0, op_al 0 197), (197, 0, op_gf 11 29 200), (200, 0, op_il 7 202), (202, 0, op_al 0 203), (203, 0, op_gf 11 6 206), (206, 0, op_push (.inl (none, 76)) 208)],
  [(208, 0, op_il 8 210), (210, 0, op_b2 (ab_add2K) 211), (211, 0, op_ald 0 212), (212, 0, op_astK 213), (213, 0, op_al 0 214), (214, 0, op_gf 11 30 217), (217, 0, op_il 7 219), (219, 0, op_il 9 221), (221, 0, op_astK 222), (222, 0, op_al 0 223), (223, 0, op_gf 11 31 226)],
  [(226, 0, op_il 7 228), (228, 0, op_push (.inl (none, 0)) 229), (229, 0, op_astK 230), (230, 0, op_goto 296), (233, 0, op_il 9 235), (235, 0, op_il 4 237), (237, 0, op_icmp 2 256 240)],
  [(240, 0, op_il 9 242), (242, 0, op_il 4 244), (244, 0, op_icmp 1 296 247), (247, 0, op_il 7 249), (249, 0, op_push (.inl (none, 1)) 250), (250, 0, op_b2 (ab_add2K) 251), (251, 0, op_il 5 253), (253, 0, op_icmp 3 296 256)],
  [(256, 0, op_il 9 258), (258, 0, op_is 4 260), (260, 0, op_il 7 262), (262, 0, op_push (.inl (none, 1)) 263), (263, 0, op_b2 (ab_add2K) 264), (264, 0, op_is 5 266), (266, 0, op_push (.inl (none, 0)) 267), (267, 0, op_is 10 269), (269, 0, op_il 10 271), (271, 0, op_il 7 273)],
  [(273, 0, op_icmp 4 296 276), (276, 0, op_al 0 277), (277, 0, op_gf 11 33 280), (280, 0, op_il 10 282), (282, 0, op_al 0 283), (283, 0, op_gf 11 32 286), (286, 0, op_il 10 288)],
  [(288, 0, op_ald 0 289), (289, 0, op_astK 290), (290, 0, op_inc 10 1 293), (293, 0, op_goto 269), (296, 0, op_goto 74), (299, 0, op_il 4 301), (301, 0, op_push (.inl (none, 1000000)) 304)],
  [(304, 0, op_icmp 1 309 307), (307, 0, op_push (.inl (none, (-1))) 308), (308, 1, op_goto 0), (309, 0, op_al 0 310), (310, 0, op_il 5 312), (312, 0, op_pf (tyX11 34) 11 34 315), (315, 0, op_il 4 317), (317, 1, op_goto 0)]]
noncomputable def tb_X11_routeAt : ab_tab := [[(0, 0, op_al 0 1), (1, 0, op_push (.inl (none, 0)) 2), (2, 0, op_pf (tyX11 0) 11 0 5), (5, 0, op_il 1 6), (6, 0, op_push (.inl (none, 0)) 7), (7, 0, op_al 0 8), (8, 0, op_gf 11 34 11), (11, 0, op_push (.inl (none, 1)) 12), (12, 0, op_b2 (ab_sub2K) 13), (13, 0, op_call 0 18 3 0 0 0 0 16)],
  [(16, 0, op_if 0 28 19), (19, 0, op_al 0 20), (20, 0, op_gf 11 33 23), (23, 0, op_il 1 24), (24, 0, op_ald 0 25), (25, 0, op_goto 29), (28, 0, op_push (.inl (none, (-1))) 29), (29, 1, op_goto 0)]]
noncomputable def tb_X11_shadows : ab_tab := [[(0, 0, op_al 0 1), (1, 0, op_push (.inl (none, 0)) 2), (2, 0, op_pf (tyX11 0) 11 0 5), (5, 0, op_al 0 6), (6, 0, op_push (.inl (none, 940)) 9), (9, 0, op_call 13 123 2 0 0 0 0 12), (12, 0, op_al 0 13), (13, 0, op_gf 11 3 16)],
  [(16, 0, op_push (.inl (none, 2)) 17), (17, 0, op_push (.inl (none, 20)) 19), (19, 0, op_call 0 18 3 0 0 0 0 22), (22, 0, op_if 0 35 25), (25, 0, op_al 0 26), (26, 0, op_gf 11 3 29), (29, 0, op_push (.inl (none, 2)) 30), (30, 0, op_rem 31), (31, 0, op_push (.inl (none, 1)) 32)],
  [(32, 0, op_icmp 1 37 35), (35, 0, op_push (.inl (none, (-1))) 36), (36, 1, op_goto 0), (37, 0, op_push (.inl (none, 0)) 38), (38, 0, op_is 1 39), (39, 4, op_il 1 40), (40, 0, op_al 0 41), (41, 0, op_gf 11 3 44), (44, 0, op_icmp 3 99 47), (47, 0, op_al 0 48)],
  [(48, 0, op_al 0 49), (49, 0, op_il 1 50), (50, 0, op_call 13 4 2 0 0 0 0 53), (53, 0, op_call 13 44 2 0 0 0 0 56), (56, 0, op_if 0 91 59), (59, 0, op_al 0 60), (60, 0, op_il 1 61), (61, 0, op_push (.inl (none, 1)) 62), (62, 0, op_b2 (ab_add2K) 63), (63, 0, op_call 13 4 2 0 0 0 0 66)],
  [(66, 0, op_push (.inl (none, 100)) 68), (68, 0, op_b2 (ab_sub2K) 69), (69, 0, op_al 0 70), (70, 0, op_gf 11 6 73), (73, 0, op_push (.inl (none, 6)) 75), (75, 0, op_al 0 76), (76, 0, op_il 1 77), (77, 0, op_call 13 4 2 0 0 0 0 80)],
  [(80, 0, op_b2 (ab_add2K) 81), (81, 0, op_ald 0 82), (82, 0, op_b2 (ab_add2K) 83), (83, 0, op_call 0 37 1 0 0 0 0 86), (86, 0, op_push (.inl (none, 30)) 88), (88, 0, op_icmp 5 93 91), (91, 0, op_push (.inl (none, (-1))) 92), (92, 1, op_goto 0), (93, 0, op_inc 1 2 96)],
  [(96, 0, op_goto 39), (99, 0, op_al 0 100), (100, 0, op_call 13 64 1 0 0 0 0 103), (103, 0, op_push (.inl (none, 0)) 104), (104, 0, op_is 1 105), (105, 4, op_il 1 106), (106, 0, op_al 0 107), (107, 0, op_gf 11 3 110), (110, 0, op_icmp 3 156 113)],
  [(113, 0, op_al 0 114), (114, 0, op_gf 11 6 117), (117, 0, op_push (.inl (none, 103)) 119), (119, 0, op_al 0 120), (120, 0, op_il 1 121), (121, 0, op_call 13 4 2 0 0 0 0 124), (124, 0, op_b2 (ab_add2K) 125), (125, 0, op_al 0 126), (126, 0, op_il 1 127), (127, 0, op_push (.inl (none, 1)) 128)],
  [(128, 0, op_b2 (ab_add2K) 129), (129, 0, op_call 13 4 2 0 0 0 0 132), (132, 0, op_push (.inl (none, 100)) 134), (134, 0, op_b2 (ab_sub2K) 135), (135, 0, op_al 0 136), (136, 0, op_gf 11 6 139), (139, 0, op_push (.inl (none, 6)) 141), (141, 0, op_al 0 142), (142, 0, op_il 1 143), (143, 0, op_call 13 4 2 0 0 0 0 146)],
  [(146, 0, op_b2 (ab_add2K) 147), (147, 0, op_ald 0 148), (148, 0, op_b2 (ab_add2K) 149), (149, 0, op_astK 150), (150, 0, op_inc 1 2 153), (153, 0, op_goto 105), (156, 0, op_al 0 157), (157, 0, op_call 13 66 1 0 0 0 0 160)],
  [(160, 0, op_is 1 161), (161, 0, op_al 0 162), (162, 0, op_call 13 54 1 0 0 0 0 165), (165, 0, op_il 1 166), (166, 1, op_goto 0)]]
noncomputable def tb_X11_votes : ab_tab := [[(0, 0, op_al 0 1), (1, 0, op_al 0 2), (2, 0, op_il 1 3), (3, 0, op_call 13 44 2 0 0 0 0 6), (6, 0, op_if 0 20 9), (9, 0, op_il 2 10), (10, 0, op_push (.inl (none, (-60))) 12), (12, 0, op_push (.inl (none, 60)) 14), (14, 0, op_call 0 18 3 0 0 0 0 17)],
  [(17, 0, op_if 1 24 20), (20, 0, op_push (.inl (none, 1)) 21), (21, 0, op_goto 25), (24, 0, op_push (.inl (none, 0)) 25), (25, 0, op_call 13 40 2 0 0 0 0 28), (28, 0, op_if 0 33 31), (31, 0, op_push (.inl (none, 0)) 32)],
  [(32, 1, op_goto 0), (33, 0, op_push (.inl (none, 0)) 34), (34, 0, op_is 3 35), (35, 0, op_push (.inl (none, 0)) 36), (36, 0, op_is 4 38), (38, 4, op_il 4 40), (40, 0, op_al 0 41), (41, 0, op_gf 11 6 44), (44, 0, op_push (.inl (none, 0)) 45), (45, 0, op_ald 0 46), (46, 0, op_icmp 3 117 49)],
  [(49, 0, op_al 0 50), (50, 0, op_il 1 51), (51, 0, op_call 13 22 2 0 0 0 0 54), (54, 0, op_al 0 55), (55, 0, op_il 4 57), (57, 0, op_call 13 22 2 0 0 0 0 60), (60, 0, op_b2 (ab_sub2K) 61), (61, 0, op_call 0 37 1 0 0 0 0 64)],
  [(64, 0, op_is 5 66), (66, 0, op_al 0 67), (67, 0, op_il 1 68), (68, 0, op_call 13 22 2 0 0 0 0 71), (71, 0, op_il 2 72), (72, 0, op_b2 (ab_sub2K) 73), (73, 0, op_al 0 74), (74, 0, op_il 4 76), (76, 0, op_call 13 22 2 0 0 0 0 79), (79, 0, op_b2 (ab_sub2K) 80)],
  [(80, 0, op_call 0 37 1 0 0 0 0 83), (83, 0, op_is 6 85), (85, 0, op_il 3 86), (86, 0, op_il 6 88), (88, 0, op_il 5 90), (90, 0, op_icmp 3 97 93), (93, 0, op_push (.inl (none, 1)) 94), (94, 0, op_goto 109)],
  [(97, 0, op_il 6 99), (99, 0, op_il 5 101), (101, 0, op_icmp 5 108 104), (104, 0, op_push (.inl (none, (-1))) 105), (105, 0, op_goto 109), (108, 0, op_push (.inl (none, 0)) 109), (109, 0, op_b2 (ab_add2K) 110), (110, 0, op_is 3 111), (111, 0, op_inc 4 1 114)],
  [(114, 0, op_goto 38), (117, 0, op_il 3 118), (118, 1, op_goto 0)]]
noncomputable def tb_X11_nearer : ab_tab := [[(0, 0, op_al 0 1), (1, 0, op_push (.inl (none, 0)) 2), (2, 0, op_pf (tyX11 0) 11 0 5), (5, 0, op_al 0 6), (6, 0, op_call 13 64 1 0 0 0 0 9), (9, 0, op_push (.inl (none, 0)) 10), (10, 0, op_is 1 11), (11, 0, op_push (.inl (none, 1)) 12), (12, 0, op_is 2 13), (13, 4, op_il 2 14), (14, 0, op_if 0 59 17)],
  [(17, 0, op_il 1 18), (18, 0, op_push (.inl (none, 60)) 20), (20, 0, op_icmp 3 59 23), (23, 0, op_push (.inl (none, 0)) 24), (24, 0, op_is 2 25), (25, 0, op_push (.inl (none, 0)) 26), (26, 0, op_is 3 27), (27, 4, op_il 3 28), (28, 0, op_al 0 29), (29, 0, op_gf 11 6 32)],
  [(32, 0, op_push (.inl (none, 0)) 33), (33, 0, op_ald 0 34), (34, 0, op_icmp 3 53 37), (37, 0, op_al 0 38), (38, 0, op_il 3 39), (39, 0, op_call 13 155 2 0 0 0 0 42), (42, 0, op_if 0 47 45), (45, 0, op_push (.inl (none, 1)) 46), (46, 0, op_is 2 47), (47, 0, op_inc 3 1 50)],
  [(50, 0, op_goto 27), (53, 0, op_inc 1 1 56), (56, 0, op_goto 13), (59, 0, op_al 0 60), (60, 0, op_al 0 61), (61, 0, op_gf 11 6 64)],
  [(64, 0, op_push (.inl (none, 0)) 65), (65, 0, op_ald 0 66), (66, 0, op_pf (tyX11 28) 11 28 69), (69, 0, op_push (.inl (none, 0)) 70), (70, 0, op_is 3 71), (71, 4, op_il 3 72), (72, 0, op_al 0 73), (73, 0, op_gf 11 6 76), (76, 0, op_push (.inl (none, 0)) 77), (77, 0, op_ald 0 78), (78, 0, op_icmp 3 102 81)],
  [(81, 0, op_al 0 82), (82, 0, op_gf 11 26 85), (85, 0, op_il 3 86), (86, 0, op_al 0 87), (87, 0, op_gf 11 6 90), (90, 0, op_push (.inl (none, 103)) 92), (92, 0, op_il 3 93), (93, 0, op_b2 (ab_add2K) 94), (94, 0, op_ald 0 95), (95, 0, op_astK 96)],
  [(96, 0, op_inc 3 1 99), (99, 0, op_goto 71), (102, 0, op_al 0 103), (103, 0, op_call 13 54 1 0 0 0 0 106), (106, 0, op_il 1 107), (107, 1, op_goto 0)]]
noncomputable def tb_X11_nearerAt : ab_tab := [[(0, 0, op_al 0 1), (1, 0, op_il 1 2), (2, 0, op_push (.inl (none, 0)) 3), (3, 0, op_al 0 4), (4, 0, op_gf 11 28 7), (7, 0, op_push (.inl (none, 1)) 8), (8, 0, op_b2 (ab_sub2K) 9), (9, 0, op_call 0 18 3 0 0 0 0 12), (12, 0, op_if 1 19 15), (15, 0, op_push (.inl (none, 1)) 16)],
  [(16, 0, op_goto 20), (19, 0, op_push (.inl (none, 0)) 20), (20, 0, op_call 13 40 2 0 0 0 0 23), (23, 0, op_if 0 30 26), (26, 0, op_push (.inl (none, 0)) 27), (27, 0, op_goto 36), (30, 0, op_al 0 31), (31, 0, op_gf 11 26 34)],
  [(34, 0, op_il 1 35), (35, 0, op_ald 0 36), (36, 1, op_goto 0)]]
noncomputable def tb_X11_right : ab_tab := [[(0, 0, op_al 0 1), (1, 0, op_push (.inl (none, 0)) 2), (2, 0, op_pf (tyX11 0) 11 0 5), (5, 0, op_al 0 6), (6, 0, op_il 1 7), (7, 0, op_call 13 44 2 0 0 0 0 10), (10, 0, op_if 0 23 13), (13, 0, op_il 2 14), (14, 0, op_push (.inl (none, 1)) 15), (15, 0, op_push (.inl (none, 60)) 17)],
  [(17, 0, op_call 0 18 3 0 0 0 0 20), (20, 0, op_if 1 25 23), (23, 0, op_push (.inl (none, (-1))) 24), (24, 1, op_goto 0), (25, 0, op_push (.inl (none, 0)) 26), (26, 0, op_is 3 27), (27, 0, op_al 0 28), (28, 0, op_gf 11 6 31), (31, 0, op_push (.inl (none, 100)) 33)],
  [(33, 0, op_ald 0 34), (34, 0, op_is 4 36), (36, 4, op_il 4 38), (38, 0, op_al 0 39), (39, 0, op_gf 11 6 42), (42, 0, op_push (.inl (none, 100)) 44), (44, 0, op_ald 0 45), (45, 0, op_il 2 46), (46, 0, op_b2 (ab_add2K) 47), (47, 0, op_icmp 3 82 50)],
  [(50, 0, op_il 4 52), (52, 0, op_push (.inl (none, 400)) 55), (55, 0, op_icmp 3 82 58), (58, 0, op_il 3 59), (59, 0, op_al 0 60), (60, 0, op_il 1 61), (61, 0, op_il 4 63), (63, 0, op_call 13 75 3 0 0 0 0 66)],
  [(66, 0, op_if 1 73 69), (69, 0, op_push (.inl (none, 1)) 70), (70, 0, op_goto 74), (73, 0, op_push (.inl (none, 0)) 74), (74, 0, op_b2 (ab_add2K) 75), (75, 0, op_is 3 76), (76, 0, op_inc 4 1 79), (79, 0, op_goto 36)],
  [(82, 0, op_il 3 83), (83, 1, op_goto 0)]]
noncomputable def tb_X11_turns : ab_tab := [[(0, 0, op_al 0 1), (1, 0, op_push (.inl (none, 0)) 2), (2, 0, op_pf (tyX11 0) 11 0 5), (5, 0, op_al 0 6), (6, 0, op_il 1 7), (7, 0, op_call 13 44 2 0 0 0 0 10), (10, 0, op_if 1 15 13), (13, 0, op_push (.inl (none, (-1))) 14), (14, 1, op_goto 0), (15, 0, op_al 0 16)],
  [(16, 0, op_gf 11 6 19), (19, 0, op_push (.inl (none, 100)) 21), (21, 0, op_ald 0 22), (22, 0, op_is 2 23), (23, 4, op_il 2 24), (24, 0, op_push (.inl (none, 400)) 27), (27, 0, op_icmp 3 64 30), (30, 0, op_al 0 31), (31, 0, op_il 1 32)],
  [(32, 0, op_il 2 33), (33, 0, op_call 13 75 3 0 0 0 0 36), (36, 0, op_il 2 37), (37, 0, op_if 1 45 40), (40, 0, op_push (.inl (none, 99)) 42), (42, 0, op_goto 53), (45, 0, op_al 0 46), (46, 0, op_il 1 47), (47, 0, op_il 2 48)],
  [(48, 0, op_push (.inl (none, 1)) 49), (49, 0, op_b2 (ab_sub2K) 50), (50, 0, op_call 13 75 3 0 0 0 0 53), (53, 0, op_icmp 0 58 56), (56, 0, op_il 2 57), (57, 1, op_goto 0), (58, 0, op_inc 2 1 61), (61, 0, op_goto 23)],
  [(64, 0, op_push (.inl (none, (-1))) 65), (65, 1, op_goto 0)]]
noncomputable def tb_X11_motto : ab_tab := [[(0, 0, op_al 0 1), (1, 0, op_push (.inl (none, 0)) 2), (2, 0, op_pf (tyX11 0) 11 0 5), (5, 0, op_al 0 6), (6, 0, op_il 1 7), (7, 0, op_call 13 44 2 0 0 0 0 10), (10, 0, op_if 1 15 13), (13, 0, op_push (.inl (none, (-1))) 14), (14, 1, op_goto 0), (15, 0, op_al 0 16)],
  [(16, 0, op_push (.inl (none, 0)) 17), (17, 0, op_pf (tyX11 36) 11 36 20), (20, 0, op_al 0 21), (21, 0, op_al 0 22), (22, 0, op_gf 11 9 25), (25, 0, op_il 1 26), (26, 0, op_lald 27), (27, 0, op_call 13 30 2 0 0 0 0 30), (30, 0, op_pre (pr_use) (op_al 0 31)), (31, 0, op_lfr 34)],
  [(34, 0, op_call 13 31 2 0 0 0 0 37), (37, 0, op_pre (pr_use) (op_al 0 38)), (38, 0, op_gf 11 6 41), (41, 0, op_push (.inl (none, 103)) 43), (43, 0, op_il 1 44), (44, 0, op_b2 (ab_add2K) 45), (45, 0, op_ald 0 46), (46, 0, op_call 0 37 1 0 0 0 0 49)],
  [(49, 0, op_is 2 50), (50, 0, op_il 2 51), (51, 0, op_if 1 64 54), (54, 0, op_al 0 55), (55, 0, op_lfr 58), (58, 0, op_call 13 31 2 0 0 0 0 61), (61, 0, op_pre (pr_use) (op_goto 123))],
  [(64, 0, op_al 0 65), (65, 0, op_al 0 66), (66, 0, op_gf 11 6 69), (69, 0, op_push (.inl (none, 103)) 71), (71, 0, op_il 1 72), (72, 0, op_b2 (ab_add2K) 73), (73, 0, op_ald 0 74), (74, 0, op_if 5 83 77), (77, 0, op_push (.inr (.inl (.inl (none, 1717662580)))) 80)],
  [(80, 0, op_goto 86), (83, 0, op_push (.inr (.inl (.inl (none, 1936486263)))) 86), (86, 0, op_call 13 31 2 0 0 0 0 89), (89, 0, op_pre (pr_use) (op_al 0 90)), (90, 0, op_push (.inl (none, 32)) 92), (92, 0, op_call 13 17 2 0 0 0 0 95), (95, 0, op_il 2 96)],
  [(96, 0, op_push (.inl (none, 9)) 98), (98, 0, op_icmp 5 112 101), (101, 0, op_al 0 102), (102, 0, op_push (.inl (none, 48)) 104), (104, 0, op_il 2 105), (105, 0, op_push (.inl (none, 10)) 107), (107, 0, op_div 108), (108, 0, op_b2 (ab_add2K) 109), (109, 0, op_call 13 17 2 0 0 0 0 112)],
  [(112, 0, op_al 0 113), (113, 0, op_push (.inl (none, 48)) 115), (115, 0, op_il 2 116), (116, 0, op_push (.inl (none, 10)) 118), (118, 0, op_rem 119), (119, 0, op_b2 (ab_add2K) 120), (120, 0, op_call 13 17 2 0 0 0 0 123), (123, 0, op_al 0 124), (124, 0, op_il 1 125), (125, 0, op_call 13 43 2 0 0 0 0 128)],
  [(128, 0, op_if 0 152 131), (131, 0, op_al 0 132), (132, 0, op_push (.inr (.inl (.inl (none, 26990)))) 135), (135, 0, op_call 13 31 2 0 0 0 0 138), (138, 0, op_pre (pr_use) (op_al 0 139)), (139, 0, op_push (.inr (.inl (.inl (none, 7628901)))) 142), (142, 0, op_call 13 31 2 0 0 0 0 145)],
  [(145, 0, op_pre (pr_use) (op_al 0 146)), (146, 0, op_lfr 149), (149, 0, op_call 13 31 2 0 0 0 0 152), (152, 0, op_pre (pr_use) (op_al 0 153)), (153, 0, op_gf 11 36 156), (156, 1, op_goto 0)]]
noncomputable def tb_X11_byteAt : ab_tab := [[(0, 0, op_al 0 1), (1, 0, op_push (.inl (none, 0)) 2), (2, 0, op_pf (tyX11 0) 11 0 5), (5, 0, op_il 1 6), (6, 0, op_push (.inl (none, 0)) 7), (7, 0, op_al 0 8), (8, 0, op_gf 11 36 11), (11, 0, op_push (.inl (none, 1)) 12), (12, 0, op_b2 (ab_sub2K) 13), (13, 0, op_call 0 18 3 0 0 0 0 16)],
  [(16, 0, op_if 0 28 19), (19, 0, op_al 0 20), (20, 0, op_gf 11 35 23), (23, 0, op_il 1 24), (24, 0, op_ald 2 25), (25, 0, op_goto 29), (28, 0, op_push (.inl (none, (-1))) 29), (29, 1, op_goto 0)]]
noncomputable def tb_X11_drawn : ab_tab := [[(0, 0, op_al 0 1), (1, 0, op_push (.inl (none, 0)) 2), (2, 0, op_pf (tyX11 0) 11 0 5), (5, 0, op_il 1 6), (6, 0, op_push (.inl (none, 1)) 7), (7, 0, op_push (.inl (none, 60)) 9), (9, 0, op_call 0 18 3 0 0 0 0 12), (12, 0, op_if 0 24 15), (15, 0, op_al 0 16)],
  [(16, 0, op_gf 11 6 19), (19, 0, op_push (.inl (none, 0)) 20), (20, 0, op_ald 0 21), (21, 0, op_if 1 26 24), (24, 0, op_push (.inl (none, (-1))) 25), (25, 1, op_goto 0), (26, 0, op_al 0 27), (27, 0, op_gf 11 6 30), (30, 0, op_push (.inl (none, 100)) 32)],
  [(32, 0, op_ald 0 33), (33, 0, op_push (.inl (none, 400)) 36), (36, 0, op_icmp 3 43 39), (39, 0, op_al 0 40), (40, 0, op_call 13 89 1 0 0 0 0 43), (43, 0, op_al 0 44), (44, 0, op_il 1 45), (45, 0, op_il 2 46), (46, 0, op_call 13 129 3 0 0 0 0 49)],
  [(49, 1, op_goto 0)]]
noncomputable def tb_X11_odds : ab_tab := [[(0, 0, op_al 0 1), (1, 0, op_push (.inl (none, 0)) 2), (2, 0, op_pf (tyX11 0) 11 0 5), (5, 0, op_al 0 6), (6, 0, op_il 1 7), (7, 0, op_call 13 44 2 0 0 0 0 10), (10, 0, op_if 0 23 13), (13, 0, op_il 2 14), (14, 0, op_push (.inl (none, 1)) 15), (15, 0, op_push (.inl (none, 30)) 17)],
  [(17, 0, op_call 0 18 3 0 0 0 0 20), (20, 0, op_if 1 25 23), (23, 0, op_push (.inl (none, (-1))) 24), (24, 1, op_goto 0), (25, 0, op_al 0 26), (26, 0, op_call 13 64 1 0 0 0 0 29), (29, 0, op_push (.inl (none, 0)) 30), (30, 0, op_is 4 32)],
  [(32, 0, op_push (.inl (none, 0)) 33), (33, 0, op_is 5 35), (35, 4, op_il 5 37), (37, 0, op_il 2 38), (38, 0, op_icmp 3 93 41), (41, 0, op_al 0 42), (42, 0, op_push (.inl (none, 20)) 44), (44, 0, op_il 3 45), (45, 0, op_il 5 47), (47, 0, op_b2 (ab_add2K) 48)],
  [(48, 0, op_call 13 129 3 0 0 0 0 51), (51, 0, op_pop 52), (52, 0, op_il 4 54), (54, 0, op_al 0 55), (55, 0, op_gf 11 6 58), (58, 0, op_push (.inl (none, 110)) 60), (60, 0, op_il 1 61), (61, 0, op_b2 (ab_add2K) 62), (62, 0, op_ald 0 63), (63, 0, op_al 0 64)],
  [(64, 0, op_gf 11 22 67), (67, 0, op_push (.inl (none, 10)) 69), (69, 0, op_il 1 70), (70, 0, op_b2 (ab_add2K) 71), (71, 0, op_ald 0 72), (72, 0, op_icmp 5 79 75), (75, 0, op_push (.inl (none, 1)) 76), (76, 0, op_goto 80), (79, 0, op_push (.inl (none, 0)) 80)],
  [(80, 0, op_b2 (ab_add2K) 81), (81, 0, op_is 4 83), (83, 0, op_al 0 84), (84, 0, op_call 13 54 1 0 0 0 0 87), (87, 0, op_inc 5 1 90), (90, 0, op_goto 35), (93, 0, op_il 4 95), (95, 1, op_goto 0)]]
noncomputable def tb_X11_book : ab_tab := [[(0, 0, op_al 0 1), (1, 0, op_push (.inl (none, 0)) 2), (2, 0, op_pf (tyX11 0) 11 0 5), (5, 0, op_il 1 6), (6, 0, op_push (.inl (none, 0)) 7), (7, 0, op_push (.inl (none, 1)) 8), (8, 0, op_call 0 18 3 0 0 0 0 11), (11, 0, op_if 1 18 14), (14, 0, op_push (.inl (none, (-1000))) 17)],
  [(17, 1, op_goto 0), (18, 0, op_al 0 19), (19, 0, op_push (.inl (none, 400)) 22), (22, 0, op_call 13 123 2 0 0 0 0 25), (25, 0, op_al 0 26), (26, 0, op_push (.inl (none, 0)) 27), (27, 0, op_pf (tyX11 15) 11 15 30), (30, 0, op_al 0 31), (31, 0, op_push (.inl (none, 0)) 32)],
  [(32, 0, op_pf (tyX11 38) 11 38 35), (35, 0, op_pre (pr_t0 (6, 6, 0, 1, 3, 0, 6)) (op_al 0 36)), (36, 0, op_call 13 13 1 0 0 0 0 39), (39, 4, op_al 0 40), (40, 0, op_gf 11 11 43), (43, 0, op_if 0 83 46), (46, 0, op_al 0 47), (47, 0, op_call 13 156 1 0 0 0 0 50)],
  [(50, 0, op_if 0 62 53), (53, 0, op_al 0 54), (54, 0, op_push (.inl (none, 59)) 56), (56, 0, op_call 13 34 2 0 0 0 0 59), (59, 0, op_if 1 70 62), (62, 0, op_push (.inl (none, (-2))) 64)],
  [(64, 0, op_al 0 65), (65, 0, op_gf 11 16 68), (68, 0, op_b2 (ab_sub2K) 69), (69, 1, op_goto 0), (70, 0, op_pre (pr_tV (6, 6, 0, 1, 3, 0, 6) (1, 0, 38)) (op_al 0 71)), (71, 0, op_dup 72), (72, 0, op_gf 11 38 75), (75, 0, op_push (.inl (none, 1)) 76), (76, 0, op_b2 (ab_add2K) 77), (77, 0, op_pf (tyX11 38) 11 38 80)],
  [(80, 0, op_goto 39), (83, 0, op_al 0 84), (84, 0, op_call 13 64 1 0 0 0 0 87), (87, 0, op_push (.inl (none, 0)) 88), (88, 0, op_is 2 89), (89, 4, op_il 2 90), (90, 0, op_push (.inl (none, 4)) 91), (91, 0, op_icmp 3 107 94), (94, 0, op_al 0 95), (95, 0, op_gf 11 39 98)],
  [(98, 0, op_il 2 99), (99, 0, op_push (.inl (none, 0)) 100), (100, 0, op_astK 101), (101, 0, op_inc 2 1 104), (104, 0, op_goto 89), (107, 0, op_push (.inl (none, (-1))) 108), (108, 0, op_is 2 109), (109, 0, op_push (.inl (none, 0)) 110), (110, 0, op_is 3 111), (111, 4, op_pre (pr_loc 3) (op_il 3 112))],
  [(112, 0, op_al 0 113), (113, 0, op_gf 11 38 116), (116, 0, op_icmp 3 191 119), (119, 0, op_il 2 120), (120, 0, op_if 3 191 123), (123, 0, op_al 0 124), (124, 0, op_gf 11 39 127), (127, 0, op_push (.inl (none, 0)) 128)],
  [(128, 0, op_al 0 129), (129, 0, op_al 0 130), (130, 0, op_gf 11 8 133), (133, 0, op_push (.inl (none, 3)) 134), (134, 0, op_il 3 135), (135, 0, op_b2 (ab_mul2K) 136), (136, 0, op_ald 0 137), (137, 0, op_al 0 138), (138, 0, op_gf 11 8 141), (141, 0, op_push (.inl (none, 3)) 142), (142, 0, op_il 3 143), (143, 0, op_b2 (ab_mul2K) 144)],
  [(144, 0, op_push (.inl (none, 1)) 145), (145, 0, op_b2 (ab_add2K) 146), (146, 0, op_ald 0 147), (147, 0, op_al 0 148), (148, 0, op_gf 11 8 151), (151, 0, op_push (.inl (none, 3)) 152), (152, 0, op_il 3 153), (153, 0, op_b2 (ab_mul2K) 154), (154, 0, op_push (.inl (none, 2)) 155), (155, 0, op_b2 (ab_add2K) 156), (156, 0, op_ald 0 157), (157, 0, op_pre (pr_z 2) (op_pre (pr_tU (6, 6, 0, 1, 3, 0, 6) (0, 3, 0)) (op_call 13 14 4 0 0 0 0 160)))],
  [(160, 0, op_astK 161), (161, 0, op_al 0 162), (162, 0, op_gf 11 39 165), (165, 0, op_push (.inl (none, 0)) 166), (166, 0, op_ald 0 167), (167, 0, op_if 5 175 170), (170, 0, op_il 3 171), (171, 0, op_is 2 172), (172, 0, op_goto 185), (175, 0, op_al 0 176)],
  [(176, 0, op_gf 11 39 179), (179, 0, op_push (.inl (none, 1)) 180), (180, 0, op_dup2 181), (181, 0, op_ald 0 182), (182, 0, op_push (.inl (none, 1)) 183), (183, 0, op_b2 (ab_add2K) 184), (184, 0, op_astK 185), (185, 0, op_inc 3 1 188), (188, 0, op_goto 111), (191, 4, op_al 0 192)],
  [(192, 0, op_gf 11 39 195), (195, 0, op_push (.inl (none, 2)) 196), (196, 0, op_al 0 197), (197, 0, op_gf 11 6 200), (200, 0, op_push (.inl (none, 100)) 202), (202, 0, op_ald 0 203), (203, 0, op_astK 204), (204, 0, op_al 0 205), (205, 0, op_gf 11 39 208)],
  [(208, 0, op_push (.inl (none, 3)) 209), (209, 0, op_al 0 210), (210, 0, op_call 13 66 1 0 0 0 0 213), (213, 0, op_astK 214), (214, 0, op_al 0 215), (215, 0, op_push (.inl (none, 1)) 216), (216, 0, op_pf (tyX11 40) 11 40 219), (219, 0, op_il 1 220), (220, 0, op_push (.inl (none, 1)) 221), (221, 0, op_icmp 1 273 224)],
  [(224, 0, op_al 0 225), (225, 0, op_gf 11 39 228), (228, 0, op_push (.inl (none, 1)) 229), (229, 0, op_ald 0 230), (230, 0, op_if 5 273 233), (233, 0, op_al 0 234), (234, 0, op_call 13 89 1 0 0 0 0 237), (237, 0, op_push (.inl (none, 0)) 238), (238, 0, op_is 3 239), (239, 4, op_il 3 240)],
  [(240, 0, op_push (.inl (none, 24)) 242), (242, 0, op_icmp 3 273 245), (245, 0, op_al 0 246), (246, 0, op_gf 11 21 249), (249, 0, op_push (.inl (none, 24)) 251), (251, 0, op_al 0 252), (252, 0, op_gf 11 23 255), (255, 0, op_push (.inl (none, 1)) 256)],
  [(256, 0, op_b2 (ab_sub2K) 257), (257, 0, op_b2 (ab_mul2K) 258), (258, 0, op_il 3 259), (259, 0, op_b2 (ab_add2K) 260), (260, 0, op_al 0 261), (261, 0, op_gf 11 22 264), (264, 0, op_il 3 265), (265, 0, op_ald 0 266), (266, 0, op_astK 267), (267, 0, op_inc 3 1 270), (270, 0, op_goto 239)],
  [(273, 0, op_il 1 274), (274, 0, op_if 1 281 277), (277, 0, op_al 0 278), (278, 0, op_call 13 54 1 0 0 0 0 281), (281, 0, op_il 2 282), (282, 1, op_goto 0)]]
noncomputable def tb_X11_told : ab_tab := [[(0, 0, op_al 0 1), (1, 0, op_push (.inl (none, 0)) 2), (2, 0, op_pf (tyX11 0) 11 0 5), (5, 0, op_al 0 6), (6, 0, op_gf 11 40 9), (9, 0, op_if 0 30 12), (12, 0, op_il 1 13), (13, 0, op_push (.inl (none, 0)) 14), (14, 0, op_push (.inl (none, 3)) 15), (15, 0, op_call 0 18 3 0 0 0 0 18)],
  [(18, 0, op_if 0 30 21), (21, 0, op_al 0 22), (22, 0, op_gf 11 39 25), (25, 0, op_il 1 26), (26, 0, op_ald 0 27), (27, 0, op_goto 31), (30, 0, op_push (.inl (none, (-1))) 31), (31, 1, op_goto 0)]]
noncomputable def tb_X11_sentence : ab_tab := [[(0, 0, op_al 0 1), (1, 0, op_push (.inl (none, 0)) 2), (2, 0, op_pf (tyX11 0) 11 0 5), (5, 0, op_al 0 6), (6, 0, op_push (.inl (none, 200)) 9), (9, 0, op_call 13 123 2 0 0 0 0 12), (12, 0, op_al 0 13), (13, 0, op_push (.inl (none, 0)) 14), (14, 0, op_pf (tyX11 15) 11 15 17)],
  [(17, 0, op_al 0 18), (18, 0, op_push (.inl (none, 0)) 19), (19, 0, op_pf (tyX11 42) 11 42 22), (22, 0, op_al 0 23), (23, 0, op_push (.inl (none, 0)) 24), (24, 0, op_pf (tyX11 43) 11 43 27), (27, 0, op_al 0 28), (28, 0, op_push (.inl (none, 0)) 29), (29, 0, op_pf (tyX11 44) 11 44 32)],
  [(32, 0, op_al 0 33), (33, 0, op_push (.inl (none, 1)) 34), (34, 0, op_pf (tyX11 45) 11 45 37), (37, 0, op_al 0 38), (38, 0, op_push (.inl (none, 0)) 39), (39, 0, op_pf (tyX11 46) 11 46 42), (42, 0, op_al 0 43), (43, 0, op_call 13 13 1 0 0 0 0 46), (46, 0, op_push (.inl (none, 1)) 47), (47, 0, op_pre (pr_add [(1, 0, 43), (1, 0, 44), (1, 0, 42), (1, 0, 46)] [2, (-1), (-1), (-1)] 0) (op_pre (pr_s0 6 162) (op_is 1 48)))],
  [(48, 4, op_pre (pr_use) (op_il 1 49)), (49, 0, op_if 0 132 52), (52, 0, op_al 0 53), (53, 0, op_gf 11 46 56), (56, 0, op_if 0 101 59), (59, 0, op_al 0 60), (60, 0, op_gf 11 11 63), (63, 0, op_if 1 101 66)],
  [(66, 0, op_al 0 67), (67, 0, op_call 13 150 1 0 0 0 0 70), (70, 0, op_al 0 71), (71, 0, op_push (.inl (none, 22)) 73), (73, 0, op_pre (pr_add [(1, 0, 44), (1, 0, 44)] [1, (-1)] 0) (op_call 13 100 2 0 0 0 0 76)), (76, 0, op_al 0 77), (77, 0, op_gf 11 44 80)],
  [(80, 0, op_if 5 96 83), (83, 0, op_al 0 84), (84, 0, op_push (.inl (none, 1)) 85), (85, 0, op_call 13 5 2 0 0 0 0 88), (88, 0, op_pop 89), (89, 0, op_push (.inl (none, (-1))) 90), (90, 0, op_al 0 91), (91, 0, op_gf 11 16 94), (94, 0, op_b2 (ab_sub2K) 95), (95, 1, op_goto 0)],
  [(96, 0, op_push (.inl (none, 0)) 97), (97, 0, op_pre (pr_add [(1, 0, 43), (1, 0, 44), (1, 0, 42), (1, 0, 46)] [2, (-1), (-1), (-1)] 0) (op_is 1 98)), (98, 0, op_goto 48), (101, 0, op_al 0 102), (102, 0, op_gf 11 46 105), (105, 0, op_if 0 118 108), (108, 0, op_al 0 109), (109, 0, op_call 13 159 1 0 0 0 0 112)],
  [(112, 0, op_pre (pr_add [(1, 0, 43), (1, 0, 44), (1, 0, 42), (1, 0, 46)] [2, (-1), (-1), (-1)] 0) (op_if 1 48 115)), (115, 0, op_goto 125), (118, 0, op_al 0 119), (119, 0, op_call 13 158 1 0 0 0 0 122), (122, 0, op_pre (pr_add [(1, 0, 43), (1, 0, 44), (1, 0, 42), (1, 0, 46)] [2, (-1), (-1), (-1)] 0) (op_if 1 48 125)), (125, 0, op_push (.inl (none, (-1))) 126), (126, 0, op_al 0 127), (127, 0, op_gf 11 16 130)],
  [(130, 0, op_b2 (ab_sub2K) 131), (131, 1, op_goto 0), (132, 0, op_pre (pr_at (1, 0, 42)) (op_al 0 133)), (133, 0, op_gf 11 6 136), (136, 0, op_push (.inl (none, 124)) 138), (138, 0, op_al 0 139), (139, 0, op_gf 11 42 142), (142, 0, op_astK 143), (143, 0, op_push (.inl (none, 0)) 144)],
  [(144, 0, op_is 2 145), (145, 0, op_il 2 146), (146, 0, op_push (.inl (none, 3)) 147), (147, 0, op_al 0 148), (148, 0, op_gf 11 42 151), (151, 0, op_b2 (ab_mul2K) 152), (152, 0, op_icmp 3 176 155), (155, 0, op_al 0 156), (156, 0, op_gf 11 6 159), (159, 0, op_push (.inl (none, 125)) 161)],
  [(161, 0, op_il 2 162), (162, 0, op_b2 (ab_add2K) 163), (163, 0, op_al 0 164), (164, 0, op_gf 11 8 167), (167, 0, op_il 2 168), (168, 0, op_ald 0 169), (169, 0, op_astK 170), (170, 0, op_inc 2 1 173), (173, 0, op_goto 145)],
  [(176, 0, op_pre (pr_rF 6 162 1 124) (op_al 0 177)), (177, 0, op_gf 11 43 180), (180, 1, op_goto 0)]]
noncomputable def tb_X11_said : ab_tab := [[(0, 0, op_al 0 1), (1, 0, op_push (.inl (none, 0)) 2), (2, 0, op_pf (tyX11 0) 11 0 5), (5, 0, op_al 0 6), (6, 0, op_gf 11 6 9), (9, 0, op_push (.inl (none, 124)) 11), (11, 0, op_ald 0 12), (12, 0, op_if 0 20 15), (15, 0, op_il 1 16)],
  [(16, 0, op_push (.inl (none, (-1))) 17), (17, 0, op_icmp 3 22 20), (20, 0, op_push (.inl (none, (-1))) 21), (21, 1, op_goto 0), (22, 0, op_push (.inl (none, 0)) 23), (23, 0, op_is 2 24), (24, 0, op_push (.inl (none, 0)) 25), (25, 0, op_is 3 26), (26, 4, op_il 3 27), (27, 0, op_al 0 28), (28, 0, op_gf 11 6 31), (31, 0, op_push (.inl (none, 0)) 32)],
  [(32, 0, op_ald 0 33), (33, 0, op_icmp 3 63 36), (36, 0, op_al 0 37), (37, 0, op_il 3 38), (38, 0, op_call 13 160 2 0 0 0 0 41), (41, 0, op_if 1 47 44), (44, 0, op_goto 57), (47, 0, op_il 2 48)],
  [(48, 0, op_il 1 49), (49, 0, op_icmp 1 54 52), (52, 0, op_il 3 53), (53, 1, op_goto 0), (54, 0, op_inc 2 1 57), (57, 0, op_inc 3 1 60), (60, 0, op_goto 26), (63, 0, op_il 1 64)],
  [(64, 0, op_push (.inl (none, (-1))) 65), (65, 0, op_icmp 1 72 68), (68, 0, op_il 2 69), (69, 0, op_goto 73), (72, 0, op_push (.inl (none, (-1))) 73), (73, 1, op_goto 0)]]
noncomputable def tb_X11_image : ab_tab := [[(0, 0, op_al 0 1), (1, 0, op_push (.inl (none, 0)) 2), (2, 0, op_pf (tyX11 0) 11 0 5), (5, 0, op_il 1 6), (6, 0, op_push (.inl (none, 0)) 7), (7, 0, op_push (.inl (none, 1)) 8), (8, 0, op_call 0 18 3 0 0 0 0 11), (11, 0, op_if 1 16 14), (14, 0, op_push (.inl (none, 0)) 15), (15, 1, op_goto 0)],
  [(16, 0, op_pre (pr_loc 1) (op_push (.inl (none, 0)) 17)), (17, 0, op_is 2 18), (18, 0, op_il 2 19), (19, 0, op_push (.inl (none, 305)) 22), (22, 0, op_icmp 3 49 25), (25, 0, op_al 0 26), (26, 0, op_gf 11 48 29), (29, 0, op_push (.inl (none, 305)) 32)],
  [(32, 0, op_il 1 33), (33, 0, op_b2 (ab_mul2K) 34), (34, 0, op_il 2 35), (35, 0, op_b2 (ab_add2K) 36), (36, 0, op_al 0 37), (37, 0, op_gf 11 6 40), (40, 0, op_il 2 41), (41, 0, op_ald 0 42), (42, 0, op_astK 43), (43, 0, op_inc 2 1 46), (46, 0, op_goto 18)],
  [(49, 0, op_pre (pr_rY 7 124 1 124) (op_pre (pr_rY 7 429 1 124) (op_push (.inl (none, 0)) 50))), (50, 0, op_is 2 51), (51, 4, op_il 2 52), (52, 0, op_push (.inl (none, 15)) 54), (54, 0, op_icmp 3 80 57), (57, 0, op_al 0 58), (58, 0, op_gf 11 49 61), (61, 0, op_push (.inl (none, 15)) 63), (63, 0, op_il 1 64)],
  [(64, 0, op_b2 (ab_mul2K) 65), (65, 0, op_il 2 66), (66, 0, op_b2 (ab_add2K) 67), (67, 0, op_al 0 68), (68, 0, op_gf 11 9 71), (71, 0, op_il 2 72), (72, 0, op_lald 73), (73, 0, op_last 74), (74, 0, op_inc 2 1 77), (77, 0, op_goto 51)],
  [(80, 0, op_al 0 81), (81, 0, op_gf 11 50 84), (84, 0, op_il 1 85), (85, 0, op_push (.inl (none, 1)) 86), (86, 0, op_ast 3 87), (87, 0, op_push (.inl (none, 1)) 88), (88, 1, op_goto 0)]]
noncomputable def tb_X11_restore : ab_tab := [[(0, 0, op_al 0 1), (1, 0, op_push (.inl (none, 0)) 2), (2, 0, op_pf (tyX11 0) 11 0 5), (5, 0, op_il 1 6), (6, 0, op_push (.inl (none, 0)) 7), (7, 0, op_push (.inl (none, 1)) 8), (8, 0, op_call 0 18 3 0 0 0 0 11), (11, 0, op_if 0 23 14), (14, 0, op_al 0 15), (15, 0, op_gf 11 50 18)],
  [(18, 0, op_il 1 19), (19, 0, op_ald 3 20), (20, 0, op_if 1 25 23), (23, 0, op_push (.inl (none, 0)) 24), (24, 1, op_goto 0), (25, 0, op_pre (pr_loc 1) (op_push (.inl (none, 0)) 26)), (26, 0, op_is 2 27), (27, 0, op_il 2 28), (28, 0, op_push (.inl (none, 305)) 31), (31, 0, op_icmp 3 58 34)],
  [(34, 0, op_al 0 35), (35, 0, op_gf 11 6 38), (38, 0, op_il 2 39), (39, 0, op_al 0 40), (40, 0, op_gf 11 48 43), (43, 0, op_push (.inl (none, 305)) 46), (46, 0, op_il 1 47), (47, 0, op_b2 (ab_mul2K) 48)],
  [(48, 0, op_il 2 49), (49, 0, op_b2 (ab_add2K) 50), (50, 0, op_ald 0 51), (51, 0, op_astK 52), (52, 0, op_inc 2 1 55), (55, 0, op_goto 27), (58, 0, op_pre (pr_rY 1 124 7 124) (op_pre (pr_rY 1 124 7 429) (op_push (.inl (none, 0)) 59))), (59, 0, op_is 2 60), (60, 4, op_il 2 61), (61, 0, op_push (.inl (none, 15)) 63), (63, 0, op_icmp 3 89 66)],
  [(66, 0, op_al 0 67), (67, 0, op_gf 11 9 70), (70, 0, op_il 2 71), (71, 0, op_al 0 72), (72, 0, op_gf 11 49 75), (75, 0, op_push (.inl (none, 15)) 77), (77, 0, op_il 1 78), (78, 0, op_b2 (ab_mul2K) 79), (79, 0, op_il 2 80)],
  [(80, 0, op_b2 (ab_add2K) 81), (81, 0, op_lald 82), (82, 0, op_last 83), (83, 0, op_inc 2 1 86), (86, 0, op_goto 60), (89, 0, op_al 0 90), (90, 0, op_push (.inl (none, 0)) 91), (91, 0, op_pf (tyX11 23) 11 23 94), (94, 0, op_push (.inl (none, 1)) 95), (95, 1, op_goto 0)]]
noncomputable def tb_X11_count : ab_tab := [[(0, 0, op_al 0 1), (1, 0, op_push (.inl (none, 0)) 2), (2, 0, op_pf (tyX11 0) 11 0 5), (5, 0, op_il 1 6), (6, 0, op_push (.inl (none, 6)) 8), (8, 0, op_icmp 1 18 11), (11, 0, op_al 0 12), (12, 0, op_gf 11 2 15), (15, 0, op_goto 37)],
  [(18, 0, op_il 1 19), (19, 0, op_push (.inl (none, 0)) 20), (20, 0, op_push (.inl (none, 5)) 21), (21, 0, op_call 0 18 3 0 0 0 0 24), (24, 0, op_if 0 36 27), (27, 0, op_al 0 28), (28, 0, op_gf 11 6 31), (31, 0, op_il 1 32)],
  [(32, 0, op_ald 0 33), (33, 0, op_goto 37), (36, 0, op_push (.inl (none, (-1))) 37), (37, 1, op_goto 0)]]
noncomputable def tb_L_town : ab_tab := [[(0, 0, op_al 3 1), (1, 0, op_push (.inl (none, 0)) 2), (2, 0, op_al 0 3), (3, 0, op_il 1 4), (4, 0, op_il 2 5), (5, 0, op_callx 12 178 3 1 6 1 6 8 4 15), (8, 0, op_i2l 9), (9, 0, op_last 10), (10, 0, op_goto 17), (15, 0, op_push (.inl (none, 1)) 16)],
  [(16, 1, op_goto 0), (17, 0, op_push (.inl (none, 0)) 18), (18, 1, op_goto 0)]]
noncomputable def tb_L_due : ab_tab := [[(0, 0, op_al 3 1), (1, 0, op_push (.inl (none, 0)) 2), (2, 0, op_al 0 3), (3, 0, op_il 1 4), (4, 0, op_il 2 5), (5, 0, op_callx 12 179 3 1 6 1 6 8 4 15), (8, 0, op_i2l 9), (9, 0, op_last 10), (10, 0, op_goto 17), (15, 0, op_push (.inl (none, 1)) 16)],
  [(16, 1, op_goto 0), (17, 0, op_push (.inl (none, 0)) 18), (18, 1, op_goto 0)]]
noncomputable def tb_L_train : ab_tab := [[(0, 0, op_al 3 1), (1, 0, op_push (.inl (none, 0)) 2), (2, 0, op_al 0 3), (3, 0, op_il 1 4), (4, 0, op_il 2 5), (5, 0, op_callx 12 180 3 1 6 1 6 8 4 15), (8, 0, op_i2l 9), (9, 0, op_last 10), (10, 0, op_goto 17), (15, 0, op_push (.inl (none, 1)) 16)],
  [(16, 1, op_goto 0), (17, 0, op_push (.inl (none, 0)) 18), (18, 1, op_goto 0)]]
noncomputable def tb_L_shows : ab_tab := [[(0, 0, op_al 3 1), (1, 0, op_push (.inl (none, 0)) 2), (2, 0, op_al 0 3), (3, 0, op_il 1 4), (4, 0, op_il 2 5), (5, 0, op_callx 12 181 3 1 6 1 6 8 4 15), (8, 0, op_i2l 9), (9, 0, op_last 10), (10, 0, op_goto 17), (15, 0, op_push (.inl (none, 1)) 16)],
  [(16, 1, op_goto 0), (17, 0, op_push (.inl (none, 0)) 18), (18, 1, op_goto 0)]]
noncomputable def tb_L_now : ab_tab := [[(0, 0, op_al 2 1), (1, 0, op_push (.inl (none, 0)) 2), (2, 0, op_al 0 3), (3, 0, op_il 1 4), (4, 0, op_callx 12 182 2 1 6 1 6 7 3 13), (7, 0, op_i2l 8), (8, 0, op_last 9), (9, 0, op_goto 15), (13, 0, op_push (.inl (none, 1)) 14), (14, 1, op_goto 0), (15, 0, op_push (.inl (none, 0)) 16)],
  [(16, 1, op_goto 0)]]
noncomputable def tb_L_noonLong : ab_tab := [[(0, 0, op_al 1 1), (1, 0, op_push (.inl (none, 0)) 2), (2, 0, op_al 0 3), (3, 0, op_callx 12 189 1 1 6 1 6 6 2 12), (6, 0, op_i2l 7), (7, 0, op_last 8), (8, 0, op_goto 14), (12, 0, op_push (.inl (none, 1)) 13), (13, 1, op_goto 0), (14, 0, op_push (.inl (none, 0)) 15), (15, 1, op_goto 0)]]
noncomputable def tb_L_oneNoon : ab_tab := [[(0, 0, op_al 1 1), (1, 0, op_push (.inl (none, 0)) 2), (2, 0, op_al 0 3), (3, 0, op_callx 12 190 1 1 6 1 6 6 2 12), (6, 0, op_i2l 7), (7, 0, op_last 8), (8, 0, op_goto 14), (12, 0, op_push (.inl (none, 1)) 13), (13, 1, op_goto 0), (14, 0, op_push (.inl (none, 0)) 15), (15, 1, op_goto 0)]]
noncomputable def tb_L_evenAt : ab_tab := [[(0, 0, op_al 2 1), (1, 0, op_push (.inl (none, 0)) 2), (2, 0, op_al 0 3), (3, 0, op_il 1 4), (4, 0, op_callx 12 192 2 1 6 1 6 7 3 13), (7, 0, op_i2l 8), (8, 0, op_last 9), (9, 0, op_goto 15), (13, 0, op_push (.inl (none, 1)) 14), (14, 1, op_goto 0), (15, 0, op_push (.inl (none, 0)) 16)],
  [(16, 1, op_goto 0)]]
noncomputable def tb_L_spare : ab_tab := [[(0, 0, op_al 3 1), (1, 0, op_push (.inl (none, 0)) 2), (2, 0, op_al 0 3), (3, 0, op_il 1 4), (4, 0, op_il 2 5), (5, 0, op_callx 12 195 3 1 6 1 6 8 4 15), (8, 0, op_i2l 9), (9, 0, op_last 10), (10, 0, op_goto 17), (15, 0, op_push (.inl (none, 1)) 16)],
  [(16, 1, op_goto 0), (17, 0, op_push (.inl (none, 0)) 18), (18, 1, op_goto 0)]]
noncomputable def tb_L_votes : ab_tab := [[(0, 0, op_al 3 1), (1, 0, op_push (.inl (none, 0)) 2), (2, 0, op_al 0 3), (3, 0, op_il 1 4), (4, 0, op_il 2 5), (5, 0, op_callx 12 199 3 1 6 1 6 8 4 15), (8, 0, op_i2l 9), (9, 0, op_last 10), (10, 0, op_goto 17), (15, 0, op_push (.inl (none, 1)) 16)],
  [(16, 1, op_goto 0), (17, 0, op_push (.inl (none, 0)) 18), (18, 1, op_goto 0)]]
noncomputable def tb_L_nearerAt : ab_tab := [[(0, 0, op_al 2 1), (1, 0, op_push (.inl (none, 0)) 2), (2, 0, op_al 0 3), (3, 0, op_il 1 4), (4, 0, op_callx 12 201 2 1 6 1 6 7 3 13), (7, 0, op_i2l 8), (8, 0, op_last 9), (9, 0, op_goto 15), (13, 0, op_push (.inl (none, 1)) 14), (14, 1, op_goto 0), (15, 0, op_push (.inl (none, 0)) 16)],
  [(16, 1, op_goto 0)]]
noncomputable def ab_MEL : List ab_ME := [(yX6_compares, cX6_compares, 3, some .boolean, 0, 0, 0, [], tb_X6_compares),
  (yX4_failAs, cX4_failAs, 2, some .boolean, 0, 0, 0, [], tb_X4_failAs),
  (yX7_noonByDial, cX7_noonByDial, 3, some .int, 0, 0, 0, [], tb_X7_noonByDial),
  (yX4_next, cX4_next, 1, none, 0, 0, 0, [], tb_X4_next),
  (yX11_octet, cX11_octet, 2, some .int, 0, 0, 0, [], tb_X11_octet),
  (yX11_bad, cX11_bad, 2, some .boolean, 0, 0, 0, [], tb_X11_bad),
  (yX7_isShaded, cX7_isShaded, 2, some .boolean, 0, 0, 0, [], tb_X7_isShaded),
  (yX6_readPlain, cX6_readPlain, 5, some .boolean, 0, 0, 0, [], tb_X6_readPlain),
  (yX7_inBreach, cX7_inBreach, 4, some .boolean, 0, 0, 0, [], tb_X7_inBreach),
  (yX6_addStep, cX6_addStep, 4, none, 0, 0, 0, [], tb_X6_addStep),
  (yX11_peek, cX11_peek, 1, some .int, 0, 0, 0, [], tb_X11_peek),
  (yX11_isLeaf, cX11_isLeaf, 6, some .boolean, 0, 0, 0, [], tb_X11_isLeaf),
  (yX6_readOne, cX6_readOne, 6, some .boolean, 0, 0, 0, [], tb_X6_readOne),
  (yX11_next, cX11_next, 4, none, 0, 0, 0, [], tb_X11_next),
  (yX11_does, cX11_does, 5, some .int, 0, 0, 0, [], tb_X11_does),
  (yX11_isSmall, cX11_isSmall, 1, some .boolean, 0, 0, 0, [], tb_X11_isSmall),
  (yX7_copyFrom, cX7_copyFrom, 2, none, 0, 0, 0, [], tb_X7_copyFrom),
  (yX11_lays, cX11_lays, 2, none, 0, 0, 0, [], tb_X11_lays),
  (yX11_isIn, cX11_isIn, 3, some .boolean, 0, 0, 0, [], tb_X11_isIn),
  (yX11_isWord, cX11_isWord, 3, some .boolean, 0, 0, 0, [], tb_X11_isWord),
  (yX11_isDigit, cX11_isDigit, 1, some .boolean, 0, 0, 0, [], tb_X11_isDigit),
  (yX11_bitOf, cX11_bitOf, 2, some .boolean, 0, 0, 0, [], tb_X11_bitOf),
  (yX11_noonOf, cX11_noonOf, 2, some .int, 0, 0, 0, [], tb_X11_noonOf),
  (yX7_leaves, cX7_leaves, 3, some .int, 0, 0, 0, [], tb_X7_leaves),
  (yX6_beginsOne, cX6_beginsOne, 1, some .boolean, 0, 0, 0, [], tb_X6_beginsOne),
  (yX6_readAll, cX6_readAll, 5, some .boolean, 0, 0, 0, [], tb_X6_readAll),
  (yX4_readRun, cX4_readRun, 7, none, 0, 0, 0, [], tb_X4_readRun),
  (yX4_toldWord, cX4_toldWord, 2, some .int, 0, 0, 0, [], tb_X4_toldWord),
  (yX4_takeSign, cX4_takeSign, 2, some .boolean, 0, 0, 0, [], tb_X4_takeSign),
  (yX4_takeNumber, cX4_takeNumber, 3, some .boolean, 0, 0, 0, [], tb_X4_takeNumber),
  (yX11_spells, cX11_spells, 4, none, 0, 0, 0, [], tb_X11_spells),
  (yX11_says, cX11_says, 3, none, 0, 0, 0, [], tb_X11_says),
  (yX8_limit, cX8_limit, 1, some .int, 0, 0, 0, [], tb_X8_limit),
  (yX11_isSign, cX11_isSign, 2, some .boolean, 0, 0, 0, [], tb_X11_isSign),
  (yX11_sign, cX11_sign, 2, some .boolean, 0, 0, 0, [], tb_X11_sign),
  (yX11_leavesAt, cX11_leavesAt, 2, some .int, 0, 0, 0, [], tb_X11_leavesAt),
  (yX7_comes, cX7_comes, 3, some .int, 0, 0, 0, [], tb_X7_comes),
  (yX11_absolute, cX11_absolute, 1, some .int, 0, 0, 0, [], tb_X11_absolute),
  (yX6_readCond, cX6_readCond, 5, some .boolean, 0, 0, 0, [], tb_X6_readCond),
  (yX8_change, cX8_change, 1, some .int, 0, 0, 0, [], tb_X8_change),
  (yX11_throwsIf, cX11_throwsIf, 2, some .boolean, 0, 0, 0, [], tb_X11_throwsIf),
  (yX5_search, cX5_search, 8, none, 0, 0, 0, [], tb_X5_search),
  (yX5_takeIfBetter, cX5_takeIfBetter, 3, none, 0, 0, 0, [], tb_X5_takeIfBetter),
  (yX11_isShaded, cX11_isShaded, 2, some .boolean, 0, 0, 0, [], tb_X11_isShaded),
  (yX11_isTown, cX11_isTown, 2, some .boolean, 0, 0, 0, [], tb_X11_isTown),
  (yX11_takes, cX11_takes, 3, some .boolean, 0, 0, 0, [], tb_X11_takes),
  (yX4_isName, cX4_isName, 1, some .boolean, 0, 0, 0, [], tb_X4_isName),
  (yX8_townNamed, cX8_townNamed, 4, some .int, 0, 0, 0, [], tb_X8_townNamed),
  (yX8_dueOn, cX8_dueOn, 4, some .int, 0, 0, 0, [], tb_X8_dueOn),
  (yX11_once, cX11_once, 5, some .boolean, 0, 0, 0, [], tb_X11_once),
  (yX4_takeTown, cX4_takeTown, 4, some .boolean, 0, 0, 0, [], tb_X4_takeTown),
  (yX4_isSign, cX4_isSign, 1, some .boolean, 0, 0, 0, [], tb_X4_isSign),
  (yX7_wasBent, cX7_wasBent, 2, some .boolean, 0, 0, 0, [], tb_X7_wasBent),
  (yX11_comesAt, cX11_comesAt, 2, some .int, 0, 0, 0, [], tb_X11_comesAt),
  (yX11_back, cX11_back, 2, none, 0, 0, 0, [], tb_X11_back),
  (yX11_mayTake, cX11_mayTake, 4, some .boolean, 0, 0, 0, [], tb_X11_mayTake),
  (yX7_whyNotBend, cX7_whyNotBend, 4, some .int, 0, 0, 0, [], tb_X7_whyNotBend),
  (yX7_bendBy, cX7_bendBy, 3, none, 0, 0, 0, [], tb_X7_bendBy),
  (yX11_puts, cX11_puts, 4, some .boolean, 0, 0, 0, [], tb_X11_puts),
  (yX6_copyFrom, cX6_copyFrom, 2, none, 0, 0, 0, [], tb_X6_copyFrom),
  (yX6_plainHolds, cX6_plainHolds, 6, some .boolean, 0, 0, 0, [], tb_X6_plainHolds),
  (yX7_breachBits, cX7_breachBits, 4, some .int, 0, 0, 0, [], tb_X7_breachBits),
  (yX3_put, cX3_put, 3, none, 0, 0, 0, [], tb_X3_put),
  (yX3_put_, cX3_put_, 2, none, 0, 0, 0, [], tb_X3_put_),
  (yX11_tries, cX11_tries, 2, none, 0, 0, 0, [], tb_X11_tries),
  (yX1_keep, cX1_keep, 4, none, 0, 0, 0, [], tb_X1_keep),
  (yX11_breachSet, cX11_breachSet, 3, some .int, 0, 0, 0, [], tb_X11_breachSet),
  (yX7_turnShade, cX7_turnShade, 2, none, 0, 0, 0, [], tb_X7_turnShade),
  (yX7_springBack, cX7_springBack, 4, some .int, 0, 0, 0, [], tb_X7_springBack),
  (yX7_draw, cX7_draw, 2, some .int, 0, 0, 0, [], tb_X7_draw),
  (yX10_hasTown, cX10_hasTown, 2, some .boolean, 0, 0, 0, [], tb_X10_hasTown),
  (yX11_find, cX11_find, 4, some .int, 0, 0, 0, [], tb_X11_find),
  (yX11_bends, cX11_bends, 3, none, 0, 0, 0, [], tb_X11_bends),
  (yX4_takeWay, cX4_takeWay, 1, some .boolean, 0, 0, 0, [], tb_X4_takeWay),
  (yX8_frost, cX8_frost, 1, some .int, 0, 0, 0, [], tb_X8_frost),
  (yX11_dueOf, cX11_dueOf, 4, some .int, 0, 0, 0, [], tb_X11_dueOf),
  (yX11_isName, cX11_isName, 3, some .boolean, 0, 0, 0, [], tb_X11_isName),
  (yX11_whyBend, cX11_whyBend, 3, some .int, 0, 0, 0, [], tb_X11_whyBend),
  (yX11_goesOn, cX11_goesOn, 4, some .int, 0, 0, 0, [], tb_X11_goesOn),
  (yX4_begin, cX4_begin, 2, none, 0, 0, 0, [], tb_X4_begin),
  (yX4_atEnd, cX4_atEnd, 1, some .boolean, 0, 0, 0, [], tb_X4_atEnd),
  (yX7_passDay, cX7_passDay, 3, none, 0, 0, 0, [], tb_X7_passDay),
  (yX7_passDays, cX7_passDays, 4, none, 0, 0, 0, [], tb_X7_passDays),
  (yX7_noonsUpTo, cX7_noonsUpTo, 6, some .int, 0, 0, 0, [], tb_X7_noonsUpTo),
  (yX8_copyFrom, cX8_copyFrom, 2, none, 0, 0, 0, [], tb_X8_copyFrom),
  (yX11_line, cX11_line, 1, some .boolean, 0, 0, 0, [], tb_X11_line),
  (yX11_readTown, cX11_readTown, 2, some .boolean, 0, 0, 0, [], tb_X11_readTown),
  (yX11_readTerm, cX11_readTerm, 2, some .boolean, 0, 0, 0, [], tb_X11_readTerm),
  (yX11_readTrain, cX11_readTrain, 2, some .boolean, 0, 0, 0, [], tb_X11_readTrain),
  (yX11_keep, cX11_keep, 2, none, 0, 0, 0, [], tb_X11_keep),
  (yJ6_compare_7cf53, cJ6_compare_7cf53, 2, some .int, 0, 0, 0, [], tb_J6_compare_7cf53),
  (yJ6_signum_0f7a4, cJ6_signum_0f7a4, 1, some .int, 0, 0, 0, [], tb_J6_signum_0f7a4),
  (yX11_looksAt, cX11_looksAt, 3, some .boolean, 0, 0, 0, [], tb_X11_looksAt),
  (yX7_drawDays, cX7_drawDays, 6, none, 0, 0, 0, [], tb_X7_drawDays),
  (yX7_middleNoon, cX7_middleNoon, 7, some .int, 0, 0, 0, [], tb_X7_middleNoon),
  (yX9_readSetting, cX9_readSetting, 4, some .boolean, 0, 0, 0, [], tb_X9_readSetting),
  (yX10_roomOf, cX10_roomOf, 3, some .int, 0, 0, 0, [], tb_X10_roomOf),
  (yX11_inBreach, cX11_inBreach, 2, some .boolean, 0, 0, 0, [], tb_X11_inBreach),
  (yX11_freezes, cX11_freezes, 4, some .int, 0, 0, 0, [], tb_X11_freezes),
  (yX11_code, cX11_code, 4, none, 0, 0, 0, [], tb_X11_code),
  (yX11_joins, cX11_joins, 2, none, 0, 0, 0, [], tb_X11_joins),
  (yX11_takesName, cX11_takesName, 3, some .boolean, 0, 0, 0, [], tb_X11_takesName),
  (yX11_draw, cX11_draw, 2, some .int, 0, 0, 0, [], tb_X11_draw),
  (yJ0_length_8abf5, cJ0_length_8abf5, 1, some .int, 0, 0, 0, [], tb_J0_length_8abf5),
  (yJ0_charAt_5068e, cJ0_charAt_5068e, 2, some .char, 0, 0, 0, [], tb_J0_charAt_5068e),
  (yJ0_coder_7d493, cJ0_coder_7d493, 1, some .byte, 0, 0, 0, [], tb_J0_coder_7d493),
  (yJ0_isLatin1_aae02, cJ0_isLatin1_aae02, 1, some .boolean, 0, 0, 0, [], tb_J0_isLatin1_aae02),
  (yJ0_checkIndex_df160, cJ0_checkIndex_df160, 2, none, 0, 0, 0, [], tb_J0_checkIndex_df160),
  (yJ1_charAt_3b067, cJ1_charAt_3b067, 2, some .char, 0, 0, 0, [], tb_J1_charAt_3b067),
  (yJ3_checkIndex_8e157, cJ3_checkIndex_8e157, 3, some .int, 0, 0, 0, [], tb_J3_checkIndex_8e157),
  (yX0_read, cX0_read, 3, some .boolean, 0, 0, 0, [], tb_X0_read),
  (yX0_isAct, cX0_isAct, 1, some .boolean, 0, 0, 0, [], tb_X0_isAct),
  (yX0_readLine, cX0_readLine, 4, some .boolean, 0, 0, 0, [], tb_X0_readLine),
  (yX0_judge, cX0_judge, 3, none, 0, 0, 0, [], tb_X0_judge),
  (yX0_liveDays, cX0_liveDays, 3, some .int, 0, 0, 0, [], tb_X0_liveDays),
  (yX3_write, cX3_write, 7, none, 0, 0, 0, [], tb_X3_write),
  (yX4_takeNewName, cX4_takeNewName, 2, some .boolean, 0, 0, 0, [], tb_X4_takeNewName),
  (yX6_read, cX6_read, 3, some .boolean, 0, 0, 0, [], tb_X6_read),
  (yX6_holds, cX6_holds, 9, some .boolean, 0, 0, 0, [], tb_X6_holds),
  (yX7_beginIn, cX7_beginIn, 3, none, 0, 0, 0, [], tb_X7_beginIn),
  (yX7_actByDraw, cX7_actByDraw, 5, none, 0, 0, 0, [], tb_X7_actByDraw),
  (yX9_readLine, cX9_readLine, 3, some .boolean, 0, 0, 0, [], tb_X9_readLine),
  (yX10_hasTrain, cX10_hasTrain, 2, some .boolean, 0, 0, 0, [], tb_X10_hasTrain),
  (yX11_taken, cX11_taken, 2, none, 0, 0, 0, [], tb_X11_taken),
  (yX11_lesser, cX11_lesser, 2, some .int, 0, 0, 0, [], tb_X11_lesser),
  (yX11_greater, cX11_greater, 2, some .int, 0, 0, 0, [], tb_X11_greater),
  (yX11_takesWay, cX11_takesWay, 4, some .boolean, 0, 0, 0, [], tb_X11_takesWay),
  (yX11_hasDue, cX11_hasDue, 2, some .boolean, 0, 0, 0, [], tb_X11_hasDue),
  (yX11_sumOf, cX11_sumOf, 4, some .int, 0, 0, 0, [], tb_X11_sumOf),
  (yX11_draws, cX11_draws, 7, some .int, 0, 0, 0, [], tb_X11_draws),
  (yX10_hasDue, cX10_hasDue, 2, some .boolean, 0, 0, 0, [], tb_X10_hasDue),
  (yX10_added, cX10_added, 4, some .int, 0, 0, 0, [], tb_X10_added),
  (yX11_isTrain, cX11_isTrain, 2, some .boolean, 0, 0, 0, [], tb_X11_isTrain),
  (yX11_sorts, cX11_sorts, 5, some .int, 0, 0, 0, [], tb_X11_sorts),
  (yX11_roomOf, cX11_roomOf, 3, some .int, 0, 0, 0, [], tb_X11_roomOf),
  (yX0_live, cX0_live, 4, some .int, 0, 0, 0, [], tb_X0_live),
  (yX0_liveBend, cX0_liveBend, 5, some .int, 0, 0, 0, [], tb_X0_liveBend),
  (yX0_liveShade, cX0_liveShade, 2, some .int, 0, 0, 0, [], tb_X0_liveShade),
  (yX0_liveClear, cX0_liveClear, 2, some .int, 0, 0, 0, [], tb_X0_liveClear),
  (yX3_putMinutes, cX3_putMinutes, 2, none, 0, 0, 0, [], tb_X3_putMinutes),
  (yX7_bendToDues, cX7_bendToDues, 5, none, 0, 0, 0, [], tb_X7_bendToDues),
  (yX7_comeNearer, cX7_comeNearer, 6, some .boolean, 0, 0, 0, [], tb_X7_comeNearer),
  (yX8_makeEmpty, cX8_makeEmpty, 1, none, 0, 0, 0, [], tb_X8_makeEmpty),
  (yX8_isTold, cX8_isTold, 4, some .boolean, 0, 0, 0, [], tb_X8_isTold),
  (yX9_readInto, cX9_readInto, 4, some .int, 0, 0, 0, [], tb_X9_readInto),
  (yX9_readTown, cX9_readTown, 4, some .boolean, 0, 0, 0, [], tb_X9_readTown),
  (yX9_readTerm, cX9_readTerm, 4, some .boolean, 0, 0, 0, [], tb_X9_readTerm),
  (yX9_readTrain, cX9_readTrain, 4, some .boolean, 0, 0, 0, [], tb_X9_readTrain),
  (yX10_bendsAdded, cX10_bendsAdded, 1, some .int, 0, 0, 0, [], tb_X10_bendsAdded),
  (yX11_fresh, cX11_fresh, 2, some .boolean, 0, 0, 0, [], tb_X11_fresh),
  (yX11_nots, cX11_nots, 1, none, 0, 0, 0, [], tb_X11_nots),
  (yX1_takeBack, cX1_takeBack, 2, some .int, 0, 0, 0, [], tb_X1_takeBack),
  (yX10_minutesOff, cX10_minutesOff, 3, some .int, 0, 0, 0, [], tb_X10_minutesOff),
  (yX11_clears, cX11_clears, 2, none, 0, 0, 0, [], tb_X11_clears),
  (yX11_movesToDues, cX11_movesToDues, 3, none, 0, 0, 0, [], tb_X11_movesToDues),
  (yX11_comesNearer, cX11_comesNearer, 4, some .boolean, 0, 0, 0, [], tb_X11_comesNearer),
  (yX11_bookLine, cX11_bookLine, 3, some .boolean, 0, 0, 0, [], tb_X11_bookLine),
  (yX11_leafOf, cX11_leafOf, 1, some .int, 0, 0, 0, [], tb_X11_leafOf),
  (yX11_operand, cX11_operand, 5, some .boolean, 0, 0, 0, [], tb_X11_operand),
  (yX11_behind, cX11_behind, 1, some .boolean, 0, 0, 0, [], tb_X11_behind),
  (yX11_isSaid, cX11_isSaid, 5, some .boolean, 0, 0, 0, [], tb_X11_isSaid),
  (yX0_init, cX0_init, 1, none, 3, 120, 0, [], tb_X0_init),
  (yX1_init, cX1_init, 2, none, 33, 232, 0, [], tb_X1_init),
  (yX2_init, cX2_init, 1, none, 22, 281, 0, [], tb_X2_init),
  (yX3_init, cX3_init, 1, none, 1, 40, 0, [], tb_X3_init),
  (yX4_init, cX4_init, 3, none, 2, 962, 0, [], tb_X4_init),
  (yX4_put, cX4_put, 3, none, 0, 0, 0, [], tb_X4_put),
  (yX5_init, cX5_init, 1, none, 2, 16, 0, [], tb_X5_init),
  (yX5_find, cX5_find, 6, some .int, 0, 0, 0, [], tb_X5_find),
  (yX6_init, cX6_init, 1, none, 3, 120, 0, [], tb_X6_init),
  (yX7_init, cX7_init, 1, none, 3, 21, 0, [], tb_X7_init),
  (yX8_init, cX8_init, 1, none, 13, 112, 0, [], tb_X8_init),
  (yX9_init, cX9_init, 1, none, 1, 3, 0, [], tb_X9_init),
  (yX10_init, cX10_init, 1, none, 141, 2556, 0, [], tb_X10_init),
  (yX10_feed, cX10_feed, 6, some .int, 0, 0, 0, [], tb_X10_feed),
  (yX10_end, cX10_end, 2, some .boolean, 0, 0, 0, [], tb_X10_end),
  (yX10_valley, cX10_valley, 3, some .int, 0, 0, 0, [], tb_X10_valley),
  (yX10_fault, cX10_fault, 1, some .int, 0, 0, 0, [], tb_X10_fault),
  (yX10_town, cX10_town, 3, some .int, 1, 6, 1, [], tb_X10_town),
  (yX10_due, cX10_due, 4, some .int, 1, 6, 1, [], tb_X10_due),
  (yX10_train, cX10_train, 3, some .int, 1, 6, 1, [], tb_X10_train),
  (yX10_shows, cX10_shows, 3, some .int, 1, 6, 1, [], tb_X10_shows),
  (yX10_now, cX10_now, 2, some .int, 1, 6, 1, [], tb_X10_now),
  (yX10_bend, cX10_bend, 4, some .int, 0, 0, 0, [], tb_X10_bend),
  (yX10_shade, cX10_shade, 2, some .int, 0, 0, 0, [], tb_X10_shade),
  (yX10_clear, cX10_clear, 2, some .int, 0, 0, 0, [], tb_X10_clear),
  (yX10_freeze, cX10_freeze, 1, some .int, 0, 0, 0, [], tb_X10_freeze),
  (yX10_days, cX10_days, 3, some .int, 0, 0, 0, [], tb_X10_days),
  (yX10_undo, cX10_undo, 1, some .int, 0, 0, 0, [], tb_X10_undo),
  (yX10_noonLong, cX10_noonLong, 4, some .int, 1, 6, 1, [], tb_X10_noonLong),
  (yX10_oneNoon, cX10_oneNoon, 2, some .int, 1, 6, 1, [], tb_X10_oneNoon),
  (yX10_even, cX10_even, 8, some .int, 0, 0, 0, [], tb_X10_even),
  (yX10_evenAt, cX10_evenAt, 2, some .int, 1, 6, 1, [], tb_X10_evenAt),
  (yX10_kept, cX10_kept, 2, some .int, 0, 0, 0, [], tb_X10_kept),
  (yX10_worst, cX10_worst, 6, some .int, 0, 0, 0, [], tb_X10_worst),
  (yX10_spare, cX10_spare, 3, some .int, 1, 6, 1, [], tb_X10_spare),
  (yX10_route, cX10_route, 4, some .int, 0, 0, 0, [], tb_X10_route),
  (yX10_routeAt, cX10_routeAt, 2, some .int, 0, 0, 0, [], tb_X10_routeAt),
  (yX10_shadows, cX10_shadows, 5, some .int, 0, 0, 0, [], tb_X10_shadows),
  (yX10_votes, cX10_votes, 7, some .int, 1, 6, 1, [], tb_X10_votes),
  (yX10_nearer, cX10_nearer, 4, some .int, 0, 0, 0, [], tb_X10_nearer),
  (yX10_nearerAt, cX10_nearerAt, 2, some .int, 1, 6, 1, [], tb_X10_nearerAt),
  (yX10_right, cX10_right, 6, some .int, 0, 0, 0, [], tb_X10_right),
  (yX10_turns, cX10_turns, 4, some .int, 0, 0, 0, [], tb_X10_turns),
  (yX10_motto, cX10_motto, 2, some .int, 0, 0, 0, [], tb_X10_motto),
  (yX10_byteAt, cX10_byteAt, 2, some .int, 0, 0, 0, [], tb_X10_byteAt),
  (yX10_drawn, cX10_drawn, 4, some .int, 0, 0, 0, [], tb_X10_drawn),
  (yX10_odds, cX10_odds, 6, some .int, 0, 0, 0, [], tb_X10_odds),
  (yX10_book, cX10_book, 3, some .int, 0, 0, 0, [], tb_X10_book),
  (yX10_told, cX10_told, 2, some .int, 0, 0, 0, [], tb_X10_told),
  (yX10_sentence, cX10_sentence, 3, some .int, 0, 0, 0, [], tb_X10_sentence),
  (yX10_said, cX10_said, 4, some .int, 0, 0, 0, [], tb_X10_said),
  (yX10_image, cX10_image, 3, some .boolean, 0, 0, 0, [], tb_X10_image),
  (yX10_restore, cX10_restore, 3, some .boolean, 0, 0, 0, [], tb_X10_restore),
  (yX10_count, cX10_count, 2, some .int, 0, 0, 0, [], tb_X10_count),
  (yX11_feed, cX11_feed, 6, some .int, 0, 0, 0, [], tb_X11_feed),
  (yX11_four, cX11_four, 3, none, 0, 0, 0, [], tb_X11_four),
  (yX11_end, cX11_end, 2, some .boolean, 0, 0, 0, [], tb_X11_end),
  (yX11_init, cX11_init, 2, none, 23, 2596, 0, [], tb_X11_init),
  (yX11_valley, cX11_valley, 2, some .int, 0, 0, 0, [], tb_X11_valley),
  (yX11_fault, cX11_fault, 1, some .int, 0, 0, 0, [], tb_X11_fault),
  (yX11_town, cX11_town, 3, some .int, 0, 0, 0, [], tb_X11_town),
  (yX11_due, cX11_due, 3, some .int, 0, 0, 0, [], tb_X11_due),
  (yX11_train, cX11_train, 3, some .int, 0, 0, 0, [], tb_X11_train),
  (yX11_shows, cX11_shows, 3, some .int, 0, 0, 0, [], tb_X11_shows),
  (yX11_now, cX11_now, 4, some .int, 0, 0, 0, [], tb_X11_now),
  (yX11_bend, cX11_bend, 4, some .int, 0, 0, 0, [], tb_X11_bend),
  (yX11_shade, cX11_shade, 2, some .int, 0, 0, 0, [], tb_X11_shade),
  (yX11_clear, cX11_clear, 2, some .int, 0, 0, 0, [], tb_X11_clear),
  (yX11_freeze, cX11_freeze, 1, some .int, 0, 0, 0, [], tb_X11_freeze),
  (yX11_days, cX11_days, 2, some .int, 0, 0, 0, [], tb_X11_days),
  (yX11_undo, cX11_undo, 2, some .int, 0, 0, 0, [], tb_X11_undo),
  (yX11_noonLong, cX11_noonLong, 2, some .int, 0, 0, 0, [], tb_X11_noonLong),
  (yX11_oneNoon, cX11_oneNoon, 2, some .int, 0, 0, 0, [], tb_X11_oneNoon),
  (yX11_even, cX11_even, 7, some .int, 0, 0, 0, [], tb_X11_even),
  (yX11_evenAt, cX11_evenAt, 2, some .int, 0, 0, 0, [], tb_X11_evenAt),
  (yX11_kept, cX11_kept, 3, some .int, 0, 0, 0, [], tb_X11_kept),
  (yX11_worst, cX11_worst, 6, some .int, 0, 0, 0, [], tb_X11_worst),
  (yX11_spare, cX11_spare, 3, some .int, 0, 0, 0, [], tb_X11_spare),
  (yX11_route, cX11_route, 11, some .int, 0, 0, 0, [], tb_X11_route),
  (yX11_routeAt, cX11_routeAt, 2, some .int, 0, 0, 0, [], tb_X11_routeAt),
  (yX11_shadows, cX11_shadows, 2, some .int, 0, 0, 0, [], tb_X11_shadows),
  (yX11_votes, cX11_votes, 7, some .int, 0, 0, 0, [], tb_X11_votes),
  (yX11_nearer, cX11_nearer, 4, some .int, 0, 0, 0, [], tb_X11_nearer),
  (yX11_nearerAt, cX11_nearerAt, 2, some .int, 0, 0, 0, [], tb_X11_nearerAt),
  (yX11_right, cX11_right, 5, some .int, 0, 0, 0, [], tb_X11_right),
  (yX11_turns, cX11_turns, 3, some .int, 0, 0, 0, [], tb_X11_turns),
  (yX11_motto, cX11_motto, 3, some .int, 0, 0, 0, [], tb_X11_motto),
  (yX11_byteAt, cX11_byteAt, 2, some .int, 0, 0, 0, [], tb_X11_byteAt),
  (yX11_drawn, cX11_drawn, 3, some .int, 0, 0, 0, [], tb_X11_drawn),
  (yX11_odds, cX11_odds, 6, some .int, 0, 0, 0, [], tb_X11_odds),
  (yX11_book, cX11_book, 4, some .int, 0, 0, 0, [], tb_X11_book),
  (yX11_told, cX11_told, 2, some .int, 0, 0, 0, [], tb_X11_told),
  (yX11_sentence, cX11_sentence, 3, some .int, 0, 0, 0, [], tb_X11_sentence),
  (yX11_said, cX11_said, 4, some .int, 0, 0, 0, [], tb_X11_said),
  (yX11_image, cX11_image, 3, some .boolean, 0, 0, 0, [], tb_X11_image),
  (yX11_restore, cX11_restore, 3, some .boolean, 0, 0, 0, [], tb_X11_restore),
  (yX11_count, cX11_count, 2, some .int, 0, 0, 0, [], tb_X11_count),
  (yL_town, cL_town, 5, some .int, 1, 6, 2, [(0, 10, 13, 13)], tb_L_town),
  (yL_due, cL_due, 5, some .int, 1, 6, 2, [(0, 10, 13, 13)], tb_L_due),
  (yL_train, cL_train, 5, some .int, 1, 6, 2, [(0, 10, 13, 13)], tb_L_train),
  (yL_shows, cL_shows, 5, some .int, 1, 6, 2, [(0, 10, 13, 13)], tb_L_shows),
  (yL_now, cL_now, 4, some .int, 1, 6, 2, [(0, 9, 12, 13)], tb_L_now),
  (yL_noonLong, cL_noonLong, 3, some .int, 1, 6, 2, [(0, 8, 11, 13)], tb_L_noonLong),
  (yL_oneNoon, cL_oneNoon, 3, some .int, 1, 6, 2, [(0, 8, 11, 13)], tb_L_oneNoon),
  (yL_evenAt, cL_evenAt, 4, some .int, 1, 6, 2, [(0, 9, 12, 13)], tb_L_evenAt),
  (yL_spare, cL_spare, 5, some .int, 1, 6, 2, [(0, 10, 13, 13)], tb_L_spare),
  (yL_votes, cL_votes, 5, some .int, 1, 6, 2, [(0, 10, 13, 13)], tb_L_votes),
  (yL_nearerAt, cL_nearerAt, 4, some .int, 1, 6, 2, [(0, 9, 12, 13)], tb_L_nearerAt)]
set_option maxRecDepth 100000 in
theorem me_X6_compares : ab_MEL[0]? = some (yX6_compares, cX6_compares, 3, some .boolean, 0, 0, 0, [], tb_X6_compares) := rfl
set_option maxRecDepth 100000 in
theorem me_X4_failAs : ab_MEL[1]? = some (yX4_failAs, cX4_failAs, 2, some .boolean, 0, 0, 0, [], tb_X4_failAs) := rfl
set_option maxRecDepth 100000 in
theorem me_X7_noonByDial : ab_MEL[2]? = some (yX7_noonByDial, cX7_noonByDial, 3, some .int, 0, 0, 0, [], tb_X7_noonByDial) := rfl
set_option maxRecDepth 100000 in
theorem me_X4_next : ab_MEL[3]? = some (yX4_next, cX4_next, 1, none, 0, 0, 0, [], tb_X4_next) := rfl
set_option maxRecDepth 100000 in
theorem me_X11_octet : ab_MEL[4]? = some (yX11_octet, cX11_octet, 2, some .int, 0, 0, 0, [], tb_X11_octet) := rfl
set_option maxRecDepth 100000 in
theorem me_X11_bad : ab_MEL[5]? = some (yX11_bad, cX11_bad, 2, some .boolean, 0, 0, 0, [], tb_X11_bad) := rfl
set_option maxRecDepth 100000 in
theorem me_X7_isShaded : ab_MEL[6]? = some (yX7_isShaded, cX7_isShaded, 2, some .boolean, 0, 0, 0, [], tb_X7_isShaded) := rfl
set_option maxRecDepth 100000 in
theorem me_X6_readPlain : ab_MEL[7]? = some (yX6_readPlain, cX6_readPlain, 5, some .boolean, 0, 0, 0, [], tb_X6_readPlain) := rfl
set_option maxRecDepth 100000 in
theorem me_X7_inBreach : ab_MEL[8]? = some (yX7_inBreach, cX7_inBreach, 4, some .boolean, 0, 0, 0, [], tb_X7_inBreach) := rfl
set_option maxRecDepth 100000 in
theorem me_X6_addStep : ab_MEL[9]? = some (yX6_addStep, cX6_addStep, 4, none, 0, 0, 0, [], tb_X6_addStep) := rfl
set_option maxRecDepth 100000 in
theorem me_X11_peek : ab_MEL[10]? = some (yX11_peek, cX11_peek, 1, some .int, 0, 0, 0, [], tb_X11_peek) := rfl
set_option maxRecDepth 100000 in
theorem me_X11_isLeaf : ab_MEL[11]? = some (yX11_isLeaf, cX11_isLeaf, 6, some .boolean, 0, 0, 0, [], tb_X11_isLeaf) := rfl
set_option maxRecDepth 100000 in
theorem me_X6_readOne : ab_MEL[12]? = some (yX6_readOne, cX6_readOne, 6, some .boolean, 0, 0, 0, [], tb_X6_readOne) := rfl
set_option maxRecDepth 100000 in
theorem me_X11_next : ab_MEL[13]? = some (yX11_next, cX11_next, 4, none, 0, 0, 0, [], tb_X11_next) := rfl
set_option maxRecDepth 100000 in
theorem me_X11_does : ab_MEL[14]? = some (yX11_does, cX11_does, 5, some .int, 0, 0, 0, [], tb_X11_does) := rfl
set_option maxRecDepth 100000 in
theorem me_X11_isSmall : ab_MEL[15]? = some (yX11_isSmall, cX11_isSmall, 1, some .boolean, 0, 0, 0, [], tb_X11_isSmall) := rfl
set_option maxRecDepth 100000 in
theorem me_X7_copyFrom : ab_MEL[16]? = some (yX7_copyFrom, cX7_copyFrom, 2, none, 0, 0, 0, [], tb_X7_copyFrom) := rfl
set_option maxRecDepth 100000 in
theorem me_X11_lays : ab_MEL[17]? = some (yX11_lays, cX11_lays, 2, none, 0, 0, 0, [], tb_X11_lays) := rfl
set_option maxRecDepth 100000 in
theorem me_X11_isIn : ab_MEL[18]? = some (yX11_isIn, cX11_isIn, 3, some .boolean, 0, 0, 0, [], tb_X11_isIn) := rfl
set_option maxRecDepth 100000 in
theorem me_X11_isWord : ab_MEL[19]? = some (yX11_isWord, cX11_isWord, 3, some .boolean, 0, 0, 0, [], tb_X11_isWord) := rfl
set_option maxRecDepth 100000 in
theorem me_X11_isDigit : ab_MEL[20]? = some (yX11_isDigit, cX11_isDigit, 1, some .boolean, 0, 0, 0, [], tb_X11_isDigit) := rfl
set_option maxRecDepth 100000 in
theorem me_X11_bitOf : ab_MEL[21]? = some (yX11_bitOf, cX11_bitOf, 2, some .boolean, 0, 0, 0, [], tb_X11_bitOf) := rfl
set_option maxRecDepth 100000 in
theorem me_X11_noonOf : ab_MEL[22]? = some (yX11_noonOf, cX11_noonOf, 2, some .int, 0, 0, 0, [], tb_X11_noonOf) := rfl
set_option maxRecDepth 100000 in
theorem me_X7_leaves : ab_MEL[23]? = some (yX7_leaves, cX7_leaves, 3, some .int, 0, 0, 0, [], tb_X7_leaves) := rfl
set_option maxRecDepth 100000 in
theorem me_X6_beginsOne : ab_MEL[24]? = some (yX6_beginsOne, cX6_beginsOne, 1, some .boolean, 0, 0, 0, [], tb_X6_beginsOne) := rfl
set_option maxRecDepth 100000 in
theorem me_X6_readAll : ab_MEL[25]? = some (yX6_readAll, cX6_readAll, 5, some .boolean, 0, 0, 0, [], tb_X6_readAll) := rfl
set_option maxRecDepth 100000 in
theorem me_X4_readRun : ab_MEL[26]? = some (yX4_readRun, cX4_readRun, 7, none, 0, 0, 0, [], tb_X4_readRun) := rfl
set_option maxRecDepth 100000 in
theorem me_X4_toldWord : ab_MEL[27]? = some (yX4_toldWord, cX4_toldWord, 2, some .int, 0, 0, 0, [], tb_X4_toldWord) := rfl
set_option maxRecDepth 100000 in
theorem me_X4_takeSign : ab_MEL[28]? = some (yX4_takeSign, cX4_takeSign, 2, some .boolean, 0, 0, 0, [], tb_X4_takeSign) := rfl
set_option maxRecDepth 100000 in
theorem me_X4_takeNumber : ab_MEL[29]? = some (yX4_takeNumber, cX4_takeNumber, 3, some .boolean, 0, 0, 0, [], tb_X4_takeNumber) := rfl
set_option maxRecDepth 100000 in
theorem me_X11_spells : ab_MEL[30]? = some (yX11_spells, cX11_spells, 4, none, 0, 0, 0, [], tb_X11_spells) := rfl
set_option maxRecDepth 100000 in
theorem me_X11_says : ab_MEL[31]? = some (yX11_says, cX11_says, 3, none, 0, 0, 0, [], tb_X11_says) := rfl
set_option maxRecDepth 100000 in
theorem me_X8_limit : ab_MEL[32]? = some (yX8_limit, cX8_limit, 1, some .int, 0, 0, 0, [], tb_X8_limit) := rfl
set_option maxRecDepth 100000 in
theorem me_X11_isSign : ab_MEL[33]? = some (yX11_isSign, cX11_isSign, 2, some .boolean, 0, 0, 0, [], tb_X11_isSign) := rfl
set_option maxRecDepth 100000 in
theorem me_X11_sign : ab_MEL[34]? = some (yX11_sign, cX11_sign, 2, some .boolean, 0, 0, 0, [], tb_X11_sign) := rfl
set_option maxRecDepth 100000 in
theorem me_X11_leavesAt : ab_MEL[35]? = some (yX11_leavesAt, cX11_leavesAt, 2, some .int, 0, 0, 0, [], tb_X11_leavesAt) := rfl
set_option maxRecDepth 100000 in
theorem me_X7_comes : ab_MEL[36]? = some (yX7_comes, cX7_comes, 3, some .int, 0, 0, 0, [], tb_X7_comes) := rfl
set_option maxRecDepth 100000 in
theorem me_X11_absolute : ab_MEL[37]? = some (yX11_absolute, cX11_absolute, 1, some .int, 0, 0, 0, [], tb_X11_absolute) := rfl
set_option maxRecDepth 100000 in
theorem me_X6_readCond : ab_MEL[38]? = some (yX6_readCond, cX6_readCond, 5, some .boolean, 0, 0, 0, [], tb_X6_readCond) := rfl
set_option maxRecDepth 100000 in
theorem me_X8_change : ab_MEL[39]? = some (yX8_change, cX8_change, 1, some .int, 0, 0, 0, [], tb_X8_change) := rfl
set_option maxRecDepth 100000 in
theorem me_X11_throwsIf : ab_MEL[40]? = some (yX11_throwsIf, cX11_throwsIf, 2, some .boolean, 0, 0, 0, [], tb_X11_throwsIf) := rfl
set_option maxRecDepth 100000 in
theorem me_X5_search : ab_MEL[41]? = some (yX5_search, cX5_search, 8, none, 0, 0, 0, [], tb_X5_search) := rfl
set_option maxRecDepth 100000 in
theorem me_X5_takeIfBetter : ab_MEL[42]? = some (yX5_takeIfBetter, cX5_takeIfBetter, 3, none, 0, 0, 0, [], tb_X5_takeIfBetter) := rfl
set_option maxRecDepth 100000 in
theorem me_X11_isShaded : ab_MEL[43]? = some (yX11_isShaded, cX11_isShaded, 2, some .boolean, 0, 0, 0, [], tb_X11_isShaded) := rfl
set_option maxRecDepth 100000 in
theorem me_X11_isTown : ab_MEL[44]? = some (yX11_isTown, cX11_isTown, 2, some .boolean, 0, 0, 0, [], tb_X11_isTown) := rfl
set_option maxRecDepth 100000 in
theorem me_X11_takes : ab_MEL[45]? = some (yX11_takes, cX11_takes, 3, some .boolean, 0, 0, 0, [], tb_X11_takes) := rfl
set_option maxRecDepth 100000 in
theorem me_X4_isName : ab_MEL[46]? = some (yX4_isName, cX4_isName, 1, some .boolean, 0, 0, 0, [], tb_X4_isName) := rfl
set_option maxRecDepth 100000 in
theorem me_X8_townNamed : ab_MEL[47]? = some (yX8_townNamed, cX8_townNamed, 4, some .int, 0, 0, 0, [], tb_X8_townNamed) := rfl
set_option maxRecDepth 100000 in
theorem me_X8_dueOn : ab_MEL[48]? = some (yX8_dueOn, cX8_dueOn, 4, some .int, 0, 0, 0, [], tb_X8_dueOn) := rfl
set_option maxRecDepth 100000 in
theorem me_X11_once : ab_MEL[49]? = some (yX11_once, cX11_once, 5, some .boolean, 0, 0, 0, [], tb_X11_once) := rfl
set_option maxRecDepth 100000 in
theorem me_X4_takeTown : ab_MEL[50]? = some (yX4_takeTown, cX4_takeTown, 4, some .boolean, 0, 0, 0, [], tb_X4_takeTown) := rfl
set_option maxRecDepth 100000 in
theorem me_X4_isSign : ab_MEL[51]? = some (yX4_isSign, cX4_isSign, 1, some .boolean, 0, 0, 0, [], tb_X4_isSign) := rfl
set_option maxRecDepth 100000 in
theorem me_X7_wasBent : ab_MEL[52]? = some (yX7_wasBent, cX7_wasBent, 2, some .boolean, 0, 0, 0, [], tb_X7_wasBent) := rfl
set_option maxRecDepth 100000 in
theorem me_X11_comesAt : ab_MEL[53]? = some (yX11_comesAt, cX11_comesAt, 2, some .int, 0, 0, 0, [], tb_X11_comesAt) := rfl
set_option maxRecDepth 100000 in
theorem me_X11_back : ab_MEL[54]? = some (yX11_back, cX11_back, 2, none, 0, 0, 0, [], tb_X11_back) := rfl
set_option maxRecDepth 100000 in
theorem me_X11_mayTake : ab_MEL[55]? = some (yX11_mayTake, cX11_mayTake, 4, some .boolean, 0, 0, 0, [], tb_X11_mayTake) := rfl
set_option maxRecDepth 100000 in
theorem me_X7_whyNotBend : ab_MEL[56]? = some (yX7_whyNotBend, cX7_whyNotBend, 4, some .int, 0, 0, 0, [], tb_X7_whyNotBend) := rfl
set_option maxRecDepth 100000 in
theorem me_X7_bendBy : ab_MEL[57]? = some (yX7_bendBy, cX7_bendBy, 3, none, 0, 0, 0, [], tb_X7_bendBy) := rfl
set_option maxRecDepth 100000 in
theorem me_X11_puts : ab_MEL[58]? = some (yX11_puts, cX11_puts, 4, some .boolean, 0, 0, 0, [], tb_X11_puts) := rfl
set_option maxRecDepth 100000 in
theorem me_X6_copyFrom : ab_MEL[59]? = some (yX6_copyFrom, cX6_copyFrom, 2, none, 0, 0, 0, [], tb_X6_copyFrom) := rfl
set_option maxRecDepth 100000 in
theorem me_X6_plainHolds : ab_MEL[60]? = some (yX6_plainHolds, cX6_plainHolds, 6, some .boolean, 0, 0, 0, [], tb_X6_plainHolds) := rfl
set_option maxRecDepth 100000 in
theorem me_X7_breachBits : ab_MEL[61]? = some (yX7_breachBits, cX7_breachBits, 4, some .int, 0, 0, 0, [], tb_X7_breachBits) := rfl
set_option maxRecDepth 100000 in
theorem me_X3_put : ab_MEL[62]? = some (yX3_put, cX3_put, 3, none, 0, 0, 0, [], tb_X3_put) := rfl
set_option maxRecDepth 100000 in
theorem me_X3_put_ : ab_MEL[63]? = some (yX3_put_, cX3_put_, 2, none, 0, 0, 0, [], tb_X3_put_) := rfl
set_option maxRecDepth 100000 in
theorem me_X11_tries : ab_MEL[64]? = some (yX11_tries, cX11_tries, 2, none, 0, 0, 0, [], tb_X11_tries) := rfl
set_option maxRecDepth 100000 in
theorem me_X1_keep : ab_MEL[65]? = some (yX1_keep, cX1_keep, 4, none, 0, 0, 0, [], tb_X1_keep) := rfl
set_option maxRecDepth 100000 in
theorem me_X11_breachSet : ab_MEL[66]? = some (yX11_breachSet, cX11_breachSet, 3, some .int, 0, 0, 0, [], tb_X11_breachSet) := rfl
set_option maxRecDepth 100000 in
theorem me_X7_turnShade : ab_MEL[67]? = some (yX7_turnShade, cX7_turnShade, 2, none, 0, 0, 0, [], tb_X7_turnShade) := rfl
set_option maxRecDepth 100000 in
theorem me_X7_springBack : ab_MEL[68]? = some (yX7_springBack, cX7_springBack, 4, some .int, 0, 0, 0, [], tb_X7_springBack) := rfl
set_option maxRecDepth 100000 in
theorem me_X7_draw : ab_MEL[69]? = some (yX7_draw, cX7_draw, 2, some .int, 0, 0, 0, [], tb_X7_draw) := rfl
set_option maxRecDepth 100000 in
theorem me_X10_hasTown : ab_MEL[70]? = some (yX10_hasTown, cX10_hasTown, 2, some .boolean, 0, 0, 0, [], tb_X10_hasTown) := rfl
set_option maxRecDepth 100000 in
theorem me_X11_find : ab_MEL[71]? = some (yX11_find, cX11_find, 4, some .int, 0, 0, 0, [], tb_X11_find) := rfl
set_option maxRecDepth 100000 in
theorem me_X11_bends : ab_MEL[72]? = some (yX11_bends, cX11_bends, 3, none, 0, 0, 0, [], tb_X11_bends) := rfl
set_option maxRecDepth 100000 in
theorem me_X4_takeWay : ab_MEL[73]? = some (yX4_takeWay, cX4_takeWay, 1, some .boolean, 0, 0, 0, [], tb_X4_takeWay) := rfl
set_option maxRecDepth 100000 in
theorem me_X8_frost : ab_MEL[74]? = some (yX8_frost, cX8_frost, 1, some .int, 0, 0, 0, [], tb_X8_frost) := rfl
set_option maxRecDepth 100000 in
theorem me_X11_dueOf : ab_MEL[75]? = some (yX11_dueOf, cX11_dueOf, 4, some .int, 0, 0, 0, [], tb_X11_dueOf) := rfl
set_option maxRecDepth 100000 in
theorem me_X11_isName : ab_MEL[76]? = some (yX11_isName, cX11_isName, 3, some .boolean, 0, 0, 0, [], tb_X11_isName) := rfl
set_option maxRecDepth 100000 in
theorem me_X11_whyBend : ab_MEL[77]? = some (yX11_whyBend, cX11_whyBend, 3, some .int, 0, 0, 0, [], tb_X11_whyBend) := rfl
set_option maxRecDepth 100000 in
theorem me_X11_goesOn : ab_MEL[78]? = some (yX11_goesOn, cX11_goesOn, 4, some .int, 0, 0, 0, [], tb_X11_goesOn) := rfl
set_option maxRecDepth 100000 in
theorem me_X4_begin : ab_MEL[79]? = some (yX4_begin, cX4_begin, 2, none, 0, 0, 0, [], tb_X4_begin) := rfl
set_option maxRecDepth 100000 in
theorem me_X4_atEnd : ab_MEL[80]? = some (yX4_atEnd, cX4_atEnd, 1, some .boolean, 0, 0, 0, [], tb_X4_atEnd) := rfl
set_option maxRecDepth 100000 in
theorem me_X7_passDay : ab_MEL[81]? = some (yX7_passDay, cX7_passDay, 3, none, 0, 0, 0, [], tb_X7_passDay) := rfl
set_option maxRecDepth 100000 in
theorem me_X7_passDays : ab_MEL[82]? = some (yX7_passDays, cX7_passDays, 4, none, 0, 0, 0, [], tb_X7_passDays) := rfl
set_option maxRecDepth 100000 in
theorem me_X7_noonsUpTo : ab_MEL[83]? = some (yX7_noonsUpTo, cX7_noonsUpTo, 6, some .int, 0, 0, 0, [], tb_X7_noonsUpTo) := rfl
set_option maxRecDepth 100000 in
theorem me_X8_copyFrom : ab_MEL[84]? = some (yX8_copyFrom, cX8_copyFrom, 2, none, 0, 0, 0, [], tb_X8_copyFrom) := rfl
set_option maxRecDepth 100000 in
theorem me_X11_line : ab_MEL[85]? = some (yX11_line, cX11_line, 1, some .boolean, 0, 0, 0, [], tb_X11_line) := rfl
set_option maxRecDepth 100000 in
theorem me_X11_readTown : ab_MEL[86]? = some (yX11_readTown, cX11_readTown, 2, some .boolean, 0, 0, 0, [], tb_X11_readTown) := rfl
set_option maxRecDepth 100000 in
theorem me_X11_readTerm : ab_MEL[87]? = some (yX11_readTerm, cX11_readTerm, 2, some .boolean, 0, 0, 0, [], tb_X11_readTerm) := rfl
set_option maxRecDepth 100000 in
theorem me_X11_readTrain : ab_MEL[88]? = some (yX11_readTrain, cX11_readTrain, 2, some .boolean, 0, 0, 0, [], tb_X11_readTrain) := rfl
set_option maxRecDepth 100000 in
theorem me_X11_keep : ab_MEL[89]? = some (yX11_keep, cX11_keep, 2, none, 0, 0, 0, [], tb_X11_keep) := rfl
set_option maxRecDepth 100000 in
theorem me_J6_compare_7cf53 : ab_MEL[90]? = some (yJ6_compare_7cf53, cJ6_compare_7cf53, 2, some .int, 0, 0, 0, [], tb_J6_compare_7cf53) := rfl
set_option maxRecDepth 100000 in
theorem me_J6_signum_0f7a4 : ab_MEL[91]? = some (yJ6_signum_0f7a4, cJ6_signum_0f7a4, 1, some .int, 0, 0, 0, [], tb_J6_signum_0f7a4) := rfl
set_option maxRecDepth 100000 in
theorem me_X11_looksAt : ab_MEL[92]? = some (yX11_looksAt, cX11_looksAt, 3, some .boolean, 0, 0, 0, [], tb_X11_looksAt) := rfl
set_option maxRecDepth 100000 in
theorem me_X7_drawDays : ab_MEL[93]? = some (yX7_drawDays, cX7_drawDays, 6, none, 0, 0, 0, [], tb_X7_drawDays) := rfl
set_option maxRecDepth 100000 in
theorem me_X7_middleNoon : ab_MEL[94]? = some (yX7_middleNoon, cX7_middleNoon, 7, some .int, 0, 0, 0, [], tb_X7_middleNoon) := rfl
set_option maxRecDepth 100000 in
theorem me_X9_readSetting : ab_MEL[95]? = some (yX9_readSetting, cX9_readSetting, 4, some .boolean, 0, 0, 0, [], tb_X9_readSetting) := rfl
set_option maxRecDepth 100000 in
theorem me_X10_roomOf : ab_MEL[96]? = some (yX10_roomOf, cX10_roomOf, 3, some .int, 0, 0, 0, [], tb_X10_roomOf) := rfl
set_option maxRecDepth 100000 in
theorem me_X11_inBreach : ab_MEL[97]? = some (yX11_inBreach, cX11_inBreach, 2, some .boolean, 0, 0, 0, [], tb_X11_inBreach) := rfl
set_option maxRecDepth 100000 in
theorem me_X11_freezes : ab_MEL[98]? = some (yX11_freezes, cX11_freezes, 4, some .int, 0, 0, 0, [], tb_X11_freezes) := rfl
set_option maxRecDepth 100000 in
theorem me_X11_code : ab_MEL[99]? = some (yX11_code, cX11_code, 4, none, 0, 0, 0, [], tb_X11_code) := rfl
set_option maxRecDepth 100000 in
theorem me_X11_joins : ab_MEL[100]? = some (yX11_joins, cX11_joins, 2, none, 0, 0, 0, [], tb_X11_joins) := rfl
set_option maxRecDepth 100000 in
theorem me_X11_takesName : ab_MEL[101]? = some (yX11_takesName, cX11_takesName, 3, some .boolean, 0, 0, 0, [], tb_X11_takesName) := rfl
set_option maxRecDepth 100000 in
theorem me_X11_draw : ab_MEL[102]? = some (yX11_draw, cX11_draw, 2, some .int, 0, 0, 0, [], tb_X11_draw) := rfl
set_option maxRecDepth 100000 in
theorem me_J0_length_8abf5 : ab_MEL[103]? = some (yJ0_length_8abf5, cJ0_length_8abf5, 1, some .int, 0, 0, 0, [], tb_J0_length_8abf5) := rfl
set_option maxRecDepth 100000 in
theorem me_J0_charAt_5068e : ab_MEL[104]? = some (yJ0_charAt_5068e, cJ0_charAt_5068e, 2, some .char, 0, 0, 0, [], tb_J0_charAt_5068e) := rfl
set_option maxRecDepth 100000 in
theorem me_J0_coder_7d493 : ab_MEL[105]? = some (yJ0_coder_7d493, cJ0_coder_7d493, 1, some .byte, 0, 0, 0, [], tb_J0_coder_7d493) := rfl
set_option maxRecDepth 100000 in
theorem me_J0_isLatin1_aae02 : ab_MEL[106]? = some (yJ0_isLatin1_aae02, cJ0_isLatin1_aae02, 1, some .boolean, 0, 0, 0, [], tb_J0_isLatin1_aae02) := rfl
set_option maxRecDepth 100000 in
theorem me_J0_checkIndex_df160 : ab_MEL[107]? = some (yJ0_checkIndex_df160, cJ0_checkIndex_df160, 2, none, 0, 0, 0, [], tb_J0_checkIndex_df160) := rfl
set_option maxRecDepth 100000 in
theorem me_J1_charAt_3b067 : ab_MEL[108]? = some (yJ1_charAt_3b067, cJ1_charAt_3b067, 2, some .char, 0, 0, 0, [], tb_J1_charAt_3b067) := rfl
set_option maxRecDepth 100000 in
theorem me_J3_checkIndex_8e157 : ab_MEL[109]? = some (yJ3_checkIndex_8e157, cJ3_checkIndex_8e157, 3, some .int, 0, 0, 0, [], tb_J3_checkIndex_8e157) := rfl
set_option maxRecDepth 100000 in
theorem me_X0_read : ab_MEL[110]? = some (yX0_read, cX0_read, 3, some .boolean, 0, 0, 0, [], tb_X0_read) := rfl
set_option maxRecDepth 100000 in
theorem me_X0_isAct : ab_MEL[111]? = some (yX0_isAct, cX0_isAct, 1, some .boolean, 0, 0, 0, [], tb_X0_isAct) := rfl
set_option maxRecDepth 100000 in
theorem me_X0_readLine : ab_MEL[112]? = some (yX0_readLine, cX0_readLine, 4, some .boolean, 0, 0, 0, [], tb_X0_readLine) := rfl
set_option maxRecDepth 100000 in
theorem me_X0_judge : ab_MEL[113]? = some (yX0_judge, cX0_judge, 3, none, 0, 0, 0, [], tb_X0_judge) := rfl
set_option maxRecDepth 100000 in
theorem me_X0_liveDays : ab_MEL[114]? = some (yX0_liveDays, cX0_liveDays, 3, some .int, 0, 0, 0, [], tb_X0_liveDays) := rfl
set_option maxRecDepth 100000 in
theorem me_X3_write : ab_MEL[115]? = some (yX3_write, cX3_write, 7, none, 0, 0, 0, [], tb_X3_write) := rfl
set_option maxRecDepth 100000 in
theorem me_X4_takeNewName : ab_MEL[116]? = some (yX4_takeNewName, cX4_takeNewName, 2, some .boolean, 0, 0, 0, [], tb_X4_takeNewName) := rfl
set_option maxRecDepth 100000 in
theorem me_X6_read : ab_MEL[117]? = some (yX6_read, cX6_read, 3, some .boolean, 0, 0, 0, [], tb_X6_read) := rfl
set_option maxRecDepth 100000 in
theorem me_X6_holds : ab_MEL[118]? = some (yX6_holds, cX6_holds, 9, some .boolean, 0, 0, 0, [], tb_X6_holds) := rfl
set_option maxRecDepth 100000 in
theorem me_X7_beginIn : ab_MEL[119]? = some (yX7_beginIn, cX7_beginIn, 3, none, 0, 0, 0, [], tb_X7_beginIn) := rfl
set_option maxRecDepth 100000 in
theorem me_X7_actByDraw : ab_MEL[120]? = some (yX7_actByDraw, cX7_actByDraw, 5, none, 0, 0, 0, [], tb_X7_actByDraw) := rfl
set_option maxRecDepth 100000 in
theorem me_X9_readLine : ab_MEL[121]? = some (yX9_readLine, cX9_readLine, 3, some .boolean, 0, 0, 0, [], tb_X9_readLine) := rfl
set_option maxRecDepth 100000 in
theorem me_X10_hasTrain : ab_MEL[122]? = some (yX10_hasTrain, cX10_hasTrain, 2, some .boolean, 0, 0, 0, [], tb_X10_hasTrain) := rfl
set_option maxRecDepth 100000 in
theorem me_X11_taken : ab_MEL[123]? = some (yX11_taken, cX11_taken, 2, none, 0, 0, 0, [], tb_X11_taken) := rfl
set_option maxRecDepth 100000 in
theorem me_X11_lesser : ab_MEL[124]? = some (yX11_lesser, cX11_lesser, 2, some .int, 0, 0, 0, [], tb_X11_lesser) := rfl
set_option maxRecDepth 100000 in
theorem me_X11_greater : ab_MEL[125]? = some (yX11_greater, cX11_greater, 2, some .int, 0, 0, 0, [], tb_X11_greater) := rfl
set_option maxRecDepth 100000 in
theorem me_X11_takesWay : ab_MEL[126]? = some (yX11_takesWay, cX11_takesWay, 4, some .boolean, 0, 0, 0, [], tb_X11_takesWay) := rfl
set_option maxRecDepth 100000 in
theorem me_X11_hasDue : ab_MEL[127]? = some (yX11_hasDue, cX11_hasDue, 2, some .boolean, 0, 0, 0, [], tb_X11_hasDue) := rfl
set_option maxRecDepth 100000 in
theorem me_X11_sumOf : ab_MEL[128]? = some (yX11_sumOf, cX11_sumOf, 4, some .int, 0, 0, 0, [], tb_X11_sumOf) := rfl
set_option maxRecDepth 100000 in
theorem me_X11_draws : ab_MEL[129]? = some (yX11_draws, cX11_draws, 7, some .int, 0, 0, 0, [], tb_X11_draws) := rfl
set_option maxRecDepth 100000 in
theorem me_X10_hasDue : ab_MEL[130]? = some (yX10_hasDue, cX10_hasDue, 2, some .boolean, 0, 0, 0, [], tb_X10_hasDue) := rfl
set_option maxRecDepth 100000 in
theorem me_X10_added : ab_MEL[131]? = some (yX10_added, cX10_added, 4, some .int, 0, 0, 0, [], tb_X10_added) := rfl
set_option maxRecDepth 100000 in
theorem me_X11_isTrain : ab_MEL[132]? = some (yX11_isTrain, cX11_isTrain, 2, some .boolean, 0, 0, 0, [], tb_X11_isTrain) := rfl
set_option maxRecDepth 100000 in
theorem me_X11_sorts : ab_MEL[133]? = some (yX11_sorts, cX11_sorts, 5, some .int, 0, 0, 0, [], tb_X11_sorts) := rfl
set_option maxRecDepth 100000 in
theorem me_X11_roomOf : ab_MEL[134]? = some (yX11_roomOf, cX11_roomOf, 3, some .int, 0, 0, 0, [], tb_X11_roomOf) := rfl
set_option maxRecDepth 100000 in
theorem me_X0_live : ab_MEL[135]? = some (yX0_live, cX0_live, 4, some .int, 0, 0, 0, [], tb_X0_live) := rfl
set_option maxRecDepth 100000 in
theorem me_X0_liveBend : ab_MEL[136]? = some (yX0_liveBend, cX0_liveBend, 5, some .int, 0, 0, 0, [], tb_X0_liveBend) := rfl
set_option maxRecDepth 100000 in
theorem me_X0_liveShade : ab_MEL[137]? = some (yX0_liveShade, cX0_liveShade, 2, some .int, 0, 0, 0, [], tb_X0_liveShade) := rfl
set_option maxRecDepth 100000 in
theorem me_X0_liveClear : ab_MEL[138]? = some (yX0_liveClear, cX0_liveClear, 2, some .int, 0, 0, 0, [], tb_X0_liveClear) := rfl
set_option maxRecDepth 100000 in
theorem me_X3_putMinutes : ab_MEL[139]? = some (yX3_putMinutes, cX3_putMinutes, 2, none, 0, 0, 0, [], tb_X3_putMinutes) := rfl
set_option maxRecDepth 100000 in
theorem me_X7_bendToDues : ab_MEL[140]? = some (yX7_bendToDues, cX7_bendToDues, 5, none, 0, 0, 0, [], tb_X7_bendToDues) := rfl
set_option maxRecDepth 100000 in
theorem me_X7_comeNearer : ab_MEL[141]? = some (yX7_comeNearer, cX7_comeNearer, 6, some .boolean, 0, 0, 0, [], tb_X7_comeNearer) := rfl
set_option maxRecDepth 100000 in
theorem me_X8_makeEmpty : ab_MEL[142]? = some (yX8_makeEmpty, cX8_makeEmpty, 1, none, 0, 0, 0, [], tb_X8_makeEmpty) := rfl
set_option maxRecDepth 100000 in
theorem me_X8_isTold : ab_MEL[143]? = some (yX8_isTold, cX8_isTold, 4, some .boolean, 0, 0, 0, [], tb_X8_isTold) := rfl
set_option maxRecDepth 100000 in
theorem me_X9_readInto : ab_MEL[144]? = some (yX9_readInto, cX9_readInto, 4, some .int, 0, 0, 0, [], tb_X9_readInto) := rfl
set_option maxRecDepth 100000 in
theorem me_X9_readTown : ab_MEL[145]? = some (yX9_readTown, cX9_readTown, 4, some .boolean, 0, 0, 0, [], tb_X9_readTown) := rfl
set_option maxRecDepth 100000 in
theorem me_X9_readTerm : ab_MEL[146]? = some (yX9_readTerm, cX9_readTerm, 4, some .boolean, 0, 0, 0, [], tb_X9_readTerm) := rfl
set_option maxRecDepth 100000 in
theorem me_X9_readTrain : ab_MEL[147]? = some (yX9_readTrain, cX9_readTrain, 4, some .boolean, 0, 0, 0, [], tb_X9_readTrain) := rfl
set_option maxRecDepth 100000 in
theorem me_X10_bendsAdded : ab_MEL[148]? = some (yX10_bendsAdded, cX10_bendsAdded, 1, some .int, 0, 0, 0, [], tb_X10_bendsAdded) := rfl
set_option maxRecDepth 100000 in
theorem me_X11_fresh : ab_MEL[149]? = some (yX11_fresh, cX11_fresh, 2, some .boolean, 0, 0, 0, [], tb_X11_fresh) := rfl
set_option maxRecDepth 100000 in
theorem me_X11_nots : ab_MEL[150]? = some (yX11_nots, cX11_nots, 1, none, 0, 0, 0, [], tb_X11_nots) := rfl
set_option maxRecDepth 100000 in
theorem me_X1_takeBack : ab_MEL[151]? = some (yX1_takeBack, cX1_takeBack, 2, some .int, 0, 0, 0, [], tb_X1_takeBack) := rfl
set_option maxRecDepth 100000 in
theorem me_X10_minutesOff : ab_MEL[152]? = some (yX10_minutesOff, cX10_minutesOff, 3, some .int, 0, 0, 0, [], tb_X10_minutesOff) := rfl
set_option maxRecDepth 100000 in
theorem me_X11_clears : ab_MEL[153]? = some (yX11_clears, cX11_clears, 2, none, 0, 0, 0, [], tb_X11_clears) := rfl
set_option maxRecDepth 100000 in
theorem me_X11_movesToDues : ab_MEL[154]? = some (yX11_movesToDues, cX11_movesToDues, 3, none, 0, 0, 0, [], tb_X11_movesToDues) := rfl
set_option maxRecDepth 100000 in
theorem me_X11_comesNearer : ab_MEL[155]? = some (yX11_comesNearer, cX11_comesNearer, 4, some .boolean, 0, 0, 0, [], tb_X11_comesNearer) := rfl
set_option maxRecDepth 100000 in
theorem me_X11_bookLine : ab_MEL[156]? = some (yX11_bookLine, cX11_bookLine, 3, some .boolean, 0, 0, 0, [], tb_X11_bookLine) := rfl
set_option maxRecDepth 100000 in
theorem me_X11_leafOf : ab_MEL[157]? = some (yX11_leafOf, cX11_leafOf, 1, some .int, 0, 0, 0, [], tb_X11_leafOf) := rfl
set_option maxRecDepth 100000 in
theorem me_X11_operand : ab_MEL[158]? = some (yX11_operand, cX11_operand, 5, some .boolean, 0, 0, 0, [], tb_X11_operand) := rfl
set_option maxRecDepth 100000 in
theorem me_X11_behind : ab_MEL[159]? = some (yX11_behind, cX11_behind, 1, some .boolean, 0, 0, 0, [], tb_X11_behind) := rfl
set_option maxRecDepth 100000 in
theorem me_X11_isSaid : ab_MEL[160]? = some (yX11_isSaid, cX11_isSaid, 5, some .boolean, 0, 0, 0, [], tb_X11_isSaid) := rfl
set_option maxRecDepth 100000 in
theorem me_X0_init : ab_MEL[161]? = some (yX0_init, cX0_init, 1, none, 3, 120, 0, [], tb_X0_init) := rfl
set_option maxRecDepth 100000 in
theorem me_X1_init : ab_MEL[162]? = some (yX1_init, cX1_init, 2, none, 33, 232, 0, [], tb_X1_init) := rfl
set_option maxRecDepth 100000 in
theorem me_X2_init : ab_MEL[163]? = some (yX2_init, cX2_init, 1, none, 22, 281, 0, [], tb_X2_init) := rfl
set_option maxRecDepth 100000 in
theorem me_X3_init : ab_MEL[164]? = some (yX3_init, cX3_init, 1, none, 1, 40, 0, [], tb_X3_init) := rfl
set_option maxRecDepth 100000 in
theorem me_X4_init : ab_MEL[165]? = some (yX4_init, cX4_init, 3, none, 2, 962, 0, [], tb_X4_init) := rfl
set_option maxRecDepth 100000 in
theorem me_X4_put : ab_MEL[166]? = some (yX4_put, cX4_put, 3, none, 0, 0, 0, [], tb_X4_put) := rfl
set_option maxRecDepth 100000 in
theorem me_X5_init : ab_MEL[167]? = some (yX5_init, cX5_init, 1, none, 2, 16, 0, [], tb_X5_init) := rfl
set_option maxRecDepth 100000 in
theorem me_X5_find : ab_MEL[168]? = some (yX5_find, cX5_find, 6, some .int, 0, 0, 0, [], tb_X5_find) := rfl
set_option maxRecDepth 100000 in
theorem me_X6_init : ab_MEL[169]? = some (yX6_init, cX6_init, 1, none, 3, 120, 0, [], tb_X6_init) := rfl
set_option maxRecDepth 100000 in
theorem me_X7_init : ab_MEL[170]? = some (yX7_init, cX7_init, 1, none, 3, 21, 0, [], tb_X7_init) := rfl
set_option maxRecDepth 100000 in
theorem me_X8_init : ab_MEL[171]? = some (yX8_init, cX8_init, 1, none, 13, 112, 0, [], tb_X8_init) := rfl
set_option maxRecDepth 100000 in
theorem me_X9_init : ab_MEL[172]? = some (yX9_init, cX9_init, 1, none, 1, 3, 0, [], tb_X9_init) := rfl
set_option maxRecDepth 100000 in
theorem me_X10_init : ab_MEL[173]? = some (yX10_init, cX10_init, 1, none, 141, 2556, 0, [], tb_X10_init) := rfl
set_option maxRecDepth 100000 in
theorem me_X10_feed : ab_MEL[174]? = some (yX10_feed, cX10_feed, 6, some .int, 0, 0, 0, [], tb_X10_feed) := rfl
set_option maxRecDepth 100000 in
theorem me_X10_end : ab_MEL[175]? = some (yX10_end, cX10_end, 2, some .boolean, 0, 0, 0, [], tb_X10_end) := rfl
set_option maxRecDepth 100000 in
theorem me_X10_valley : ab_MEL[176]? = some (yX10_valley, cX10_valley, 3, some .int, 0, 0, 0, [], tb_X10_valley) := rfl
set_option maxRecDepth 100000 in
theorem me_X10_fault : ab_MEL[177]? = some (yX10_fault, cX10_fault, 1, some .int, 0, 0, 0, [], tb_X10_fault) := rfl
set_option maxRecDepth 100000 in
theorem me_X10_town : ab_MEL[178]? = some (yX10_town, cX10_town, 3, some .int, 1, 6, 1, [], tb_X10_town) := rfl
set_option maxRecDepth 100000 in
theorem me_X10_due : ab_MEL[179]? = some (yX10_due, cX10_due, 4, some .int, 1, 6, 1, [], tb_X10_due) := rfl
set_option maxRecDepth 100000 in
theorem me_X10_train : ab_MEL[180]? = some (yX10_train, cX10_train, 3, some .int, 1, 6, 1, [], tb_X10_train) := rfl
set_option maxRecDepth 100000 in
theorem me_X10_shows : ab_MEL[181]? = some (yX10_shows, cX10_shows, 3, some .int, 1, 6, 1, [], tb_X10_shows) := rfl
set_option maxRecDepth 100000 in
theorem me_X10_now : ab_MEL[182]? = some (yX10_now, cX10_now, 2, some .int, 1, 6, 1, [], tb_X10_now) := rfl
set_option maxRecDepth 100000 in
theorem me_X10_bend : ab_MEL[183]? = some (yX10_bend, cX10_bend, 4, some .int, 0, 0, 0, [], tb_X10_bend) := rfl
set_option maxRecDepth 100000 in
theorem me_X10_shade : ab_MEL[184]? = some (yX10_shade, cX10_shade, 2, some .int, 0, 0, 0, [], tb_X10_shade) := rfl
set_option maxRecDepth 100000 in
theorem me_X10_clear : ab_MEL[185]? = some (yX10_clear, cX10_clear, 2, some .int, 0, 0, 0, [], tb_X10_clear) := rfl
set_option maxRecDepth 100000 in
theorem me_X10_freeze : ab_MEL[186]? = some (yX10_freeze, cX10_freeze, 1, some .int, 0, 0, 0, [], tb_X10_freeze) := rfl
set_option maxRecDepth 100000 in
theorem me_X10_days : ab_MEL[187]? = some (yX10_days, cX10_days, 3, some .int, 0, 0, 0, [], tb_X10_days) := rfl
set_option maxRecDepth 100000 in
theorem me_X10_undo : ab_MEL[188]? = some (yX10_undo, cX10_undo, 1, some .int, 0, 0, 0, [], tb_X10_undo) := rfl
set_option maxRecDepth 100000 in
theorem me_X10_noonLong : ab_MEL[189]? = some (yX10_noonLong, cX10_noonLong, 4, some .int, 1, 6, 1, [], tb_X10_noonLong) := rfl
set_option maxRecDepth 100000 in
theorem me_X10_oneNoon : ab_MEL[190]? = some (yX10_oneNoon, cX10_oneNoon, 2, some .int, 1, 6, 1, [], tb_X10_oneNoon) := rfl
set_option maxRecDepth 100000 in
theorem me_X10_even : ab_MEL[191]? = some (yX10_even, cX10_even, 8, some .int, 0, 0, 0, [], tb_X10_even) := rfl
set_option maxRecDepth 100000 in
theorem me_X10_evenAt : ab_MEL[192]? = some (yX10_evenAt, cX10_evenAt, 2, some .int, 1, 6, 1, [], tb_X10_evenAt) := rfl
set_option maxRecDepth 100000 in
theorem me_X10_kept : ab_MEL[193]? = some (yX10_kept, cX10_kept, 2, some .int, 0, 0, 0, [], tb_X10_kept) := rfl
set_option maxRecDepth 100000 in
theorem me_X10_worst : ab_MEL[194]? = some (yX10_worst, cX10_worst, 6, some .int, 0, 0, 0, [], tb_X10_worst) := rfl
set_option maxRecDepth 100000 in
theorem me_X10_spare : ab_MEL[195]? = some (yX10_spare, cX10_spare, 3, some .int, 1, 6, 1, [], tb_X10_spare) := rfl
set_option maxRecDepth 100000 in
theorem me_X10_route : ab_MEL[196]? = some (yX10_route, cX10_route, 4, some .int, 0, 0, 0, [], tb_X10_route) := rfl
set_option maxRecDepth 100000 in
theorem me_X10_routeAt : ab_MEL[197]? = some (yX10_routeAt, cX10_routeAt, 2, some .int, 0, 0, 0, [], tb_X10_routeAt) := rfl
set_option maxRecDepth 100000 in
theorem me_X10_shadows : ab_MEL[198]? = some (yX10_shadows, cX10_shadows, 5, some .int, 0, 0, 0, [], tb_X10_shadows) := rfl
set_option maxRecDepth 100000 in
theorem me_X10_votes : ab_MEL[199]? = some (yX10_votes, cX10_votes, 7, some .int, 1, 6, 1, [], tb_X10_votes) := rfl
set_option maxRecDepth 100000 in
theorem me_X10_nearer : ab_MEL[200]? = some (yX10_nearer, cX10_nearer, 4, some .int, 0, 0, 0, [], tb_X10_nearer) := rfl
set_option maxRecDepth 100000 in
theorem me_X10_nearerAt : ab_MEL[201]? = some (yX10_nearerAt, cX10_nearerAt, 2, some .int, 1, 6, 1, [], tb_X10_nearerAt) := rfl
set_option maxRecDepth 100000 in
theorem me_X10_right : ab_MEL[202]? = some (yX10_right, cX10_right, 6, some .int, 0, 0, 0, [], tb_X10_right) := rfl
set_option maxRecDepth 100000 in
theorem me_X10_turns : ab_MEL[203]? = some (yX10_turns, cX10_turns, 4, some .int, 0, 0, 0, [], tb_X10_turns) := rfl
set_option maxRecDepth 100000 in
theorem me_X10_motto : ab_MEL[204]? = some (yX10_motto, cX10_motto, 2, some .int, 0, 0, 0, [], tb_X10_motto) := rfl
set_option maxRecDepth 100000 in
theorem me_X10_byteAt : ab_MEL[205]? = some (yX10_byteAt, cX10_byteAt, 2, some .int, 0, 0, 0, [], tb_X10_byteAt) := rfl
set_option maxRecDepth 100000 in
theorem me_X10_drawn : ab_MEL[206]? = some (yX10_drawn, cX10_drawn, 4, some .int, 0, 0, 0, [], tb_X10_drawn) := rfl
set_option maxRecDepth 100000 in
theorem me_X10_odds : ab_MEL[207]? = some (yX10_odds, cX10_odds, 6, some .int, 0, 0, 0, [], tb_X10_odds) := rfl
set_option maxRecDepth 100000 in
theorem me_X10_book : ab_MEL[208]? = some (yX10_book, cX10_book, 3, some .int, 0, 0, 0, [], tb_X10_book) := rfl
set_option maxRecDepth 100000 in
theorem me_X10_told : ab_MEL[209]? = some (yX10_told, cX10_told, 2, some .int, 0, 0, 0, [], tb_X10_told) := rfl
set_option maxRecDepth 100000 in
theorem me_X10_sentence : ab_MEL[210]? = some (yX10_sentence, cX10_sentence, 3, some .int, 0, 0, 0, [], tb_X10_sentence) := rfl
set_option maxRecDepth 100000 in
theorem me_X10_said : ab_MEL[211]? = some (yX10_said, cX10_said, 4, some .int, 0, 0, 0, [], tb_X10_said) := rfl
set_option maxRecDepth 100000 in
theorem me_X10_image : ab_MEL[212]? = some (yX10_image, cX10_image, 3, some .boolean, 0, 0, 0, [], tb_X10_image) := rfl
set_option maxRecDepth 100000 in
theorem me_X10_restore : ab_MEL[213]? = some (yX10_restore, cX10_restore, 3, some .boolean, 0, 0, 0, [], tb_X10_restore) := rfl
set_option maxRecDepth 100000 in
theorem me_X10_count : ab_MEL[214]? = some (yX10_count, cX10_count, 2, some .int, 0, 0, 0, [], tb_X10_count) := rfl
set_option maxRecDepth 100000 in
theorem me_X11_feed : ab_MEL[215]? = some (yX11_feed, cX11_feed, 6, some .int, 0, 0, 0, [], tb_X11_feed) := rfl
set_option maxRecDepth 100000 in
theorem me_X11_four : ab_MEL[216]? = some (yX11_four, cX11_four, 3, none, 0, 0, 0, [], tb_X11_four) := rfl
set_option maxRecDepth 100000 in
theorem me_X11_end : ab_MEL[217]? = some (yX11_end, cX11_end, 2, some .boolean, 0, 0, 0, [], tb_X11_end) := rfl
set_option maxRecDepth 100000 in
theorem me_X11_init : ab_MEL[218]? = some (yX11_init, cX11_init, 2, none, 23, 2596, 0, [], tb_X11_init) := rfl
set_option maxRecDepth 100000 in
theorem me_X11_valley : ab_MEL[219]? = some (yX11_valley, cX11_valley, 2, some .int, 0, 0, 0, [], tb_X11_valley) := rfl
set_option maxRecDepth 100000 in
theorem me_X11_fault : ab_MEL[220]? = some (yX11_fault, cX11_fault, 1, some .int, 0, 0, 0, [], tb_X11_fault) := rfl
set_option maxRecDepth 100000 in
theorem me_X11_town : ab_MEL[221]? = some (yX11_town, cX11_town, 3, some .int, 0, 0, 0, [], tb_X11_town) := rfl
set_option maxRecDepth 100000 in
theorem me_X11_due : ab_MEL[222]? = some (yX11_due, cX11_due, 3, some .int, 0, 0, 0, [], tb_X11_due) := rfl
set_option maxRecDepth 100000 in
theorem me_X11_train : ab_MEL[223]? = some (yX11_train, cX11_train, 3, some .int, 0, 0, 0, [], tb_X11_train) := rfl
set_option maxRecDepth 100000 in
theorem me_X11_shows : ab_MEL[224]? = some (yX11_shows, cX11_shows, 3, some .int, 0, 0, 0, [], tb_X11_shows) := rfl
set_option maxRecDepth 100000 in
theorem me_X11_now : ab_MEL[225]? = some (yX11_now, cX11_now, 4, some .int, 0, 0, 0, [], tb_X11_now) := rfl
set_option maxRecDepth 100000 in
theorem me_X11_bend : ab_MEL[226]? = some (yX11_bend, cX11_bend, 4, some .int, 0, 0, 0, [], tb_X11_bend) := rfl
set_option maxRecDepth 100000 in
theorem me_X11_shade : ab_MEL[227]? = some (yX11_shade, cX11_shade, 2, some .int, 0, 0, 0, [], tb_X11_shade) := rfl
set_option maxRecDepth 100000 in
theorem me_X11_clear : ab_MEL[228]? = some (yX11_clear, cX11_clear, 2, some .int, 0, 0, 0, [], tb_X11_clear) := rfl
set_option maxRecDepth 100000 in
theorem me_X11_freeze : ab_MEL[229]? = some (yX11_freeze, cX11_freeze, 1, some .int, 0, 0, 0, [], tb_X11_freeze) := rfl
set_option maxRecDepth 100000 in
theorem me_X11_days : ab_MEL[230]? = some (yX11_days, cX11_days, 2, some .int, 0, 0, 0, [], tb_X11_days) := rfl
set_option maxRecDepth 100000 in
theorem me_X11_undo : ab_MEL[231]? = some (yX11_undo, cX11_undo, 2, some .int, 0, 0, 0, [], tb_X11_undo) := rfl
set_option maxRecDepth 100000 in
theorem me_X11_noonLong : ab_MEL[232]? = some (yX11_noonLong, cX11_noonLong, 2, some .int, 0, 0, 0, [], tb_X11_noonLong) := rfl
set_option maxRecDepth 100000 in
theorem me_X11_oneNoon : ab_MEL[233]? = some (yX11_oneNoon, cX11_oneNoon, 2, some .int, 0, 0, 0, [], tb_X11_oneNoon) := rfl
set_option maxRecDepth 100000 in
theorem me_X11_even : ab_MEL[234]? = some (yX11_even, cX11_even, 7, some .int, 0, 0, 0, [], tb_X11_even) := rfl
set_option maxRecDepth 100000 in
theorem me_X11_evenAt : ab_MEL[235]? = some (yX11_evenAt, cX11_evenAt, 2, some .int, 0, 0, 0, [], tb_X11_evenAt) := rfl
set_option maxRecDepth 100000 in
theorem me_X11_kept : ab_MEL[236]? = some (yX11_kept, cX11_kept, 3, some .int, 0, 0, 0, [], tb_X11_kept) := rfl
set_option maxRecDepth 100000 in
theorem me_X11_worst : ab_MEL[237]? = some (yX11_worst, cX11_worst, 6, some .int, 0, 0, 0, [], tb_X11_worst) := rfl
set_option maxRecDepth 100000 in
theorem me_X11_spare : ab_MEL[238]? = some (yX11_spare, cX11_spare, 3, some .int, 0, 0, 0, [], tb_X11_spare) := rfl
set_option maxRecDepth 100000 in
theorem me_X11_route : ab_MEL[239]? = some (yX11_route, cX11_route, 11, some .int, 0, 0, 0, [], tb_X11_route) := rfl
set_option maxRecDepth 100000 in
theorem me_X11_routeAt : ab_MEL[240]? = some (yX11_routeAt, cX11_routeAt, 2, some .int, 0, 0, 0, [], tb_X11_routeAt) := rfl
set_option maxRecDepth 100000 in
theorem me_X11_shadows : ab_MEL[241]? = some (yX11_shadows, cX11_shadows, 2, some .int, 0, 0, 0, [], tb_X11_shadows) := rfl
set_option maxRecDepth 100000 in
theorem me_X11_votes : ab_MEL[242]? = some (yX11_votes, cX11_votes, 7, some .int, 0, 0, 0, [], tb_X11_votes) := rfl
set_option maxRecDepth 100000 in
theorem me_X11_nearer : ab_MEL[243]? = some (yX11_nearer, cX11_nearer, 4, some .int, 0, 0, 0, [], tb_X11_nearer) := rfl
set_option maxRecDepth 100000 in
theorem me_X11_nearerAt : ab_MEL[244]? = some (yX11_nearerAt, cX11_nearerAt, 2, some .int, 0, 0, 0, [], tb_X11_nearerAt) := rfl
set_option maxRecDepth 100000 in
theorem me_X11_right : ab_MEL[245]? = some (yX11_right, cX11_right, 5, some .int, 0, 0, 0, [], tb_X11_right) := rfl
set_option maxRecDepth 100000 in
theorem me_X11_turns : ab_MEL[246]? = some (yX11_turns, cX11_turns, 3, some .int, 0, 0, 0, [], tb_X11_turns) := rfl
set_option maxRecDepth 100000 in
theorem me_X11_motto : ab_MEL[247]? = some (yX11_motto, cX11_motto, 3, some .int, 0, 0, 0, [], tb_X11_motto) := rfl
set_option maxRecDepth 100000 in
theorem me_X11_byteAt : ab_MEL[248]? = some (yX11_byteAt, cX11_byteAt, 2, some .int, 0, 0, 0, [], tb_X11_byteAt) := rfl
set_option maxRecDepth 100000 in
theorem me_X11_drawn : ab_MEL[249]? = some (yX11_drawn, cX11_drawn, 3, some .int, 0, 0, 0, [], tb_X11_drawn) := rfl
set_option maxRecDepth 100000 in
theorem me_X11_odds : ab_MEL[250]? = some (yX11_odds, cX11_odds, 6, some .int, 0, 0, 0, [], tb_X11_odds) := rfl
set_option maxRecDepth 100000 in
theorem me_X11_book : ab_MEL[251]? = some (yX11_book, cX11_book, 4, some .int, 0, 0, 0, [], tb_X11_book) := rfl
set_option maxRecDepth 100000 in
theorem me_X11_told : ab_MEL[252]? = some (yX11_told, cX11_told, 2, some .int, 0, 0, 0, [], tb_X11_told) := rfl
set_option maxRecDepth 100000 in
theorem me_X11_sentence : ab_MEL[253]? = some (yX11_sentence, cX11_sentence, 3, some .int, 0, 0, 0, [], tb_X11_sentence) := rfl
set_option maxRecDepth 100000 in
theorem me_X11_said : ab_MEL[254]? = some (yX11_said, cX11_said, 4, some .int, 0, 0, 0, [], tb_X11_said) := rfl
set_option maxRecDepth 100000 in
theorem me_X11_image : ab_MEL[255]? = some (yX11_image, cX11_image, 3, some .boolean, 0, 0, 0, [], tb_X11_image) := rfl
set_option maxRecDepth 100000 in
theorem me_X11_restore : ab_MEL[256]? = some (yX11_restore, cX11_restore, 3, some .boolean, 0, 0, 0, [], tb_X11_restore) := rfl
set_option maxRecDepth 100000 in
theorem me_X11_count : ab_MEL[257]? = some (yX11_count, cX11_count, 2, some .int, 0, 0, 0, [], tb_X11_count) := rfl
set_option maxRecDepth 100000 in
theorem me_L_town : ab_MEL[258]? = some (yL_town, cL_town, 5, some .int, 1, 6, 2, [(0, 10, 13, 13)], tb_L_town) := rfl
set_option maxRecDepth 100000 in
theorem me_L_due : ab_MEL[259]? = some (yL_due, cL_due, 5, some .int, 1, 6, 2, [(0, 10, 13, 13)], tb_L_due) := rfl
set_option maxRecDepth 100000 in
theorem me_L_train : ab_MEL[260]? = some (yL_train, cL_train, 5, some .int, 1, 6, 2, [(0, 10, 13, 13)], tb_L_train) := rfl
set_option maxRecDepth 100000 in
theorem me_L_shows : ab_MEL[261]? = some (yL_shows, cL_shows, 5, some .int, 1, 6, 2, [(0, 10, 13, 13)], tb_L_shows) := rfl
set_option maxRecDepth 100000 in
theorem me_L_now : ab_MEL[262]? = some (yL_now, cL_now, 4, some .int, 1, 6, 2, [(0, 9, 12, 13)], tb_L_now) := rfl
set_option maxRecDepth 100000 in
theorem me_L_noonLong : ab_MEL[263]? = some (yL_noonLong, cL_noonLong, 3, some .int, 1, 6, 2, [(0, 8, 11, 13)], tb_L_noonLong) := rfl
set_option maxRecDepth 100000 in
theorem me_L_oneNoon : ab_MEL[264]? = some (yL_oneNoon, cL_oneNoon, 3, some .int, 1, 6, 2, [(0, 8, 11, 13)], tb_L_oneNoon) := rfl
set_option maxRecDepth 100000 in
theorem me_L_evenAt : ab_MEL[265]? = some (yL_evenAt, cL_evenAt, 4, some .int, 1, 6, 2, [(0, 9, 12, 13)], tb_L_evenAt) := rfl
set_option maxRecDepth 100000 in
theorem me_L_spare : ab_MEL[266]? = some (yL_spare, cL_spare, 5, some .int, 1, 6, 2, [(0, 10, 13, 13)], tb_L_spare) := rfl
set_option maxRecDepth 100000 in
theorem me_L_votes : ab_MEL[267]? = some (yL_votes, cL_votes, 5, some .int, 1, 6, 2, [(0, 10, 13, 13)], tb_L_votes) := rfl
set_option maxRecDepth 100000 in
theorem me_L_nearerAt : ab_MEL[268]? = some (yL_nearerAt, cL_nearerAt, 4, some .int, 1, 6, 2, [(0, 9, 12, 13)], tb_L_nearerAt) := rfl
section
variable {p : Program} {l : Launch} {e : Env} {R : Room} {s : State} {m : MethodId} {args : Array Value} {below : List Frame} {meth : Method} {c : Code} {Q : State → Prop} {cc : ByteArray} {nL : Nat} {X : ab_X} {D : va_G} {z0 : ab_Z0} {cal : ab_K} {th : Nat → Prop} {pc : Nat} {f : ab_P} {t : List (Nat × Nat × ab_P)} {b : List (Nat × Nat × ab_P)} {bs : ab_tab}
theorem tcn : ∀ q ∈ ([] : List (Nat × Nat × ab_P)), ab_tv p l e R s m args below meth c Q cc nL X D z0 cal th q := fun _ h => nomatch h
theorem tc0 (h : ab_so p l e R s m args below meth c Q nL X D z0 cal pc f) (k : ∀ q ∈ t, ab_tv p l e R s m args below meth c Q cc nL X D z0 cal th q) : ∀ q ∈ (pc, 0, f) :: t, ab_tv p l e R s m args below meth c Q cc nL X D z0 cal th q := fun q hq => (List.mem_cons.mp hq).elim (fun e => e ▸ h) (k q)
theorem tc1 (h : decode cc pc = .ok (.ireturn, 1)) (k : ∀ q ∈ t, ab_tv p l e R s m args below meth c Q cc nL X D z0 cal th q) : ∀ q ∈ (pc, 1, f) :: t, ab_tv p l e R s m args below meth c Q cc nL X D z0 cal th q := fun q hq => (List.mem_cons.mp hq).elim (fun e => e ▸ h) (k q)
theorem tc2 (h : decode cc pc = .ok (.return_, 1)) (k : ∀ q ∈ t, ab_tv p l e R s m args below meth c Q cc nL X D z0 cal th q) : ∀ q ∈ (pc, 2, f) :: t, ab_tv p l e R s m args below meth c Q cc nL X D z0 cal th q := fun q hq => (List.mem_cons.mp hq).elim (fun e => e ▸ h) (k q)
theorem tc3 (h : th pc) (k : ∀ q ∈ t, ab_tv p l e R s m args below meth c Q cc nL X D z0 cal th q) : ∀ q ∈ (pc, 3, f) :: t, ab_tv p l e R s m args below meth c Q cc nL X D z0 cal th q := fun q hq => (List.mem_cons.mp hq).elim (fun e => e ▸ h) (k q)
theorem tc4 (h : ab_so p l e R s m args below meth c Q nL X D z0 cal pc f) (k : ∀ q ∈ t, ab_tv p l e R s m args below meth c Q cc nL X D z0 cal th q) : ∀ q ∈ (pc, 4, f) :: t, ab_tv p l e R s m args below meth c Q cc nL X D z0 cal th q := fun q hq => (List.mem_cons.mp hq).elim (fun e => e ▸ h) (k q)
theorem bn : ∀ b ∈ ([] : ab_tab), ∀ q ∈ b, ab_tv p l e R s m args below meth c Q cc nL X D z0 cal th q := fun _ h => nomatch h
theorem bc (h : ∀ q ∈ b, ab_tv p l e R s m args below meth c Q cc nL X D z0 cal th q) (k : ∀ b ∈ bs, ∀ q ∈ b, ab_tv p l e R s m args below meth c Q cc nL X D z0 cal th q) : ∀ b' ∈ b :: bs, ∀ q ∈ b', ab_tv p l e R s m args below meth c Q cc nL X D z0 cal th q := fun b' hb => (List.mem_cons.mp hb).elim (fun e => e ▸ h) (k b')
end
noncomputable def tb_LA (A B : Nat) : ab_tab := [[(0, 0, op_new 10 17 fs_X10 A B 3), (3, 0, op_dup 4), (4, 0, op_call 12 173 1 141 2556 A B 7), (7, 0, op_as 1 8), (8, 0, op_new 11 51 fs_X11 A B 11), (11, 0, op_dup 12), (12, 0, op_call 13 218 1 23 2596 A B 15), (15, 0, op_as 2 16)],
  [(16, 0, op_push (.inl (none, 1)) 17), (17, 0, op_na 1 (.inr (.inl (.inl (none, 0)))) A B 19), (19, 0, op_as 3 20), (20, 0, op_push (.inl (none, 0)) 21), (21, 0, op_is 4 23), (23, 4, op_il 4 25)]]
noncomputable def tb_LB (A B : Nat) : ab_tab := [[],
  [(23, 4, op_il 4 25)],
  [(33, 0, op_al 0 34), (34, 0, op_il 4 36), (36, 0, op_sldW 3 37), (37, 0, op_push (.inl (none, 63)) 39), (39, 0, op_b2 (ab_an8K) 40), (40, 0, op_tsw 0 40 [220, 293, 318, 331, 344, 384, 424, 464, 504, 532, 569, 594, 619, 632, 657, 670, 686, 702, 715, 743, 756, 781, 821, 870, 895, 908, 948, 961, 989, 1026, 1051, 1076, 1101, 1138, 1187, 1212, 1237, 1250, 1275, 1300, 1325] 1350)],
  [],
  [],
  [],
  [],
  [],
  [],
  [],
  [],
  [],
  [],
  [(220, 0, op_al 1 221), (221, 0, op_al 0 222), (222, 0, op_il 4 224)],
  [(224, 0, op_push (.inl (none, 1)) 225), (225, 0, op_b2 (ab_add2K) 226), (226, 0, op_sldW 3 227), (227, 0, op_al 0 228), (228, 0, op_il 4 230), (230, 0, op_push (.inl (none, 2)) 231), (231, 0, op_b2 (ab_add2K) 232), (232, 0, op_sldW 3 233), (233, 0, op_al 0 234), (234, 0, op_il 4 236), (236, 0, op_push (.inl (none, 3)) 237), (237, 0, op_b2 (ab_add2K) 238), (238, 0, op_sldW 3 239), (239, 0, op_al 0 240)],
  [(240, 0, op_il 4 242), (242, 0, op_push (.inl (none, 4)) 243), (243, 0, op_b2 (ab_add2K) 244), (244, 0, op_sldW 3 245), (245, 0, op_al 0 246), (246, 0, op_il 4 248), (248, 0, op_push (.inl (none, 5)) 249), (249, 0, op_b2 (ab_add2K) 250), (250, 0, op_sldW 3 251), (251, 0, op_call 12 174 6 0 0 A B 254), (254, 0, op_pop 255), (255, 0, op_al 2 256)],
  [(256, 0, op_al 0 257), (257, 0, op_il 4 259), (259, 0, op_push (.inl (none, 1)) 260), (260, 0, op_b2 (ab_add2K) 261), (261, 0, op_sldW 3 262), (262, 0, op_al 0 263), (263, 0, op_il 4 265), (265, 0, op_push (.inl (none, 2)) 266), (266, 0, op_b2 (ab_add2K) 267), (267, 0, op_sldW 3 268), (268, 0, op_al 0 269), (269, 0, op_il 4 271), (271, 0, op_push (.inl (none, 3)) 272)],
  [(272, 0, op_b2 (ab_add2K) 273), (273, 0, op_sldW 3 274), (274, 0, op_al 0 275), (275, 0, op_il 4 277), (277, 0, op_push (.inl (none, 4)) 278), (278, 0, op_b2 (ab_add2K) 279), (279, 0, op_sldW 3 280), (280, 0, op_al 0 281), (281, 0, op_il 4 283), (283, 0, op_push (.inl (none, 5)) 284), (284, 0, op_b2 (ab_add2K) 285), (285, 0, op_sldW 3 286), (286, 0, op_call 13 215 6 0 0 A B 289)],
  [(289, 0, op_pop 290), (290, 0, op_goto 1350), (293, 0, op_al 1 294), (294, 0, op_al 0 295), (295, 0, op_il 4 297), (297, 0, op_push (.inl (none, 1)) 298), (298, 0, op_b2 (ab_add2K) 299), (299, 0, op_sldW 3 300), (300, 0, op_call 12 175 2 0 0 A B 303), (303, 0, op_pop 304)],
  [(304, 0, op_al 2 305), (305, 0, op_al 0 306), (306, 0, op_il 4 308), (308, 0, op_push (.inl (none, 1)) 309), (309, 0, op_b2 (ab_add2K) 310), (310, 0, op_sldW 3 311), (311, 0, op_call 13 217 2 0 0 A B 314), (314, 0, op_pop 315), (315, 0, op_goto 1350), (318, 0, op_al 1 319), (319, 0, op_call 12 176 1 0 0 A B 322)],
  [(322, 0, op_pop 323), (323, 0, op_al 2 324), (324, 0, op_call 13 219 1 0 0 A B 327), (327, 0, op_pop 328), (328, 0, op_goto 1350), (331, 0, op_al 1 332), (332, 0, op_call 12 177 1 0 0 A B 335), (335, 0, op_al 2 336)],
  [(336, 0, op_call 13 220 1 0 0 A B 339), (339, 0, op_icmp 0 1350 342), (344, 0, op_al 1 345), (345, 0, op_al 0 346), (346, 0, op_il 4 348), (348, 0, op_push (.inl (none, 1)) 349), (349, 0, op_b2 (ab_add2K) 350), (350, 0, op_sldW 3 351), (351, 0, op_al 0 352)],
  [(352, 0, op_il 4 354), (354, 0, op_push (.inl (none, 2)) 355), (355, 0, op_b2 (ab_add2K) 356), (356, 0, op_sldW 3 357), (357, 0, op_al 3 358), (358, 0, op_call 0 258 4 1 6 A B 361), (361, 0, op_is 5 363), (363, 0, op_al 2 364), (364, 0, op_al 0 365), (365, 0, op_il 4 367), (367, 0, op_push (.inl (none, 1)) 368)],
  [(368, 0, op_b2 (ab_add2K) 369), (369, 0, op_sldW 3 370), (370, 0, op_al 0 371), (371, 0, op_il 4 373), (373, 0, op_push (.inl (none, 2)) 374), (374, 0, op_b2 (ab_add2K) 375), (375, 0, op_sldW 3 376), (376, 0, op_call 13 221 3 0 0 A B 379), (379, 0, op_is 6 381), (381, 0, op_goto 1350)],
  [(384, 0, op_al 1 385), (385, 0, op_al 0 386), (386, 0, op_il 4 388), (388, 0, op_push (.inl (none, 1)) 389), (389, 0, op_b2 (ab_add2K) 390), (390, 0, op_sldW 3 391), (391, 0, op_al 0 392), (392, 0, op_il 4 394), (394, 0, op_push (.inl (none, 2)) 395), (395, 0, op_b2 (ab_add2K) 396), (396, 0, op_sldW 3 397), (397, 0, op_al 3 398), (398, 0, op_call 0 259 4 1 6 A B 401)],
  [(401, 0, op_is 5 403), (403, 0, op_al 2 404), (404, 0, op_al 0 405), (405, 0, op_il 4 407), (407, 0, op_push (.inl (none, 1)) 408), (408, 0, op_b2 (ab_add2K) 409), (409, 0, op_sldW 3 410), (410, 0, op_al 0 411), (411, 0, op_il 4 413), (413, 0, op_push (.inl (none, 2)) 414), (414, 0, op_b2 (ab_add2K) 415), (415, 0, op_sldW 3 416)],
  [(416, 0, op_call 13 222 3 0 0 A B 419), (419, 0, op_is 6 421), (421, 0, op_goto 1350), (424, 0, op_al 1 425), (425, 0, op_al 0 426), (426, 0, op_il 4 428), (428, 0, op_push (.inl (none, 1)) 429), (429, 0, op_b2 (ab_add2K) 430), (430, 0, op_sldW 3 431), (431, 0, op_al 0 432)],
  [(432, 0, op_il 4 434), (434, 0, op_push (.inl (none, 2)) 435), (435, 0, op_b2 (ab_add2K) 436), (436, 0, op_sldW 3 437), (437, 0, op_al 3 438), (438, 0, op_call 0 260 4 1 6 A B 441), (441, 0, op_is 5 443), (443, 0, op_al 2 444), (444, 0, op_al 0 445), (445, 0, op_il 4 447), (447, 0, op_push (.inl (none, 1)) 448)],
  [(448, 0, op_b2 (ab_add2K) 449), (449, 0, op_sldW 3 450), (450, 0, op_al 0 451), (451, 0, op_il 4 453), (453, 0, op_push (.inl (none, 2)) 454), (454, 0, op_b2 (ab_add2K) 455), (455, 0, op_sldW 3 456), (456, 0, op_call 13 223 3 0 0 A B 459), (459, 0, op_is 6 461), (461, 0, op_goto 1350)],
  [(464, 0, op_al 1 465), (465, 0, op_al 0 466), (466, 0, op_il 4 468), (468, 0, op_push (.inl (none, 1)) 469), (469, 0, op_b2 (ab_add2K) 470), (470, 0, op_sldW 3 471), (471, 0, op_al 0 472), (472, 0, op_il 4 474), (474, 0, op_push (.inl (none, 2)) 475), (475, 0, op_b2 (ab_add2K) 476), (476, 0, op_sldW 3 477), (477, 0, op_al 3 478), (478, 0, op_call 0 261 4 1 6 A B 481)],
  [(481, 0, op_is 5 483), (483, 0, op_al 2 484), (484, 0, op_al 0 485), (485, 0, op_il 4 487), (487, 0, op_push (.inl (none, 1)) 488), (488, 0, op_b2 (ab_add2K) 489), (489, 0, op_sldW 3 490), (490, 0, op_al 0 491), (491, 0, op_il 4 493), (493, 0, op_push (.inl (none, 2)) 494), (494, 0, op_b2 (ab_add2K) 495), (495, 0, op_sldW 3 496)],
  [(496, 0, op_call 13 224 3 0 0 A B 499), (499, 0, op_is 6 501), (501, 0, op_goto 1350), (504, 0, op_al 1 505), (505, 0, op_al 0 506), (506, 0, op_il 4 508), (508, 0, op_push (.inl (none, 1)) 509), (509, 0, op_b2 (ab_add2K) 510), (510, 0, op_sldW 3 511), (511, 0, op_al 3 512)],
  [(512, 0, op_call 0 262 3 1 6 A B 515), (515, 0, op_is 5 517), (517, 0, op_al 2 518), (518, 0, op_al 0 519), (519, 0, op_il 4 521), (521, 0, op_push (.inl (none, 1)) 522), (522, 0, op_b2 (ab_add2K) 523), (523, 0, op_sldW 3 524), (524, 0, op_call 13 225 2 0 0 A B 527), (527, 0, op_is 6 529)],
  [(529, 0, op_goto 1350), (532, 0, op_al 1 533), (533, 0, op_al 0 534), (534, 0, op_il 4 536), (536, 0, op_push (.inl (none, 1)) 537), (537, 0, op_b2 (ab_add2K) 538), (538, 0, op_sldW 3 539), (539, 0, op_al 0 540), (540, 0, op_il 4 542), (542, 0, op_push (.inl (none, 2)) 543), (543, 0, op_b2 (ab_add2K) 544)],
  [(544, 0, op_sldW 3 545), (545, 0, op_call 12 183 3 0 0 A B 548), (548, 0, op_pop 549), (549, 0, op_al 2 550), (550, 0, op_al 0 551), (551, 0, op_il 4 553), (553, 0, op_push (.inl (none, 1)) 554), (554, 0, op_b2 (ab_add2K) 555), (555, 0, op_sldW 3 556), (556, 0, op_al 0 557), (557, 0, op_il 4 559), (559, 0, op_push (.inl (none, 2)) 560)],
  [(560, 0, op_b2 (ab_add2K) 561), (561, 0, op_sldW 3 562), (562, 0, op_call 13 226 3 0 0 A B 565), (565, 0, op_pop 566), (566, 0, op_goto 1350), (569, 0, op_al 1 570), (570, 0, op_al 0 571), (571, 0, op_il 4 573), (573, 0, op_push (.inl (none, 1)) 574), (574, 0, op_b2 (ab_add2K) 575), (575, 0, op_sldW 3 576)],
  [(576, 0, op_call 12 184 2 0 0 A B 579), (579, 0, op_pop 580), (580, 0, op_al 2 581), (581, 0, op_al 0 582), (582, 0, op_il 4 584), (584, 0, op_push (.inl (none, 1)) 585), (585, 0, op_b2 (ab_add2K) 586), (586, 0, op_sldW 3 587), (587, 0, op_call 13 227 2 0 0 A B 590), (590, 0, op_pop 591), (591, 0, op_goto 1350)],
  [(594, 0, op_al 1 595), (595, 0, op_al 0 596), (596, 0, op_il 4 598), (598, 0, op_push (.inl (none, 1)) 599), (599, 0, op_b2 (ab_add2K) 600), (600, 0, op_sldW 3 601), (601, 0, op_call 12 185 2 0 0 A B 604), (604, 0, op_pop 605), (605, 0, op_al 2 606), (606, 0, op_al 0 607), (607, 0, op_il 4 609)],
  [(609, 0, op_push (.inl (none, 1)) 610), (610, 0, op_b2 (ab_add2K) 611), (611, 0, op_sldW 3 612), (612, 0, op_call 13 228 2 0 0 A B 615), (615, 0, op_pop 616), (616, 0, op_goto 1350), (619, 0, op_al 1 620), (620, 0, op_call 12 186 1 0 0 A B 623), (623, 0, op_pop 624)],
  [(624, 0, op_al 2 625), (625, 0, op_call 13 229 1 0 0 A B 628), (628, 0, op_pop 629), (629, 0, op_goto 1350), (632, 0, op_al 1 633), (633, 0, op_al 0 634), (634, 0, op_il 4 636), (636, 0, op_push (.inl (none, 1)) 637), (637, 0, op_b2 (ab_add2K) 638), (638, 0, op_sldW 3 639), (639, 0, op_call 12 187 2 0 0 A B 642)],
  [(642, 0, op_pop 643), (643, 0, op_al 2 644), (644, 0, op_al 0 645), (645, 0, op_il 4 647), (647, 0, op_push (.inl (none, 1)) 648), (648, 0, op_b2 (ab_add2K) 649), (649, 0, op_sldW 3 650), (650, 0, op_call 13 230 2 0 0 A B 653), (653, 0, op_pop 654), (654, 0, op_goto 1350)],
  [(657, 0, op_al 1 658), (658, 0, op_call 12 188 1 0 0 A B 661), (661, 0, op_pop 662), (662, 0, op_al 2 663), (663, 0, op_call 13 231 1 0 0 A B 666), (666, 0, op_pop 667), (667, 0, op_goto 1350), (670, 0, op_al 1 671), (671, 0, op_al 3 672)],
  [(672, 0, op_call 0 263 2 1 6 A B 675), (675, 0, op_is 5 677), (677, 0, op_al 2 678), (678, 0, op_call 13 232 1 0 0 A B 681), (681, 0, op_is 6 683), (683, 0, op_goto 1350), (686, 0, op_al 1 687), (687, 0, op_al 3 688)],
  [(688, 0, op_call 0 264 2 1 6 A B 691), (691, 0, op_is 5 693), (693, 0, op_al 2 694), (694, 0, op_call 13 233 1 0 0 A B 697), (697, 0, op_is 6 699), (699, 0, op_goto 1350), (702, 0, op_al 1 703), (703, 0, op_call 12 191 1 0 0 A B 706)],
  [(706, 0, op_pop 707), (707, 0, op_al 2 708), (708, 0, op_call 13 234 1 0 0 A B 711), (711, 0, op_pop 712), (712, 0, op_goto 1350), (715, 0, op_al 1 716), (716, 0, op_al 0 717), (717, 0, op_il 4 719), (719, 0, op_push (.inl (none, 1)) 720)],
  [(720, 0, op_b2 (ab_add2K) 721), (721, 0, op_sldW 3 722), (722, 0, op_al 3 723), (723, 0, op_call 0 265 3 1 6 A B 726), (726, 0, op_is 5 728), (728, 0, op_al 2 729), (729, 0, op_al 0 730), (730, 0, op_il 4 732), (732, 0, op_push (.inl (none, 1)) 733), (733, 0, op_b2 (ab_add2K) 734), (734, 0, op_sldW 3 735), (735, 0, op_call 13 235 2 0 0 A B 738)],
  [(738, 0, op_is 6 740), (740, 0, op_goto 1350), (743, 0, op_al 1 744), (744, 0, op_call 12 193 1 0 0 A B 747), (747, 0, op_pop 748), (748, 0, op_al 2 749), (749, 0, op_call 13 236 1 0 0 A B 752)],
  [(752, 0, op_pop 753), (753, 0, op_goto 1350), (756, 0, op_al 1 757), (757, 0, op_al 0 758), (758, 0, op_il 4 760), (760, 0, op_push (.inl (none, 1)) 761), (761, 0, op_b2 (ab_add2K) 762), (762, 0, op_sldW 3 763), (763, 0, op_call 12 194 2 0 0 A B 766), (766, 0, op_pop 767), (767, 0, op_al 2 768)],
  [(768, 0, op_al 0 769), (769, 0, op_il 4 771), (771, 0, op_push (.inl (none, 1)) 772), (772, 0, op_b2 (ab_add2K) 773), (773, 0, op_sldW 3 774), (774, 0, op_call 13 237 2 0 0 A B 777), (777, 0, op_pop 778), (778, 0, op_goto 1350), (781, 0, op_al 1 782), (782, 0, op_al 0 783), (783, 0, op_il 4 785)],
  [(785, 0, op_push (.inl (none, 1)) 786), (786, 0, op_b2 (ab_add2K) 787), (787, 0, op_sldW 3 788), (788, 0, op_al 0 789), (789, 0, op_il 4 791), (791, 0, op_push (.inl (none, 2)) 792), (792, 0, op_b2 (ab_add2K) 793), (793, 0, op_sldW 3 794), (794, 0, op_al 3 795), (795, 0, op_call 0 266 4 1 6 A B 798), (798, 0, op_is 5 800)],
  [(800, 0, op_al 2 801), (801, 0, op_al 0 802), (802, 0, op_il 4 804), (804, 0, op_push (.inl (none, 1)) 805), (805, 0, op_b2 (ab_add2K) 806), (806, 0, op_sldW 3 807), (807, 0, op_al 0 808), (808, 0, op_il 4 810), (810, 0, op_push (.inl (none, 2)) 811), (811, 0, op_b2 (ab_add2K) 812), (812, 0, op_sldW 3 813), (813, 0, op_call 13 238 3 0 0 A B 816)],
  [(816, 0, op_is 6 818), (818, 0, op_goto 1350), (821, 0, op_al 1 822), (822, 0, op_al 0 823), (823, 0, op_il 4 825), (825, 0, op_push (.inl (none, 1)) 826), (826, 0, op_b2 (ab_add2K) 827), (827, 0, op_sldW 3 828), (828, 0, op_al 0 829), (829, 0, op_il 4 831), (831, 0, op_push (.inl (none, 2)) 832)],
  [(832, 0, op_b2 (ab_add2K) 833), (833, 0, op_sldW 3 834), (834, 0, op_al 0 835), (835, 0, op_il 4 837), (837, 0, op_push (.inl (none, 3)) 838), (838, 0, op_b2 (ab_add2K) 839), (839, 0, op_sldW 3 840), (840, 0, op_call 12 196 4 0 0 A B 843), (843, 0, op_pop 844), (844, 0, op_al 2 845), (845, 0, op_al 0 846), (846, 0, op_il 4 848)],
  [(848, 0, op_push (.inl (none, 1)) 849), (849, 0, op_b2 (ab_add2K) 850), (850, 0, op_sldW 3 851), (851, 0, op_al 0 852), (852, 0, op_il 4 854), (854, 0, op_push (.inl (none, 2)) 855), (855, 0, op_b2 (ab_add2K) 856), (856, 0, op_sldW 3 857), (857, 0, op_al 0 858), (858, 0, op_il 4 860), (860, 0, op_push (.inl (none, 3)) 861), (861, 0, op_b2 (ab_add2K) 862), (862, 0, op_sldW 3 863), (863, 0, op_call 13 239 4 0 0 A B 866)],
  [(866, 0, op_pop 867), (867, 0, op_goto 1350), (870, 0, op_al 1 871), (871, 0, op_al 0 872), (872, 0, op_il 4 874), (874, 0, op_push (.inl (none, 1)) 875), (875, 0, op_b2 (ab_add2K) 876), (876, 0, op_sldW 3 877), (877, 0, op_call 12 197 2 0 0 A B 880)],
  [(880, 0, op_pop 881), (881, 0, op_al 2 882), (882, 0, op_al 0 883), (883, 0, op_il 4 885), (885, 0, op_push (.inl (none, 1)) 886), (886, 0, op_b2 (ab_add2K) 887), (887, 0, op_sldW 3 888), (888, 0, op_call 13 240 2 0 0 A B 891), (891, 0, op_pop 892), (892, 0, op_goto 1350), (895, 0, op_al 1 896)],
  [(896, 0, op_call 12 198 1 0 0 A B 899), (899, 0, op_pop 900), (900, 0, op_al 2 901), (901, 0, op_call 13 241 1 0 0 A B 904), (904, 0, op_pop 905), (905, 0, op_goto 1350), (908, 0, op_al 1 909), (909, 0, op_al 0 910), (910, 0, op_il 4 912)],
  [(912, 0, op_push (.inl (none, 1)) 913), (913, 0, op_b2 (ab_add2K) 914), (914, 0, op_sldW 3 915), (915, 0, op_al 0 916), (916, 0, op_il 4 918), (918, 0, op_push (.inl (none, 2)) 919), (919, 0, op_b2 (ab_add2K) 920), (920, 0, op_sldW 3 921), (921, 0, op_al 3 922), (922, 0, op_call 0 267 4 1 6 A B 925), (925, 0, op_is 5 927), (927, 0, op_al 2 928)],
  [(928, 0, op_al 0 929), (929, 0, op_il 4 931), (931, 0, op_push (.inl (none, 1)) 932), (932, 0, op_b2 (ab_add2K) 933), (933, 0, op_sldW 3 934), (934, 0, op_al 0 935), (935, 0, op_il 4 937), (937, 0, op_push (.inl (none, 2)) 938), (938, 0, op_b2 (ab_add2K) 939), (939, 0, op_sldW 3 940), (940, 0, op_call 13 242 3 0 0 A B 943), (943, 0, op_is 6 945)],
  [(945, 0, op_goto 1350), (948, 0, op_al 1 949), (949, 0, op_call 12 200 1 0 0 A B 952), (952, 0, op_pop 953), (953, 0, op_al 2 954), (954, 0, op_call 13 243 1 0 0 A B 957), (957, 0, op_pop 958), (958, 0, op_goto 1350)],
  [(961, 0, op_al 1 962), (962, 0, op_al 0 963), (963, 0, op_il 4 965), (965, 0, op_push (.inl (none, 1)) 966), (966, 0, op_b2 (ab_add2K) 967), (967, 0, op_sldW 3 968), (968, 0, op_al 3 969), (969, 0, op_call 0 268 3 1 6 A B 972), (972, 0, op_is 5 974), (974, 0, op_al 2 975), (975, 0, op_al 0 976)],
  [(976, 0, op_il 4 978), (978, 0, op_push (.inl (none, 1)) 979), (979, 0, op_b2 (ab_add2K) 980), (980, 0, op_sldW 3 981), (981, 0, op_call 13 244 2 0 0 A B 984), (984, 0, op_is 6 986), (986, 0, op_goto 1350), (989, 0, op_al 1 990), (990, 0, op_al 0 991), (991, 0, op_il 4 993)],
  [(993, 0, op_push (.inl (none, 1)) 994), (994, 0, op_b2 (ab_add2K) 995), (995, 0, op_sldW 3 996), (996, 0, op_al 0 997), (997, 0, op_il 4 999), (999, 0, op_push (.inl (none, 2)) 1000), (1000, 0, op_b2 (ab_add2K) 1001), (1001, 0, op_sldW 3 1002), (1002, 0, op_call 12 202 3 0 0 A B 1005), (1005, 0, op_pop 1006), (1006, 0, op_al 2 1007), (1007, 0, op_al 0 1008)],
  [(1008, 0, op_il 4 1010), (1010, 0, op_push (.inl (none, 1)) 1011), (1011, 0, op_b2 (ab_add2K) 1012), (1012, 0, op_sldW 3 1013), (1013, 0, op_al 0 1014), (1014, 0, op_il 4 1016), (1016, 0, op_push (.inl (none, 2)) 1017), (1017, 0, op_b2 (ab_add2K) 1018), (1018, 0, op_sldW 3 1019), (1019, 0, op_call 13 245 3 0 0 A B 1022), (1022, 0, op_pop 1023), (1023, 0, op_goto 1350)],
  [(1026, 0, op_al 1 1027), (1027, 0, op_al 0 1028), (1028, 0, op_il 4 1030), (1030, 0, op_push (.inl (none, 1)) 1031), (1031, 0, op_b2 (ab_add2K) 1032), (1032, 0, op_sldW 3 1033), (1033, 0, op_call 12 203 2 0 0 A B 1036), (1036, 0, op_pop 1037), (1037, 0, op_al 2 1038), (1038, 0, op_al 0 1039), (1039, 0, op_il 4 1041)],
  [(1041, 0, op_push (.inl (none, 1)) 1042), (1042, 0, op_b2 (ab_add2K) 1043), (1043, 0, op_sldW 3 1044), (1044, 0, op_call 13 246 2 0 0 A B 1047), (1047, 0, op_pop 1048), (1048, 0, op_goto 1350), (1051, 0, op_al 1 1052), (1052, 0, op_al 0 1053), (1053, 0, op_il 4 1055), (1055, 0, op_push (.inl (none, 1)) 1056)],
  [(1056, 0, op_b2 (ab_add2K) 1057), (1057, 0, op_sldW 3 1058), (1058, 0, op_call 12 204 2 0 0 A B 1061), (1061, 0, op_pop 1062), (1062, 0, op_al 2 1063), (1063, 0, op_al 0 1064), (1064, 0, op_il 4 1066), (1066, 0, op_push (.inl (none, 1)) 1067), (1067, 0, op_b2 (ab_add2K) 1068), (1068, 0, op_sldW 3 1069), (1069, 0, op_call 13 247 2 0 0 A B 1072)],
  [(1072, 0, op_pop 1073), (1073, 0, op_goto 1350), (1076, 0, op_al 1 1077), (1077, 0, op_al 0 1078), (1078, 0, op_il 4 1080), (1080, 0, op_push (.inl (none, 1)) 1081), (1081, 0, op_b2 (ab_add2K) 1082), (1082, 0, op_sldW 3 1083), (1083, 0, op_call 12 205 2 0 0 A B 1086), (1086, 0, op_pop 1087), (1087, 0, op_al 2 1088)],
  [(1088, 0, op_al 0 1089), (1089, 0, op_il 4 1091), (1091, 0, op_push (.inl (none, 1)) 1092), (1092, 0, op_b2 (ab_add2K) 1093), (1093, 0, op_sldW 3 1094), (1094, 0, op_call 13 248 2 0 0 A B 1097), (1097, 0, op_pop 1098), (1098, 0, op_goto 1350), (1101, 0, op_al 1 1102), (1102, 0, op_al 0 1103), (1103, 0, op_il 4 1105)],
  [(1105, 0, op_push (.inl (none, 1)) 1106), (1106, 0, op_b2 (ab_add2K) 1107), (1107, 0, op_sldW 3 1108), (1108, 0, op_al 0 1109), (1109, 0, op_il 4 1111), (1111, 0, op_push (.inl (none, 2)) 1112), (1112, 0, op_b2 (ab_add2K) 1113), (1113, 0, op_sldW 3 1114), (1114, 0, op_call 12 206 3 0 0 A B 1117), (1117, 0, op_pop 1118), (1118, 0, op_al 2 1119), (1119, 0, op_al 0 1120)],
  [(1120, 0, op_il 4 1122), (1122, 0, op_push (.inl (none, 1)) 1123), (1123, 0, op_b2 (ab_add2K) 1124), (1124, 0, op_sldW 3 1125), (1125, 0, op_al 0 1126), (1126, 0, op_il 4 1128), (1128, 0, op_push (.inl (none, 2)) 1129), (1129, 0, op_b2 (ab_add2K) 1130), (1130, 0, op_sldW 3 1131), (1131, 0, op_call 13 249 3 0 0 A B 1134), (1134, 0, op_pop 1135), (1135, 0, op_goto 1350)],
  [(1138, 0, op_al 1 1139), (1139, 0, op_al 0 1140), (1140, 0, op_il 4 1142), (1142, 0, op_push (.inl (none, 1)) 1143), (1143, 0, op_b2 (ab_add2K) 1144), (1144, 0, op_sldW 3 1145), (1145, 0, op_al 0 1146), (1146, 0, op_il 4 1148), (1148, 0, op_push (.inl (none, 2)) 1149), (1149, 0, op_b2 (ab_add2K) 1150), (1150, 0, op_sldW 3 1151), (1151, 0, op_al 0 1152)],
  [(1152, 0, op_il 4 1154), (1154, 0, op_push (.inl (none, 3)) 1155), (1155, 0, op_b2 (ab_add2K) 1156), (1156, 0, op_sldW 3 1157), (1157, 0, op_call 12 207 4 0 0 A B 1160), (1160, 0, op_pop 1161), (1161, 0, op_al 2 1162), (1162, 0, op_al 0 1163), (1163, 0, op_il 4 1165), (1165, 0, op_push (.inl (none, 1)) 1166), (1166, 0, op_b2 (ab_add2K) 1167), (1167, 0, op_sldW 3 1168)],
  [(1168, 0, op_al 0 1169), (1169, 0, op_il 4 1171), (1171, 0, op_push (.inl (none, 2)) 1172), (1172, 0, op_b2 (ab_add2K) 1173), (1173, 0, op_sldW 3 1174), (1174, 0, op_al 0 1175), (1175, 0, op_il 4 1177), (1177, 0, op_push (.inl (none, 3)) 1178), (1178, 0, op_b2 (ab_add2K) 1179), (1179, 0, op_sldW 3 1180), (1180, 0, op_call 13 250 4 0 0 A B 1183), (1183, 0, op_pop 1184)],
  [(1184, 0, op_goto 1350), (1187, 0, op_al 1 1188), (1188, 0, op_al 0 1189), (1189, 0, op_il 4 1191), (1191, 0, op_push (.inl (none, 1)) 1192), (1192, 0, op_b2 (ab_add2K) 1193), (1193, 0, op_sldW 3 1194), (1194, 0, op_pre (pr_s3 0 1) (op_call 12 208 2 0 0 A B 1197)), (1197, 0, op_pop 1198), (1198, 0, op_al 2 1199), (1199, 0, op_al 0 1200)],
  [(1200, 0, op_il 4 1202), (1202, 0, op_push (.inl (none, 1)) 1203), (1203, 0, op_b2 (ab_add2K) 1204), (1204, 0, op_sldW 3 1205), (1205, 0, op_call 13 251 2 0 0 A B 1208), (1208, 0, op_pop 1209), (1209, 0, op_goto 1350), (1212, 0, op_al 1 1213), (1213, 0, op_al 0 1214), (1214, 0, op_il 4 1216)],
  [(1216, 0, op_push (.inl (none, 1)) 1217), (1217, 0, op_b2 (ab_add2K) 1218), (1218, 0, op_sldW 3 1219), (1219, 0, op_call 12 209 2 0 0 A B 1222), (1222, 0, op_pop 1223), (1223, 0, op_al 2 1224), (1224, 0, op_al 0 1225), (1225, 0, op_il 4 1227), (1227, 0, op_push (.inl (none, 1)) 1228), (1228, 0, op_b2 (ab_add2K) 1229), (1229, 0, op_sldW 3 1230), (1230, 0, op_call 13 252 2 0 0 A B 1233)],
  [(1233, 0, op_pop 1234), (1234, 0, op_goto 1350), (1237, 0, op_al 1 1238), (1238, 0, op_call 12 210 1 0 0 A B 1241), (1241, 0, op_pop 1242), (1242, 0, op_al 2 1243), (1243, 0, op_call 13 253 1 0 0 A B 1246), (1246, 0, op_pop 1247), (1247, 0, op_goto 1350)],
  [(1250, 0, op_al 1 1251), (1251, 0, op_al 0 1252), (1252, 0, op_il 4 1254), (1254, 0, op_push (.inl (none, 1)) 1255), (1255, 0, op_b2 (ab_add2K) 1256), (1256, 0, op_sldW 3 1257), (1257, 0, op_call 12 211 2 0 0 A B 1260), (1260, 0, op_pop 1261), (1261, 0, op_al 2 1262), (1262, 0, op_al 0 1263), (1263, 0, op_il 4 1265)],
  [(1265, 0, op_push (.inl (none, 1)) 1266), (1266, 0, op_b2 (ab_add2K) 1267), (1267, 0, op_sldW 3 1268), (1268, 0, op_call 13 254 2 0 0 A B 1271), (1271, 0, op_pop 1272), (1272, 0, op_goto 1350), (1275, 0, op_al 1 1276), (1276, 0, op_al 0 1277), (1277, 0, op_il 4 1279), (1279, 0, op_push (.inl (none, 1)) 1280)],
  [(1280, 0, op_b2 (ab_add2K) 1281), (1281, 0, op_sldW 3 1282), (1282, 0, op_pre (pr_s3 0 0) (op_pre (pr_s3 1 1) (op_call 12 212 2 0 0 A B 1285))), (1285, 0, op_pop 1286), (1286, 0, op_al 2 1287), (1287, 0, op_al 0 1288), (1288, 0, op_il 4 1290), (1290, 0, op_push (.inl (none, 1)) 1291), (1291, 0, op_b2 (ab_add2K) 1292), (1292, 0, op_sldW 3 1293), (1293, 0, op_pre (pr_s3 0 0) (op_pre (pr_s3 1 1) (op_call 13 255 2 0 0 A B 1296)))],
  [(1296, 0, op_pop 1297), (1297, 0, op_goto 1350), (1300, 0, op_al 1 1301), (1301, 0, op_al 0 1302), (1302, 0, op_il 4 1304), (1304, 0, op_push (.inl (none, 1)) 1305), (1305, 0, op_b2 (ab_add2K) 1306), (1306, 0, op_sldW 3 1307), (1307, 0, op_pre (pr_s3 0 0) (op_pre (pr_s3 1 1) (op_call 12 213 2 0 0 A B 1310))), (1310, 0, op_pop 1311), (1311, 0, op_al 2 1312)],
  [(1312, 0, op_al 0 1313), (1313, 0, op_il 4 1315), (1315, 0, op_push (.inl (none, 1)) 1316), (1316, 0, op_b2 (ab_add2K) 1317), (1317, 0, op_sldW 3 1318), (1318, 0, op_pre (pr_s3 0 0) (op_pre (pr_s3 1 1) (op_call 13 256 2 0 0 A B 1321))), (1321, 0, op_pop 1322), (1322, 0, op_goto 1350), (1325, 0, op_al 1 1326), (1326, 0, op_al 0 1327), (1327, 0, op_il 4 1329)],
  [(1329, 0, op_push (.inl (none, 1)) 1330), (1330, 0, op_b2 (ab_add2K) 1331), (1331, 0, op_sldW 3 1332), (1332, 0, op_call 12 214 2 0 0 A B 1335), (1335, 0, op_pop 1336), (1336, 0, op_al 2 1337), (1337, 0, op_al 0 1338), (1338, 0, op_il 4 1340), (1340, 0, op_push (.inl (none, 1)) 1341), (1341, 0, op_b2 (ab_add2K) 1342), (1342, 0, op_sldW 3 1343), (1343, 0, op_call 13 257 2 0 0 A B 1346)],
  [(1346, 0, op_pop 1347), (1347, 0, op_goto 1350), (1350, 0, op_pre (pr_add2 [(1, 3, 1), (1, 0, 2)] [1, (-1)] 0) (op_pre (pr_add2 [(1, 3, 1), (1, 0, 2)] [(-1), 1] 0) (op_inc 4 6 1353))), (1353, 0, op_goto 23)]]
