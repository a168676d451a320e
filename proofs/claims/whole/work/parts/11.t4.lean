/-! 11: tables of class 4 -/
def t_X4_init : List (Nat × rw_) := [(0, (.aload_n 0, 1, 0, 0, 0, 0, 0, 0, 0, 0, [])), (1, (.invokespecial 3, 3, 0, 0, 0, 6, 0, 0, 0, 0, [])), (4, (.aload_n 0, 1, 0, 0, 0, 0, 0, 0, 0, 0, [])), (5, (.bipush 24, 2, 0, 24, 0, 0, 0, 0, 0, 0, [])), (7, (.newarray .int, 2, 0, 0, 0, 0, 0, 0, 0, 0, [])), (9, (.putfield 9, 3, 2, 0, 0, 4, 0, 1, 0, 0, [])), (12, (.aload_n 0, 1, 0, 0, 0, 0, 0, 0, 0, 0, [])), (13, (.bipush 24, 2, 0, 24, 0, 0, 0, 0, 0, 0, [])), (15, (.newarray .int, 2, 0, 0, 0, 0, 0, 0, 0, 0, [])), (17, (.putfield 15, 3, 2, 0, 0, 4, 1, 1, 0, 0, [])), (20, (.aload_n 0, 1, 0, 0, 0, 0, 0, 0, 0, 0, [])), (21, (.bipush 24, 2, 0, 24, 0, 0, 0, 0, 0, 0, [])), (23, (.newarray .int, 2, 0, 0, 0, 0, 0, 0, 0, 0, [])), (25, (.putfield 18, 3, 2, 0, 0, 4, 2, 1, 0, 0, [])), (28, (.return_, 1, 0, 0, 0, 0, 0, 0, 0, 0, []))]
set_option maxRecDepth 100000 in
theorem ok_X4_init : tb_ok ctX4 m_X4_init t_X4_init = true := by decide +kernel
theorem i_X4_init_0 : tab t_X4_init 0 = some (.aload_n 0, 1, 0, 0, 0, 0, 0, 0, 0, 0, []) := rfl
theorem i_X4_init_1 : tab t_X4_init 1 = some (.invokespecial 3, 3, 0, 0, 0, 6, 0, 0, 0, 0, []) := rfl
theorem i_X4_init_4 : tab t_X4_init 4 = some (.aload_n 0, 1, 0, 0, 0, 0, 0, 0, 0, 0, []) := rfl
theorem i_X4_init_5 : tab t_X4_init 5 = some (.bipush 24, 2, 0, 24, 0, 0, 0, 0, 0, 0, []) := rfl
theorem i_X4_init_7 : tab t_X4_init 7 = some (.newarray .int, 2, 0, 0, 0, 0, 0, 0, 0, 0, []) := rfl
theorem i_X4_init_9 : tab t_X4_init 9 = some (.putfield 9, 3, 2, 0, 0, 4, 0, 1, 0, 0, []) := rfl
theorem i_X4_init_12 : tab t_X4_init 12 = some (.aload_n 0, 1, 0, 0, 0, 0, 0, 0, 0, 0, []) := rfl
theorem i_X4_init_13 : tab t_X4_init 13 = some (.bipush 24, 2, 0, 24, 0, 0, 0, 0, 0, 0, []) := rfl
theorem i_X4_init_15 : tab t_X4_init 15 = some (.newarray .int, 2, 0, 0, 0, 0, 0, 0, 0, 0, []) := rfl
theorem i_X4_init_17 : tab t_X4_init 17 = some (.putfield 15, 3, 2, 0, 0, 4, 1, 1, 0, 0, []) := rfl
theorem i_X4_init_20 : tab t_X4_init 20 = some (.aload_n 0, 1, 0, 0, 0, 0, 0, 0, 0, 0, []) := rfl
theorem i_X4_init_21 : tab t_X4_init 21 = some (.bipush 24, 2, 0, 24, 0, 0, 0, 0, 0, 0, []) := rfl
theorem i_X4_init_23 : tab t_X4_init 23 = some (.newarray .int, 2, 0, 0, 0, 0, 0, 0, 0, 0, []) := rfl
theorem i_X4_init_25 : tab t_X4_init 25 = some (.putfield 18, 3, 2, 0, 0, 4, 2, 1, 0, 0, []) := rfl
theorem i_X4_init_28 : tab t_X4_init 28 = some (.return_, 1, 0, 0, 0, 0, 0, 0, 0, 0, []) := rfl
def t_X4_find : List (Nat × rw_) := [(0, (.iconst 0, 1, 0, 0, 0, 0, 0, 0, 0, 0, [])), (1, (.istore_n 3, 1, 3, 0, 0, 0, 0, 0, 0, 0, [])), (2, (.iload_n 3, 1, 3, 0, 0, 0, 0, 0, 0, 0, [])), (3, (.bipush 24, 2, 0, 24, 0, 0, 0, 0, 0, 0, [])), (5, (.if_icmp .ge 59, 3, 64, 0, 0, 0, 0, 0, 0, 0, [])), (8, (.aload_n 1, 1, 1, 0, 0, 0, 0, 0, 0, 0, [])), (9, (.getfield 21, 3, 2, 0, 0, 7, 1, 0, 0, 0, [])), (12, (.iload_n 3, 1, 3, 0, 0, 0, 0, 0, 0, 0, [])), (13, (.iconst 3, 1, 0, 3, 0, 0, 0, 0, 0, 0, [])), (14, (.invokevirtual 27, 3, 2, 0, 0, 0, 60, 7, 0, 0, [])), (17, (.istore 4, 2, 4, 0, 0, 0, 0, 0, 0, 0, [])), (19, (.aload_n 0, 1, 0, 0, 0, 0, 0, 0, 0, 0, [])), (20, (.getfield 9, 3, 2, 0, 0, 4, 0, 0, 0, 0, [])), (23, (.iload_n 3, 1, 3, 0, 0, 0, 0, 0, 0, 0, [])), (24, (.aload_n 1, 1, 1, 0, 0, 0, 0, 0, 0, 0, [])), (25, (.getfield 33, 3, 2, 0, 0, 7, 0, 0, 0, 0, [])), (28, (.iload 4, 2, 4, 0, 0, 0, 0, 0, 0, 0, [])), (30, (.iconst 2, 1, 0, 2, 0, 0, 0, 0, 0, 0, [])), (31, (.invokevirtual 27, 3, 2, 0, 0, 0, 60, 7, 0, 0, [])), (34, (.iastore, 1, 0, 0, 0, 0, 0, 0, 0, 0, [])), (35, (.aload_n 0, 1, 0, 0, 0, 0, 0, 0, 0, 0, [])), (36, (.getfield 15, 3, 2, 0, 0, 4, 1, 0, 0, 0, [])), (39, (.iload_n 3, 1, 3, 0, 0, 0, 0, 0, 0, 0, [])), (40, (.aload_n 1, 1, 1, 0, 0, 0, 0, 0, 0, 0, [])), (41, (.getfield 33, 3, 2, 0, 0, 7, 0, 0, 0, 0, [])), (44, (.iload 4, 2, 4, 0, 0, 0, 0, 0, 0, 0, [])), (46, (.iconst 3, 1, 0, 3, 0, 0, 0, 0, 0, 0, [])), (47, (.invokevirtual 27, 3, 2, 0, 0, 0, 60, 7, 0, 0, [])), (50, (.iastore, 1, 0, 0, 0, 0, 0, 0, 0, 0, [])), (51, (.aload_n 0, 1, 0, 0, 0, 0, 0, 0, 0, 0, [])), (52, (.getfield 18, 3, 2, 0, 0, 4, 2, 0, 0, 0, [])), (55, (.iload_n 3, 1, 3, 0, 0, 0, 0, 0, 0, 0, [])), (56, (.iconst (-1), 1, 0, -1, 0, 0, 0, 0, 0, 0, [])), (57, (.iastore, 1, 0, 0, 0, 0, 0, 0, 0, 0, [])), (58, (.iinc 3 1, 3, 3, 1, 0, 0, 0, 0, 0, 0, [])), (61, (.goto (-59), 3, 2, 0, 0, 0, 0, 0, 0, 0, [])), (64, (.iconst 0, 1, 0, 0, 0, 0, 0, 0, 0, 0, [])), (65, (.istore_n 3, 1, 3, 0, 0, 0, 0, 0, 0, 0, [])), (66, (.iload_n 3, 1, 3, 0, 0, 0, 0, 0, 0, 0, [])), (67, (.aload_n 1, 1, 1, 0, 0, 0, 0, 0, 0, 0, [])), (68, (.getfield 36, 3, 2, 0, 0, 7, 2, 0, 0, 0, [])), (71, (.getfield 39, 3, 0, 0, 0, 6, 3, 0, 0, 0, [])), (74, (.if_icmp .ge 102, 3, 176, 0, 0, 0, 0, 0, 0, 0, [])), (77, (.aload_n 1, 1, 1, 0, 0, 0, 0, 0, 0, 0, [])), (78, (.getfield 36, 3, 2, 0, 0, 7, 2, 0, 0, 0, [])), (81, (.iload_n 3, 1, 3, 0, 0, 0, 0, 0, 0, 0, [])), (82, (.iconst 0, 1, 0, 0, 0, 0, 0, 0, 0, 0, [])), (83, (.invokevirtual 27, 3, 2, 0, 0, 0, 60, 7, 0, 0, [])), (86, (.istore 4, 2, 4, 0, 0, 0, 0, 0, 0, 0, [])), (88, (.aload_n 1, 1, 1, 0, 0, 0, 0, 0, 0, 0, [])), (89, (.getfield 36, 3, 2, 0, 0, 7, 2, 0, 0, 0, [])), (92, (.iload_n 3, 1, 3, 0, 0, 0, 0, 0, 0, 0, [])), (93, (.iconst 1, 1, 0, 1, 0, 0, 0, 0, 0, 0, [])), (94, (.invokevirtual 27, 3, 2, 0, 0, 0, 60, 7, 0, 0, [])), (97, (.istore 5, 2, 5, 0, 0, 0, 0, 0, 0, 0, [])), (99, (.iload 4, 2, 4, 0, 0, 0, 0, 0, 0, 0, [])), (101, (.ifCond .lt 69, 3, 170, 0, 0, 0, 0, 0, 0, 0, [])), (104, (.iload 4, 2, 4, 0, 0, 0, 0, 0, 0, 0, [])), (106, (.bipush 24, 2, 0, 24, 0, 0, 0, 0, 0, 0, [])), (108, (.if_icmp .ge 62, 3, 170, 0, 0, 0, 0, 0, 0, 0, [])), (111, (.iload 5, 2, 5, 0, 0, 0, 0, 0, 0, 0, [])), (113, (.iload_n 2, 1, 2, 0, 0, 0, 0, 0, 0, 0, [])), (114, (.if_icmp .gt 56, 3, 170, 0, 0, 0, 0, 0, 0, 0, [])), (117, (.iload 5, 2, 5, 0, 0, 0, 0, 0, 0, 0, [])), (119, (.aload_n 0, 1, 0, 0, 0, 0, 0, 0, 0, 0, [])), (120, (.getfield 18, 3, 2, 0, 0, 4, 2, 0, 0, 0, [])), (123, (.iload 4, 2, 4, 0, 0, 0, 0, 0, 0, 0, [])), (125, (.iaload, 1, 0, 0, 0, 0, 0, 0, 0, 0, [])), (126, (.if_icmp .lt 44, 3, 170, 0, 0, 0, 0, 0, 0, 0, [])), (129, (.aload_n 0, 1, 0, 0, 0, 0, 0, 0, 0, 0, [])), (130, (.getfield 9, 3, 2, 0, 0, 4, 0, 0, 0, 0, [])), (133, (.iload 4, 2, 4, 0, 0, 0, 0, 0, 0, 0, [])), (135, (.aload_n 1, 1, 1, 0, 0, 0, 0, 0, 0, 0, [])), (136, (.getfield 36, 3, 2, 0, 0, 7, 2, 0, 0, 0, [])), (139, (.iload_n 3, 1, 3, 0, 0, 0, 0, 0, 0, 0, [])), (140, (.iconst 2, 1, 0, 2, 0, 0, 0, 0, 0, 0, [])), (141, (.invokevirtual 27, 3, 2, 0, 0, 0, 60, 7, 0, 0, [])), (144, (.iastore, 1, 0, 0, 0, 0, 0, 0, 0, 0, [])), (145, (.aload_n 0, 1, 0, 0, 0, 0, 0, 0, 0, 0, [])), (146, (.getfield 15, 3, 2, 0, 0, 4, 1, 0, 0, 0, [])), (149, (.iload 4, 2, 4, 0, 0, 0, 0, 0, 0, 0, [])), (151, (.aload_n 1, 1, 1, 0, 0, 0, 0, 0, 0, 0, [])), (152, (.getfield 36, 3, 2, 0, 0, 7, 2, 0, 0, 0, [])), (155, (.iload_n 3, 1, 3, 0, 0, 0, 0, 0, 0, 0, [])), (156, (.iconst 3, 1, 0, 3, 0, 0, 0, 0, 0, 0, [])), (157, (.invokevirtual 27, 3, 2, 0, 0, 0, 60, 7, 0, 0, [])), (160, (.iastore, 1, 0, 0, 0, 0, 0, 0, 0, 0, [])), (161, (.aload_n 0, 1, 0, 0, 0, 0, 0, 0, 0, 0, [])), (162, (.getfield 18, 3, 2, 0, 0, 4, 2, 0, 0, 0, [])), (165, (.iload 4, 2, 4, 0, 0, 0, 0, 0, 0, 0, [])), (167, (.iload 5, 2, 5, 0, 0, 0, 0, 0, 0, 0, [])), (169, (.iastore, 1, 0, 0, 0, 0, 0, 0, 0, 0, [])), (170, (.iinc 3 1, 3, 3, 1, 0, 0, 0, 0, 0, 0, [])), (173, (.goto (-107), 3, 66, 0, 0, 0, 0, 0, 0, 0, [])), (176, (.return_, 1, 0, 0, 0, 0, 0, 0, 0, 0, []))]
set_option maxRecDepth 100000 in
theorem ok_X4_find : tb_ok ctX4 m_X4_find t_X4_find = true := by decide +kernel
theorem i_X4_find_0 : tab t_X4_find 0 = some (.iconst 0, 1, 0, 0, 0, 0, 0, 0, 0, 0, []) := rfl
theorem i_X4_find_1 : tab t_X4_find 1 = some (.istore_n 3, 1, 3, 0, 0, 0, 0, 0, 0, 0, []) := rfl
theorem i_X4_find_2 : tab t_X4_find 2 = some (.iload_n 3, 1, 3, 0, 0, 0, 0, 0, 0, 0, []) := rfl
theorem i_X4_find_3 : tab t_X4_find 3 = some (.bipush 24, 2, 0, 24, 0, 0, 0, 0, 0, 0, []) := rfl
theorem i_X4_find_5 : tab t_X4_find 5 = some (.if_icmp .ge 59, 3, 64, 0, 0, 0, 0, 0, 0, 0, []) := rfl
theorem i_X4_find_8 : tab t_X4_find 8 = some (.aload_n 1, 1, 1, 0, 0, 0, 0, 0, 0, 0, []) := rfl
theorem i_X4_find_9 : tab t_X4_find 9 = some (.getfield 21, 3, 2, 0, 0, 7, 1, 0, 0, 0, []) := rfl
theorem i_X4_find_12 : tab t_X4_find 12 = some (.iload_n 3, 1, 3, 0, 0, 0, 0, 0, 0, 0, []) := rfl
theorem i_X4_find_13 : tab t_X4_find 13 = some (.iconst 3, 1, 0, 3, 0, 0, 0, 0, 0, 0, []) := rfl
theorem i_X4_find_14 : tab t_X4_find 14 = some (.invokevirtual 27, 3, 2, 0, 0, 0, 60, 7, 0, 0, []) := rfl
theorem i_X4_find_17 : tab t_X4_find 17 = some (.istore 4, 2, 4, 0, 0, 0, 0, 0, 0, 0, []) := rfl
theorem i_X4_find_19 : tab t_X4_find 19 = some (.aload_n 0, 1, 0, 0, 0, 0, 0, 0, 0, 0, []) := rfl
theorem i_X4_find_20 : tab t_X4_find 20 = some (.getfield 9, 3, 2, 0, 0, 4, 0, 0, 0, 0, []) := rfl
theorem i_X4_find_23 : tab t_X4_find 23 = some (.iload_n 3, 1, 3, 0, 0, 0, 0, 0, 0, 0, []) := rfl
theorem i_X4_find_24 : tab t_X4_find 24 = some (.aload_n 1, 1, 1, 0, 0, 0, 0, 0, 0, 0, []) := rfl
theorem i_X4_find_25 : tab t_X4_find 25 = some (.getfield 33, 3, 2, 0, 0, 7, 0, 0, 0, 0, []) := rfl
theorem i_X4_find_28 : tab t_X4_find 28 = some (.iload 4, 2, 4, 0, 0, 0, 0, 0, 0, 0, []) := rfl
theorem i_X4_find_30 : tab t_X4_find 30 = some (.iconst 2, 1, 0, 2, 0, 0, 0, 0, 0, 0, []) := rfl
theorem i_X4_find_31 : tab t_X4_find 31 = some (.invokevirtual 27, 3, 2, 0, 0, 0, 60, 7, 0, 0, []) := rfl
theorem i_X4_find_34 : tab t_X4_find 34 = some (.iastore, 1, 0, 0, 0, 0, 0, 0, 0, 0, []) := rfl
theorem i_X4_find_35 : tab t_X4_find 35 = some (.aload_n 0, 1, 0, 0, 0, 0, 0, 0, 0, 0, []) := rfl
theorem i_X4_find_36 : tab t_X4_find 36 = some (.getfield 15, 3, 2, 0, 0, 4, 1, 0, 0, 0, []) := rfl
theorem i_X4_find_39 : tab t_X4_find 39 = some (.iload_n 3, 1, 3, 0, 0, 0, 0, 0, 0, 0, []) := rfl
theorem i_X4_find_40 : tab t_X4_find 40 = some (.aload_n 1, 1, 1, 0, 0, 0, 0, 0, 0, 0, []) := rfl
theorem i_X4_find_41 : tab t_X4_find 41 = some (.getfield 33, 3, 2, 0, 0, 7, 0, 0, 0, 0, []) := rfl
theorem i_X4_find_44 : tab t_X4_find 44 = some (.iload 4, 2, 4, 0, 0, 0, 0, 0, 0, 0, []) := rfl
theorem i_X4_find_46 : tab t_X4_find 46 = some (.iconst 3, 1, 0, 3, 0, 0, 0, 0, 0, 0, []) := rfl
theorem i_X4_find_47 : tab t_X4_find 47 = some (.invokevirtual 27, 3, 2, 0, 0, 0, 60, 7, 0, 0, []) := rfl
theorem i_X4_find_50 : tab t_X4_find 50 = some (.iastore, 1, 0, 0, 0, 0, 0, 0, 0, 0, []) := rfl
theorem i_X4_find_51 : tab t_X4_find 51 = some (.aload_n 0, 1, 0, 0, 0, 0, 0, 0, 0, 0, []) := rfl
theorem i_X4_find_52 : tab t_X4_find 52 = some (.getfield 18, 3, 2, 0, 0, 4, 2, 0, 0, 0, []) := rfl
theorem i_X4_find_55 : tab t_X4_find 55 = some (.iload_n 3, 1, 3, 0, 0, 0, 0, 0, 0, 0, []) := rfl
theorem i_X4_find_56 : tab t_X4_find 56 = some (.iconst (-1), 1, 0, -1, 0, 0, 0, 0, 0, 0, []) := rfl
theorem i_X4_find_57 : tab t_X4_find 57 = some (.iastore, 1, 0, 0, 0, 0, 0, 0, 0, 0, []) := rfl
theorem i_X4_find_58 : tab t_X4_find 58 = some (.iinc 3 1, 3, 3, 1, 0, 0, 0, 0, 0, 0, []) := rfl
theorem i_X4_find_61 : tab t_X4_find 61 = some (.goto (-59), 3, 2, 0, 0, 0, 0, 0, 0, 0, []) := rfl
theorem i_X4_find_64 : tab t_X4_find 64 = some (.iconst 0, 1, 0, 0, 0, 0, 0, 0, 0, 0, []) := rfl
theorem i_X4_find_65 : tab t_X4_find 65 = some (.istore_n 3, 1, 3, 0, 0, 0, 0, 0, 0, 0, []) := rfl
theorem i_X4_find_66 : tab t_X4_find 66 = some (.iload_n 3, 1, 3, 0, 0, 0, 0, 0, 0, 0, []) := rfl
theorem i_X4_find_67 : tab t_X4_find 67 = some (.aload_n 1, 1, 1, 0, 0, 0, 0, 0, 0, 0, []) := rfl
theorem i_X4_find_68 : tab t_X4_find 68 = some (.getfield 36, 3, 2, 0, 0, 7, 2, 0, 0, 0, []) := rfl
theorem i_X4_find_71 : tab t_X4_find 71 = some (.getfield 39, 3, 0, 0, 0, 6, 3, 0, 0, 0, []) := rfl
theorem i_X4_find_74 : tab t_X4_find 74 = some (.if_icmp .ge 102, 3, 176, 0, 0, 0, 0, 0, 0, 0, []) := rfl
theorem i_X4_find_77 : tab t_X4_find 77 = some (.aload_n 1, 1, 1, 0, 0, 0, 0, 0, 0, 0, []) := rfl
theorem i_X4_find_78 : tab t_X4_find 78 = some (.getfield 36, 3, 2, 0, 0, 7, 2, 0, 0, 0, []) := rfl
theorem i_X4_find_81 : tab t_X4_find 81 = some (.iload_n 3, 1, 3, 0, 0, 0, 0, 0, 0, 0, []) := rfl
theorem i_X4_find_82 : tab t_X4_find 82 = some (.iconst 0, 1, 0, 0, 0, 0, 0, 0, 0, 0, []) := rfl
theorem i_X4_find_83 : tab t_X4_find 83 = some (.invokevirtual 27, 3, 2, 0, 0, 0, 60, 7, 0, 0, []) := rfl
theorem i_X4_find_86 : tab t_X4_find 86 = some (.istore 4, 2, 4, 0, 0, 0, 0, 0, 0, 0, []) := rfl
theorem i_X4_find_88 : tab t_X4_find 88 = some (.aload_n 1, 1, 1, 0, 0, 0, 0, 0, 0, 0, []) := rfl
theorem i_X4_find_89 : tab t_X4_find 89 = some (.getfield 36, 3, 2, 0, 0, 7, 2, 0, 0, 0, []) := rfl
theorem i_X4_find_92 : tab t_X4_find 92 = some (.iload_n 3, 1, 3, 0, 0, 0, 0, 0, 0, 0, []) := rfl
theorem i_X4_find_93 : tab t_X4_find 93 = some (.iconst 1, 1, 0, 1, 0, 0, 0, 0, 0, 0, []) := rfl
theorem i_X4_find_94 : tab t_X4_find 94 = some (.invokevirtual 27, 3, 2, 0, 0, 0, 60, 7, 0, 0, []) := rfl
theorem i_X4_find_97 : tab t_X4_find 97 = some (.istore 5, 2, 5, 0, 0, 0, 0, 0, 0, 0, []) := rfl
theorem i_X4_find_99 : tab t_X4_find 99 = some (.iload 4, 2, 4, 0, 0, 0, 0, 0, 0, 0, []) := rfl
theorem i_X4_find_101 : tab t_X4_find 101 = some (.ifCond .lt 69, 3, 170, 0, 0, 0, 0, 0, 0, 0, []) := rfl
theorem i_X4_find_104 : tab t_X4_find 104 = some (.iload 4, 2, 4, 0, 0, 0, 0, 0, 0, 0, []) := rfl
theorem i_X4_find_106 : tab t_X4_find 106 = some (.bipush 24, 2, 0, 24, 0, 0, 0, 0, 0, 0, []) := rfl
theorem i_X4_find_108 : tab t_X4_find 108 = some (.if_icmp .ge 62, 3, 170, 0, 0, 0, 0, 0, 0, 0, []) := rfl
theorem i_X4_find_111 : tab t_X4_find 111 = some (.iload 5, 2, 5, 0, 0, 0, 0, 0, 0, 0, []) := rfl
theorem i_X4_find_113 : tab t_X4_find 113 = some (.iload_n 2, 1, 2, 0, 0, 0, 0, 0, 0, 0, []) := rfl
theorem i_X4_find_114 : tab t_X4_find 114 = some (.if_icmp .gt 56, 3, 170, 0, 0, 0, 0, 0, 0, 0, []) := rfl
theorem i_X4_find_117 : tab t_X4_find 117 = some (.iload 5, 2, 5, 0, 0, 0, 0, 0, 0, 0, []) := rfl
theorem i_X4_find_119 : tab t_X4_find 119 = some (.aload_n 0, 1, 0, 0, 0, 0, 0, 0, 0, 0, []) := rfl
theorem i_X4_find_120 : tab t_X4_find 120 = some (.getfield 18, 3, 2, 0, 0, 4, 2, 0, 0, 0, []) := rfl
theorem i_X4_find_123 : tab t_X4_find 123 = some (.iload 4, 2, 4, 0, 0, 0, 0, 0, 0, 0, []) := rfl
theorem i_X4_find_125 : tab t_X4_find 125 = some (.iaload, 1, 0, 0, 0, 0, 0, 0, 0, 0, []) := rfl
theorem i_X4_find_126 : tab t_X4_find 126 = some (.if_icmp .lt 44, 3, 170, 0, 0, 0, 0, 0, 0, 0, []) := rfl
theorem i_X4_find_129 : tab t_X4_find 129 = some (.aload_n 0, 1, 0, 0, 0, 0, 0, 0, 0, 0, []) := rfl
theorem i_X4_find_130 : tab t_X4_find 130 = some (.getfield 9, 3, 2, 0, 0, 4, 0, 0, 0, 0, []) := rfl
theorem i_X4_find_133 : tab t_X4_find 133 = some (.iload 4, 2, 4, 0, 0, 0, 0, 0, 0, 0, []) := rfl
theorem i_X4_find_135 : tab t_X4_find 135 = some (.aload_n 1, 1, 1, 0, 0, 0, 0, 0, 0, 0, []) := rfl
theorem i_X4_find_136 : tab t_X4_find 136 = some (.getfield 36, 3, 2, 0, 0, 7, 2, 0, 0, 0, []) := rfl
theorem i_X4_find_139 : tab t_X4_find 139 = some (.iload_n 3, 1, 3, 0, 0, 0, 0, 0, 0, 0, []) := rfl
theorem i_X4_find_140 : tab t_X4_find 140 = some (.iconst 2, 1, 0, 2, 0, 0, 0, 0, 0, 0, []) := rfl
theorem i_X4_find_141 : tab t_X4_find 141 = some (.invokevirtual 27, 3, 2, 0, 0, 0, 60, 7, 0, 0, []) := rfl
theorem i_X4_find_144 : tab t_X4_find 144 = some (.iastore, 1, 0, 0, 0, 0, 0, 0, 0, 0, []) := rfl
theorem i_X4_find_145 : tab t_X4_find 145 = some (.aload_n 0, 1, 0, 0, 0, 0, 0, 0, 0, 0, []) := rfl
theorem i_X4_find_146 : tab t_X4_find 146 = some (.getfield 15, 3, 2, 0, 0, 4, 1, 0, 0, 0, []) := rfl
theorem i_X4_find_149 : tab t_X4_find 149 = some (.iload 4, 2, 4, 0, 0, 0, 0, 0, 0, 0, []) := rfl
theorem i_X4_find_151 : tab t_X4_find 151 = some (.aload_n 1, 1, 1, 0, 0, 0, 0, 0, 0, 0, []) := rfl
theorem i_X4_find_152 : tab t_X4_find 152 = some (.getfield 36, 3, 2, 0, 0, 7, 2, 0, 0, 0, []) := rfl
theorem i_X4_find_155 : tab t_X4_find 155 = some (.iload_n 3, 1, 3, 0, 0, 0, 0, 0, 0, 0, []) := rfl
theorem i_X4_find_156 : tab t_X4_find 156 = some (.iconst 3, 1, 0, 3, 0, 0, 0, 0, 0, 0, []) := rfl
theorem i_X4_find_157 : tab t_X4_find 157 = some (.invokevirtual 27, 3, 2, 0, 0, 0, 60, 7, 0, 0, []) := rfl
theorem i_X4_find_160 : tab t_X4_find 160 = some (.iastore, 1, 0, 0, 0, 0, 0, 0, 0, 0, []) := rfl
theorem i_X4_find_161 : tab t_X4_find 161 = some (.aload_n 0, 1, 0, 0, 0, 0, 0, 0, 0, 0, []) := rfl
theorem i_X4_find_162 : tab t_X4_find 162 = some (.getfield 18, 3, 2, 0, 0, 4, 2, 0, 0, 0, []) := rfl
theorem i_X4_find_165 : tab t_X4_find 165 = some (.iload 4, 2, 4, 0, 0, 0, 0, 0, 0, 0, []) := rfl
theorem i_X4_find_167 : tab t_X4_find 167 = some (.iload 5, 2, 5, 0, 0, 0, 0, 0, 0, 0, []) := rfl
theorem i_X4_find_169 : tab t_X4_find 169 = some (.iastore, 1, 0, 0, 0, 0, 0, 0, 0, 0, []) := rfl
theorem i_X4_find_170 : tab t_X4_find 170 = some (.iinc 3 1, 3, 3, 1, 0, 0, 0, 0, 0, 0, []) := rfl
theorem i_X4_find_173 : tab t_X4_find 173 = some (.goto (-107), 3, 66, 0, 0, 0, 0, 0, 0, 0, []) := rfl
theorem i_X4_find_176 : tab t_X4_find 176 = some (.return_, 1, 0, 0, 0, 0, 0, 0, 0, 0, []) := rfl
def t_X4_toSpot : List (Nat × rw_) := [(0, (.iload_n 1, 1, 1, 0, 0, 0, 0, 0, 0, 0, [])), (1, (.ifCond .lt 9, 3, 10, 0, 0, 0, 0, 0, 0, 0, [])), (4, (.iload_n 1, 1, 1, 0, 0, 0, 0, 0, 0, 0, [])), (5, (.bipush 24, 2, 0, 24, 0, 0, 0, 0, 0, 0, [])), (7, (.if_icmp .lt 5, 3, 12, 0, 0, 0, 0, 0, 0, 0, [])), (10, (.iconst (-1), 1, 0, -1, 0, 0, 0, 0, 0, 0, [])), (11, (.ireturn, 1, 0, 0, 0, 0, 0, 0, 0, 0, [])), (12, (.aload_n 0, 1, 0, 0, 0, 0, 0, 0, 0, 0, [])), (13, (.getfield 9, 3, 2, 0, 0, 4, 0, 0, 0, 0, [])), (16, (.iload_n 1, 1, 1, 0, 0, 0, 0, 0, 0, 0, [])), (17, (.iaload, 1, 0, 0, 0, 0, 0, 0, 0, 0, [])), (18, (.iload_n 2, 1, 2, 0, 0, 0, 0, 0, 0, 0, [])), (19, (.isub, 1, 0, 0, 0, 0, 0, 0, 0, 0, [])), (20, (.invokestatic 43, 3, 0, 0, 0, 9, 0, 0, 0, 0, [])), (23, (.aload_n 0, 1, 0, 0, 0, 0, 0, 0, 0, 0, [])), (24, (.getfield 15, 3, 2, 0, 0, 4, 1, 0, 0, 0, [])), (27, (.iload_n 1, 1, 1, 0, 0, 0, 0, 0, 0, 0, [])), (28, (.iaload, 1, 0, 0, 0, 0, 0, 0, 0, 0, [])), (29, (.iload_n 3, 1, 3, 0, 0, 0, 0, 0, 0, 0, [])), (30, (.isub, 1, 0, 0, 0, 0, 0, 0, 0, 0, [])), (31, (.invokestatic 43, 3, 0, 0, 0, 9, 0, 0, 0, 0, [])), (34, (.iadd, 1, 0, 0, 0, 0, 0, 0, 0, 0, [])), (35, (.ireturn, 1, 0, 0, 0, 0, 0, 0, 0, 0, []))]
set_option maxRecDepth 100000 in
theorem ok_X4_toSpot : tb_ok ctX4 m_X4_toSpot t_X4_toSpot = true := by decide +kernel
theorem i_X4_toSpot_0 : tab t_X4_toSpot 0 = some (.iload_n 1, 1, 1, 0, 0, 0, 0, 0, 0, 0, []) := rfl
theorem i_X4_toSpot_1 : tab t_X4_toSpot 1 = some (.ifCond .lt 9, 3, 10, 0, 0, 0, 0, 0, 0, 0, []) := rfl
theorem i_X4_toSpot_4 : tab t_X4_toSpot 4 = some (.iload_n 1, 1, 1, 0, 0, 0, 0, 0, 0, 0, []) := rfl
theorem i_X4_toSpot_5 : tab t_X4_toSpot 5 = some (.bipush 24, 2, 0, 24, 0, 0, 0, 0, 0, 0, []) := rfl
theorem i_X4_toSpot_7 : tab t_X4_toSpot 7 = some (.if_icmp .lt 5, 3, 12, 0, 0, 0, 0, 0, 0, 0, []) := rfl
theorem i_X4_toSpot_10 : tab t_X4_toSpot 10 = some (.iconst (-1), 1, 0, -1, 0, 0, 0, 0, 0, 0, []) := rfl
theorem i_X4_toSpot_11 : tab t_X4_toSpot 11 = some (.ireturn, 1, 0, 0, 0, 0, 0, 0, 0, 0, []) := rfl
theorem i_X4_toSpot_12 : tab t_X4_toSpot 12 = some (.aload_n 0, 1, 0, 0, 0, 0, 0, 0, 0, 0, []) := rfl
theorem i_X4_toSpot_13 : tab t_X4_toSpot 13 = some (.getfield 9, 3, 2, 0, 0, 4, 0, 0, 0, 0, []) := rfl
theorem i_X4_toSpot_16 : tab t_X4_toSpot 16 = some (.iload_n 1, 1, 1, 0, 0, 0, 0, 0, 0, 0, []) := rfl
theorem i_X4_toSpot_17 : tab t_X4_toSpot 17 = some (.iaload, 1, 0, 0, 0, 0, 0, 0, 0, 0, []) := rfl
theorem i_X4_toSpot_18 : tab t_X4_toSpot 18 = some (.iload_n 2, 1, 2, 0, 0, 0, 0, 0, 0, 0, []) := rfl
theorem i_X4_toSpot_19 : tab t_X4_toSpot 19 = some (.isub, 1, 0, 0, 0, 0, 0, 0, 0, 0, []) := rfl
theorem i_X4_toSpot_20 : tab t_X4_toSpot 20 = some (.invokestatic 43, 3, 0, 0, 0, 9, 0, 0, 0, 0, []) := rfl
theorem i_X4_toSpot_23 : tab t_X4_toSpot 23 = some (.aload_n 0, 1, 0, 0, 0, 0, 0, 0, 0, 0, []) := rfl
theorem i_X4_toSpot_24 : tab t_X4_toSpot 24 = some (.getfield 15, 3, 2, 0, 0, 4, 1, 0, 0, 0, []) := rfl
theorem i_X4_toSpot_27 : tab t_X4_toSpot 27 = some (.iload_n 1, 1, 1, 0, 0, 0, 0, 0, 0, 0, []) := rfl
theorem i_X4_toSpot_28 : tab t_X4_toSpot 28 = some (.iaload, 1, 0, 0, 0, 0, 0, 0, 0, 0, []) := rfl
theorem i_X4_toSpot_29 : tab t_X4_toSpot 29 = some (.iload_n 3, 1, 3, 0, 0, 0, 0, 0, 0, 0, []) := rfl
theorem i_X4_toSpot_30 : tab t_X4_toSpot 30 = some (.isub, 1, 0, 0, 0, 0, 0, 0, 0, 0, []) := rfl
theorem i_X4_toSpot_31 : tab t_X4_toSpot 31 = some (.invokestatic 43, 3, 0, 0, 0, 9, 0, 0, 0, 0, []) := rfl
theorem i_X4_toSpot_34 : tab t_X4_toSpot 34 = some (.iadd, 1, 0, 0, 0, 0, 0, 0, 0, 0, []) := rfl
theorem i_X4_toSpot_35 : tab t_X4_toSpot 35 = some (.ireturn, 1, 0, 0, 0, 0, 0, 0, 0, 0, []) := rfl
def t_X4_areWithin : List (Nat × rw_) := [(0, (.iload_n 1, 1, 1, 0, 0, 0, 0, 0, 0, 0, [])), (1, (.ifCond .lt 19, 3, 20, 0, 0, 0, 0, 0, 0, 0, [])), (4, (.iload_n 1, 1, 1, 0, 0, 0, 0, 0, 0, 0, [])), (5, (.bipush 24, 2, 0, 24, 0, 0, 0, 0, 0, 0, [])), (7, (.if_icmp .ge 13, 3, 20, 0, 0, 0, 0, 0, 0, 0, [])), (10, (.iload_n 2, 1, 2, 0, 0, 0, 0, 0, 0, 0, [])), (11, (.ifCond .lt 9, 3, 20, 0, 0, 0, 0, 0, 0, 0, [])), (14, (.iload_n 2, 1, 2, 0, 0, 0, 0, 0, 0, 0, [])), (15, (.bipush 24, 2, 0, 24, 0, 0, 0, 0, 0, 0, [])), (17, (.if_icmp .lt 5, 3, 22, 0, 0, 0, 0, 0, 0, 0, [])), (20, (.iconst 0, 1, 0, 0, 0, 0, 0, 0, 0, 0, [])), (21, (.ireturn, 1, 0, 0, 0, 1, 0, 0, 0, 0, [])), (22, (.aload_n 0, 1, 0, 0, 0, 0, 0, 0, 0, 0, [])), (23, (.getfield 9, 3, 2, 0, 0, 4, 0, 0, 0, 0, [])), (26, (.iload_n 1, 1, 1, 0, 0, 0, 0, 0, 0, 0, [])), (27, (.iaload, 1, 0, 0, 0, 0, 0, 0, 0, 0, [])), (28, (.aload_n 0, 1, 0, 0, 0, 0, 0, 0, 0, 0, [])), (29, (.getfield 9, 3, 2, 0, 0, 4, 0, 0, 0, 0, [])), (32, (.iload_n 2, 1, 2, 0, 0, 0, 0, 0, 0, 0, [])), (33, (.iaload, 1, 0, 0, 0, 0, 0, 0, 0, 0, [])), (34, (.isub, 1, 0, 0, 0, 0, 0, 0, 0, 0, [])), (35, (.invokestatic 43, 3, 0, 0, 0, 9, 0, 0, 0, 0, [])), (38, (.aload_n 0, 1, 0, 0, 0, 0, 0, 0, 0, 0, [])), (39, (.getfield 15, 3, 2, 0, 0, 4, 1, 0, 0, 0, [])), (42, (.iload_n 1, 1, 1, 0, 0, 0, 0, 0, 0, 0, [])), (43, (.iaload, 1, 0, 0, 0, 0, 0, 0, 0, 0, [])), (44, (.aload_n 0, 1, 0, 0, 0, 0, 0, 0, 0, 0, [])), (45, (.getfield 15, 3, 2, 0, 0, 4, 1, 0, 0, 0, [])), (48, (.iload_n 2, 1, 2, 0, 0, 0, 0, 0, 0, 0, [])), (49, (.iaload, 1, 0, 0, 0, 0, 0, 0, 0, 0, [])), (50, (.isub, 1, 0, 0, 0, 0, 0, 0, 0, 0, [])), (51, (.invokestatic 43, 3, 0, 0, 0, 9, 0, 0, 0, 0, [])), (54, (.iadd, 1, 0, 0, 0, 0, 0, 0, 0, 0, [])), (55, (.iload_n 3, 1, 3, 0, 0, 0, 0, 0, 0, 0, [])), (56, (.if_icmp .gt 7, 3, 63, 0, 0, 0, 0, 0, 0, 0, [])), (59, (.iconst 1, 1, 0, 1, 0, 0, 0, 0, 0, 0, [])), (60, (.goto 4, 3, 64, 0, 0, 0, 0, 0, 0, 0, [])), (63, (.iconst 0, 1, 0, 0, 0, 0, 0, 0, 0, 0, [])), (64, (.ireturn, 1, 0, 0, 0, 1, 0, 0, 0, 0, []))]
set_option maxRecDepth 100000 in
theorem ok_X4_areWithin : tb_ok ctX4 m_X4_areWithin t_X4_areWithin = true := by decide +kernel
theorem i_X4_areWithin_0 : tab t_X4_areWithin 0 = some (.iload_n 1, 1, 1, 0, 0, 0, 0, 0, 0, 0, []) := rfl
theorem i_X4_areWithin_1 : tab t_X4_areWithin 1 = some (.ifCond .lt 19, 3, 20, 0, 0, 0, 0, 0, 0, 0, []) := rfl
theorem i_X4_areWithin_4 : tab t_X4_areWithin 4 = some (.iload_n 1, 1, 1, 0, 0, 0, 0, 0, 0, 0, []) := rfl
theorem i_X4_areWithin_5 : tab t_X4_areWithin 5 = some (.bipush 24, 2, 0, 24, 0, 0, 0, 0, 0, 0, []) := rfl
theorem i_X4_areWithin_7 : tab t_X4_areWithin 7 = some (.if_icmp .ge 13, 3, 20, 0, 0, 0, 0, 0, 0, 0, []) := rfl
theorem i_X4_areWithin_10 : tab t_X4_areWithin 10 = some (.iload_n 2, 1, 2, 0, 0, 0, 0, 0, 0, 0, []) := rfl
theorem i_X4_areWithin_11 : tab t_X4_areWithin 11 = some (.ifCond .lt 9, 3, 20, 0, 0, 0, 0, 0, 0, 0, []) := rfl
theorem i_X4_areWithin_14 : tab t_X4_areWithin 14 = some (.iload_n 2, 1, 2, 0, 0, 0, 0, 0, 0, 0, []) := rfl
theorem i_X4_areWithin_15 : tab t_X4_areWithin 15 = some (.bipush 24, 2, 0, 24, 0, 0, 0, 0, 0, 0, []) := rfl
theorem i_X4_areWithin_17 : tab t_X4_areWithin 17 = some (.if_icmp .lt 5, 3, 22, 0, 0, 0, 0, 0, 0, 0, []) := rfl
theorem i_X4_areWithin_20 : tab t_X4_areWithin 20 = some (.iconst 0, 1, 0, 0, 0, 0, 0, 0, 0, 0, []) := rfl
theorem i_X4_areWithin_21 : tab t_X4_areWithin 21 = some (.ireturn, 1, 0, 0, 0, 1, 0, 0, 0, 0, []) := rfl
theorem i_X4_areWithin_22 : tab t_X4_areWithin 22 = some (.aload_n 0, 1, 0, 0, 0, 0, 0, 0, 0, 0, []) := rfl
theorem i_X4_areWithin_23 : tab t_X4_areWithin 23 = some (.getfield 9, 3, 2, 0, 0, 4, 0, 0, 0, 0, []) := rfl
theorem i_X4_areWithin_26 : tab t_X4_areWithin 26 = some (.iload_n 1, 1, 1, 0, 0, 0, 0, 0, 0, 0, []) := rfl
theorem i_X4_areWithin_27 : tab t_X4_areWithin 27 = some (.iaload, 1, 0, 0, 0, 0, 0, 0, 0, 0, []) := rfl
theorem i_X4_areWithin_28 : tab t_X4_areWithin 28 = some (.aload_n 0, 1, 0, 0, 0, 0, 0, 0, 0, 0, []) := rfl
theorem i_X4_areWithin_29 : tab t_X4_areWithin 29 = some (.getfield 9, 3, 2, 0, 0, 4, 0, 0, 0, 0, []) := rfl
theorem i_X4_areWithin_32 : tab t_X4_areWithin 32 = some (.iload_n 2, 1, 2, 0, 0, 0, 0, 0, 0, 0, []) := rfl
theorem i_X4_areWithin_33 : tab t_X4_areWithin 33 = some (.iaload, 1, 0, 0, 0, 0, 0, 0, 0, 0, []) := rfl
theorem i_X4_areWithin_34 : tab t_X4_areWithin 34 = some (.isub, 1, 0, 0, 0, 0, 0, 0, 0, 0, []) := rfl
theorem i_X4_areWithin_35 : tab t_X4_areWithin 35 = some (.invokestatic 43, 3, 0, 0, 0, 9, 0, 0, 0, 0, []) := rfl
theorem i_X4_areWithin_38 : tab t_X4_areWithin 38 = some (.aload_n 0, 1, 0, 0, 0, 0, 0, 0, 0, 0, []) := rfl
theorem i_X4_areWithin_39 : tab t_X4_areWithin 39 = some (.getfield 15, 3, 2, 0, 0, 4, 1, 0, 0, 0, []) := rfl
theorem i_X4_areWithin_42 : tab t_X4_areWithin 42 = some (.iload_n 1, 1, 1, 0, 0, 0, 0, 0, 0, 0, []) := rfl
theorem i_X4_areWithin_43 : tab t_X4_areWithin 43 = some (.iaload, 1, 0, 0, 0, 0, 0, 0, 0, 0, []) := rfl
theorem i_X4_areWithin_44 : tab t_X4_areWithin 44 = some (.aload_n 0, 1, 0, 0, 0, 0, 0, 0, 0, 0, []) := rfl
theorem i_X4_areWithin_45 : tab t_X4_areWithin 45 = some (.getfield 15, 3, 2, 0, 0, 4, 1, 0, 0, 0, []) := rfl
theorem i_X4_areWithin_48 : tab t_X4_areWithin 48 = some (.iload_n 2, 1, 2, 0, 0, 0, 0, 0, 0, 0, []) := rfl
theorem i_X4_areWithin_49 : tab t_X4_areWithin 49 = some (.iaload, 1, 0, 0, 0, 0, 0, 0, 0, 0, []) := rfl
theorem i_X4_areWithin_50 : tab t_X4_areWithin 50 = some (.isub, 1, 0, 0, 0, 0, 0, 0, 0, 0, []) := rfl
theorem i_X4_areWithin_51 : tab t_X4_areWithin 51 = some (.invokestatic 43, 3, 0, 0, 0, 9, 0, 0, 0, 0, []) := rfl
theorem i_X4_areWithin_54 : tab t_X4_areWithin 54 = some (.iadd, 1, 0, 0, 0, 0, 0, 0, 0, 0, []) := rfl
theorem i_X4_areWithin_55 : tab t_X4_areWithin 55 = some (.iload_n 3, 1, 3, 0, 0, 0, 0, 0, 0, 0, []) := rfl
theorem i_X4_areWithin_56 : tab t_X4_areWithin 56 = some (.if_icmp .gt 7, 3, 63, 0, 0, 0, 0, 0, 0, 0, []) := rfl
theorem i_X4_areWithin_59 : tab t_X4_areWithin 59 = some (.iconst 1, 1, 0, 1, 0, 0, 0, 0, 0, 0, []) := rfl
theorem i_X4_areWithin_60 : tab t_X4_areWithin 60 = some (.goto 4, 3, 64, 0, 0, 0, 0, 0, 0, 0, []) := rfl
theorem i_X4_areWithin_63 : tab t_X4_areWithin 63 = some (.iconst 0, 1, 0, 0, 0, 0, 0, 0, 0, 0, []) := rfl
theorem i_X4_areWithin_64 : tab t_X4_areWithin 64 = some (.ireturn, 1, 0, 0, 0, 1, 0, 0, 0, 0, []) := rfl
