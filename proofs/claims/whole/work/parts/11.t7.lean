/-! 11: tables of class 7 -/
def t_X7_init : List (Nat × rw_) := [(0, (.aload_n 0, 1, 0, 0, 0, 0, 0, 0, 0, 0, [])), (1, (.invokespecial 3, 3, 0, 0, 0, 6, 0, 0, 0, 0, [])), (4, (.aload_n 0, 1, 0, 0, 0, 0, 0, 0, 0, 0, [])), (5, (.new 9, 3, 0, 0, 0, 6, 4, 0, 0, 0, [])), (8, (.dup, 1, 0, 0, 0, 0, 0, 0, 0, 0, [])), (9, (.iconst 5, 1, 0, 5, 0, 0, 0, 0, 0, 0, [])), (10, (.bipush 12, 2, 0, 12, 0, 0, 0, 0, 0, 0, [])), (12, (.invokespecial 11, 3, 2, 0, 0, 0, 58, 0, 1, 800, [])), (15, (.putfield 14, 3, 2, 0, 0, 7, 0, 1, 0, 0, [])), (18, (.aload_n 0, 1, 0, 0, 0, 0, 0, 0, 0, 0, [])), (19, (.new 9, 3, 0, 0, 0, 6, 4, 0, 0, 0, [])), (22, (.dup, 1, 0, 0, 0, 0, 0, 0, 0, 0, [])), (23, (.bipush 6, 2, 0, 6, 0, 0, 0, 0, 0, 0, [])), (25, (.bipush 24, 2, 0, 24, 0, 0, 0, 0, 0, 0, [])), (27, (.invokespecial 11, 3, 2, 0, 0, 0, 58, 0, 1, 800, [])), (30, (.putfield 20, 3, 2, 0, 0, 7, 1, 1, 0, 0, [])), (33, (.aload_n 0, 1, 0, 0, 0, 0, 0, 0, 0, 0, [])), (34, (.new 9, 3, 0, 0, 0, 6, 4, 0, 0, 0, [])), (37, (.dup, 1, 0, 0, 0, 0, 0, 0, 0, 0, [])), (38, (.iconst 4, 1, 0, 4, 0, 0, 0, 0, 0, 0, [])), (39, (.sipush 200, 3, 0, 200, 0, 0, 0, 0, 0, 0, [])), (42, (.invokespecial 11, 3, 2, 0, 0, 0, 58, 0, 1, 800, [])), (45, (.putfield 23, 3, 2, 0, 0, 7, 2, 1, 0, 0, [])), (48, (.aload_n 0, 1, 0, 0, 0, 0, 0, 0, 0, 0, [])), (49, (.new 9, 3, 0, 0, 0, 6, 4, 0, 0, 0, [])), (52, (.dup, 1, 0, 0, 0, 0, 0, 0, 0, 0, [])), (53, (.iconst 4, 1, 0, 4, 0, 0, 0, 0, 0, 0, [])), (54, (.bipush 24, 2, 0, 24, 0, 0, 0, 0, 0, 0, [])), (56, (.invokespecial 11, 3, 2, 0, 0, 0, 58, 0, 1, 800, [])), (59, (.putfield 26, 3, 2, 0, 0, 7, 3, 1, 0, 0, [])), (62, (.aload_n 0, 1, 0, 0, 0, 0, 0, 0, 0, 0, [])), (63, (.new 9, 3, 0, 0, 0, 6, 4, 0, 0, 0, [])), (66, (.dup, 1, 0, 0, 0, 0, 0, 0, 0, 0, [])), (67, (.iconst 2, 1, 0, 2, 0, 0, 0, 0, 0, 0, [])), (68, (.bipush 96, 2, 0, 96, 0, 0, 0, 0, 0, 0, [])), (70, (.invokespecial 11, 3, 2, 0, 0, 0, 58, 0, 1, 800, [])), (73, (.putfield 29, 3, 2, 0, 0, 7, 4, 1, 0, 0, [])), (76, (.aload_n 0, 1, 0, 0, 0, 0, 0, 0, 0, 0, [])), (77, (.new 9, 3, 0, 0, 0, 6, 4, 0, 0, 0, [])), (80, (.dup, 1, 0, 0, 0, 0, 0, 0, 0, 0, [])), (81, (.iconst 4, 1, 0, 4, 0, 0, 0, 0, 0, 0, [])), (82, (.sipush 200, 3, 0, 200, 0, 0, 0, 0, 0, 0, [])), (85, (.invokespecial 11, 3, 2, 0, 0, 0, 58, 0, 1, 800, [])), (88, (.putfield 32, 3, 2, 0, 0, 7, 5, 1, 0, 0, [])), (91, (.aload_n 0, 1, 0, 0, 0, 0, 0, 0, 0, 0, [])), (92, (.new 9, 3, 0, 0, 0, 6, 4, 0, 0, 0, [])), (95, (.dup, 1, 0, 0, 0, 0, 0, 0, 0, 0, [])), (96, (.bipush 6, 2, 0, 6, 0, 0, 0, 0, 0, 0, [])), (98, (.bipush 60, 2, 0, 60, 0, 0, 0, 0, 0, 0, [])), (100, (.invokespecial 11, 3, 2, 0, 0, 0, 58, 0, 1, 800, [])), (103, (.putfield 35, 3, 2, 0, 0, 7, 6, 1, 0, 0, [])), (106, (.aload_n 0, 1, 0, 0, 0, 0, 0, 0, 0, 0, [])), (107, (.bipush 10, 2, 0, 10, 0, 0, 0, 0, 0, 0, [])), (109, (.putfield 38, 3, 0, 0, 0, 7, 7, 0, 0, 0, [])), (112, (.return_, 1, 0, 0, 0, 0, 0, 0, 0, 0, []))]
set_option maxRecDepth 100000 in
theorem ok_X7_init : tb_ok ctX7 m_X7_init t_X7_init = true := by decide +kernel
theorem i_X7_init_0 : tab t_X7_init 0 = some (.aload_n 0, 1, 0, 0, 0, 0, 0, 0, 0, 0, []) := rfl
theorem i_X7_init_1 : tab t_X7_init 1 = some (.invokespecial 3, 3, 0, 0, 0, 6, 0, 0, 0, 0, []) := rfl
theorem i_X7_init_4 : tab t_X7_init 4 = some (.aload_n 0, 1, 0, 0, 0, 0, 0, 0, 0, 0, []) := rfl
theorem i_X7_init_5 : tab t_X7_init 5 = some (.new 9, 3, 0, 0, 0, 6, 4, 0, 0, 0, []) := rfl
theorem i_X7_init_8 : tab t_X7_init 8 = some (.dup, 1, 0, 0, 0, 0, 0, 0, 0, 0, []) := rfl
theorem i_X7_init_9 : tab t_X7_init 9 = some (.iconst 5, 1, 0, 5, 0, 0, 0, 0, 0, 0, []) := rfl
theorem i_X7_init_10 : tab t_X7_init 10 = some (.bipush 12, 2, 0, 12, 0, 0, 0, 0, 0, 0, []) := rfl
theorem i_X7_init_12 : tab t_X7_init 12 = some (.invokespecial 11, 3, 2, 0, 0, 0, 58, 0, 1, 800, []) := rfl
theorem i_X7_init_15 : tab t_X7_init 15 = some (.putfield 14, 3, 2, 0, 0, 7, 0, 1, 0, 0, []) := rfl
theorem i_X7_init_18 : tab t_X7_init 18 = some (.aload_n 0, 1, 0, 0, 0, 0, 0, 0, 0, 0, []) := rfl
theorem i_X7_init_19 : tab t_X7_init 19 = some (.new 9, 3, 0, 0, 0, 6, 4, 0, 0, 0, []) := rfl
theorem i_X7_init_22 : tab t_X7_init 22 = some (.dup, 1, 0, 0, 0, 0, 0, 0, 0, 0, []) := rfl
theorem i_X7_init_23 : tab t_X7_init 23 = some (.bipush 6, 2, 0, 6, 0, 0, 0, 0, 0, 0, []) := rfl
theorem i_X7_init_25 : tab t_X7_init 25 = some (.bipush 24, 2, 0, 24, 0, 0, 0, 0, 0, 0, []) := rfl
theorem i_X7_init_27 : tab t_X7_init 27 = some (.invokespecial 11, 3, 2, 0, 0, 0, 58, 0, 1, 800, []) := rfl
theorem i_X7_init_30 : tab t_X7_init 30 = some (.putfield 20, 3, 2, 0, 0, 7, 1, 1, 0, 0, []) := rfl
theorem i_X7_init_33 : tab t_X7_init 33 = some (.aload_n 0, 1, 0, 0, 0, 0, 0, 0, 0, 0, []) := rfl
theorem i_X7_init_34 : tab t_X7_init 34 = some (.new 9, 3, 0, 0, 0, 6, 4, 0, 0, 0, []) := rfl
theorem i_X7_init_37 : tab t_X7_init 37 = some (.dup, 1, 0, 0, 0, 0, 0, 0, 0, 0, []) := rfl
theorem i_X7_init_38 : tab t_X7_init 38 = some (.iconst 4, 1, 0, 4, 0, 0, 0, 0, 0, 0, []) := rfl
theorem i_X7_init_39 : tab t_X7_init 39 = some (.sipush 200, 3, 0, 200, 0, 0, 0, 0, 0, 0, []) := rfl
theorem i_X7_init_42 : tab t_X7_init 42 = some (.invokespecial 11, 3, 2, 0, 0, 0, 58, 0, 1, 800, []) := rfl
theorem i_X7_init_45 : tab t_X7_init 45 = some (.putfield 23, 3, 2, 0, 0, 7, 2, 1, 0, 0, []) := rfl
theorem i_X7_init_48 : tab t_X7_init 48 = some (.aload_n 0, 1, 0, 0, 0, 0, 0, 0, 0, 0, []) := rfl
theorem i_X7_init_49 : tab t_X7_init 49 = some (.new 9, 3, 0, 0, 0, 6, 4, 0, 0, 0, []) := rfl
theorem i_X7_init_52 : tab t_X7_init 52 = some (.dup, 1, 0, 0, 0, 0, 0, 0, 0, 0, []) := rfl
theorem i_X7_init_53 : tab t_X7_init 53 = some (.iconst 4, 1, 0, 4, 0, 0, 0, 0, 0, 0, []) := rfl
theorem i_X7_init_54 : tab t_X7_init 54 = some (.bipush 24, 2, 0, 24, 0, 0, 0, 0, 0, 0, []) := rfl
theorem i_X7_init_56 : tab t_X7_init 56 = some (.invokespecial 11, 3, 2, 0, 0, 0, 58, 0, 1, 800, []) := rfl
theorem i_X7_init_59 : tab t_X7_init 59 = some (.putfield 26, 3, 2, 0, 0, 7, 3, 1, 0, 0, []) := rfl
theorem i_X7_init_62 : tab t_X7_init 62 = some (.aload_n 0, 1, 0, 0, 0, 0, 0, 0, 0, 0, []) := rfl
theorem i_X7_init_63 : tab t_X7_init 63 = some (.new 9, 3, 0, 0, 0, 6, 4, 0, 0, 0, []) := rfl
theorem i_X7_init_66 : tab t_X7_init 66 = some (.dup, 1, 0, 0, 0, 0, 0, 0, 0, 0, []) := rfl
theorem i_X7_init_67 : tab t_X7_init 67 = some (.iconst 2, 1, 0, 2, 0, 0, 0, 0, 0, 0, []) := rfl
theorem i_X7_init_68 : tab t_X7_init 68 = some (.bipush 96, 2, 0, 96, 0, 0, 0, 0, 0, 0, []) := rfl
theorem i_X7_init_70 : tab t_X7_init 70 = some (.invokespecial 11, 3, 2, 0, 0, 0, 58, 0, 1, 800, []) := rfl
theorem i_X7_init_73 : tab t_X7_init 73 = some (.putfield 29, 3, 2, 0, 0, 7, 4, 1, 0, 0, []) := rfl
theorem i_X7_init_76 : tab t_X7_init 76 = some (.aload_n 0, 1, 0, 0, 0, 0, 0, 0, 0, 0, []) := rfl
theorem i_X7_init_77 : tab t_X7_init 77 = some (.new 9, 3, 0, 0, 0, 6, 4, 0, 0, 0, []) := rfl
theorem i_X7_init_80 : tab t_X7_init 80 = some (.dup, 1, 0, 0, 0, 0, 0, 0, 0, 0, []) := rfl
theorem i_X7_init_81 : tab t_X7_init 81 = some (.iconst 4, 1, 0, 4, 0, 0, 0, 0, 0, 0, []) := rfl
theorem i_X7_init_82 : tab t_X7_init 82 = some (.sipush 200, 3, 0, 200, 0, 0, 0, 0, 0, 0, []) := rfl
theorem i_X7_init_85 : tab t_X7_init 85 = some (.invokespecial 11, 3, 2, 0, 0, 0, 58, 0, 1, 800, []) := rfl
theorem i_X7_init_88 : tab t_X7_init 88 = some (.putfield 32, 3, 2, 0, 0, 7, 5, 1, 0, 0, []) := rfl
theorem i_X7_init_91 : tab t_X7_init 91 = some (.aload_n 0, 1, 0, 0, 0, 0, 0, 0, 0, 0, []) := rfl
theorem i_X7_init_92 : tab t_X7_init 92 = some (.new 9, 3, 0, 0, 0, 6, 4, 0, 0, 0, []) := rfl
theorem i_X7_init_95 : tab t_X7_init 95 = some (.dup, 1, 0, 0, 0, 0, 0, 0, 0, 0, []) := rfl
theorem i_X7_init_96 : tab t_X7_init 96 = some (.bipush 6, 2, 0, 6, 0, 0, 0, 0, 0, 0, []) := rfl
theorem i_X7_init_98 : tab t_X7_init 98 = some (.bipush 60, 2, 0, 60, 0, 0, 0, 0, 0, 0, []) := rfl
theorem i_X7_init_100 : tab t_X7_init 100 = some (.invokespecial 11, 3, 2, 0, 0, 0, 58, 0, 1, 800, []) := rfl
theorem i_X7_init_103 : tab t_X7_init 103 = some (.putfield 35, 3, 2, 0, 0, 7, 6, 1, 0, 0, []) := rfl
theorem i_X7_init_106 : tab t_X7_init 106 = some (.aload_n 0, 1, 0, 0, 0, 0, 0, 0, 0, 0, []) := rfl
theorem i_X7_init_107 : tab t_X7_init 107 = some (.bipush 10, 2, 0, 10, 0, 0, 0, 0, 0, 0, []) := rfl
theorem i_X7_init_109 : tab t_X7_init 109 = some (.putfield 38, 3, 0, 0, 0, 7, 7, 0, 0, 0, []) := rfl
theorem i_X7_init_112 : tab t_X7_init 112 = some (.return_, 1, 0, 0, 0, 0, 0, 0, 0, 0, []) := rfl
def t_X7_become : List (Nat × rw_) := [(0, (.aload_n 0, 1, 0, 0, 0, 0, 0, 0, 0, 0, [])), (1, (.getfield 14, 3, 2, 0, 0, 7, 0, 0, 0, 0, [])), (4, (.aload_n 1, 1, 1, 0, 0, 0, 0, 0, 0, 0, [])), (5, (.getfield 14, 3, 2, 0, 0, 7, 0, 0, 0, 0, [])), (8, (.invokevirtual 42, 3, 1, 0, 0, 0, 63, 7, 0, 0, [])), (11, (.aload_n 0, 1, 0, 0, 0, 0, 0, 0, 0, 0, [])), (12, (.getfield 20, 3, 2, 0, 0, 7, 1, 0, 0, 0, [])), (15, (.aload_n 1, 1, 1, 0, 0, 0, 0, 0, 0, 0, [])), (16, (.getfield 20, 3, 2, 0, 0, 7, 1, 0, 0, 0, [])), (19, (.invokevirtual 42, 3, 1, 0, 0, 0, 63, 7, 0, 0, [])), (22, (.aload_n 0, 1, 0, 0, 0, 0, 0, 0, 0, 0, [])), (23, (.getfield 23, 3, 2, 0, 0, 7, 2, 0, 0, 0, [])), (26, (.aload_n 1, 1, 1, 0, 0, 0, 0, 0, 0, 0, [])), (27, (.getfield 23, 3, 2, 0, 0, 7, 2, 0, 0, 0, [])), (30, (.invokevirtual 42, 3, 1, 0, 0, 0, 63, 7, 0, 0, [])), (33, (.aload_n 0, 1, 0, 0, 0, 0, 0, 0, 0, 0, [])), (34, (.getfield 26, 3, 2, 0, 0, 7, 3, 0, 0, 0, [])), (37, (.aload_n 1, 1, 1, 0, 0, 0, 0, 0, 0, 0, [])), (38, (.getfield 26, 3, 2, 0, 0, 7, 3, 0, 0, 0, [])), (41, (.invokevirtual 42, 3, 1, 0, 0, 0, 63, 7, 0, 0, [])), (44, (.aload_n 0, 1, 0, 0, 0, 0, 0, 0, 0, 0, [])), (45, (.getfield 29, 3, 2, 0, 0, 7, 4, 0, 0, 0, [])), (48, (.aload_n 1, 1, 1, 0, 0, 0, 0, 0, 0, 0, [])), (49, (.getfield 29, 3, 2, 0, 0, 7, 4, 0, 0, 0, [])), (52, (.invokevirtual 42, 3, 1, 0, 0, 0, 63, 7, 0, 0, [])), (55, (.aload_n 0, 1, 0, 0, 0, 0, 0, 0, 0, 0, [])), (56, (.getfield 32, 3, 2, 0, 0, 7, 5, 0, 0, 0, [])), (59, (.aload_n 1, 1, 1, 0, 0, 0, 0, 0, 0, 0, [])), (60, (.getfield 32, 3, 2, 0, 0, 7, 5, 0, 0, 0, [])), (63, (.invokevirtual 42, 3, 1, 0, 0, 0, 63, 7, 0, 0, [])), (66, (.aload_n 0, 1, 0, 0, 0, 0, 0, 0, 0, 0, [])), (67, (.getfield 35, 3, 2, 0, 0, 7, 6, 0, 0, 0, [])), (70, (.aload_n 1, 1, 1, 0, 0, 0, 0, 0, 0, 0, [])), (71, (.getfield 35, 3, 2, 0, 0, 7, 6, 0, 0, 0, [])), (74, (.invokevirtual 42, 3, 1, 0, 0, 0, 63, 7, 0, 0, [])), (77, (.aload_n 0, 1, 0, 0, 0, 0, 0, 0, 0, 0, [])), (78, (.aload_n 1, 1, 1, 0, 0, 0, 0, 0, 0, 0, [])), (79, (.getfield 38, 3, 0, 0, 0, 7, 7, 0, 0, 0, [])), (82, (.putfield 38, 3, 0, 0, 0, 7, 7, 0, 0, 0, [])), (85, (.return_, 1, 0, 0, 0, 0, 0, 0, 0, 0, []))]
set_option maxRecDepth 100000 in
theorem ok_X7_become : tb_ok ctX7 m_X7_become t_X7_become = true := by decide +kernel
theorem i_X7_become_0 : tab t_X7_become 0 = some (.aload_n 0, 1, 0, 0, 0, 0, 0, 0, 0, 0, []) := rfl
theorem i_X7_become_1 : tab t_X7_become 1 = some (.getfield 14, 3, 2, 0, 0, 7, 0, 0, 0, 0, []) := rfl
theorem i_X7_become_4 : tab t_X7_become 4 = some (.aload_n 1, 1, 1, 0, 0, 0, 0, 0, 0, 0, []) := rfl
theorem i_X7_become_5 : tab t_X7_become 5 = some (.getfield 14, 3, 2, 0, 0, 7, 0, 0, 0, 0, []) := rfl
theorem i_X7_become_8 : tab t_X7_become 8 = some (.invokevirtual 42, 3, 1, 0, 0, 0, 63, 7, 0, 0, []) := rfl
theorem i_X7_become_11 : tab t_X7_become 11 = some (.aload_n 0, 1, 0, 0, 0, 0, 0, 0, 0, 0, []) := rfl
theorem i_X7_become_12 : tab t_X7_become 12 = some (.getfield 20, 3, 2, 0, 0, 7, 1, 0, 0, 0, []) := rfl
theorem i_X7_become_15 : tab t_X7_become 15 = some (.aload_n 1, 1, 1, 0, 0, 0, 0, 0, 0, 0, []) := rfl
theorem i_X7_become_16 : tab t_X7_become 16 = some (.getfield 20, 3, 2, 0, 0, 7, 1, 0, 0, 0, []) := rfl
theorem i_X7_become_19 : tab t_X7_become 19 = some (.invokevirtual 42, 3, 1, 0, 0, 0, 63, 7, 0, 0, []) := rfl
theorem i_X7_become_22 : tab t_X7_become 22 = some (.aload_n 0, 1, 0, 0, 0, 0, 0, 0, 0, 0, []) := rfl
theorem i_X7_become_23 : tab t_X7_become 23 = some (.getfield 23, 3, 2, 0, 0, 7, 2, 0, 0, 0, []) := rfl
theorem i_X7_become_26 : tab t_X7_become 26 = some (.aload_n 1, 1, 1, 0, 0, 0, 0, 0, 0, 0, []) := rfl
theorem i_X7_become_27 : tab t_X7_become 27 = some (.getfield 23, 3, 2, 0, 0, 7, 2, 0, 0, 0, []) := rfl
theorem i_X7_become_30 : tab t_X7_become 30 = some (.invokevirtual 42, 3, 1, 0, 0, 0, 63, 7, 0, 0, []) := rfl
theorem i_X7_become_33 : tab t_X7_become 33 = some (.aload_n 0, 1, 0, 0, 0, 0, 0, 0, 0, 0, []) := rfl
theorem i_X7_become_34 : tab t_X7_become 34 = some (.getfield 26, 3, 2, 0, 0, 7, 3, 0, 0, 0, []) := rfl
theorem i_X7_become_37 : tab t_X7_become 37 = some (.aload_n 1, 1, 1, 0, 0, 0, 0, 0, 0, 0, []) := rfl
theorem i_X7_become_38 : tab t_X7_become 38 = some (.getfield 26, 3, 2, 0, 0, 7, 3, 0, 0, 0, []) := rfl
theorem i_X7_become_41 : tab t_X7_become 41 = some (.invokevirtual 42, 3, 1, 0, 0, 0, 63, 7, 0, 0, []) := rfl
theorem i_X7_become_44 : tab t_X7_become 44 = some (.aload_n 0, 1, 0, 0, 0, 0, 0, 0, 0, 0, []) := rfl
theorem i_X7_become_45 : tab t_X7_become 45 = some (.getfield 29, 3, 2, 0, 0, 7, 4, 0, 0, 0, []) := rfl
theorem i_X7_become_48 : tab t_X7_become 48 = some (.aload_n 1, 1, 1, 0, 0, 0, 0, 0, 0, 0, []) := rfl
theorem i_X7_become_49 : tab t_X7_become 49 = some (.getfield 29, 3, 2, 0, 0, 7, 4, 0, 0, 0, []) := rfl
theorem i_X7_become_52 : tab t_X7_become 52 = some (.invokevirtual 42, 3, 1, 0, 0, 0, 63, 7, 0, 0, []) := rfl
theorem i_X7_become_55 : tab t_X7_become 55 = some (.aload_n 0, 1, 0, 0, 0, 0, 0, 0, 0, 0, []) := rfl
theorem i_X7_become_56 : tab t_X7_become 56 = some (.getfield 32, 3, 2, 0, 0, 7, 5, 0, 0, 0, []) := rfl
theorem i_X7_become_59 : tab t_X7_become 59 = some (.aload_n 1, 1, 1, 0, 0, 0, 0, 0, 0, 0, []) := rfl
theorem i_X7_become_60 : tab t_X7_become 60 = some (.getfield 32, 3, 2, 0, 0, 7, 5, 0, 0, 0, []) := rfl
theorem i_X7_become_63 : tab t_X7_become 63 = some (.invokevirtual 42, 3, 1, 0, 0, 0, 63, 7, 0, 0, []) := rfl
theorem i_X7_become_66 : tab t_X7_become 66 = some (.aload_n 0, 1, 0, 0, 0, 0, 0, 0, 0, 0, []) := rfl
theorem i_X7_become_67 : tab t_X7_become 67 = some (.getfield 35, 3, 2, 0, 0, 7, 6, 0, 0, 0, []) := rfl
theorem i_X7_become_70 : tab t_X7_become 70 = some (.aload_n 1, 1, 1, 0, 0, 0, 0, 0, 0, 0, []) := rfl
theorem i_X7_become_71 : tab t_X7_become 71 = some (.getfield 35, 3, 2, 0, 0, 7, 6, 0, 0, 0, []) := rfl
theorem i_X7_become_74 : tab t_X7_become 74 = some (.invokevirtual 42, 3, 1, 0, 0, 0, 63, 7, 0, 0, []) := rfl
theorem i_X7_become_77 : tab t_X7_become 77 = some (.aload_n 0, 1, 0, 0, 0, 0, 0, 0, 0, 0, []) := rfl
theorem i_X7_become_78 : tab t_X7_become 78 = some (.aload_n 1, 1, 1, 0, 0, 0, 0, 0, 0, 0, []) := rfl
theorem i_X7_become_79 : tab t_X7_become 79 = some (.getfield 38, 3, 0, 0, 0, 7, 7, 0, 0, 0, []) := rfl
theorem i_X7_become_82 : tab t_X7_become 82 = some (.putfield 38, 3, 0, 0, 0, 7, 7, 0, 0, 0, []) := rfl
theorem i_X7_become_85 : tab t_X7_become 85 = some (.return_, 1, 0, 0, 0, 0, 0, 0, 0, 0, []) := rfl
def t_X7_isFallen : List (Nat × rw_) := [(0, (.aload_n 0, 1, 0, 0, 0, 0, 0, 0, 0, 0, [])), (1, (.getfield 20, 3, 2, 0, 0, 7, 1, 0, 0, 0, [])), (4, (.iload_n 1, 1, 1, 0, 0, 0, 0, 0, 0, 0, [])), (5, (.iconst 5, 1, 0, 5, 0, 0, 0, 0, 0, 0, [])), (6, (.invokevirtual 46, 3, 2, 0, 0, 0, 60, 7, 0, 0, [])), (9, (.istore_n 3, 1, 3, 0, 0, 0, 0, 0, 0, 0, [])), (10, (.iload_n 3, 1, 3, 0, 0, 0, 0, 0, 0, 0, [])), (11, (.iconst (-1), 1, 0, -1, 0, 0, 0, 0, 0, 0, [])), (12, (.if_icmp .eq 12, 3, 24, 0, 0, 0, 0, 0, 0, 0, [])), (15, (.iload_n 3, 1, 3, 0, 0, 0, 0, 0, 0, 0, [])), (16, (.iload_n 2, 1, 2, 0, 0, 0, 0, 0, 0, 0, [])), (17, (.if_icmp .gt 7, 3, 24, 0, 0, 0, 0, 0, 0, 0, [])), (20, (.iconst 1, 1, 0, 1, 0, 0, 0, 0, 0, 0, [])), (21, (.goto 4, 3, 25, 0, 0, 0, 0, 0, 0, 0, [])), (24, (.iconst 0, 1, 0, 0, 0, 0, 0, 0, 0, 0, [])), (25, (.ireturn, 1, 0, 0, 0, 1, 0, 0, 0, 0, []))]
set_option maxRecDepth 100000 in
theorem ok_X7_isFallen : tb_ok ctX7 m_X7_isFallen t_X7_isFallen = true := by decide +kernel
theorem i_X7_isFallen_0 : tab t_X7_isFallen 0 = some (.aload_n 0, 1, 0, 0, 0, 0, 0, 0, 0, 0, []) := rfl
theorem i_X7_isFallen_1 : tab t_X7_isFallen 1 = some (.getfield 20, 3, 2, 0, 0, 7, 1, 0, 0, 0, []) := rfl
theorem i_X7_isFallen_4 : tab t_X7_isFallen 4 = some (.iload_n 1, 1, 1, 0, 0, 0, 0, 0, 0, 0, []) := rfl
theorem i_X7_isFallen_5 : tab t_X7_isFallen 5 = some (.iconst 5, 1, 0, 5, 0, 0, 0, 0, 0, 0, []) := rfl
theorem i_X7_isFallen_6 : tab t_X7_isFallen 6 = some (.invokevirtual 46, 3, 2, 0, 0, 0, 60, 7, 0, 0, []) := rfl
theorem i_X7_isFallen_9 : tab t_X7_isFallen 9 = some (.istore_n 3, 1, 3, 0, 0, 0, 0, 0, 0, 0, []) := rfl
theorem i_X7_isFallen_10 : tab t_X7_isFallen 10 = some (.iload_n 3, 1, 3, 0, 0, 0, 0, 0, 0, 0, []) := rfl
theorem i_X7_isFallen_11 : tab t_X7_isFallen 11 = some (.iconst (-1), 1, 0, -1, 0, 0, 0, 0, 0, 0, []) := rfl
theorem i_X7_isFallen_12 : tab t_X7_isFallen 12 = some (.if_icmp .eq 12, 3, 24, 0, 0, 0, 0, 0, 0, 0, []) := rfl
theorem i_X7_isFallen_15 : tab t_X7_isFallen 15 = some (.iload_n 3, 1, 3, 0, 0, 0, 0, 0, 0, 0, []) := rfl
theorem i_X7_isFallen_16 : tab t_X7_isFallen 16 = some (.iload_n 2, 1, 2, 0, 0, 0, 0, 0, 0, 0, []) := rfl
theorem i_X7_isFallen_17 : tab t_X7_isFallen 17 = some (.if_icmp .gt 7, 3, 24, 0, 0, 0, 0, 0, 0, 0, []) := rfl
theorem i_X7_isFallen_20 : tab t_X7_isFallen 20 = some (.iconst 1, 1, 0, 1, 0, 0, 0, 0, 0, 0, []) := rfl
theorem i_X7_isFallen_21 : tab t_X7_isFallen 21 = some (.goto 4, 3, 25, 0, 0, 0, 0, 0, 0, 0, []) := rfl
theorem i_X7_isFallen_24 : tab t_X7_isFallen 24 = some (.iconst 0, 1, 0, 0, 0, 0, 0, 0, 0, 0, []) := rfl
theorem i_X7_isFallen_25 : tab t_X7_isFallen 25 = some (.ireturn, 1, 0, 0, 0, 1, 0, 0, 0, 0, []) := rfl
def t_X7_fallsTold : List (Nat × rw_) := [(0, (.iconst 0, 1, 0, 0, 0, 0, 0, 0, 0, 0, [])), (1, (.istore_n 1, 1, 1, 0, 0, 0, 0, 0, 0, 0, [])), (2, (.iconst 0, 1, 0, 0, 0, 0, 0, 0, 0, 0, [])), (3, (.istore_n 2, 1, 2, 0, 0, 0, 0, 0, 0, 0, [])), (4, (.iload_n 2, 1, 2, 0, 0, 0, 0, 0, 0, 0, [])), (5, (.aload_n 0, 1, 0, 0, 0, 0, 0, 0, 0, 0, [])), (6, (.getfield 20, 3, 2, 0, 0, 7, 1, 0, 0, 0, [])), (9, (.getfield 50, 3, 0, 0, 0, 6, 3, 0, 0, 0, [])), (12, (.if_icmp .ge 30, 3, 42, 0, 0, 0, 0, 0, 0, 0, [])), (15, (.iload_n 1, 1, 1, 0, 0, 0, 0, 0, 0, 0, [])), (16, (.aload_n 0, 1, 0, 0, 0, 0, 0, 0, 0, 0, [])), (17, (.getfield 20, 3, 2, 0, 0, 7, 1, 0, 0, 0, [])), (20, (.iload_n 2, 1, 2, 0, 0, 0, 0, 0, 0, 0, [])), (21, (.iconst 5, 1, 0, 5, 0, 0, 0, 0, 0, 0, [])), (22, (.invokevirtual 46, 3, 2, 0, 0, 0, 60, 7, 0, 0, [])), (25, (.iconst (-1), 1, 0, -1, 0, 0, 0, 0, 0, 0, [])), (26, (.if_icmp .eq 7, 3, 33, 0, 0, 0, 0, 0, 0, 0, [])), (29, (.iconst 1, 1, 0, 1, 0, 0, 0, 0, 0, 0, [])), (30, (.goto 4, 3, 34, 0, 0, 0, 0, 0, 0, 0, [])), (33, (.iconst 0, 1, 0, 0, 0, 0, 0, 0, 0, 0, [])), (34, (.iadd, 1, 0, 0, 0, 0, 0, 0, 0, 0, [])), (35, (.istore_n 1, 1, 1, 0, 0, 0, 0, 0, 0, 0, [])), (36, (.iinc 2 1, 3, 2, 1, 0, 0, 0, 0, 0, 0, [])), (39, (.goto (-35), 3, 4, 0, 0, 0, 0, 0, 0, 0, [])), (42, (.iload_n 1, 1, 1, 0, 0, 0, 0, 0, 0, 0, [])), (43, (.ireturn, 1, 0, 0, 0, 0, 0, 0, 0, 0, []))]
set_option maxRecDepth 100000 in
theorem ok_X7_fallsTold : tb_ok ctX7 m_X7_fallsTold t_X7_fallsTold = true := by decide +kernel
theorem i_X7_fallsTold_0 : tab t_X7_fallsTold 0 = some (.iconst 0, 1, 0, 0, 0, 0, 0, 0, 0, 0, []) := rfl
theorem i_X7_fallsTold_1 : tab t_X7_fallsTold 1 = some (.istore_n 1, 1, 1, 0, 0, 0, 0, 0, 0, 0, []) := rfl
theorem i_X7_fallsTold_2 : tab t_X7_fallsTold 2 = some (.iconst 0, 1, 0, 0, 0, 0, 0, 0, 0, 0, []) := rfl
theorem i_X7_fallsTold_3 : tab t_X7_fallsTold 3 = some (.istore_n 2, 1, 2, 0, 0, 0, 0, 0, 0, 0, []) := rfl
theorem i_X7_fallsTold_4 : tab t_X7_fallsTold 4 = some (.iload_n 2, 1, 2, 0, 0, 0, 0, 0, 0, 0, []) := rfl
theorem i_X7_fallsTold_5 : tab t_X7_fallsTold 5 = some (.aload_n 0, 1, 0, 0, 0, 0, 0, 0, 0, 0, []) := rfl
theorem i_X7_fallsTold_6 : tab t_X7_fallsTold 6 = some (.getfield 20, 3, 2, 0, 0, 7, 1, 0, 0, 0, []) := rfl
theorem i_X7_fallsTold_9 : tab t_X7_fallsTold 9 = some (.getfield 50, 3, 0, 0, 0, 6, 3, 0, 0, 0, []) := rfl
theorem i_X7_fallsTold_12 : tab t_X7_fallsTold 12 = some (.if_icmp .ge 30, 3, 42, 0, 0, 0, 0, 0, 0, 0, []) := rfl
theorem i_X7_fallsTold_15 : tab t_X7_fallsTold 15 = some (.iload_n 1, 1, 1, 0, 0, 0, 0, 0, 0, 0, []) := rfl
theorem i_X7_fallsTold_16 : tab t_X7_fallsTold 16 = some (.aload_n 0, 1, 0, 0, 0, 0, 0, 0, 0, 0, []) := rfl
theorem i_X7_fallsTold_17 : tab t_X7_fallsTold 17 = some (.getfield 20, 3, 2, 0, 0, 7, 1, 0, 0, 0, []) := rfl
theorem i_X7_fallsTold_20 : tab t_X7_fallsTold 20 = some (.iload_n 2, 1, 2, 0, 0, 0, 0, 0, 0, 0, []) := rfl
theorem i_X7_fallsTold_21 : tab t_X7_fallsTold 21 = some (.iconst 5, 1, 0, 5, 0, 0, 0, 0, 0, 0, []) := rfl
theorem i_X7_fallsTold_22 : tab t_X7_fallsTold 22 = some (.invokevirtual 46, 3, 2, 0, 0, 0, 60, 7, 0, 0, []) := rfl
theorem i_X7_fallsTold_25 : tab t_X7_fallsTold 25 = some (.iconst (-1), 1, 0, -1, 0, 0, 0, 0, 0, 0, []) := rfl
theorem i_X7_fallsTold_26 : tab t_X7_fallsTold 26 = some (.if_icmp .eq 7, 3, 33, 0, 0, 0, 0, 0, 0, 0, []) := rfl
theorem i_X7_fallsTold_29 : tab t_X7_fallsTold 29 = some (.iconst 1, 1, 0, 1, 0, 0, 0, 0, 0, 0, []) := rfl
theorem i_X7_fallsTold_30 : tab t_X7_fallsTold 30 = some (.goto 4, 3, 34, 0, 0, 0, 0, 0, 0, 0, []) := rfl
theorem i_X7_fallsTold_33 : tab t_X7_fallsTold 33 = some (.iconst 0, 1, 0, 0, 0, 0, 0, 0, 0, 0, []) := rfl
theorem i_X7_fallsTold_34 : tab t_X7_fallsTold 34 = some (.iadd, 1, 0, 0, 0, 0, 0, 0, 0, 0, []) := rfl
theorem i_X7_fallsTold_35 : tab t_X7_fallsTold 35 = some (.istore_n 1, 1, 1, 0, 0, 0, 0, 0, 0, 0, []) := rfl
theorem i_X7_fallsTold_36 : tab t_X7_fallsTold 36 = some (.iinc 2 1, 3, 2, 1, 0, 0, 0, 0, 0, 0, []) := rfl
theorem i_X7_fallsTold_39 : tab t_X7_fallsTold 39 = some (.goto (-35), 3, 4, 0, 0, 0, 0, 0, 0, 0, []) := rfl
theorem i_X7_fallsTold_42 : tab t_X7_fallsTold 42 = some (.iload_n 1, 1, 1, 0, 0, 0, 0, 0, 0, 0, []) := rfl
theorem i_X7_fallsTold_43 : tab t_X7_fallsTold 43 = some (.ireturn, 1, 0, 0, 0, 0, 0, 0, 0, 0, []) := rfl
def t_X7_paperHolds : List (Nat × rw_) := [(0, (.aload_n 0, 1, 0, 0, 0, 0, 0, 0, 0, 0, [])), (1, (.getfield 26, 3, 2, 0, 0, 7, 3, 0, 0, 0, [])), (4, (.iload_n 1, 1, 1, 0, 0, 0, 0, 0, 0, 0, [])), (5, (.iconst 1, 1, 0, 1, 0, 0, 0, 0, 0, 0, [])), (6, (.invokevirtual 46, 3, 2, 0, 0, 0, 60, 7, 0, 0, [])), (9, (.iload_n 2, 1, 2, 0, 0, 0, 0, 0, 0, 0, [])), (10, (.if_icmp .ne 33, 3, 43, 0, 0, 0, 0, 0, 0, 0, [])), (13, (.aload_n 0, 1, 0, 0, 0, 0, 0, 0, 0, 0, [])), (14, (.getfield 26, 3, 2, 0, 0, 7, 3, 0, 0, 0, [])), (17, (.iload_n 1, 1, 1, 0, 0, 0, 0, 0, 0, 0, [])), (18, (.iconst 2, 1, 0, 2, 0, 0, 0, 0, 0, 0, [])), (19, (.invokevirtual 46, 3, 2, 0, 0, 0, 60, 7, 0, 0, [])), (22, (.iload_n 3, 1, 3, 0, 0, 0, 0, 0, 0, 0, [])), (23, (.if_icmp .gt 20, 3, 43, 0, 0, 0, 0, 0, 0, 0, [])), (26, (.iload_n 3, 1, 3, 0, 0, 0, 0, 0, 0, 0, [])), (27, (.aload_n 0, 1, 0, 0, 0, 0, 0, 0, 0, 0, [])), (28, (.getfield 26, 3, 2, 0, 0, 7, 3, 0, 0, 0, [])), (31, (.iload_n 1, 1, 1, 0, 0, 0, 0, 0, 0, 0, [])), (32, (.iconst 3, 1, 0, 3, 0, 0, 0, 0, 0, 0, [])), (33, (.invokevirtual 46, 3, 2, 0, 0, 0, 60, 7, 0, 0, [])), (36, (.if_icmp .ge 7, 3, 43, 0, 0, 0, 0, 0, 0, 0, [])), (39, (.iconst 1, 1, 0, 1, 0, 0, 0, 0, 0, 0, [])), (40, (.goto 4, 3, 44, 0, 0, 0, 0, 0, 0, 0, [])), (43, (.iconst 0, 1, 0, 0, 0, 0, 0, 0, 0, 0, [])), (44, (.ireturn, 1, 0, 0, 0, 1, 0, 0, 0, 0, []))]
set_option maxRecDepth 100000 in
theorem ok_X7_paperHolds : tb_ok ctX7 m_X7_paperHolds t_X7_paperHolds = true := by decide +kernel
theorem i_X7_paperHolds_0 : tab t_X7_paperHolds 0 = some (.aload_n 0, 1, 0, 0, 0, 0, 0, 0, 0, 0, []) := rfl
theorem i_X7_paperHolds_1 : tab t_X7_paperHolds 1 = some (.getfield 26, 3, 2, 0, 0, 7, 3, 0, 0, 0, []) := rfl
theorem i_X7_paperHolds_4 : tab t_X7_paperHolds 4 = some (.iload_n 1, 1, 1, 0, 0, 0, 0, 0, 0, 0, []) := rfl
theorem i_X7_paperHolds_5 : tab t_X7_paperHolds 5 = some (.iconst 1, 1, 0, 1, 0, 0, 0, 0, 0, 0, []) := rfl
theorem i_X7_paperHolds_6 : tab t_X7_paperHolds 6 = some (.invokevirtual 46, 3, 2, 0, 0, 0, 60, 7, 0, 0, []) := rfl
theorem i_X7_paperHolds_9 : tab t_X7_paperHolds 9 = some (.iload_n 2, 1, 2, 0, 0, 0, 0, 0, 0, 0, []) := rfl
theorem i_X7_paperHolds_10 : tab t_X7_paperHolds 10 = some (.if_icmp .ne 33, 3, 43, 0, 0, 0, 0, 0, 0, 0, []) := rfl
theorem i_X7_paperHolds_13 : tab t_X7_paperHolds 13 = some (.aload_n 0, 1, 0, 0, 0, 0, 0, 0, 0, 0, []) := rfl
theorem i_X7_paperHolds_14 : tab t_X7_paperHolds 14 = some (.getfield 26, 3, 2, 0, 0, 7, 3, 0, 0, 0, []) := rfl
theorem i_X7_paperHolds_17 : tab t_X7_paperHolds 17 = some (.iload_n 1, 1, 1, 0, 0, 0, 0, 0, 0, 0, []) := rfl
theorem i_X7_paperHolds_18 : tab t_X7_paperHolds 18 = some (.iconst 2, 1, 0, 2, 0, 0, 0, 0, 0, 0, []) := rfl
theorem i_X7_paperHolds_19 : tab t_X7_paperHolds 19 = some (.invokevirtual 46, 3, 2, 0, 0, 0, 60, 7, 0, 0, []) := rfl
theorem i_X7_paperHolds_22 : tab t_X7_paperHolds 22 = some (.iload_n 3, 1, 3, 0, 0, 0, 0, 0, 0, 0, []) := rfl
theorem i_X7_paperHolds_23 : tab t_X7_paperHolds 23 = some (.if_icmp .gt 20, 3, 43, 0, 0, 0, 0, 0, 0, 0, []) := rfl
theorem i_X7_paperHolds_26 : tab t_X7_paperHolds 26 = some (.iload_n 3, 1, 3, 0, 0, 0, 0, 0, 0, 0, []) := rfl
theorem i_X7_paperHolds_27 : tab t_X7_paperHolds 27 = some (.aload_n 0, 1, 0, 0, 0, 0, 0, 0, 0, 0, []) := rfl
theorem i_X7_paperHolds_28 : tab t_X7_paperHolds 28 = some (.getfield 26, 3, 2, 0, 0, 7, 3, 0, 0, 0, []) := rfl
theorem i_X7_paperHolds_31 : tab t_X7_paperHolds 31 = some (.iload_n 1, 1, 1, 0, 0, 0, 0, 0, 0, 0, []) := rfl
theorem i_X7_paperHolds_32 : tab t_X7_paperHolds 32 = some (.iconst 3, 1, 0, 3, 0, 0, 0, 0, 0, 0, []) := rfl
theorem i_X7_paperHolds_33 : tab t_X7_paperHolds 33 = some (.invokevirtual 46, 3, 2, 0, 0, 0, 60, 7, 0, 0, []) := rfl
theorem i_X7_paperHolds_36 : tab t_X7_paperHolds 36 = some (.if_icmp .ge 7, 3, 43, 0, 0, 0, 0, 0, 0, 0, []) := rfl
theorem i_X7_paperHolds_39 : tab t_X7_paperHolds 39 = some (.iconst 1, 1, 0, 1, 0, 0, 0, 0, 0, 0, []) := rfl
theorem i_X7_paperHolds_40 : tab t_X7_paperHolds 40 = some (.goto 4, 3, 44, 0, 0, 0, 0, 0, 0, 0, []) := rfl
theorem i_X7_paperHolds_43 : tab t_X7_paperHolds 43 = some (.iconst 0, 1, 0, 0, 0, 0, 0, 0, 0, 0, []) := rfl
theorem i_X7_paperHolds_44 : tab t_X7_paperHolds 44 = some (.ireturn, 1, 0, 0, 0, 1, 0, 0, 0, 0, []) := rfl
def t_X7_placesOnList : List (Nat × rw_) := [(0, (.iconst 0, 1, 0, 0, 0, 0, 0, 0, 0, 0, [])), (1, (.istore_n 2, 1, 2, 0, 0, 0, 0, 0, 0, 0, [])), (2, (.iconst 0, 1, 0, 0, 0, 0, 0, 0, 0, 0, [])), (3, (.istore_n 3, 1, 3, 0, 0, 0, 0, 0, 0, 0, [])), (4, (.iload_n 3, 1, 3, 0, 0, 0, 0, 0, 0, 0, [])), (5, (.aload_n 0, 1, 0, 0, 0, 0, 0, 0, 0, 0, [])), (6, (.getfield 29, 3, 2, 0, 0, 7, 4, 0, 0, 0, [])), (9, (.getfield 50, 3, 0, 0, 0, 6, 3, 0, 0, 0, [])), (12, (.if_icmp .ge 30, 3, 42, 0, 0, 0, 0, 0, 0, 0, [])), (15, (.iload_n 2, 1, 2, 0, 0, 0, 0, 0, 0, 0, [])), (16, (.aload_n 0, 1, 0, 0, 0, 0, 0, 0, 0, 0, [])), (17, (.getfield 29, 3, 2, 0, 0, 7, 4, 0, 0, 0, [])), (20, (.iload_n 3, 1, 3, 0, 0, 0, 0, 0, 0, 0, [])), (21, (.iconst 0, 1, 0, 0, 0, 0, 0, 0, 0, 0, [])), (22, (.invokevirtual 46, 3, 2, 0, 0, 0, 60, 7, 0, 0, [])), (25, (.iload_n 1, 1, 1, 0, 0, 0, 0, 0, 0, 0, [])), (26, (.if_icmp .ne 7, 3, 33, 0, 0, 0, 0, 0, 0, 0, [])), (29, (.iconst 1, 1, 0, 1, 0, 0, 0, 0, 0, 0, [])), (30, (.goto 4, 3, 34, 0, 0, 0, 0, 0, 0, 0, [])), (33, (.iconst 0, 1, 0, 0, 0, 0, 0, 0, 0, 0, [])), (34, (.iadd, 1, 0, 0, 0, 0, 0, 0, 0, 0, [])), (35, (.istore_n 2, 1, 2, 0, 0, 0, 0, 0, 0, 0, [])), (36, (.iinc 3 1, 3, 3, 1, 0, 0, 0, 0, 0, 0, [])), (39, (.goto (-35), 3, 4, 0, 0, 0, 0, 0, 0, 0, [])), (42, (.iload_n 2, 1, 2, 0, 0, 0, 0, 0, 0, 0, [])), (43, (.ireturn, 1, 0, 0, 0, 0, 0, 0, 0, 0, []))]
set_option maxRecDepth 100000 in
theorem ok_X7_placesOnList : tb_ok ctX7 m_X7_placesOnList t_X7_placesOnList = true := by decide +kernel
theorem i_X7_placesOnList_0 : tab t_X7_placesOnList 0 = some (.iconst 0, 1, 0, 0, 0, 0, 0, 0, 0, 0, []) := rfl
theorem i_X7_placesOnList_1 : tab t_X7_placesOnList 1 = some (.istore_n 2, 1, 2, 0, 0, 0, 0, 0, 0, 0, []) := rfl
theorem i_X7_placesOnList_2 : tab t_X7_placesOnList 2 = some (.iconst 0, 1, 0, 0, 0, 0, 0, 0, 0, 0, []) := rfl
theorem i_X7_placesOnList_3 : tab t_X7_placesOnList 3 = some (.istore_n 3, 1, 3, 0, 0, 0, 0, 0, 0, 0, []) := rfl
theorem i_X7_placesOnList_4 : tab t_X7_placesOnList 4 = some (.iload_n 3, 1, 3, 0, 0, 0, 0, 0, 0, 0, []) := rfl
theorem i_X7_placesOnList_5 : tab t_X7_placesOnList 5 = some (.aload_n 0, 1, 0, 0, 0, 0, 0, 0, 0, 0, []) := rfl
theorem i_X7_placesOnList_6 : tab t_X7_placesOnList 6 = some (.getfield 29, 3, 2, 0, 0, 7, 4, 0, 0, 0, []) := rfl
theorem i_X7_placesOnList_9 : tab t_X7_placesOnList 9 = some (.getfield 50, 3, 0, 0, 0, 6, 3, 0, 0, 0, []) := rfl
theorem i_X7_placesOnList_12 : tab t_X7_placesOnList 12 = some (.if_icmp .ge 30, 3, 42, 0, 0, 0, 0, 0, 0, 0, []) := rfl
theorem i_X7_placesOnList_15 : tab t_X7_placesOnList 15 = some (.iload_n 2, 1, 2, 0, 0, 0, 0, 0, 0, 0, []) := rfl
theorem i_X7_placesOnList_16 : tab t_X7_placesOnList 16 = some (.aload_n 0, 1, 0, 0, 0, 0, 0, 0, 0, 0, []) := rfl
theorem i_X7_placesOnList_17 : tab t_X7_placesOnList 17 = some (.getfield 29, 3, 2, 0, 0, 7, 4, 0, 0, 0, []) := rfl
theorem i_X7_placesOnList_20 : tab t_X7_placesOnList 20 = some (.iload_n 3, 1, 3, 0, 0, 0, 0, 0, 0, 0, []) := rfl
theorem i_X7_placesOnList_21 : tab t_X7_placesOnList 21 = some (.iconst 0, 1, 0, 0, 0, 0, 0, 0, 0, 0, []) := rfl
theorem i_X7_placesOnList_22 : tab t_X7_placesOnList 22 = some (.invokevirtual 46, 3, 2, 0, 0, 0, 60, 7, 0, 0, []) := rfl
theorem i_X7_placesOnList_25 : tab t_X7_placesOnList 25 = some (.iload_n 1, 1, 1, 0, 0, 0, 0, 0, 0, 0, []) := rfl
theorem i_X7_placesOnList_26 : tab t_X7_placesOnList 26 = some (.if_icmp .ne 7, 3, 33, 0, 0, 0, 0, 0, 0, 0, []) := rfl
theorem i_X7_placesOnList_29 : tab t_X7_placesOnList 29 = some (.iconst 1, 1, 0, 1, 0, 0, 0, 0, 0, 0, []) := rfl
theorem i_X7_placesOnList_30 : tab t_X7_placesOnList 30 = some (.goto 4, 3, 34, 0, 0, 0, 0, 0, 0, 0, []) := rfl
theorem i_X7_placesOnList_33 : tab t_X7_placesOnList 33 = some (.iconst 0, 1, 0, 0, 0, 0, 0, 0, 0, 0, []) := rfl
theorem i_X7_placesOnList_34 : tab t_X7_placesOnList 34 = some (.iadd, 1, 0, 0, 0, 0, 0, 0, 0, 0, []) := rfl
theorem i_X7_placesOnList_35 : tab t_X7_placesOnList 35 = some (.istore_n 2, 1, 2, 0, 0, 0, 0, 0, 0, 0, []) := rfl
theorem i_X7_placesOnList_36 : tab t_X7_placesOnList 36 = some (.iinc 3 1, 3, 3, 1, 0, 0, 0, 0, 0, 0, []) := rfl
theorem i_X7_placesOnList_39 : tab t_X7_placesOnList 39 = some (.goto (-35), 3, 4, 0, 0, 0, 0, 0, 0, 0, []) := rfl
theorem i_X7_placesOnList_42 : tab t_X7_placesOnList 42 = some (.iload_n 2, 1, 2, 0, 0, 0, 0, 0, 0, 0, []) := rfl
theorem i_X7_placesOnList_43 : tab t_X7_placesOnList 43 = some (.ireturn, 1, 0, 0, 0, 0, 0, 0, 0, 0, []) := rfl
def t_X7_isOnList : List (Nat × rw_) := [(0, (.iconst 0, 1, 0, 0, 0, 0, 0, 0, 0, 0, [])), (1, (.istore_n 3, 1, 3, 0, 0, 0, 0, 0, 0, 0, [])), (2, (.iload_n 3, 1, 3, 0, 0, 0, 0, 0, 0, 0, [])), (3, (.aload_n 0, 1, 0, 0, 0, 0, 0, 0, 0, 0, [])), (4, (.getfield 29, 3, 2, 0, 0, 7, 4, 0, 0, 0, [])), (7, (.getfield 50, 3, 0, 0, 0, 6, 3, 0, 0, 0, [])), (10, (.if_icmp .ge 37, 3, 47, 0, 0, 0, 0, 0, 0, 0, [])), (13, (.aload_n 0, 1, 0, 0, 0, 0, 0, 0, 0, 0, [])), (14, (.getfield 29, 3, 2, 0, 0, 7, 4, 0, 0, 0, [])), (17, (.iload_n 3, 1, 3, 0, 0, 0, 0, 0, 0, 0, [])), (18, (.iconst 0, 1, 0, 0, 0, 0, 0, 0, 0, 0, [])), (19, (.invokevirtual 46, 3, 2, 0, 0, 0, 60, 7, 0, 0, [])), (22, (.iload_n 1, 1, 1, 0, 0, 0, 0, 0, 0, 0, [])), (23, (.if_icmp .ne 18, 3, 41, 0, 0, 0, 0, 0, 0, 0, [])), (26, (.aload_n 0, 1, 0, 0, 0, 0, 0, 0, 0, 0, [])), (27, (.getfield 29, 3, 2, 0, 0, 7, 4, 0, 0, 0, [])), (30, (.iload_n 3, 1, 3, 0, 0, 0, 0, 0, 0, 0, [])), (31, (.iconst 1, 1, 0, 1, 0, 0, 0, 0, 0, 0, [])), (32, (.invokevirtual 46, 3, 2, 0, 0, 0, 60, 7, 0, 0, [])), (35, (.iload_n 2, 1, 2, 0, 0, 0, 0, 0, 0, 0, [])), (36, (.if_icmp .ne 5, 3, 41, 0, 0, 0, 0, 0, 0, 0, [])), (39, (.iconst 1, 1, 0, 1, 0, 0, 0, 0, 0, 0, [])), (40, (.ireturn, 1, 0, 0, 0, 1, 0, 0, 0, 0, [])), (41, (.iinc 3 1, 3, 3, 1, 0, 0, 0, 0, 0, 0, [])), (44, (.goto (-42), 3, 2, 0, 0, 0, 0, 0, 0, 0, [])), (47, (.iconst 0, 1, 0, 0, 0, 0, 0, 0, 0, 0, [])), (48, (.ireturn, 1, 0, 0, 0, 1, 0, 0, 0, 0, []))]
set_option maxRecDepth 100000 in
theorem ok_X7_isOnList : tb_ok ctX7 m_X7_isOnList t_X7_isOnList = true := by decide +kernel
theorem i_X7_isOnList_0 : tab t_X7_isOnList 0 = some (.iconst 0, 1, 0, 0, 0, 0, 0, 0, 0, 0, []) := rfl
theorem i_X7_isOnList_1 : tab t_X7_isOnList 1 = some (.istore_n 3, 1, 3, 0, 0, 0, 0, 0, 0, 0, []) := rfl
theorem i_X7_isOnList_2 : tab t_X7_isOnList 2 = some (.iload_n 3, 1, 3, 0, 0, 0, 0, 0, 0, 0, []) := rfl
theorem i_X7_isOnList_3 : tab t_X7_isOnList 3 = some (.aload_n 0, 1, 0, 0, 0, 0, 0, 0, 0, 0, []) := rfl
theorem i_X7_isOnList_4 : tab t_X7_isOnList 4 = some (.getfield 29, 3, 2, 0, 0, 7, 4, 0, 0, 0, []) := rfl
theorem i_X7_isOnList_7 : tab t_X7_isOnList 7 = some (.getfield 50, 3, 0, 0, 0, 6, 3, 0, 0, 0, []) := rfl
theorem i_X7_isOnList_10 : tab t_X7_isOnList 10 = some (.if_icmp .ge 37, 3, 47, 0, 0, 0, 0, 0, 0, 0, []) := rfl
theorem i_X7_isOnList_13 : tab t_X7_isOnList 13 = some (.aload_n 0, 1, 0, 0, 0, 0, 0, 0, 0, 0, []) := rfl
theorem i_X7_isOnList_14 : tab t_X7_isOnList 14 = some (.getfield 29, 3, 2, 0, 0, 7, 4, 0, 0, 0, []) := rfl
theorem i_X7_isOnList_17 : tab t_X7_isOnList 17 = some (.iload_n 3, 1, 3, 0, 0, 0, 0, 0, 0, 0, []) := rfl
theorem i_X7_isOnList_18 : tab t_X7_isOnList 18 = some (.iconst 0, 1, 0, 0, 0, 0, 0, 0, 0, 0, []) := rfl
theorem i_X7_isOnList_19 : tab t_X7_isOnList 19 = some (.invokevirtual 46, 3, 2, 0, 0, 0, 60, 7, 0, 0, []) := rfl
theorem i_X7_isOnList_22 : tab t_X7_isOnList 22 = some (.iload_n 1, 1, 1, 0, 0, 0, 0, 0, 0, 0, []) := rfl
theorem i_X7_isOnList_23 : tab t_X7_isOnList 23 = some (.if_icmp .ne 18, 3, 41, 0, 0, 0, 0, 0, 0, 0, []) := rfl
theorem i_X7_isOnList_26 : tab t_X7_isOnList 26 = some (.aload_n 0, 1, 0, 0, 0, 0, 0, 0, 0, 0, []) := rfl
theorem i_X7_isOnList_27 : tab t_X7_isOnList 27 = some (.getfield 29, 3, 2, 0, 0, 7, 4, 0, 0, 0, []) := rfl
theorem i_X7_isOnList_30 : tab t_X7_isOnList 30 = some (.iload_n 3, 1, 3, 0, 0, 0, 0, 0, 0, 0, []) := rfl
theorem i_X7_isOnList_31 : tab t_X7_isOnList 31 = some (.iconst 1, 1, 0, 1, 0, 0, 0, 0, 0, 0, []) := rfl
theorem i_X7_isOnList_32 : tab t_X7_isOnList 32 = some (.invokevirtual 46, 3, 2, 0, 0, 0, 60, 7, 0, 0, []) := rfl
theorem i_X7_isOnList_35 : tab t_X7_isOnList 35 = some (.iload_n 2, 1, 2, 0, 0, 0, 0, 0, 0, 0, []) := rfl
theorem i_X7_isOnList_36 : tab t_X7_isOnList 36 = some (.if_icmp .ne 5, 3, 41, 0, 0, 0, 0, 0, 0, 0, []) := rfl
theorem i_X7_isOnList_39 : tab t_X7_isOnList 39 = some (.iconst 1, 1, 0, 1, 0, 0, 0, 0, 0, 0, []) := rfl
theorem i_X7_isOnList_40 : tab t_X7_isOnList 40 = some (.ireturn, 1, 0, 0, 0, 1, 0, 0, 0, 0, []) := rfl
theorem i_X7_isOnList_41 : tab t_X7_isOnList 41 = some (.iinc 3 1, 3, 3, 1, 0, 0, 0, 0, 0, 0, []) := rfl
theorem i_X7_isOnList_44 : tab t_X7_isOnList 44 = some (.goto (-42), 3, 2, 0, 0, 0, 0, 0, 0, 0, []) := rfl
theorem i_X7_isOnList_47 : tab t_X7_isOnList 47 = some (.iconst 0, 1, 0, 0, 0, 0, 0, 0, 0, 0, []) := rfl
theorem i_X7_isOnList_48 : tab t_X7_isOnList 48 = some (.ireturn, 1, 0, 0, 0, 1, 0, 0, 0, 0, []) := rfl
def t_X7_depthBelow : List (Nat × rw_) := [(0, (.iload_n 1, 1, 1, 0, 0, 0, 0, 0, 0, 0, [])), (1, (.istore_n 3, 1, 3, 0, 0, 0, 0, 0, 0, 0, [])), (2, (.iconst 0, 1, 0, 0, 0, 0, 0, 0, 0, 0, [])), (3, (.istore 4, 2, 4, 0, 0, 0, 0, 0, 0, 0, [])), (5, (.iload 4, 2, 4, 0, 0, 0, 0, 0, 0, 0, [])), (7, (.bipush 12, 2, 0, 12, 0, 0, 0, 0, 0, 0, [])), (9, (.if_icmp .ge 32, 3, 41, 0, 0, 0, 0, 0, 0, 0, [])), (12, (.iload_n 3, 1, 3, 0, 0, 0, 0, 0, 0, 0, [])), (13, (.iconst (-1), 1, 0, -1, 0, 0, 0, 0, 0, 0, [])), (14, (.if_icmp .eq 27, 3, 41, 0, 0, 0, 0, 0, 0, 0, [])), (17, (.iload_n 3, 1, 3, 0, 0, 0, 0, 0, 0, 0, [])), (18, (.iload_n 2, 1, 2, 0, 0, 0, 0, 0, 0, 0, [])), (19, (.if_icmp .ne 6, 3, 25, 0, 0, 0, 0, 0, 0, 0, [])), (22, (.iload 4, 2, 4, 0, 0, 0, 0, 0, 0, 0, [])), (24, (.ireturn, 1, 0, 0, 0, 0, 0, 0, 0, 0, [])), (25, (.aload_n 0, 1, 0, 0, 0, 0, 0, 0, 0, 0, [])), (26, (.getfield 14, 3, 2, 0, 0, 7, 0, 0, 0, 0, [])), (29, (.iload_n 3, 1, 3, 0, 0, 0, 0, 0, 0, 0, [])), (30, (.iconst 0, 1, 0, 0, 0, 0, 0, 0, 0, 0, [])), (31, (.invokevirtual 46, 3, 2, 0, 0, 0, 60, 7, 0, 0, [])), (34, (.istore_n 3, 1, 3, 0, 0, 0, 0, 0, 0, 0, [])), (35, (.iinc 4 1, 3, 4, 1, 0, 0, 0, 0, 0, 0, [])), (38, (.goto (-33), 3, 5, 0, 0, 0, 0, 0, 0, 0, [])), (41, (.iconst (-1), 1, 0, -1, 0, 0, 0, 0, 0, 0, [])), (42, (.ireturn, 1, 0, 0, 0, 0, 0, 0, 0, 0, []))]
set_option maxRecDepth 100000 in
theorem ok_X7_depthBelow : tb_ok ctX7 m_X7_depthBelow t_X7_depthBelow = true := by decide +kernel
theorem i_X7_depthBelow_0 : tab t_X7_depthBelow 0 = some (.iload_n 1, 1, 1, 0, 0, 0, 0, 0, 0, 0, []) := rfl
theorem i_X7_depthBelow_1 : tab t_X7_depthBelow 1 = some (.istore_n 3, 1, 3, 0, 0, 0, 0, 0, 0, 0, []) := rfl
theorem i_X7_depthBelow_2 : tab t_X7_depthBelow 2 = some (.iconst 0, 1, 0, 0, 0, 0, 0, 0, 0, 0, []) := rfl
theorem i_X7_depthBelow_3 : tab t_X7_depthBelow 3 = some (.istore 4, 2, 4, 0, 0, 0, 0, 0, 0, 0, []) := rfl
theorem i_X7_depthBelow_5 : tab t_X7_depthBelow 5 = some (.iload 4, 2, 4, 0, 0, 0, 0, 0, 0, 0, []) := rfl
theorem i_X7_depthBelow_7 : tab t_X7_depthBelow 7 = some (.bipush 12, 2, 0, 12, 0, 0, 0, 0, 0, 0, []) := rfl
theorem i_X7_depthBelow_9 : tab t_X7_depthBelow 9 = some (.if_icmp .ge 32, 3, 41, 0, 0, 0, 0, 0, 0, 0, []) := rfl
theorem i_X7_depthBelow_12 : tab t_X7_depthBelow 12 = some (.iload_n 3, 1, 3, 0, 0, 0, 0, 0, 0, 0, []) := rfl
theorem i_X7_depthBelow_13 : tab t_X7_depthBelow 13 = some (.iconst (-1), 1, 0, -1, 0, 0, 0, 0, 0, 0, []) := rfl
theorem i_X7_depthBelow_14 : tab t_X7_depthBelow 14 = some (.if_icmp .eq 27, 3, 41, 0, 0, 0, 0, 0, 0, 0, []) := rfl
theorem i_X7_depthBelow_17 : tab t_X7_depthBelow 17 = some (.iload_n 3, 1, 3, 0, 0, 0, 0, 0, 0, 0, []) := rfl
theorem i_X7_depthBelow_18 : tab t_X7_depthBelow 18 = some (.iload_n 2, 1, 2, 0, 0, 0, 0, 0, 0, 0, []) := rfl
theorem i_X7_depthBelow_19 : tab t_X7_depthBelow 19 = some (.if_icmp .ne 6, 3, 25, 0, 0, 0, 0, 0, 0, 0, []) := rfl
theorem i_X7_depthBelow_22 : tab t_X7_depthBelow 22 = some (.iload 4, 2, 4, 0, 0, 0, 0, 0, 0, 0, []) := rfl
theorem i_X7_depthBelow_24 : tab t_X7_depthBelow 24 = some (.ireturn, 1, 0, 0, 0, 0, 0, 0, 0, 0, []) := rfl
theorem i_X7_depthBelow_25 : tab t_X7_depthBelow 25 = some (.aload_n 0, 1, 0, 0, 0, 0, 0, 0, 0, 0, []) := rfl
theorem i_X7_depthBelow_26 : tab t_X7_depthBelow 26 = some (.getfield 14, 3, 2, 0, 0, 7, 0, 0, 0, 0, []) := rfl
theorem i_X7_depthBelow_29 : tab t_X7_depthBelow 29 = some (.iload_n 3, 1, 3, 0, 0, 0, 0, 0, 0, 0, []) := rfl
theorem i_X7_depthBelow_30 : tab t_X7_depthBelow 30 = some (.iconst 0, 1, 0, 0, 0, 0, 0, 0, 0, 0, []) := rfl
theorem i_X7_depthBelow_31 : tab t_X7_depthBelow 31 = some (.invokevirtual 46, 3, 2, 0, 0, 0, 60, 7, 0, 0, []) := rfl
theorem i_X7_depthBelow_34 : tab t_X7_depthBelow 34 = some (.istore_n 3, 1, 3, 0, 0, 0, 0, 0, 0, 0, []) := rfl
theorem i_X7_depthBelow_35 : tab t_X7_depthBelow 35 = some (.iinc 4 1, 3, 4, 1, 0, 0, 0, 0, 0, 0, []) := rfl
theorem i_X7_depthBelow_38 : tab t_X7_depthBelow 38 = some (.goto (-33), 3, 5, 0, 0, 0, 0, 0, 0, 0, []) := rfl
theorem i_X7_depthBelow_41 : tab t_X7_depthBelow 41 = some (.iconst (-1), 1, 0, -1, 0, 0, 0, 0, 0, 0, []) := rfl
theorem i_X7_depthBelow_42 : tab t_X7_depthBelow 42 = some (.ireturn, 1, 0, 0, 0, 0, 0, 0, 0, 0, []) := rfl
