/-! 11: tables of class 1 -/
def t_X1_init : List (Nat × rw_) := [(0, (.aload_n 0, 1, 0, 0, 0, 0, 0, 0, 0, 0, [])), (1, (.invokespecial 3, 3, 0, 0, 0, 6, 0, 0, 0, 0, [])), (4, (.aload_n 0, 1, 0, 0, 0, 0, 0, 0, 0, 0, [])), (5, (.new 9, 3, 0, 0, 0, 4, 3, 0, 0, 0, [])), (8, (.dup, 1, 0, 0, 0, 0, 0, 0, 0, 0, [])), (9, (.invokespecial 11, 3, 0, 0, 0, 0, 45, 0, 3, 72, [])), (12, (.putfield 12, 3, 2, 0, 0, 1, 0, 1, 0, 0, [])), (15, (.aload_n 0, 1, 0, 0, 0, 0, 0, 0, 0, 0, [])), (16, (.bipush 24, 2, 0, 24, 0, 0, 0, 0, 0, 0, [])), (18, (.newarray .int, 2, 0, 0, 0, 0, 0, 0, 0, 0, [])), (20, (.putfield 18, 3, 2, 0, 0, 1, 1, 1, 0, 0, [])), (23, (.aload_n 0, 1, 0, 0, 0, 0, 0, 0, 0, 0, [])), (24, (.bipush 24, 2, 0, 24, 0, 0, 0, 0, 0, 0, [])), (26, (.newarray .int, 2, 0, 0, 0, 0, 0, 0, 0, 0, [])), (28, (.putfield 22, 3, 2, 0, 0, 1, 2, 1, 0, 0, [])), (31, (.aload_n 0, 1, 0, 0, 0, 0, 0, 0, 0, 0, [])), (32, (.bipush 24, 2, 0, 24, 0, 0, 0, 0, 0, 0, [])), (34, (.newarray .int, 2, 0, 0, 0, 0, 0, 0, 0, 0, [])), (36, (.putfield 25, 3, 2, 0, 0, 1, 3, 1, 0, 0, [])), (39, (.aload_n 0, 1, 0, 0, 0, 0, 0, 0, 0, 0, [])), (40, (.bipush 24, 2, 0, 24, 0, 0, 0, 0, 0, 0, [])), (42, (.newarray .int, 2, 0, 0, 0, 0, 0, 0, 0, 0, [])), (44, (.putfield 28, 3, 2, 0, 0, 1, 4, 1, 0, 0, [])), (47, (.return_, 1, 0, 0, 0, 0, 0, 0, 0, 0, []))]
set_option maxRecDepth 100000 in
theorem ok_X1_init : tb_ok ctX1 m_X1_init t_X1_init = true := by decide +kernel
theorem i_X1_init_0 : tab t_X1_init 0 = some (.aload_n 0, 1, 0, 0, 0, 0, 0, 0, 0, 0, []) := rfl
theorem i_X1_init_1 : tab t_X1_init 1 = some (.invokespecial 3, 3, 0, 0, 0, 6, 0, 0, 0, 0, []) := rfl
theorem i_X1_init_4 : tab t_X1_init 4 = some (.aload_n 0, 1, 0, 0, 0, 0, 0, 0, 0, 0, []) := rfl
theorem i_X1_init_5 : tab t_X1_init 5 = some (.new 9, 3, 0, 0, 0, 4, 3, 0, 0, 0, []) := rfl
theorem i_X1_init_8 : tab t_X1_init 8 = some (.dup, 1, 0, 0, 0, 0, 0, 0, 0, 0, []) := rfl
theorem i_X1_init_9 : tab t_X1_init 9 = some (.invokespecial 11, 3, 0, 0, 0, 0, 45, 0, 3, 72, []) := rfl
theorem i_X1_init_12 : tab t_X1_init 12 = some (.putfield 12, 3, 2, 0, 0, 1, 0, 1, 0, 0, []) := rfl
theorem i_X1_init_15 : tab t_X1_init 15 = some (.aload_n 0, 1, 0, 0, 0, 0, 0, 0, 0, 0, []) := rfl
theorem i_X1_init_16 : tab t_X1_init 16 = some (.bipush 24, 2, 0, 24, 0, 0, 0, 0, 0, 0, []) := rfl
theorem i_X1_init_18 : tab t_X1_init 18 = some (.newarray .int, 2, 0, 0, 0, 0, 0, 0, 0, 0, []) := rfl
theorem i_X1_init_20 : tab t_X1_init 20 = some (.putfield 18, 3, 2, 0, 0, 1, 1, 1, 0, 0, []) := rfl
theorem i_X1_init_23 : tab t_X1_init 23 = some (.aload_n 0, 1, 0, 0, 0, 0, 0, 0, 0, 0, []) := rfl
theorem i_X1_init_24 : tab t_X1_init 24 = some (.bipush 24, 2, 0, 24, 0, 0, 0, 0, 0, 0, []) := rfl
theorem i_X1_init_26 : tab t_X1_init 26 = some (.newarray .int, 2, 0, 0, 0, 0, 0, 0, 0, 0, []) := rfl
theorem i_X1_init_28 : tab t_X1_init 28 = some (.putfield 22, 3, 2, 0, 0, 1, 2, 1, 0, 0, []) := rfl
theorem i_X1_init_31 : tab t_X1_init 31 = some (.aload_n 0, 1, 0, 0, 0, 0, 0, 0, 0, 0, []) := rfl
theorem i_X1_init_32 : tab t_X1_init 32 = some (.bipush 24, 2, 0, 24, 0, 0, 0, 0, 0, 0, []) := rfl
theorem i_X1_init_34 : tab t_X1_init 34 = some (.newarray .int, 2, 0, 0, 0, 0, 0, 0, 0, 0, []) := rfl
theorem i_X1_init_36 : tab t_X1_init 36 = some (.putfield 25, 3, 2, 0, 0, 1, 3, 1, 0, 0, []) := rfl
theorem i_X1_init_39 : tab t_X1_init 39 = some (.aload_n 0, 1, 0, 0, 0, 0, 0, 0, 0, 0, []) := rfl
theorem i_X1_init_40 : tab t_X1_init 40 = some (.bipush 24, 2, 0, 24, 0, 0, 0, 0, 0, 0, []) := rfl
theorem i_X1_init_42 : tab t_X1_init 42 = some (.newarray .int, 2, 0, 0, 0, 0, 0, 0, 0, 0, []) := rfl
theorem i_X1_init_44 : tab t_X1_init 44 = some (.putfield 28, 3, 2, 0, 0, 1, 4, 1, 0, 0, []) := rfl
theorem i_X1_init_47 : tab t_X1_init 47 = some (.return_, 1, 0, 0, 0, 0, 0, 0, 0, 0, []) := rfl
def t_X1_learn : List (Nat × rw_) := [(0, (.aload_n 0, 1, 0, 0, 0, 0, 0, 0, 0, 0, [])), (1, (.getfield 18, 3, 2, 0, 0, 1, 1, 0, 0, 0, [])), (4, (.iconst 0, 1, 0, 0, 0, 0, 0, 0, 0, 0, [])), (5, (.invokestatic 31, 3, 2, 0, 0, 0, 241, 0, 0, 0, [])), (8, (.aload_n 0, 1, 0, 0, 0, 0, 0, 0, 0, 0, [])), (9, (.getfield 22, 3, 2, 0, 0, 1, 2, 0, 0, 0, [])), (12, (.iconst 0, 1, 0, 0, 0, 0, 0, 0, 0, 0, [])), (13, (.invokestatic 31, 3, 2, 0, 0, 0, 241, 0, 0, 0, [])), (16, (.iconst 0, 1, 0, 0, 0, 0, 0, 0, 0, 0, [])), (17, (.istore 4, 2, 4, 0, 0, 0, 0, 0, 0, 0, [])), (19, (.iload 4, 2, 4, 0, 0, 0, 0, 0, 0, 0, [])), (21, (.aload_n 1, 1, 1, 0, 0, 0, 0, 0, 0, 0, [])), (22, (.getfield 37, 3, 2, 0, 0, 7, 1, 0, 0, 0, [])), (25, (.getfield 43, 3, 0, 0, 0, 6, 3, 0, 0, 0, [])), (28, (.if_icmp .ge 26, 3, 54, 0, 0, 0, 0, 0, 0, 0, [])), (31, (.aload_n 1, 1, 1, 0, 0, 0, 0, 0, 0, 0, [])), (32, (.iload 4, 2, 4, 0, 0, 0, 0, 0, 0, 0, [])), (34, (.iload_n 2, 1, 2, 0, 0, 0, 0, 0, 0, 0, [])), (35, (.invokevirtual 49, 3, 2, 0, 0, 0, 66, 8, 0, 0, [])), (38, (.ifCond .eq 10, 3, 48, 0, 0, 0, 0, 0, 0, 0, [])), (41, (.aload_n 0, 1, 0, 0, 0, 0, 0, 0, 0, 0, [])), (42, (.aload_n 1, 1, 1, 0, 0, 0, 0, 0, 0, 0, [])), (43, (.iload 4, 2, 4, 0, 0, 0, 0, 0, 0, 0, [])), (45, (.invokevirtual 53, 3, 2, 0, 0, 0, 14, 2, 0, 0, [])), (48, (.iinc 4 1, 3, 4, 1, 0, 0, 0, 0, 0, 0, [])), (51, (.goto (-32), 3, 19, 0, 0, 0, 0, 0, 0, 0, [])), (54, (.iconst 0, 1, 0, 0, 0, 0, 0, 0, 0, 0, [])), (55, (.istore 4, 2, 4, 0, 0, 0, 0, 0, 0, 0, [])), (57, (.iload 4, 2, 4, 0, 0, 0, 0, 0, 0, 0, [])), (59, (.aload_n 1, 1, 1, 0, 0, 0, 0, 0, 0, 0, [])), (60, (.getfield 57, 3, 2, 0, 0, 7, 3, 0, 0, 0, [])), (63, (.getfield 43, 3, 0, 0, 0, 6, 3, 0, 0, 0, [])), (66, (.if_icmp .ge 28, 3, 94, 0, 0, 0, 0, 0, 0, 0, [])), (69, (.aload_n 0, 1, 0, 0, 0, 0, 0, 0, 0, 0, [])), (70, (.getfield 22, 3, 2, 0, 0, 1, 2, 0, 0, 0, [])), (73, (.aload_n 1, 1, 1, 0, 0, 0, 0, 0, 0, 0, [])), (74, (.getfield 57, 3, 2, 0, 0, 7, 3, 0, 0, 0, [])), (77, (.iload 4, 2, 4, 0, 0, 0, 0, 0, 0, 0, [])), (79, (.iconst 0, 1, 0, 0, 0, 0, 0, 0, 0, 0, [])), (80, (.invokevirtual 59, 3, 2, 0, 0, 0, 60, 7, 0, 0, [])), (83, (.iload 4, 2, 4, 0, 0, 0, 0, 0, 0, 0, [])), (85, (.invokestatic 63, 3, 3, 0, 0, 0, 16, 0, 0, 0, [])), (88, (.iinc 4 1, 3, 4, 1, 0, 0, 0, 0, 0, 0, [])), (91, (.goto (-34), 3, 57, 0, 0, 0, 0, 0, 0, 0, [])), (94, (.iconst 0, 1, 0, 0, 0, 0, 0, 0, 0, 0, [])), (95, (.istore 4, 2, 4, 0, 0, 0, 0, 0, 0, 0, [])), (97, (.iload 4, 2, 4, 0, 0, 0, 0, 0, 0, 0, [])), (99, (.aload_n 1, 1, 1, 0, 0, 0, 0, 0, 0, 0, [])), (100, (.getfield 67, 3, 2, 0, 0, 7, 5, 0, 0, 0, [])), (103, (.getfield 43, 3, 0, 0, 0, 6, 3, 0, 0, 0, [])), (106, (.if_icmp .ge 47, 3, 153, 0, 0, 0, 0, 0, 0, 0, [])), (109, (.aload_n 1, 1, 1, 0, 0, 0, 0, 0, 0, 0, [])), (110, (.getfield 67, 3, 2, 0, 0, 7, 5, 0, 0, 0, [])), (113, (.iload 4, 2, 4, 0, 0, 0, 0, 0, 0, 0, [])), (115, (.iconst 3, 1, 0, 3, 0, 0, 0, 0, 0, 0, [])), (116, (.invokevirtual 59, 3, 2, 0, 0, 0, 60, 7, 0, 0, [])), (119, (.istore 5, 2, 5, 0, 0, 0, 0, 0, 0, 0, [])), (121, (.iload 4, 2, 4, 0, 0, 0, 0, 0, 0, 0, [])), (123, (.iload_n 3, 1, 3, 0, 0, 0, 0, 0, 0, 0, [])), (124, (.if_icmp .eq 23, 3, 147, 0, 0, 0, 0, 0, 0, 0, [])), (127, (.iload 5, 2, 5, 0, 0, 0, 0, 0, 0, 0, [])), (129, (.iconst (-1), 1, 0, -1, 0, 0, 0, 0, 0, 0, [])), (130, (.if_icmp .eq 17, 3, 147, 0, 0, 0, 0, 0, 0, 0, [])), (133, (.iload 5, 2, 5, 0, 0, 0, 0, 0, 0, 0, [])), (135, (.iload_n 2, 1, 2, 0, 0, 0, 0, 0, 0, 0, [])), (136, (.if_icmp .gt 11, 3, 147, 0, 0, 0, 0, 0, 0, 0, [])), (139, (.aload_n 0, 1, 0, 0, 0, 0, 0, 0, 0, 0, [])), (140, (.aload_n 1, 1, 1, 0, 0, 0, 0, 0, 0, 0, [])), (141, (.iload 4, 2, 4, 0, 0, 0, 0, 0, 0, 0, [])), (143, (.iload_n 2, 1, 2, 0, 0, 0, 0, 0, 0, 0, [])), (144, (.invokevirtual 70, 3, 3, 0, 0, 0, 15, 2, 0, 0, [])), (147, (.iinc 4 1, 3, 4, 1, 0, 0, 0, 0, 0, 0, [])), (150, (.goto (-53), 3, 97, 0, 0, 0, 0, 0, 0, 0, [])), (153, (.return_, 1, 0, 0, 0, 0, 0, 0, 0, 0, []))]
set_option maxRecDepth 100000 in
theorem ok_X1_learn : tb_ok ctX1 m_X1_learn t_X1_learn = true := by decide +kernel
theorem i_X1_learn_0 : tab t_X1_learn 0 = some (.aload_n 0, 1, 0, 0, 0, 0, 0, 0, 0, 0, []) := rfl
theorem i_X1_learn_1 : tab t_X1_learn 1 = some (.getfield 18, 3, 2, 0, 0, 1, 1, 0, 0, 0, []) := rfl
theorem i_X1_learn_4 : tab t_X1_learn 4 = some (.iconst 0, 1, 0, 0, 0, 0, 0, 0, 0, 0, []) := rfl
theorem i_X1_learn_5 : tab t_X1_learn 5 = some (.invokestatic 31, 3, 2, 0, 0, 0, 241, 0, 0, 0, []) := rfl
theorem i_X1_learn_8 : tab t_X1_learn 8 = some (.aload_n 0, 1, 0, 0, 0, 0, 0, 0, 0, 0, []) := rfl
theorem i_X1_learn_9 : tab t_X1_learn 9 = some (.getfield 22, 3, 2, 0, 0, 1, 2, 0, 0, 0, []) := rfl
theorem i_X1_learn_12 : tab t_X1_learn 12 = some (.iconst 0, 1, 0, 0, 0, 0, 0, 0, 0, 0, []) := rfl
theorem i_X1_learn_13 : tab t_X1_learn 13 = some (.invokestatic 31, 3, 2, 0, 0, 0, 241, 0, 0, 0, []) := rfl
theorem i_X1_learn_16 : tab t_X1_learn 16 = some (.iconst 0, 1, 0, 0, 0, 0, 0, 0, 0, 0, []) := rfl
theorem i_X1_learn_17 : tab t_X1_learn 17 = some (.istore 4, 2, 4, 0, 0, 0, 0, 0, 0, 0, []) := rfl
theorem i_X1_learn_19 : tab t_X1_learn 19 = some (.iload 4, 2, 4, 0, 0, 0, 0, 0, 0, 0, []) := rfl
theorem i_X1_learn_21 : tab t_X1_learn 21 = some (.aload_n 1, 1, 1, 0, 0, 0, 0, 0, 0, 0, []) := rfl
theorem i_X1_learn_22 : tab t_X1_learn 22 = some (.getfield 37, 3, 2, 0, 0, 7, 1, 0, 0, 0, []) := rfl
theorem i_X1_learn_25 : tab t_X1_learn 25 = some (.getfield 43, 3, 0, 0, 0, 6, 3, 0, 0, 0, []) := rfl
theorem i_X1_learn_28 : tab t_X1_learn 28 = some (.if_icmp .ge 26, 3, 54, 0, 0, 0, 0, 0, 0, 0, []) := rfl
theorem i_X1_learn_31 : tab t_X1_learn 31 = some (.aload_n 1, 1, 1, 0, 0, 0, 0, 0, 0, 0, []) := rfl
theorem i_X1_learn_32 : tab t_X1_learn 32 = some (.iload 4, 2, 4, 0, 0, 0, 0, 0, 0, 0, []) := rfl
theorem i_X1_learn_34 : tab t_X1_learn 34 = some (.iload_n 2, 1, 2, 0, 0, 0, 0, 0, 0, 0, []) := rfl
theorem i_X1_learn_35 : tab t_X1_learn 35 = some (.invokevirtual 49, 3, 2, 0, 0, 0, 66, 8, 0, 0, []) := rfl
theorem i_X1_learn_38 : tab t_X1_learn 38 = some (.ifCond .eq 10, 3, 48, 0, 0, 0, 0, 0, 0, 0, []) := rfl
theorem i_X1_learn_41 : tab t_X1_learn 41 = some (.aload_n 0, 1, 0, 0, 0, 0, 0, 0, 0, 0, []) := rfl
theorem i_X1_learn_42 : tab t_X1_learn 42 = some (.aload_n 1, 1, 1, 0, 0, 0, 0, 0, 0, 0, []) := rfl
theorem i_X1_learn_43 : tab t_X1_learn 43 = some (.iload 4, 2, 4, 0, 0, 0, 0, 0, 0, 0, []) := rfl
theorem i_X1_learn_45 : tab t_X1_learn 45 = some (.invokevirtual 53, 3, 2, 0, 0, 0, 14, 2, 0, 0, []) := rfl
theorem i_X1_learn_48 : tab t_X1_learn 48 = some (.iinc 4 1, 3, 4, 1, 0, 0, 0, 0, 0, 0, []) := rfl
theorem i_X1_learn_51 : tab t_X1_learn 51 = some (.goto (-32), 3, 19, 0, 0, 0, 0, 0, 0, 0, []) := rfl
theorem i_X1_learn_54 : tab t_X1_learn 54 = some (.iconst 0, 1, 0, 0, 0, 0, 0, 0, 0, 0, []) := rfl
theorem i_X1_learn_55 : tab t_X1_learn 55 = some (.istore 4, 2, 4, 0, 0, 0, 0, 0, 0, 0, []) := rfl
theorem i_X1_learn_57 : tab t_X1_learn 57 = some (.iload 4, 2, 4, 0, 0, 0, 0, 0, 0, 0, []) := rfl
theorem i_X1_learn_59 : tab t_X1_learn 59 = some (.aload_n 1, 1, 1, 0, 0, 0, 0, 0, 0, 0, []) := rfl
theorem i_X1_learn_60 : tab t_X1_learn 60 = some (.getfield 57, 3, 2, 0, 0, 7, 3, 0, 0, 0, []) := rfl
theorem i_X1_learn_63 : tab t_X1_learn 63 = some (.getfield 43, 3, 0, 0, 0, 6, 3, 0, 0, 0, []) := rfl
theorem i_X1_learn_66 : tab t_X1_learn 66 = some (.if_icmp .ge 28, 3, 94, 0, 0, 0, 0, 0, 0, 0, []) := rfl
theorem i_X1_learn_69 : tab t_X1_learn 69 = some (.aload_n 0, 1, 0, 0, 0, 0, 0, 0, 0, 0, []) := rfl
theorem i_X1_learn_70 : tab t_X1_learn 70 = some (.getfield 22, 3, 2, 0, 0, 1, 2, 0, 0, 0, []) := rfl
theorem i_X1_learn_73 : tab t_X1_learn 73 = some (.aload_n 1, 1, 1, 0, 0, 0, 0, 0, 0, 0, []) := rfl
theorem i_X1_learn_74 : tab t_X1_learn 74 = some (.getfield 57, 3, 2, 0, 0, 7, 3, 0, 0, 0, []) := rfl
theorem i_X1_learn_77 : tab t_X1_learn 77 = some (.iload 4, 2, 4, 0, 0, 0, 0, 0, 0, 0, []) := rfl
theorem i_X1_learn_79 : tab t_X1_learn 79 = some (.iconst 0, 1, 0, 0, 0, 0, 0, 0, 0, 0, []) := rfl
theorem i_X1_learn_80 : tab t_X1_learn 80 = some (.invokevirtual 59, 3, 2, 0, 0, 0, 60, 7, 0, 0, []) := rfl
theorem i_X1_learn_83 : tab t_X1_learn 83 = some (.iload 4, 2, 4, 0, 0, 0, 0, 0, 0, 0, []) := rfl
theorem i_X1_learn_85 : tab t_X1_learn 85 = some (.invokestatic 63, 3, 3, 0, 0, 0, 16, 0, 0, 0, []) := rfl
theorem i_X1_learn_88 : tab t_X1_learn 88 = some (.iinc 4 1, 3, 4, 1, 0, 0, 0, 0, 0, 0, []) := rfl
theorem i_X1_learn_91 : tab t_X1_learn 91 = some (.goto (-34), 3, 57, 0, 0, 0, 0, 0, 0, 0, []) := rfl
theorem i_X1_learn_94 : tab t_X1_learn 94 = some (.iconst 0, 1, 0, 0, 0, 0, 0, 0, 0, 0, []) := rfl
theorem i_X1_learn_95 : tab t_X1_learn 95 = some (.istore 4, 2, 4, 0, 0, 0, 0, 0, 0, 0, []) := rfl
theorem i_X1_learn_97 : tab t_X1_learn 97 = some (.iload 4, 2, 4, 0, 0, 0, 0, 0, 0, 0, []) := rfl
theorem i_X1_learn_99 : tab t_X1_learn 99 = some (.aload_n 1, 1, 1, 0, 0, 0, 0, 0, 0, 0, []) := rfl
theorem i_X1_learn_100 : tab t_X1_learn 100 = some (.getfield 67, 3, 2, 0, 0, 7, 5, 0, 0, 0, []) := rfl
theorem i_X1_learn_103 : tab t_X1_learn 103 = some (.getfield 43, 3, 0, 0, 0, 6, 3, 0, 0, 0, []) := rfl
theorem i_X1_learn_106 : tab t_X1_learn 106 = some (.if_icmp .ge 47, 3, 153, 0, 0, 0, 0, 0, 0, 0, []) := rfl
theorem i_X1_learn_109 : tab t_X1_learn 109 = some (.aload_n 1, 1, 1, 0, 0, 0, 0, 0, 0, 0, []) := rfl
theorem i_X1_learn_110 : tab t_X1_learn 110 = some (.getfield 67, 3, 2, 0, 0, 7, 5, 0, 0, 0, []) := rfl
theorem i_X1_learn_113 : tab t_X1_learn 113 = some (.iload 4, 2, 4, 0, 0, 0, 0, 0, 0, 0, []) := rfl
theorem i_X1_learn_115 : tab t_X1_learn 115 = some (.iconst 3, 1, 0, 3, 0, 0, 0, 0, 0, 0, []) := rfl
theorem i_X1_learn_116 : tab t_X1_learn 116 = some (.invokevirtual 59, 3, 2, 0, 0, 0, 60, 7, 0, 0, []) := rfl
theorem i_X1_learn_119 : tab t_X1_learn 119 = some (.istore 5, 2, 5, 0, 0, 0, 0, 0, 0, 0, []) := rfl
theorem i_X1_learn_121 : tab t_X1_learn 121 = some (.iload 4, 2, 4, 0, 0, 0, 0, 0, 0, 0, []) := rfl
theorem i_X1_learn_123 : tab t_X1_learn 123 = some (.iload_n 3, 1, 3, 0, 0, 0, 0, 0, 0, 0, []) := rfl
theorem i_X1_learn_124 : tab t_X1_learn 124 = some (.if_icmp .eq 23, 3, 147, 0, 0, 0, 0, 0, 0, 0, []) := rfl
theorem i_X1_learn_127 : tab t_X1_learn 127 = some (.iload 5, 2, 5, 0, 0, 0, 0, 0, 0, 0, []) := rfl
theorem i_X1_learn_129 : tab t_X1_learn 129 = some (.iconst (-1), 1, 0, -1, 0, 0, 0, 0, 0, 0, []) := rfl
theorem i_X1_learn_130 : tab t_X1_learn 130 = some (.if_icmp .eq 17, 3, 147, 0, 0, 0, 0, 0, 0, 0, []) := rfl
theorem i_X1_learn_133 : tab t_X1_learn 133 = some (.iload 5, 2, 5, 0, 0, 0, 0, 0, 0, 0, []) := rfl
theorem i_X1_learn_135 : tab t_X1_learn 135 = some (.iload_n 2, 1, 2, 0, 0, 0, 0, 0, 0, 0, []) := rfl
theorem i_X1_learn_136 : tab t_X1_learn 136 = some (.if_icmp .gt 11, 3, 147, 0, 0, 0, 0, 0, 0, 0, []) := rfl
theorem i_X1_learn_139 : tab t_X1_learn 139 = some (.aload_n 0, 1, 0, 0, 0, 0, 0, 0, 0, 0, []) := rfl
theorem i_X1_learn_140 : tab t_X1_learn 140 = some (.aload_n 1, 1, 1, 0, 0, 0, 0, 0, 0, 0, []) := rfl
theorem i_X1_learn_141 : tab t_X1_learn 141 = some (.iload 4, 2, 4, 0, 0, 0, 0, 0, 0, 0, []) := rfl
theorem i_X1_learn_143 : tab t_X1_learn 143 = some (.iload_n 2, 1, 2, 0, 0, 0, 0, 0, 0, 0, []) := rfl
theorem i_X1_learn_144 : tab t_X1_learn 144 = some (.invokevirtual 70, 3, 3, 0, 0, 0, 15, 2, 0, 0, []) := rfl
theorem i_X1_learn_147 : tab t_X1_learn 147 = some (.iinc 4 1, 3, 4, 1, 0, 0, 0, 0, 0, 0, []) := rfl
theorem i_X1_learn_150 : tab t_X1_learn 150 = some (.goto (-53), 3, 97, 0, 0, 0, 0, 0, 0, 0, []) := rfl
theorem i_X1_learn_153 : tab t_X1_learn 153 = some (.return_, 1, 0, 0, 0, 0, 0, 0, 0, 0, []) := rfl
def t_X1_witness : List (Nat × rw_) := [(0, (.aload_n 0, 1, 0, 0, 0, 0, 0, 0, 0, 0, [])), (1, (.getfield 12, 3, 2, 0, 0, 1, 0, 0, 0, 0, [])), (4, (.aload_n 1, 1, 1, 0, 0, 0, 0, 0, 0, 0, [])), (5, (.aload_n 1, 1, 1, 0, 0, 0, 0, 0, 0, 0, [])), (6, (.getfield 37, 3, 2, 0, 0, 7, 1, 0, 0, 0, [])), (9, (.iload_n 2, 1, 2, 0, 0, 0, 0, 0, 0, 0, [])), (10, (.iconst 5, 1, 0, 5, 0, 0, 0, 0, 0, 0, [])), (11, (.invokevirtual 59, 3, 2, 0, 0, 0, 60, 7, 0, 0, [])), (14, (.invokevirtual 74, 3, 2, 0, 0, 0, 46, 5, 0, 0, [])), (17, (.iconst 0, 1, 0, 0, 0, 0, 0, 0, 0, 0, [])), (18, (.istore_n 3, 1, 3, 0, 0, 0, 0, 0, 0, 0, [])), (19, (.iload_n 3, 1, 3, 0, 0, 0, 0, 0, 0, 0, [])), (20, (.aload_n 1, 1, 1, 0, 0, 0, 0, 0, 0, 0, [])), (21, (.getfield 37, 3, 2, 0, 0, 7, 1, 0, 0, 0, [])), (24, (.getfield 43, 3, 0, 0, 0, 6, 3, 0, 0, 0, [])), (27, (.if_icmp .ge 39, 3, 66, 0, 0, 0, 0, 0, 0, 0, [])), (30, (.iload_n 3, 1, 3, 0, 0, 0, 0, 0, 0, 0, [])), (31, (.iload_n 2, 1, 2, 0, 0, 0, 0, 0, 0, 0, [])), (32, (.if_icmp .eq 19, 3, 51, 0, 0, 0, 0, 0, 0, 0, [])), (35, (.aload_n 0, 1, 0, 0, 0, 0, 0, 0, 0, 0, [])), (36, (.getfield 12, 3, 2, 0, 0, 1, 0, 0, 0, 0, [])), (39, (.iload_n 3, 1, 3, 0, 0, 0, 0, 0, 0, 0, [])), (40, (.iload_n 2, 1, 2, 0, 0, 0, 0, 0, 0, 0, [])), (41, (.aload_n 1, 1, 1, 0, 0, 0, 0, 0, 0, 0, [])), (42, (.getfield 77, 3, 0, 0, 0, 7, 7, 0, 0, 0, [])), (45, (.invokevirtual 80, 3, 3, 0, 0, 0, 48, 5, 0, 0, [])), (48, (.ifCond .eq 12, 3, 60, 0, 0, 0, 0, 0, 0, 0, [])), (51, (.aload_n 0, 1, 0, 0, 0, 0, 0, 0, 0, 0, [])), (52, (.getfield 18, 3, 2, 0, 0, 1, 1, 0, 0, 0, [])), (55, (.iload_n 3, 1, 3, 0, 0, 0, 0, 0, 0, 0, [])), (56, (.iload_n 2, 1, 2, 0, 0, 0, 0, 0, 0, 0, [])), (57, (.invokestatic 63, 3, 3, 0, 0, 0, 16, 0, 0, 0, [])), (60, (.iinc 3 1, 3, 3, 1, 0, 0, 0, 0, 0, 0, [])), (63, (.goto (-44), 3, 19, 0, 0, 0, 0, 0, 0, 0, [])), (66, (.return_, 1, 0, 0, 0, 0, 0, 0, 0, 0, []))]
set_option maxRecDepth 100000 in
theorem ok_X1_witness : tb_ok ctX1 m_X1_witness t_X1_witness = true := by decide +kernel
theorem i_X1_witness_0 : tab t_X1_witness 0 = some (.aload_n 0, 1, 0, 0, 0, 0, 0, 0, 0, 0, []) := rfl
theorem i_X1_witness_1 : tab t_X1_witness 1 = some (.getfield 12, 3, 2, 0, 0, 1, 0, 0, 0, 0, []) := rfl
theorem i_X1_witness_4 : tab t_X1_witness 4 = some (.aload_n 1, 1, 1, 0, 0, 0, 0, 0, 0, 0, []) := rfl
theorem i_X1_witness_5 : tab t_X1_witness 5 = some (.aload_n 1, 1, 1, 0, 0, 0, 0, 0, 0, 0, []) := rfl
theorem i_X1_witness_6 : tab t_X1_witness 6 = some (.getfield 37, 3, 2, 0, 0, 7, 1, 0, 0, 0, []) := rfl
theorem i_X1_witness_9 : tab t_X1_witness 9 = some (.iload_n 2, 1, 2, 0, 0, 0, 0, 0, 0, 0, []) := rfl
theorem i_X1_witness_10 : tab t_X1_witness 10 = some (.iconst 5, 1, 0, 5, 0, 0, 0, 0, 0, 0, []) := rfl
theorem i_X1_witness_11 : tab t_X1_witness 11 = some (.invokevirtual 59, 3, 2, 0, 0, 0, 60, 7, 0, 0, []) := rfl
theorem i_X1_witness_14 : tab t_X1_witness 14 = some (.invokevirtual 74, 3, 2, 0, 0, 0, 46, 5, 0, 0, []) := rfl
theorem i_X1_witness_17 : tab t_X1_witness 17 = some (.iconst 0, 1, 0, 0, 0, 0, 0, 0, 0, 0, []) := rfl
theorem i_X1_witness_18 : tab t_X1_witness 18 = some (.istore_n 3, 1, 3, 0, 0, 0, 0, 0, 0, 0, []) := rfl
theorem i_X1_witness_19 : tab t_X1_witness 19 = some (.iload_n 3, 1, 3, 0, 0, 0, 0, 0, 0, 0, []) := rfl
theorem i_X1_witness_20 : tab t_X1_witness 20 = some (.aload_n 1, 1, 1, 0, 0, 0, 0, 0, 0, 0, []) := rfl
theorem i_X1_witness_21 : tab t_X1_witness 21 = some (.getfield 37, 3, 2, 0, 0, 7, 1, 0, 0, 0, []) := rfl
theorem i_X1_witness_24 : tab t_X1_witness 24 = some (.getfield 43, 3, 0, 0, 0, 6, 3, 0, 0, 0, []) := rfl
theorem i_X1_witness_27 : tab t_X1_witness 27 = some (.if_icmp .ge 39, 3, 66, 0, 0, 0, 0, 0, 0, 0, []) := rfl
theorem i_X1_witness_30 : tab t_X1_witness 30 = some (.iload_n 3, 1, 3, 0, 0, 0, 0, 0, 0, 0, []) := rfl
theorem i_X1_witness_31 : tab t_X1_witness 31 = some (.iload_n 2, 1, 2, 0, 0, 0, 0, 0, 0, 0, []) := rfl
theorem i_X1_witness_32 : tab t_X1_witness 32 = some (.if_icmp .eq 19, 3, 51, 0, 0, 0, 0, 0, 0, 0, []) := rfl
theorem i_X1_witness_35 : tab t_X1_witness 35 = some (.aload_n 0, 1, 0, 0, 0, 0, 0, 0, 0, 0, []) := rfl
theorem i_X1_witness_36 : tab t_X1_witness 36 = some (.getfield 12, 3, 2, 0, 0, 1, 0, 0, 0, 0, []) := rfl
theorem i_X1_witness_39 : tab t_X1_witness 39 = some (.iload_n 3, 1, 3, 0, 0, 0, 0, 0, 0, 0, []) := rfl
theorem i_X1_witness_40 : tab t_X1_witness 40 = some (.iload_n 2, 1, 2, 0, 0, 0, 0, 0, 0, 0, []) := rfl
theorem i_X1_witness_41 : tab t_X1_witness 41 = some (.aload_n 1, 1, 1, 0, 0, 0, 0, 0, 0, 0, []) := rfl
theorem i_X1_witness_42 : tab t_X1_witness 42 = some (.getfield 77, 3, 0, 0, 0, 7, 7, 0, 0, 0, []) := rfl
theorem i_X1_witness_45 : tab t_X1_witness 45 = some (.invokevirtual 80, 3, 3, 0, 0, 0, 48, 5, 0, 0, []) := rfl
theorem i_X1_witness_48 : tab t_X1_witness 48 = some (.ifCond .eq 12, 3, 60, 0, 0, 0, 0, 0, 0, 0, []) := rfl
theorem i_X1_witness_51 : tab t_X1_witness 51 = some (.aload_n 0, 1, 0, 0, 0, 0, 0, 0, 0, 0, []) := rfl
theorem i_X1_witness_52 : tab t_X1_witness 52 = some (.getfield 18, 3, 2, 0, 0, 1, 1, 0, 0, 0, []) := rfl
theorem i_X1_witness_55 : tab t_X1_witness 55 = some (.iload_n 3, 1, 3, 0, 0, 0, 0, 0, 0, 0, []) := rfl
theorem i_X1_witness_56 : tab t_X1_witness 56 = some (.iload_n 2, 1, 2, 0, 0, 0, 0, 0, 0, 0, []) := rfl
theorem i_X1_witness_57 : tab t_X1_witness 57 = some (.invokestatic 63, 3, 3, 0, 0, 0, 16, 0, 0, 0, []) := rfl
theorem i_X1_witness_60 : tab t_X1_witness 60 = some (.iinc 3 1, 3, 3, 1, 0, 0, 0, 0, 0, 0, []) := rfl
theorem i_X1_witness_63 : tab t_X1_witness 63 = some (.goto (-44), 3, 19, 0, 0, 0, 0, 0, 0, 0, []) := rfl
theorem i_X1_witness_66 : tab t_X1_witness 66 = some (.return_, 1, 0, 0, 0, 0, 0, 0, 0, 0, []) := rfl
def t_X1_hear : List (Nat × rw_) := [(0, (.aload_n 1, 1, 1, 0, 0, 0, 0, 0, 0, 0, [])), (1, (.getfield 67, 3, 2, 0, 0, 7, 5, 0, 0, 0, [])), (4, (.iload_n 2, 1, 2, 0, 0, 0, 0, 0, 0, 0, [])), (5, (.iconst 1, 1, 0, 1, 0, 0, 0, 0, 0, 0, [])), (6, (.invokevirtual 59, 3, 2, 0, 0, 0, 60, 7, 0, 0, [])), (9, (.istore 4, 2, 4, 0, 0, 0, 0, 0, 0, 0, [])), (11, (.aload_n 1, 1, 1, 0, 0, 0, 0, 0, 0, 0, [])), (12, (.getfield 67, 3, 2, 0, 0, 7, 5, 0, 0, 0, [])), (15, (.iload_n 2, 1, 2, 0, 0, 0, 0, 0, 0, 0, [])), (16, (.iconst 2, 1, 0, 2, 0, 0, 0, 0, 0, 0, [])), (17, (.invokevirtual 59, 3, 2, 0, 0, 0, 60, 7, 0, 0, [])), (20, (.istore 5, 2, 5, 0, 0, 0, 0, 0, 0, 0, [])), (22, (.aload_n 1, 1, 1, 0, 0, 0, 0, 0, 0, 0, [])), (23, (.getfield 67, 3, 2, 0, 0, 7, 5, 0, 0, 0, [])), (26, (.iload_n 2, 1, 2, 0, 0, 0, 0, 0, 0, 0, [])), (27, (.iconst 0, 1, 0, 0, 0, 0, 0, 0, 0, 0, [])), (28, (.invokevirtual 59, 3, 2, 0, 0, 0, 60, 7, 0, 0, [])), (31, (.iconst 1, 1, 0, 1, 0, 0, 0, 0, 0, 0, [])), (32, (.if_icmp .ne 17, 3, 49, 0, 0, 0, 0, 0, 0, 0, [])), (35, (.aload_n 0, 1, 0, 0, 0, 0, 0, 0, 0, 0, [])), (36, (.getfield 22, 3, 2, 0, 0, 1, 2, 0, 0, 0, [])), (39, (.iload 5, 2, 5, 0, 0, 0, 0, 0, 0, 0, [])), (41, (.iload 4, 2, 4, 0, 0, 0, 0, 0, 0, 0, [])), (43, (.invokestatic 63, 3, 3, 0, 0, 0, 16, 0, 0, 0, [])), (46, (.goto 24, 3, 70, 0, 0, 0, 0, 0, 0, 0, [])), (49, (.aload_n 1, 1, 1, 0, 0, 0, 0, 0, 0, 0, [])), (50, (.iload 4, 2, 4, 0, 0, 0, 0, 0, 0, 0, [])), (52, (.iload_n 3, 1, 3, 0, 0, 0, 0, 0, 0, 0, [])), (53, (.invokevirtual 49, 3, 2, 0, 0, 0, 66, 8, 0, 0, [])), (56, (.ifCond .eq 14, 3, 70, 0, 0, 0, 0, 0, 0, 0, [])), (59, (.aload_n 0, 1, 0, 0, 0, 0, 0, 0, 0, 0, [])), (60, (.getfield 18, 3, 2, 0, 0, 1, 1, 0, 0, 0, [])), (63, (.iload 5, 2, 5, 0, 0, 0, 0, 0, 0, 0, [])), (65, (.iload 4, 2, 4, 0, 0, 0, 0, 0, 0, 0, [])), (67, (.invokestatic 63, 3, 3, 0, 0, 0, 16, 0, 0, 0, [])), (70, (.return_, 1, 0, 0, 0, 0, 0, 0, 0, 0, []))]
set_option maxRecDepth 100000 in
theorem ok_X1_hear : tb_ok ctX1 m_X1_hear t_X1_hear = true := by decide +kernel
theorem i_X1_hear_0 : tab t_X1_hear 0 = some (.aload_n 1, 1, 1, 0, 0, 0, 0, 0, 0, 0, []) := rfl
theorem i_X1_hear_1 : tab t_X1_hear 1 = some (.getfield 67, 3, 2, 0, 0, 7, 5, 0, 0, 0, []) := rfl
theorem i_X1_hear_4 : tab t_X1_hear 4 = some (.iload_n 2, 1, 2, 0, 0, 0, 0, 0, 0, 0, []) := rfl
theorem i_X1_hear_5 : tab t_X1_hear 5 = some (.iconst 1, 1, 0, 1, 0, 0, 0, 0, 0, 0, []) := rfl
theorem i_X1_hear_6 : tab t_X1_hear 6 = some (.invokevirtual 59, 3, 2, 0, 0, 0, 60, 7, 0, 0, []) := rfl
theorem i_X1_hear_9 : tab t_X1_hear 9 = some (.istore 4, 2, 4, 0, 0, 0, 0, 0, 0, 0, []) := rfl
theorem i_X1_hear_11 : tab t_X1_hear 11 = some (.aload_n 1, 1, 1, 0, 0, 0, 0, 0, 0, 0, []) := rfl
theorem i_X1_hear_12 : tab t_X1_hear 12 = some (.getfield 67, 3, 2, 0, 0, 7, 5, 0, 0, 0, []) := rfl
theorem i_X1_hear_15 : tab t_X1_hear 15 = some (.iload_n 2, 1, 2, 0, 0, 0, 0, 0, 0, 0, []) := rfl
theorem i_X1_hear_16 : tab t_X1_hear 16 = some (.iconst 2, 1, 0, 2, 0, 0, 0, 0, 0, 0, []) := rfl
theorem i_X1_hear_17 : tab t_X1_hear 17 = some (.invokevirtual 59, 3, 2, 0, 0, 0, 60, 7, 0, 0, []) := rfl
theorem i_X1_hear_20 : tab t_X1_hear 20 = some (.istore 5, 2, 5, 0, 0, 0, 0, 0, 0, 0, []) := rfl
theorem i_X1_hear_22 : tab t_X1_hear 22 = some (.aload_n 1, 1, 1, 0, 0, 0, 0, 0, 0, 0, []) := rfl
theorem i_X1_hear_23 : tab t_X1_hear 23 = some (.getfield 67, 3, 2, 0, 0, 7, 5, 0, 0, 0, []) := rfl
theorem i_X1_hear_26 : tab t_X1_hear 26 = some (.iload_n 2, 1, 2, 0, 0, 0, 0, 0, 0, 0, []) := rfl
theorem i_X1_hear_27 : tab t_X1_hear 27 = some (.iconst 0, 1, 0, 0, 0, 0, 0, 0, 0, 0, []) := rfl
theorem i_X1_hear_28 : tab t_X1_hear 28 = some (.invokevirtual 59, 3, 2, 0, 0, 0, 60, 7, 0, 0, []) := rfl
theorem i_X1_hear_31 : tab t_X1_hear 31 = some (.iconst 1, 1, 0, 1, 0, 0, 0, 0, 0, 0, []) := rfl
theorem i_X1_hear_32 : tab t_X1_hear 32 = some (.if_icmp .ne 17, 3, 49, 0, 0, 0, 0, 0, 0, 0, []) := rfl
theorem i_X1_hear_35 : tab t_X1_hear 35 = some (.aload_n 0, 1, 0, 0, 0, 0, 0, 0, 0, 0, []) := rfl
theorem i_X1_hear_36 : tab t_X1_hear 36 = some (.getfield 22, 3, 2, 0, 0, 1, 2, 0, 0, 0, []) := rfl
theorem i_X1_hear_39 : tab t_X1_hear 39 = some (.iload 5, 2, 5, 0, 0, 0, 0, 0, 0, 0, []) := rfl
theorem i_X1_hear_41 : tab t_X1_hear 41 = some (.iload 4, 2, 4, 0, 0, 0, 0, 0, 0, 0, []) := rfl
theorem i_X1_hear_43 : tab t_X1_hear 43 = some (.invokestatic 63, 3, 3, 0, 0, 0, 16, 0, 0, 0, []) := rfl
theorem i_X1_hear_46 : tab t_X1_hear 46 = some (.goto 24, 3, 70, 0, 0, 0, 0, 0, 0, 0, []) := rfl
theorem i_X1_hear_49 : tab t_X1_hear 49 = some (.aload_n 1, 1, 1, 0, 0, 0, 0, 0, 0, 0, []) := rfl
theorem i_X1_hear_50 : tab t_X1_hear 50 = some (.iload 4, 2, 4, 0, 0, 0, 0, 0, 0, 0, []) := rfl
theorem i_X1_hear_52 : tab t_X1_hear 52 = some (.iload_n 3, 1, 3, 0, 0, 0, 0, 0, 0, 0, []) := rfl
theorem i_X1_hear_53 : tab t_X1_hear 53 = some (.invokevirtual 49, 3, 2, 0, 0, 0, 66, 8, 0, 0, []) := rfl
theorem i_X1_hear_56 : tab t_X1_hear 56 = some (.ifCond .eq 14, 3, 70, 0, 0, 0, 0, 0, 0, 0, []) := rfl
theorem i_X1_hear_59 : tab t_X1_hear 59 = some (.aload_n 0, 1, 0, 0, 0, 0, 0, 0, 0, 0, []) := rfl
theorem i_X1_hear_60 : tab t_X1_hear 60 = some (.getfield 18, 3, 2, 0, 0, 1, 1, 0, 0, 0, []) := rfl
theorem i_X1_hear_63 : tab t_X1_hear 63 = some (.iload 5, 2, 5, 0, 0, 0, 0, 0, 0, 0, []) := rfl
theorem i_X1_hear_65 : tab t_X1_hear 65 = some (.iload 4, 2, 4, 0, 0, 0, 0, 0, 0, 0, []) := rfl
theorem i_X1_hear_67 : tab t_X1_hear 67 = some (.invokestatic 63, 3, 3, 0, 0, 0, 16, 0, 0, 0, []) := rfl
theorem i_X1_hear_70 : tab t_X1_hear 70 = some (.return_, 1, 0, 0, 0, 0, 0, 0, 0, 0, []) := rfl
def t_X1_note : List (Nat × rw_) := [(0, (.iload_n 1, 1, 1, 0, 0, 0, 0, 0, 0, 0, [])), (1, (.ifCond .lt 18, 3, 19, 0, 0, 0, 0, 0, 0, 0, [])), (4, (.iload_n 1, 1, 1, 0, 0, 0, 0, 0, 0, 0, [])), (5, (.aload_n 0, 1, 0, 0, 0, 0, 0, 0, 0, 0, [])), (6, (.arraylength, 1, 0, 0, 0, 0, 0, 0, 0, 0, [])), (7, (.if_icmp .ge 12, 3, 19, 0, 0, 0, 0, 0, 0, 0, [])), (10, (.aload_n 0, 1, 0, 0, 0, 0, 0, 0, 0, 0, [])), (11, (.iload_n 1, 1, 1, 0, 0, 0, 0, 0, 0, 0, [])), (12, (.dup2, 1, 0, 0, 0, 0, 0, 0, 0, 0, [])), (13, (.iaload, 1, 0, 0, 0, 0, 0, 0, 0, 0, [])), (14, (.iconst 1, 1, 0, 1, 0, 0, 0, 0, 0, 0, [])), (15, (.iload_n 2, 1, 2, 0, 0, 0, 0, 0, 0, 0, [])), (16, (.ishl, 1, 0, 0, 0, 0, 0, 0, 0, 0, [])), (17, (.ior, 1, 0, 0, 0, 0, 0, 0, 0, 0, [])), (18, (.iastore, 1, 0, 0, 0, 0, 0, 0, 0, 0, [])), (19, (.return_, 1, 0, 0, 0, 0, 0, 0, 0, 0, []))]
set_option maxRecDepth 100000 in
theorem ok_X1_note : tb_ok ctX1 m_X1_note t_X1_note = true := by decide +kernel
theorem i_X1_note_0 : tab t_X1_note 0 = some (.iload_n 1, 1, 1, 0, 0, 0, 0, 0, 0, 0, []) := rfl
theorem i_X1_note_1 : tab t_X1_note 1 = some (.ifCond .lt 18, 3, 19, 0, 0, 0, 0, 0, 0, 0, []) := rfl
theorem i_X1_note_4 : tab t_X1_note 4 = some (.iload_n 1, 1, 1, 0, 0, 0, 0, 0, 0, 0, []) := rfl
theorem i_X1_note_5 : tab t_X1_note 5 = some (.aload_n 0, 1, 0, 0, 0, 0, 0, 0, 0, 0, []) := rfl
theorem i_X1_note_6 : tab t_X1_note 6 = some (.arraylength, 1, 0, 0, 0, 0, 0, 0, 0, 0, []) := rfl
theorem i_X1_note_7 : tab t_X1_note 7 = some (.if_icmp .ge 12, 3, 19, 0, 0, 0, 0, 0, 0, 0, []) := rfl
theorem i_X1_note_10 : tab t_X1_note 10 = some (.aload_n 0, 1, 0, 0, 0, 0, 0, 0, 0, 0, []) := rfl
theorem i_X1_note_11 : tab t_X1_note 11 = some (.iload_n 1, 1, 1, 0, 0, 0, 0, 0, 0, 0, []) := rfl
theorem i_X1_note_12 : tab t_X1_note 12 = some (.dup2, 1, 0, 0, 0, 0, 0, 0, 0, 0, []) := rfl
theorem i_X1_note_13 : tab t_X1_note 13 = some (.iaload, 1, 0, 0, 0, 0, 0, 0, 0, 0, []) := rfl
theorem i_X1_note_14 : tab t_X1_note 14 = some (.iconst 1, 1, 0, 1, 0, 0, 0, 0, 0, 0, []) := rfl
theorem i_X1_note_15 : tab t_X1_note 15 = some (.iload_n 2, 1, 2, 0, 0, 0, 0, 0, 0, 0, []) := rfl
theorem i_X1_note_16 : tab t_X1_note 16 = some (.ishl, 1, 0, 0, 0, 0, 0, 0, 0, 0, []) := rfl
theorem i_X1_note_17 : tab t_X1_note 17 = some (.ior, 1, 0, 0, 0, 0, 0, 0, 0, 0, []) := rfl
theorem i_X1_note_18 : tab t_X1_note 18 = some (.iastore, 1, 0, 0, 0, 0, 0, 0, 0, 0, []) := rfl
theorem i_X1_note_19 : tab t_X1_note 19 = some (.return_, 1, 0, 0, 0, 0, 0, 0, 0, 0, []) := rfl
def t_X1_learnHolders : List (Nat × rw_) := [(0, (.aload_n 0, 1, 0, 0, 0, 0, 0, 0, 0, 0, [])), (1, (.getfield 25, 3, 2, 0, 0, 1, 3, 0, 0, 0, [])), (4, (.iconst 0, 1, 0, 0, 0, 0, 0, 0, 0, 0, [])), (5, (.invokestatic 31, 3, 2, 0, 0, 0, 241, 0, 0, 0, [])), (8, (.iconst 0, 1, 0, 0, 0, 0, 0, 0, 0, 0, [])), (9, (.istore 4, 2, 4, 0, 0, 0, 0, 0, 0, 0, [])), (11, (.iload 4, 2, 4, 0, 0, 0, 0, 0, 0, 0, [])), (13, (.aload_n 1, 1, 1, 0, 0, 0, 0, 0, 0, 0, [])), (14, (.getfield 57, 3, 2, 0, 0, 7, 3, 0, 0, 0, [])), (17, (.getfield 43, 3, 0, 0, 0, 6, 3, 0, 0, 0, [])), (20, (.if_icmp .ge 70, 3, 90, 0, 0, 0, 0, 0, 0, 0, [])), (23, (.aload_n 1, 1, 1, 0, 0, 0, 0, 0, 0, 0, [])), (24, (.iload 4, 2, 4, 0, 0, 0, 0, 0, 0, 0, [])), (26, (.iload_n 2, 1, 2, 0, 0, 0, 0, 0, 0, 0, [])), (27, (.iload_n 3, 1, 3, 0, 0, 0, 0, 0, 0, 0, [])), (28, (.invokevirtual 84, 3, 3, 0, 0, 0, 68, 8, 0, 0, [])), (31, (.ifCond .eq 53, 3, 84, 0, 0, 0, 0, 0, 0, 0, [])), (34, (.iconst 0, 1, 0, 0, 0, 0, 0, 0, 0, 0, [])), (35, (.istore 5, 2, 5, 0, 0, 0, 0, 0, 0, 0, [])), (37, (.iload 5, 2, 5, 0, 0, 0, 0, 0, 0, 0, [])), (39, (.bipush 24, 2, 0, 24, 0, 0, 0, 0, 0, 0, [])), (41, (.if_icmp .ge 43, 3, 84, 0, 0, 0, 0, 0, 0, 0, [])), (44, (.aload_n 0, 1, 0, 0, 0, 0, 0, 0, 0, 0, [])), (45, (.getfield 22, 3, 2, 0, 0, 1, 2, 0, 0, 0, [])), (48, (.iload 5, 2, 5, 0, 0, 0, 0, 0, 0, 0, [])), (50, (.iaload, 1, 0, 0, 0, 0, 0, 0, 0, 0, [])), (51, (.iload 4, 2, 4, 0, 0, 0, 0, 0, 0, 0, [])), (53, (.invokestatic 87, 3, 2, 0, 0, 0, 112, 0, 0, 0, [])), (56, (.ifCond .eq 22, 3, 78, 0, 0, 0, 0, 0, 0, 0, [])), (59, (.aload_n 0, 1, 0, 0, 0, 0, 0, 0, 0, 0, [])), (60, (.getfield 25, 3, 2, 0, 0, 1, 3, 0, 0, 0, [])), (63, (.iload 5, 2, 5, 0, 0, 0, 0, 0, 0, 0, [])), (65, (.aload_n 1, 1, 1, 0, 0, 0, 0, 0, 0, 0, [])), (66, (.getfield 57, 3, 2, 0, 0, 7, 3, 0, 0, 0, [])), (69, (.iload 4, 2, 4, 0, 0, 0, 0, 0, 0, 0, [])), (71, (.iconst 0, 1, 0, 0, 0, 0, 0, 0, 0, 0, [])), (72, (.invokevirtual 59, 3, 2, 0, 0, 0, 60, 7, 0, 0, [])), (75, (.invokestatic 63, 3, 3, 0, 0, 0, 16, 0, 0, 0, [])), (78, (.iinc 5 1, 3, 5, 1, 0, 0, 0, 0, 0, 0, [])), (81, (.goto (-44), 3, 37, 0, 0, 0, 0, 0, 0, 0, [])), (84, (.iinc 4 1, 3, 4, 1, 0, 0, 0, 0, 0, 0, [])), (87, (.goto (-76), 3, 11, 0, 0, 0, 0, 0, 0, 0, [])), (90, (.return_, 1, 0, 0, 0, 0, 0, 0, 0, 0, []))]
set_option maxRecDepth 100000 in
theorem ok_X1_learnHolders : tb_ok ctX1 m_X1_learnHolders t_X1_learnHolders = true := by decide +kernel
theorem i_X1_learnHolders_0 : tab t_X1_learnHolders 0 = some (.aload_n 0, 1, 0, 0, 0, 0, 0, 0, 0, 0, []) := rfl
theorem i_X1_learnHolders_1 : tab t_X1_learnHolders 1 = some (.getfield 25, 3, 2, 0, 0, 1, 3, 0, 0, 0, []) := rfl
theorem i_X1_learnHolders_4 : tab t_X1_learnHolders 4 = some (.iconst 0, 1, 0, 0, 0, 0, 0, 0, 0, 0, []) := rfl
theorem i_X1_learnHolders_5 : tab t_X1_learnHolders 5 = some (.invokestatic 31, 3, 2, 0, 0, 0, 241, 0, 0, 0, []) := rfl
theorem i_X1_learnHolders_8 : tab t_X1_learnHolders 8 = some (.iconst 0, 1, 0, 0, 0, 0, 0, 0, 0, 0, []) := rfl
theorem i_X1_learnHolders_9 : tab t_X1_learnHolders 9 = some (.istore 4, 2, 4, 0, 0, 0, 0, 0, 0, 0, []) := rfl
theorem i_X1_learnHolders_11 : tab t_X1_learnHolders 11 = some (.iload 4, 2, 4, 0, 0, 0, 0, 0, 0, 0, []) := rfl
theorem i_X1_learnHolders_13 : tab t_X1_learnHolders 13 = some (.aload_n 1, 1, 1, 0, 0, 0, 0, 0, 0, 0, []) := rfl
theorem i_X1_learnHolders_14 : tab t_X1_learnHolders 14 = some (.getfield 57, 3, 2, 0, 0, 7, 3, 0, 0, 0, []) := rfl
theorem i_X1_learnHolders_17 : tab t_X1_learnHolders 17 = some (.getfield 43, 3, 0, 0, 0, 6, 3, 0, 0, 0, []) := rfl
theorem i_X1_learnHolders_20 : tab t_X1_learnHolders 20 = some (.if_icmp .ge 70, 3, 90, 0, 0, 0, 0, 0, 0, 0, []) := rfl
theorem i_X1_learnHolders_23 : tab t_X1_learnHolders 23 = some (.aload_n 1, 1, 1, 0, 0, 0, 0, 0, 0, 0, []) := rfl
theorem i_X1_learnHolders_24 : tab t_X1_learnHolders 24 = some (.iload 4, 2, 4, 0, 0, 0, 0, 0, 0, 0, []) := rfl
theorem i_X1_learnHolders_26 : tab t_X1_learnHolders 26 = some (.iload_n 2, 1, 2, 0, 0, 0, 0, 0, 0, 0, []) := rfl
theorem i_X1_learnHolders_27 : tab t_X1_learnHolders 27 = some (.iload_n 3, 1, 3, 0, 0, 0, 0, 0, 0, 0, []) := rfl
theorem i_X1_learnHolders_28 : tab t_X1_learnHolders 28 = some (.invokevirtual 84, 3, 3, 0, 0, 0, 68, 8, 0, 0, []) := rfl
theorem i_X1_learnHolders_31 : tab t_X1_learnHolders 31 = some (.ifCond .eq 53, 3, 84, 0, 0, 0, 0, 0, 0, 0, []) := rfl
theorem i_X1_learnHolders_34 : tab t_X1_learnHolders 34 = some (.iconst 0, 1, 0, 0, 0, 0, 0, 0, 0, 0, []) := rfl
theorem i_X1_learnHolders_35 : tab t_X1_learnHolders 35 = some (.istore 5, 2, 5, 0, 0, 0, 0, 0, 0, 0, []) := rfl
theorem i_X1_learnHolders_37 : tab t_X1_learnHolders 37 = some (.iload 5, 2, 5, 0, 0, 0, 0, 0, 0, 0, []) := rfl
theorem i_X1_learnHolders_39 : tab t_X1_learnHolders 39 = some (.bipush 24, 2, 0, 24, 0, 0, 0, 0, 0, 0, []) := rfl
theorem i_X1_learnHolders_41 : tab t_X1_learnHolders 41 = some (.if_icmp .ge 43, 3, 84, 0, 0, 0, 0, 0, 0, 0, []) := rfl
theorem i_X1_learnHolders_44 : tab t_X1_learnHolders 44 = some (.aload_n 0, 1, 0, 0, 0, 0, 0, 0, 0, 0, []) := rfl
theorem i_X1_learnHolders_45 : tab t_X1_learnHolders 45 = some (.getfield 22, 3, 2, 0, 0, 1, 2, 0, 0, 0, []) := rfl
theorem i_X1_learnHolders_48 : tab t_X1_learnHolders 48 = some (.iload 5, 2, 5, 0, 0, 0, 0, 0, 0, 0, []) := rfl
theorem i_X1_learnHolders_50 : tab t_X1_learnHolders 50 = some (.iaload, 1, 0, 0, 0, 0, 0, 0, 0, 0, []) := rfl
theorem i_X1_learnHolders_51 : tab t_X1_learnHolders 51 = some (.iload 4, 2, 4, 0, 0, 0, 0, 0, 0, 0, []) := rfl
theorem i_X1_learnHolders_53 : tab t_X1_learnHolders 53 = some (.invokestatic 87, 3, 2, 0, 0, 0, 112, 0, 0, 0, []) := rfl
theorem i_X1_learnHolders_56 : tab t_X1_learnHolders 56 = some (.ifCond .eq 22, 3, 78, 0, 0, 0, 0, 0, 0, 0, []) := rfl
theorem i_X1_learnHolders_59 : tab t_X1_learnHolders 59 = some (.aload_n 0, 1, 0, 0, 0, 0, 0, 0, 0, 0, []) := rfl
theorem i_X1_learnHolders_60 : tab t_X1_learnHolders 60 = some (.getfield 25, 3, 2, 0, 0, 1, 3, 0, 0, 0, []) := rfl
theorem i_X1_learnHolders_63 : tab t_X1_learnHolders 63 = some (.iload 5, 2, 5, 0, 0, 0, 0, 0, 0, 0, []) := rfl
theorem i_X1_learnHolders_65 : tab t_X1_learnHolders 65 = some (.aload_n 1, 1, 1, 0, 0, 0, 0, 0, 0, 0, []) := rfl
theorem i_X1_learnHolders_66 : tab t_X1_learnHolders 66 = some (.getfield 57, 3, 2, 0, 0, 7, 3, 0, 0, 0, []) := rfl
theorem i_X1_learnHolders_69 : tab t_X1_learnHolders 69 = some (.iload 4, 2, 4, 0, 0, 0, 0, 0, 0, 0, []) := rfl
theorem i_X1_learnHolders_71 : tab t_X1_learnHolders 71 = some (.iconst 0, 1, 0, 0, 0, 0, 0, 0, 0, 0, []) := rfl
theorem i_X1_learnHolders_72 : tab t_X1_learnHolders 72 = some (.invokevirtual 59, 3, 2, 0, 0, 0, 60, 7, 0, 0, []) := rfl
theorem i_X1_learnHolders_75 : tab t_X1_learnHolders 75 = some (.invokestatic 63, 3, 3, 0, 0, 0, 16, 0, 0, 0, []) := rfl
theorem i_X1_learnHolders_78 : tab t_X1_learnHolders 78 = some (.iinc 5 1, 3, 5, 1, 0, 0, 0, 0, 0, 0, []) := rfl
theorem i_X1_learnHolders_81 : tab t_X1_learnHolders 81 = some (.goto (-44), 3, 37, 0, 0, 0, 0, 0, 0, 0, []) := rfl
theorem i_X1_learnHolders_84 : tab t_X1_learnHolders 84 = some (.iinc 4 1, 3, 4, 1, 0, 0, 0, 0, 0, 0, []) := rfl
theorem i_X1_learnHolders_87 : tab t_X1_learnHolders 87 = some (.goto (-76), 3, 11, 0, 0, 0, 0, 0, 0, 0, []) := rfl
theorem i_X1_learnHolders_90 : tab t_X1_learnHolders 90 = some (.return_, 1, 0, 0, 0, 0, 0, 0, 0, 0, []) := rfl
def t_X1_watch : List (Nat × rw_) := [(0, (.aload_n 0, 1, 0, 0, 0, 0, 0, 0, 0, 0, [])), (1, (.getfield 28, 3, 2, 0, 0, 1, 4, 0, 0, 0, [])), (4, (.iconst 0, 1, 0, 0, 0, 0, 0, 0, 0, 0, [])), (5, (.invokestatic 31, 3, 2, 0, 0, 0, 241, 0, 0, 0, [])), (8, (.aload_n 0, 1, 0, 0, 0, 0, 0, 0, 0, 0, [])), (9, (.getfield 12, 3, 2, 0, 0, 1, 0, 0, 0, 0, [])), (12, (.aload_n 1, 1, 1, 0, 0, 0, 0, 0, 0, 0, [])), (13, (.iload_n 2, 1, 2, 0, 0, 0, 0, 0, 0, 0, [])), (14, (.invokevirtual 74, 3, 2, 0, 0, 0, 46, 5, 0, 0, [])), (17, (.iconst 0, 1, 0, 0, 0, 0, 0, 0, 0, 0, [])), (18, (.istore_n 3, 1, 3, 0, 0, 0, 0, 0, 0, 0, [])), (19, (.iload_n 3, 1, 3, 0, 0, 0, 0, 0, 0, 0, [])), (20, (.aload_n 1, 1, 1, 0, 0, 0, 0, 0, 0, 0, [])), (21, (.getfield 37, 3, 2, 0, 0, 7, 1, 0, 0, 0, [])), (24, (.getfield 43, 3, 0, 0, 0, 6, 3, 0, 0, 0, [])), (27, (.if_icmp .ge 63, 3, 90, 0, 0, 0, 0, 0, 0, 0, [])), (30, (.iconst 0, 1, 0, 0, 0, 0, 0, 0, 0, 0, [])), (31, (.istore 4, 2, 4, 0, 0, 0, 0, 0, 0, 0, [])), (33, (.iload 4, 2, 4, 0, 0, 0, 0, 0, 0, 0, [])), (35, (.aload_n 1, 1, 1, 0, 0, 0, 0, 0, 0, 0, [])), (36, (.getfield 37, 3, 2, 0, 0, 7, 1, 0, 0, 0, [])), (39, (.getfield 43, 3, 0, 0, 0, 6, 3, 0, 0, 0, [])), (42, (.if_icmp .ge 42, 3, 84, 0, 0, 0, 0, 0, 0, 0, [])), (45, (.iload_n 3, 1, 3, 0, 0, 0, 0, 0, 0, 0, [])), (46, (.iload 4, 2, 4, 0, 0, 0, 0, 0, 0, 0, [])), (48, (.if_icmp .eq 20, 3, 68, 0, 0, 0, 0, 0, 0, 0, [])), (51, (.aload_n 0, 1, 0, 0, 0, 0, 0, 0, 0, 0, [])), (52, (.getfield 12, 3, 2, 0, 0, 1, 0, 0, 0, 0, [])), (55, (.iload_n 3, 1, 3, 0, 0, 0, 0, 0, 0, 0, [])), (56, (.iload 4, 2, 4, 0, 0, 0, 0, 0, 0, 0, [])), (58, (.aload_n 1, 1, 1, 0, 0, 0, 0, 0, 0, 0, [])), (59, (.getfield 77, 3, 0, 0, 0, 7, 7, 0, 0, 0, [])), (62, (.invokevirtual 80, 3, 3, 0, 0, 0, 48, 5, 0, 0, [])), (65, (.ifCond .eq 13, 3, 78, 0, 0, 0, 0, 0, 0, 0, [])), (68, (.aload_n 0, 1, 0, 0, 0, 0, 0, 0, 0, 0, [])), (69, (.getfield 28, 3, 2, 0, 0, 1, 4, 0, 0, 0, [])), (72, (.iload_n 3, 1, 3, 0, 0, 0, 0, 0, 0, 0, [])), (73, (.iload 4, 2, 4, 0, 0, 0, 0, 0, 0, 0, [])), (75, (.invokestatic 63, 3, 3, 0, 0, 0, 16, 0, 0, 0, [])), (78, (.iinc 4 1, 3, 4, 1, 0, 0, 0, 0, 0, 0, [])), (81, (.goto (-48), 3, 33, 0, 0, 0, 0, 0, 0, 0, [])), (84, (.iinc 3 1, 3, 3, 1, 0, 0, 0, 0, 0, 0, [])), (87, (.goto (-68), 3, 19, 0, 0, 0, 0, 0, 0, 0, [])), (90, (.return_, 1, 0, 0, 0, 0, 0, 0, 0, 0, []))]
set_option maxRecDepth 100000 in
theorem ok_X1_watch : tb_ok ctX1 m_X1_watch t_X1_watch = true := by decide +kernel
theorem i_X1_watch_0 : tab t_X1_watch 0 = some (.aload_n 0, 1, 0, 0, 0, 0, 0, 0, 0, 0, []) := rfl
theorem i_X1_watch_1 : tab t_X1_watch 1 = some (.getfield 28, 3, 2, 0, 0, 1, 4, 0, 0, 0, []) := rfl
theorem i_X1_watch_4 : tab t_X1_watch 4 = some (.iconst 0, 1, 0, 0, 0, 0, 0, 0, 0, 0, []) := rfl
theorem i_X1_watch_5 : tab t_X1_watch 5 = some (.invokestatic 31, 3, 2, 0, 0, 0, 241, 0, 0, 0, []) := rfl
theorem i_X1_watch_8 : tab t_X1_watch 8 = some (.aload_n 0, 1, 0, 0, 0, 0, 0, 0, 0, 0, []) := rfl
theorem i_X1_watch_9 : tab t_X1_watch 9 = some (.getfield 12, 3, 2, 0, 0, 1, 0, 0, 0, 0, []) := rfl
theorem i_X1_watch_12 : tab t_X1_watch 12 = some (.aload_n 1, 1, 1, 0, 0, 0, 0, 0, 0, 0, []) := rfl
theorem i_X1_watch_13 : tab t_X1_watch 13 = some (.iload_n 2, 1, 2, 0, 0, 0, 0, 0, 0, 0, []) := rfl
theorem i_X1_watch_14 : tab t_X1_watch 14 = some (.invokevirtual 74, 3, 2, 0, 0, 0, 46, 5, 0, 0, []) := rfl
theorem i_X1_watch_17 : tab t_X1_watch 17 = some (.iconst 0, 1, 0, 0, 0, 0, 0, 0, 0, 0, []) := rfl
theorem i_X1_watch_18 : tab t_X1_watch 18 = some (.istore_n 3, 1, 3, 0, 0, 0, 0, 0, 0, 0, []) := rfl
theorem i_X1_watch_19 : tab t_X1_watch 19 = some (.iload_n 3, 1, 3, 0, 0, 0, 0, 0, 0, 0, []) := rfl
theorem i_X1_watch_20 : tab t_X1_watch 20 = some (.aload_n 1, 1, 1, 0, 0, 0, 0, 0, 0, 0, []) := rfl
theorem i_X1_watch_21 : tab t_X1_watch 21 = some (.getfield 37, 3, 2, 0, 0, 7, 1, 0, 0, 0, []) := rfl
theorem i_X1_watch_24 : tab t_X1_watch 24 = some (.getfield 43, 3, 0, 0, 0, 6, 3, 0, 0, 0, []) := rfl
theorem i_X1_watch_27 : tab t_X1_watch 27 = some (.if_icmp .ge 63, 3, 90, 0, 0, 0, 0, 0, 0, 0, []) := rfl
theorem i_X1_watch_30 : tab t_X1_watch 30 = some (.iconst 0, 1, 0, 0, 0, 0, 0, 0, 0, 0, []) := rfl
theorem i_X1_watch_31 : tab t_X1_watch 31 = some (.istore 4, 2, 4, 0, 0, 0, 0, 0, 0, 0, []) := rfl
theorem i_X1_watch_33 : tab t_X1_watch 33 = some (.iload 4, 2, 4, 0, 0, 0, 0, 0, 0, 0, []) := rfl
theorem i_X1_watch_35 : tab t_X1_watch 35 = some (.aload_n 1, 1, 1, 0, 0, 0, 0, 0, 0, 0, []) := rfl
theorem i_X1_watch_36 : tab t_X1_watch 36 = some (.getfield 37, 3, 2, 0, 0, 7, 1, 0, 0, 0, []) := rfl
theorem i_X1_watch_39 : tab t_X1_watch 39 = some (.getfield 43, 3, 0, 0, 0, 6, 3, 0, 0, 0, []) := rfl
theorem i_X1_watch_42 : tab t_X1_watch 42 = some (.if_icmp .ge 42, 3, 84, 0, 0, 0, 0, 0, 0, 0, []) := rfl
theorem i_X1_watch_45 : tab t_X1_watch 45 = some (.iload_n 3, 1, 3, 0, 0, 0, 0, 0, 0, 0, []) := rfl
theorem i_X1_watch_46 : tab t_X1_watch 46 = some (.iload 4, 2, 4, 0, 0, 0, 0, 0, 0, 0, []) := rfl
theorem i_X1_watch_48 : tab t_X1_watch 48 = some (.if_icmp .eq 20, 3, 68, 0, 0, 0, 0, 0, 0, 0, []) := rfl
theorem i_X1_watch_51 : tab t_X1_watch 51 = some (.aload_n 0, 1, 0, 0, 0, 0, 0, 0, 0, 0, []) := rfl
theorem i_X1_watch_52 : tab t_X1_watch 52 = some (.getfield 12, 3, 2, 0, 0, 1, 0, 0, 0, 0, []) := rfl
theorem i_X1_watch_55 : tab t_X1_watch 55 = some (.iload_n 3, 1, 3, 0, 0, 0, 0, 0, 0, 0, []) := rfl
theorem i_X1_watch_56 : tab t_X1_watch 56 = some (.iload 4, 2, 4, 0, 0, 0, 0, 0, 0, 0, []) := rfl
theorem i_X1_watch_58 : tab t_X1_watch 58 = some (.aload_n 1, 1, 1, 0, 0, 0, 0, 0, 0, 0, []) := rfl
theorem i_X1_watch_59 : tab t_X1_watch 59 = some (.getfield 77, 3, 0, 0, 0, 7, 7, 0, 0, 0, []) := rfl
theorem i_X1_watch_62 : tab t_X1_watch 62 = some (.invokevirtual 80, 3, 3, 0, 0, 0, 48, 5, 0, 0, []) := rfl
theorem i_X1_watch_65 : tab t_X1_watch 65 = some (.ifCond .eq 13, 3, 78, 0, 0, 0, 0, 0, 0, 0, []) := rfl
theorem i_X1_watch_68 : tab t_X1_watch 68 = some (.aload_n 0, 1, 0, 0, 0, 0, 0, 0, 0, 0, []) := rfl
theorem i_X1_watch_69 : tab t_X1_watch 69 = some (.getfield 28, 3, 2, 0, 0, 1, 4, 0, 0, 0, []) := rfl
theorem i_X1_watch_72 : tab t_X1_watch 72 = some (.iload_n 3, 1, 3, 0, 0, 0, 0, 0, 0, 0, []) := rfl
theorem i_X1_watch_73 : tab t_X1_watch 73 = some (.iload 4, 2, 4, 0, 0, 0, 0, 0, 0, 0, []) := rfl
theorem i_X1_watch_75 : tab t_X1_watch 75 = some (.invokestatic 63, 3, 3, 0, 0, 0, 16, 0, 0, 0, []) := rfl
theorem i_X1_watch_78 : tab t_X1_watch 78 = some (.iinc 4 1, 3, 4, 1, 0, 0, 0, 0, 0, 0, []) := rfl
theorem i_X1_watch_81 : tab t_X1_watch 81 = some (.goto (-48), 3, 33, 0, 0, 0, 0, 0, 0, 0, []) := rfl
theorem i_X1_watch_84 : tab t_X1_watch 84 = some (.iinc 3 1, 3, 3, 1, 0, 0, 0, 0, 0, 0, []) := rfl
theorem i_X1_watch_87 : tab t_X1_watch 87 = some (.goto (-68), 3, 19, 0, 0, 0, 0, 0, 0, 0, []) := rfl
theorem i_X1_watch_90 : tab t_X1_watch 90 = some (.return_, 1, 0, 0, 0, 0, 0, 0, 0, 0, []) := rfl
def t_X1_isFallKnown : List (Nat × rw_) := [(0, (.iload_n 1, 1, 1, 0, 0, 0, 0, 0, 0, 0, [])), (1, (.ifCond .lt 26, 3, 27, 0, 0, 0, 0, 0, 0, 0, [])), (4, (.iload_n 1, 1, 1, 0, 0, 0, 0, 0, 0, 0, [])), (5, (.bipush 24, 2, 0, 24, 0, 0, 0, 0, 0, 0, [])), (7, (.if_icmp .ge 20, 3, 27, 0, 0, 0, 0, 0, 0, 0, [])), (10, (.aload_n 0, 1, 0, 0, 0, 0, 0, 0, 0, 0, [])), (11, (.getfield 18, 3, 2, 0, 0, 1, 1, 0, 0, 0, [])), (14, (.iload_n 1, 1, 1, 0, 0, 0, 0, 0, 0, 0, [])), (15, (.iaload, 1, 0, 0, 0, 0, 0, 0, 0, 0, [])), (16, (.iload_n 2, 1, 2, 0, 0, 0, 0, 0, 0, 0, [])), (17, (.invokestatic 87, 3, 2, 0, 0, 0, 112, 0, 0, 0, [])), (20, (.ifCond .eq 7, 3, 27, 0, 0, 0, 0, 0, 0, 0, [])), (23, (.iconst 1, 1, 0, 1, 0, 0, 0, 0, 0, 0, [])), (24, (.goto 4, 3, 28, 0, 0, 0, 0, 0, 0, 0, [])), (27, (.iconst 0, 1, 0, 0, 0, 0, 0, 0, 0, 0, [])), (28, (.ireturn, 1, 0, 0, 0, 1, 0, 0, 0, 0, []))]
set_option maxRecDepth 100000 in
theorem ok_X1_isFallKnown : tb_ok ctX1 m_X1_isFallKnown t_X1_isFallKnown = true := by decide +kernel
theorem i_X1_isFallKnown_0 : tab t_X1_isFallKnown 0 = some (.iload_n 1, 1, 1, 0, 0, 0, 0, 0, 0, 0, []) := rfl
theorem i_X1_isFallKnown_1 : tab t_X1_isFallKnown 1 = some (.ifCond .lt 26, 3, 27, 0, 0, 0, 0, 0, 0, 0, []) := rfl
theorem i_X1_isFallKnown_4 : tab t_X1_isFallKnown 4 = some (.iload_n 1, 1, 1, 0, 0, 0, 0, 0, 0, 0, []) := rfl
theorem i_X1_isFallKnown_5 : tab t_X1_isFallKnown 5 = some (.bipush 24, 2, 0, 24, 0, 0, 0, 0, 0, 0, []) := rfl
theorem i_X1_isFallKnown_7 : tab t_X1_isFallKnown 7 = some (.if_icmp .ge 20, 3, 27, 0, 0, 0, 0, 0, 0, 0, []) := rfl
theorem i_X1_isFallKnown_10 : tab t_X1_isFallKnown 10 = some (.aload_n 0, 1, 0, 0, 0, 0, 0, 0, 0, 0, []) := rfl
theorem i_X1_isFallKnown_11 : tab t_X1_isFallKnown 11 = some (.getfield 18, 3, 2, 0, 0, 1, 1, 0, 0, 0, []) := rfl
theorem i_X1_isFallKnown_14 : tab t_X1_isFallKnown 14 = some (.iload_n 1, 1, 1, 0, 0, 0, 0, 0, 0, 0, []) := rfl
theorem i_X1_isFallKnown_15 : tab t_X1_isFallKnown 15 = some (.iaload, 1, 0, 0, 0, 0, 0, 0, 0, 0, []) := rfl
theorem i_X1_isFallKnown_16 : tab t_X1_isFallKnown 16 = some (.iload_n 2, 1, 2, 0, 0, 0, 0, 0, 0, 0, []) := rfl
theorem i_X1_isFallKnown_17 : tab t_X1_isFallKnown 17 = some (.invokestatic 87, 3, 2, 0, 0, 0, 112, 0, 0, 0, []) := rfl
theorem i_X1_isFallKnown_20 : tab t_X1_isFallKnown 20 = some (.ifCond .eq 7, 3, 27, 0, 0, 0, 0, 0, 0, 0, []) := rfl
theorem i_X1_isFallKnown_23 : tab t_X1_isFallKnown 23 = some (.iconst 1, 1, 0, 1, 0, 0, 0, 0, 0, 0, []) := rfl
theorem i_X1_isFallKnown_24 : tab t_X1_isFallKnown 24 = some (.goto 4, 3, 28, 0, 0, 0, 0, 0, 0, 0, []) := rfl
theorem i_X1_isFallKnown_27 : tab t_X1_isFallKnown 27 = some (.iconst 0, 1, 0, 0, 0, 0, 0, 0, 0, 0, []) := rfl
theorem i_X1_isFallKnown_28 : tab t_X1_isFallKnown 28 = some (.ireturn, 1, 0, 0, 0, 1, 0, 0, 0, 0, []) := rfl
def t_X1_isPaperKnown : List (Nat × rw_) := [(0, (.iload_n 1, 1, 1, 0, 0, 0, 0, 0, 0, 0, [])), (1, (.ifCond .lt 26, 3, 27, 0, 0, 0, 0, 0, 0, 0, [])), (4, (.iload_n 1, 1, 1, 0, 0, 0, 0, 0, 0, 0, [])), (5, (.bipush 24, 2, 0, 24, 0, 0, 0, 0, 0, 0, [])), (7, (.if_icmp .ge 20, 3, 27, 0, 0, 0, 0, 0, 0, 0, [])), (10, (.aload_n 0, 1, 0, 0, 0, 0, 0, 0, 0, 0, [])), (11, (.getfield 22, 3, 2, 0, 0, 1, 2, 0, 0, 0, [])), (14, (.iload_n 1, 1, 1, 0, 0, 0, 0, 0, 0, 0, [])), (15, (.iaload, 1, 0, 0, 0, 0, 0, 0, 0, 0, [])), (16, (.iload_n 2, 1, 2, 0, 0, 0, 0, 0, 0, 0, [])), (17, (.invokestatic 87, 3, 2, 0, 0, 0, 112, 0, 0, 0, [])), (20, (.ifCond .eq 7, 3, 27, 0, 0, 0, 0, 0, 0, 0, [])), (23, (.iconst 1, 1, 0, 1, 0, 0, 0, 0, 0, 0, [])), (24, (.goto 4, 3, 28, 0, 0, 0, 0, 0, 0, 0, [])), (27, (.iconst 0, 1, 0, 0, 0, 0, 0, 0, 0, 0, [])), (28, (.ireturn, 1, 0, 0, 0, 1, 0, 0, 0, 0, []))]
set_option maxRecDepth 100000 in
theorem ok_X1_isPaperKnown : tb_ok ctX1 m_X1_isPaperKnown t_X1_isPaperKnown = true := by decide +kernel
theorem i_X1_isPaperKnown_0 : tab t_X1_isPaperKnown 0 = some (.iload_n 1, 1, 1, 0, 0, 0, 0, 0, 0, 0, []) := rfl
theorem i_X1_isPaperKnown_1 : tab t_X1_isPaperKnown 1 = some (.ifCond .lt 26, 3, 27, 0, 0, 0, 0, 0, 0, 0, []) := rfl
theorem i_X1_isPaperKnown_4 : tab t_X1_isPaperKnown 4 = some (.iload_n 1, 1, 1, 0, 0, 0, 0, 0, 0, 0, []) := rfl
theorem i_X1_isPaperKnown_5 : tab t_X1_isPaperKnown 5 = some (.bipush 24, 2, 0, 24, 0, 0, 0, 0, 0, 0, []) := rfl
theorem i_X1_isPaperKnown_7 : tab t_X1_isPaperKnown 7 = some (.if_icmp .ge 20, 3, 27, 0, 0, 0, 0, 0, 0, 0, []) := rfl
theorem i_X1_isPaperKnown_10 : tab t_X1_isPaperKnown 10 = some (.aload_n 0, 1, 0, 0, 0, 0, 0, 0, 0, 0, []) := rfl
theorem i_X1_isPaperKnown_11 : tab t_X1_isPaperKnown 11 = some (.getfield 22, 3, 2, 0, 0, 1, 2, 0, 0, 0, []) := rfl
theorem i_X1_isPaperKnown_14 : tab t_X1_isPaperKnown 14 = some (.iload_n 1, 1, 1, 0, 0, 0, 0, 0, 0, 0, []) := rfl
theorem i_X1_isPaperKnown_15 : tab t_X1_isPaperKnown 15 = some (.iaload, 1, 0, 0, 0, 0, 0, 0, 0, 0, []) := rfl
theorem i_X1_isPaperKnown_16 : tab t_X1_isPaperKnown 16 = some (.iload_n 2, 1, 2, 0, 0, 0, 0, 0, 0, 0, []) := rfl
theorem i_X1_isPaperKnown_17 : tab t_X1_isPaperKnown 17 = some (.invokestatic 87, 3, 2, 0, 0, 0, 112, 0, 0, 0, []) := rfl
theorem i_X1_isPaperKnown_20 : tab t_X1_isPaperKnown 20 = some (.ifCond .eq 7, 3, 27, 0, 0, 0, 0, 0, 0, 0, []) := rfl
theorem i_X1_isPaperKnown_23 : tab t_X1_isPaperKnown 23 = some (.iconst 1, 1, 0, 1, 0, 0, 0, 0, 0, 0, []) := rfl
theorem i_X1_isPaperKnown_24 : tab t_X1_isPaperKnown 24 = some (.goto 4, 3, 28, 0, 0, 0, 0, 0, 0, 0, []) := rfl
theorem i_X1_isPaperKnown_27 : tab t_X1_isPaperKnown 27 = some (.iconst 0, 1, 0, 0, 0, 0, 0, 0, 0, 0, []) := rfl
theorem i_X1_isPaperKnown_28 : tab t_X1_isPaperKnown 28 = some (.ireturn, 1, 0, 0, 0, 1, 0, 0, 0, 0, []) := rfl
def t_X1_fallenFor : List (Nat × rw_) := [(0, (.iload_n 1, 1, 1, 0, 0, 0, 0, 0, 0, 0, [])), (1, (.ifCond .lt 27, 3, 28, 0, 0, 0, 0, 0, 0, 0, [])), (4, (.iload_n 1, 1, 1, 0, 0, 0, 0, 0, 0, 0, [])), (5, (.bipush 24, 2, 0, 24, 0, 0, 0, 0, 0, 0, [])), (7, (.if_icmp .ge 21, 3, 28, 0, 0, 0, 0, 0, 0, 0, [])), (10, (.aload_n 0, 1, 0, 0, 0, 0, 0, 0, 0, 0, [])), (11, (.getfield 18, 3, 2, 0, 0, 1, 1, 0, 0, 0, [])), (14, (.iload_n 1, 1, 1, 0, 0, 0, 0, 0, 0, 0, [])), (15, (.iaload, 1, 0, 0, 0, 0, 0, 0, 0, 0, [])), (16, (.iload_n 2, 1, 2, 0, 0, 0, 0, 0, 0, 0, [])), (17, (.aload_n 0, 1, 0, 0, 0, 0, 0, 0, 0, 0, [])), (18, (.getfield 28, 3, 2, 0, 0, 1, 4, 0, 0, 0, [])), (21, (.iload_n 1, 1, 1, 0, 0, 0, 0, 0, 0, 0, [])), (22, (.iaload, 1, 0, 0, 0, 0, 0, 0, 0, 0, [])), (23, (.iand, 1, 0, 0, 0, 0, 0, 0, 0, 0, [])), (24, (.ior, 1, 0, 0, 0, 0, 0, 0, 0, 0, [])), (25, (.goto 4, 3, 29, 0, 0, 0, 0, 0, 0, 0, [])), (28, (.iconst 0, 1, 0, 0, 0, 0, 0, 0, 0, 0, [])), (29, (.ireturn, 1, 0, 0, 0, 0, 0, 0, 0, 0, []))]
set_option maxRecDepth 100000 in
theorem ok_X1_fallenFor : tb_ok ctX1 m_X1_fallenFor t_X1_fallenFor = true := by decide +kernel
theorem i_X1_fallenFor_0 : tab t_X1_fallenFor 0 = some (.iload_n 1, 1, 1, 0, 0, 0, 0, 0, 0, 0, []) := rfl
theorem i_X1_fallenFor_1 : tab t_X1_fallenFor 1 = some (.ifCond .lt 27, 3, 28, 0, 0, 0, 0, 0, 0, 0, []) := rfl
theorem i_X1_fallenFor_4 : tab t_X1_fallenFor 4 = some (.iload_n 1, 1, 1, 0, 0, 0, 0, 0, 0, 0, []) := rfl
theorem i_X1_fallenFor_5 : tab t_X1_fallenFor 5 = some (.bipush 24, 2, 0, 24, 0, 0, 0, 0, 0, 0, []) := rfl
theorem i_X1_fallenFor_7 : tab t_X1_fallenFor 7 = some (.if_icmp .ge 21, 3, 28, 0, 0, 0, 0, 0, 0, 0, []) := rfl
theorem i_X1_fallenFor_10 : tab t_X1_fallenFor 10 = some (.aload_n 0, 1, 0, 0, 0, 0, 0, 0, 0, 0, []) := rfl
theorem i_X1_fallenFor_11 : tab t_X1_fallenFor 11 = some (.getfield 18, 3, 2, 0, 0, 1, 1, 0, 0, 0, []) := rfl
theorem i_X1_fallenFor_14 : tab t_X1_fallenFor 14 = some (.iload_n 1, 1, 1, 0, 0, 0, 0, 0, 0, 0, []) := rfl
theorem i_X1_fallenFor_15 : tab t_X1_fallenFor 15 = some (.iaload, 1, 0, 0, 0, 0, 0, 0, 0, 0, []) := rfl
theorem i_X1_fallenFor_16 : tab t_X1_fallenFor 16 = some (.iload_n 2, 1, 2, 0, 0, 0, 0, 0, 0, 0, []) := rfl
theorem i_X1_fallenFor_17 : tab t_X1_fallenFor 17 = some (.aload_n 0, 1, 0, 0, 0, 0, 0, 0, 0, 0, []) := rfl
theorem i_X1_fallenFor_18 : tab t_X1_fallenFor 18 = some (.getfield 28, 3, 2, 0, 0, 1, 4, 0, 0, 0, []) := rfl
theorem i_X1_fallenFor_21 : tab t_X1_fallenFor 21 = some (.iload_n 1, 1, 1, 0, 0, 0, 0, 0, 0, 0, []) := rfl
theorem i_X1_fallenFor_22 : tab t_X1_fallenFor 22 = some (.iaload, 1, 0, 0, 0, 0, 0, 0, 0, 0, []) := rfl
theorem i_X1_fallenFor_23 : tab t_X1_fallenFor 23 = some (.iand, 1, 0, 0, 0, 0, 0, 0, 0, 0, []) := rfl
theorem i_X1_fallenFor_24 : tab t_X1_fallenFor 24 = some (.ior, 1, 0, 0, 0, 0, 0, 0, 0, 0, []) := rfl
theorem i_X1_fallenFor_25 : tab t_X1_fallenFor 25 = some (.goto 4, 3, 29, 0, 0, 0, 0, 0, 0, 0, []) := rfl
theorem i_X1_fallenFor_28 : tab t_X1_fallenFor 28 = some (.iconst 0, 1, 0, 0, 0, 0, 0, 0, 0, 0, []) := rfl
theorem i_X1_fallenFor_29 : tab t_X1_fallenFor 29 = some (.ireturn, 1, 0, 0, 0, 0, 0, 0, 0, 0, []) := rfl
def t_X1_holdersFor : List (Nat × rw_) := [(0, (.iload_n 1, 1, 1, 0, 0, 0, 0, 0, 0, 0, [])), (1, (.ifCond .lt 18, 3, 19, 0, 0, 0, 0, 0, 0, 0, [])), (4, (.iload_n 1, 1, 1, 0, 0, 0, 0, 0, 0, 0, [])), (5, (.bipush 24, 2, 0, 24, 0, 0, 0, 0, 0, 0, [])), (7, (.if_icmp .ge 12, 3, 19, 0, 0, 0, 0, 0, 0, 0, [])), (10, (.aload_n 0, 1, 0, 0, 0, 0, 0, 0, 0, 0, [])), (11, (.getfield 25, 3, 2, 0, 0, 1, 3, 0, 0, 0, [])), (14, (.iload_n 1, 1, 1, 0, 0, 0, 0, 0, 0, 0, [])), (15, (.iaload, 1, 0, 0, 0, 0, 0, 0, 0, 0, [])), (16, (.goto 4, 3, 20, 0, 0, 0, 0, 0, 0, 0, [])), (19, (.iconst 0, 1, 0, 0, 0, 0, 0, 0, 0, 0, [])), (20, (.ireturn, 1, 0, 0, 0, 0, 0, 0, 0, 0, []))]
set_option maxRecDepth 100000 in
theorem ok_X1_holdersFor : tb_ok ctX1 m_X1_holdersFor t_X1_holdersFor = true := by decide +kernel
theorem i_X1_holdersFor_0 : tab t_X1_holdersFor 0 = some (.iload_n 1, 1, 1, 0, 0, 0, 0, 0, 0, 0, []) := rfl
theorem i_X1_holdersFor_1 : tab t_X1_holdersFor 1 = some (.ifCond .lt 18, 3, 19, 0, 0, 0, 0, 0, 0, 0, []) := rfl
theorem i_X1_holdersFor_4 : tab t_X1_holdersFor 4 = some (.iload_n 1, 1, 1, 0, 0, 0, 0, 0, 0, 0, []) := rfl
theorem i_X1_holdersFor_5 : tab t_X1_holdersFor 5 = some (.bipush 24, 2, 0, 24, 0, 0, 0, 0, 0, 0, []) := rfl
theorem i_X1_holdersFor_7 : tab t_X1_holdersFor 7 = some (.if_icmp .ge 12, 3, 19, 0, 0, 0, 0, 0, 0, 0, []) := rfl
theorem i_X1_holdersFor_10 : tab t_X1_holdersFor 10 = some (.aload_n 0, 1, 0, 0, 0, 0, 0, 0, 0, 0, []) := rfl
theorem i_X1_holdersFor_11 : tab t_X1_holdersFor 11 = some (.getfield 25, 3, 2, 0, 0, 1, 3, 0, 0, 0, []) := rfl
theorem i_X1_holdersFor_14 : tab t_X1_holdersFor 14 = some (.iload_n 1, 1, 1, 0, 0, 0, 0, 0, 0, 0, []) := rfl
theorem i_X1_holdersFor_15 : tab t_X1_holdersFor 15 = some (.iaload, 1, 0, 0, 0, 0, 0, 0, 0, 0, []) := rfl
theorem i_X1_holdersFor_16 : tab t_X1_holdersFor 16 = some (.goto 4, 3, 20, 0, 0, 0, 0, 0, 0, 0, []) := rfl
theorem i_X1_holdersFor_19 : tab t_X1_holdersFor 19 = some (.iconst 0, 1, 0, 0, 0, 0, 0, 0, 0, 0, []) := rfl
theorem i_X1_holdersFor_20 : tab t_X1_holdersFor 20 = some (.ireturn, 1, 0, 0, 0, 0, 0, 0, 0, 0, []) := rfl
