/-! 11: tables of class 5 -/
def t_X5_init : List (Nat × rw_) := [(0, (.aload_n 0, 1, 0, 0, 0, 0, 0, 0, 0, 0, [])), (1, (.invokespecial 3, 3, 0, 0, 0, 6, 0, 0, 0, 0, [])), (4, (.aload_n 0, 1, 0, 0, 0, 0, 0, 0, 0, 0, [])), (5, (.bipush 48, 2, 0, 48, 0, 0, 0, 0, 0, 0, [])), (7, (.newarray .int, 2, 0, 0, 0, 0, 0, 0, 0, 0, [])), (9, (.putfield 9, 3, 2, 0, 0, 5, 0, 1, 0, 0, [])), (12, (.aload_n 0, 1, 0, 0, 0, 0, 0, 0, 0, 0, [])), (13, (.sipush 576, 3, 0, 576, 0, 0, 0, 0, 0, 0, [])), (16, (.newarray .int, 2, 0, 0, 0, 0, 0, 0, 0, 0, [])), (18, (.putfield 15, 3, 2, 0, 0, 5, 1, 1, 0, 0, [])), (21, (.aload_n 0, 1, 0, 0, 0, 0, 0, 0, 0, 0, [])), (22, (.iconst 0, 1, 0, 0, 0, 0, 0, 0, 0, 0, [])), (23, (.putfield 18, 3, 0, 0, 0, 5, 2, 0, 0, 0, [])), (26, (.aload_n 0, 1, 0, 0, 0, 0, 0, 0, 0, 0, [])), (27, (.iconst 0, 1, 0, 0, 0, 0, 0, 0, 0, 0, [])), (28, (.putfield 22, 3, 0, 0, 0, 5, 3, 0, 0, 0, [])), (31, (.return_, 1, 0, 0, 0, 0, 0, 0, 0, 0, []))]
set_option maxRecDepth 100000 in
theorem ok_X5_init : tb_ok ctX5 m_X5_init t_X5_init = true := by decide +kernel
theorem i_X5_init_0 : tab t_X5_init 0 = some (.aload_n 0, 1, 0, 0, 0, 0, 0, 0, 0, 0, []) := rfl
theorem i_X5_init_1 : tab t_X5_init 1 = some (.invokespecial 3, 3, 0, 0, 0, 6, 0, 0, 0, 0, []) := rfl
theorem i_X5_init_4 : tab t_X5_init 4 = some (.aload_n 0, 1, 0, 0, 0, 0, 0, 0, 0, 0, []) := rfl
theorem i_X5_init_5 : tab t_X5_init 5 = some (.bipush 48, 2, 0, 48, 0, 0, 0, 0, 0, 0, []) := rfl
theorem i_X5_init_7 : tab t_X5_init 7 = some (.newarray .int, 2, 0, 0, 0, 0, 0, 0, 0, 0, []) := rfl
theorem i_X5_init_9 : tab t_X5_init 9 = some (.putfield 9, 3, 2, 0, 0, 5, 0, 1, 0, 0, []) := rfl
theorem i_X5_init_12 : tab t_X5_init 12 = some (.aload_n 0, 1, 0, 0, 0, 0, 0, 0, 0, 0, []) := rfl
theorem i_X5_init_13 : tab t_X5_init 13 = some (.sipush 576, 3, 0, 576, 0, 0, 0, 0, 0, 0, []) := rfl
theorem i_X5_init_16 : tab t_X5_init 16 = some (.newarray .int, 2, 0, 0, 0, 0, 0, 0, 0, 0, []) := rfl
theorem i_X5_init_18 : tab t_X5_init 18 = some (.putfield 15, 3, 2, 0, 0, 5, 1, 1, 0, 0, []) := rfl
theorem i_X5_init_21 : tab t_X5_init 21 = some (.aload_n 0, 1, 0, 0, 0, 0, 0, 0, 0, 0, []) := rfl
theorem i_X5_init_22 : tab t_X5_init 22 = some (.iconst 0, 1, 0, 0, 0, 0, 0, 0, 0, 0, []) := rfl
theorem i_X5_init_23 : tab t_X5_init 23 = some (.putfield 18, 3, 0, 0, 0, 5, 2, 0, 0, 0, []) := rfl
theorem i_X5_init_26 : tab t_X5_init 26 = some (.aload_n 0, 1, 0, 0, 0, 0, 0, 0, 0, 0, []) := rfl
theorem i_X5_init_27 : tab t_X5_init 27 = some (.iconst 0, 1, 0, 0, 0, 0, 0, 0, 0, 0, []) := rfl
theorem i_X5_init_28 : tab t_X5_init 28 = some (.putfield 22, 3, 0, 0, 0, 5, 3, 0, 0, 0, []) := rfl
theorem i_X5_init_31 : tab t_X5_init 31 = some (.return_, 1, 0, 0, 0, 0, 0, 0, 0, 0, []) := rfl
def t_X5_build : List (Nat × rw_) := [(0, (.aload_n 0, 1, 0, 0, 0, 0, 0, 0, 0, 0, [])), (1, (.iconst 0, 1, 0, 0, 0, 0, 0, 0, 0, 0, [])), (2, (.putfield 18, 3, 0, 0, 0, 5, 2, 0, 0, 0, [])), (5, (.iconst 0, 1, 0, 0, 0, 0, 0, 0, 0, 0, [])), (6, (.istore_n 3, 1, 3, 0, 0, 0, 0, 0, 0, 0, [])), (7, (.iload_n 3, 1, 3, 0, 0, 0, 0, 0, 0, 0, [])), (8, (.bipush 48, 2, 0, 48, 0, 0, 0, 0, 0, 0, [])), (10, (.if_icmp .ge 87, 3, 97, 0, 0, 0, 0, 0, 0, 0, [])), (13, (.aload_n 2, 1, 2, 0, 0, 0, 0, 0, 0, 0, [])), (14, (.ifnull 83, 3, 97, 0, 0, 0, 0, 0, 0, 0, [])), (17, (.iload_n 3, 1, 3, 0, 0, 0, 0, 0, 0, 0, [])), (18, (.iconst 1, 1, 0, 1, 0, 0, 0, 0, 0, 0, [])), (19, (.ishr, 1, 0, 0, 0, 0, 0, 0, 0, 0, [])), (20, (.istore 4, 2, 4, 0, 0, 0, 0, 0, 0, 0, [])), (22, (.iload_n 3, 1, 3, 0, 0, 0, 0, 0, 0, 0, [])), (23, (.iconst 1, 1, 0, 1, 0, 0, 0, 0, 0, 0, [])), (24, (.iand, 1, 0, 0, 0, 0, 0, 0, 0, 0, [])), (25, (.ifCond .ne 10, 3, 35, 0, 0, 0, 0, 0, 0, 0, [])), (28, (.aload_n 1, 1, 1, 0, 0, 0, 0, 0, 0, 0, [])), (29, (.getfield 25, 3, 0, 0, 0, 0, 3, 0, 0, 0, [])), (32, (.goto 12, 3, 44, 0, 0, 0, 0, 0, 0, 0, [])), (35, (.aload_n 1, 1, 1, 0, 0, 0, 0, 0, 0, 0, [])), (36, (.getfield 25, 3, 0, 0, 0, 0, 3, 0, 0, 0, [])), (39, (.aload_n 1, 1, 1, 0, 0, 0, 0, 0, 0, 0, [])), (40, (.getfield 30, 3, 0, 0, 0, 0, 4, 0, 0, 0, [])), (43, (.iand, 1, 0, 0, 0, 0, 0, 0, 0, 0, [])), (44, (.istore 5, 2, 5, 0, 0, 0, 0, 0, 0, 0, [])), (46, (.iload 5, 2, 5, 0, 0, 0, 0, 0, 0, 0, [])), (48, (.iload 4, 2, 4, 0, 0, 0, 0, 0, 0, 0, [])), (50, (.invokestatic 33, 3, 2, 0, 0, 0, 112, 0, 0, 0, [])), (53, (.ifCond .eq 38, 3, 91, 0, 0, 0, 0, 0, 0, 0, [])), (56, (.aload_n 1, 1, 1, 0, 0, 0, 0, 0, 0, 0, [])), (57, (.iload 4, 2, 4, 0, 0, 0, 0, 0, 0, 0, [])), (59, (.bipush 6, 2, 0, 6, 0, 0, 0, 0, 0, 0, [])), (61, (.iload_n 3, 1, 3, 0, 0, 0, 0, 0, 0, 0, [])), (62, (.iconst 1, 1, 0, 1, 0, 0, 0, 0, 0, 0, [])), (63, (.iand, 1, 0, 0, 0, 0, 0, 0, 0, 0, [])), (64, (.invokevirtual 37, 3, 3, 0, 0, 0, 6, 1, 0, 0, [])), (67, (.aload_n 1, 1, 1, 0, 0, 0, 0, 0, 0, 0, [])), (68, (.aload_n 2, 1, 2, 0, 0, 0, 0, 0, 0, 0, [])), (69, (.bipush 15, 2, 0, 15, 0, 0, 0, 0, 0, 0, [])), (71, (.iload 4, 2, 4, 0, 0, 0, 0, 0, 0, 0, [])), (73, (.invokevirtual 41, 3, 3, 0, 0, 0, 8, 1, 0, 0, [])), (76, (.ifCond .ne 15, 3, 91, 0, 0, 0, 0, 0, 0, 0, [])), (79, (.aload_n 0, 1, 0, 0, 0, 0, 0, 0, 0, 0, [])), (80, (.aload_n 1, 1, 1, 0, 0, 0, 0, 0, 0, 0, [])), (81, (.aload_n 2, 1, 2, 0, 0, 0, 0, 0, 0, 0, [])), (82, (.iload_n 3, 1, 3, 0, 0, 0, 0, 0, 0, 0, [])), (83, (.invokevirtual 45, 3, 3, 0, 0, 0, 51, 6, 0, 0, [])), (86, (.aload_n 0, 1, 0, 0, 0, 0, 0, 0, 0, 0, [])), (87, (.iload_n 3, 1, 3, 0, 0, 0, 0, 0, 0, 0, [])), (88, (.invokevirtual 49, 3, 1, 0, 0, 0, 52, 6, 0, 0, [])), (91, (.iinc 3 1, 3, 3, 1, 0, 0, 0, 0, 0, 0, [])), (94, (.goto (-87), 3, 7, 0, 0, 0, 0, 0, 0, 0, [])), (97, (.return_, 1, 0, 0, 0, 0, 0, 0, 0, 0, []))]
set_option maxRecDepth 100000 in
theorem ok_X5_build : tb_ok ctX5 m_X5_build t_X5_build = true := by decide +kernel
theorem i_X5_build_0 : tab t_X5_build 0 = some (.aload_n 0, 1, 0, 0, 0, 0, 0, 0, 0, 0, []) := rfl
theorem i_X5_build_1 : tab t_X5_build 1 = some (.iconst 0, 1, 0, 0, 0, 0, 0, 0, 0, 0, []) := rfl
theorem i_X5_build_2 : tab t_X5_build 2 = some (.putfield 18, 3, 0, 0, 0, 5, 2, 0, 0, 0, []) := rfl
theorem i_X5_build_5 : tab t_X5_build 5 = some (.iconst 0, 1, 0, 0, 0, 0, 0, 0, 0, 0, []) := rfl
theorem i_X5_build_6 : tab t_X5_build 6 = some (.istore_n 3, 1, 3, 0, 0, 0, 0, 0, 0, 0, []) := rfl
theorem i_X5_build_7 : tab t_X5_build 7 = some (.iload_n 3, 1, 3, 0, 0, 0, 0, 0, 0, 0, []) := rfl
theorem i_X5_build_8 : tab t_X5_build 8 = some (.bipush 48, 2, 0, 48, 0, 0, 0, 0, 0, 0, []) := rfl
theorem i_X5_build_10 : tab t_X5_build 10 = some (.if_icmp .ge 87, 3, 97, 0, 0, 0, 0, 0, 0, 0, []) := rfl
theorem i_X5_build_13 : tab t_X5_build 13 = some (.aload_n 2, 1, 2, 0, 0, 0, 0, 0, 0, 0, []) := rfl
theorem i_X5_build_14 : tab t_X5_build 14 = some (.ifnull 83, 3, 97, 0, 0, 0, 0, 0, 0, 0, []) := rfl
theorem i_X5_build_17 : tab t_X5_build 17 = some (.iload_n 3, 1, 3, 0, 0, 0, 0, 0, 0, 0, []) := rfl
theorem i_X5_build_18 : tab t_X5_build 18 = some (.iconst 1, 1, 0, 1, 0, 0, 0, 0, 0, 0, []) := rfl
theorem i_X5_build_19 : tab t_X5_build 19 = some (.ishr, 1, 0, 0, 0, 0, 0, 0, 0, 0, []) := rfl
theorem i_X5_build_20 : tab t_X5_build 20 = some (.istore 4, 2, 4, 0, 0, 0, 0, 0, 0, 0, []) := rfl
theorem i_X5_build_22 : tab t_X5_build 22 = some (.iload_n 3, 1, 3, 0, 0, 0, 0, 0, 0, 0, []) := rfl
theorem i_X5_build_23 : tab t_X5_build 23 = some (.iconst 1, 1, 0, 1, 0, 0, 0, 0, 0, 0, []) := rfl
theorem i_X5_build_24 : tab t_X5_build 24 = some (.iand, 1, 0, 0, 0, 0, 0, 0, 0, 0, []) := rfl
theorem i_X5_build_25 : tab t_X5_build 25 = some (.ifCond .ne 10, 3, 35, 0, 0, 0, 0, 0, 0, 0, []) := rfl
theorem i_X5_build_28 : tab t_X5_build 28 = some (.aload_n 1, 1, 1, 0, 0, 0, 0, 0, 0, 0, []) := rfl
theorem i_X5_build_29 : tab t_X5_build 29 = some (.getfield 25, 3, 0, 0, 0, 0, 3, 0, 0, 0, []) := rfl
theorem i_X5_build_32 : tab t_X5_build 32 = some (.goto 12, 3, 44, 0, 0, 0, 0, 0, 0, 0, []) := rfl
theorem i_X5_build_35 : tab t_X5_build 35 = some (.aload_n 1, 1, 1, 0, 0, 0, 0, 0, 0, 0, []) := rfl
theorem i_X5_build_36 : tab t_X5_build 36 = some (.getfield 25, 3, 0, 0, 0, 0, 3, 0, 0, 0, []) := rfl
theorem i_X5_build_39 : tab t_X5_build 39 = some (.aload_n 1, 1, 1, 0, 0, 0, 0, 0, 0, 0, []) := rfl
theorem i_X5_build_40 : tab t_X5_build 40 = some (.getfield 30, 3, 0, 0, 0, 0, 4, 0, 0, 0, []) := rfl
theorem i_X5_build_43 : tab t_X5_build 43 = some (.iand, 1, 0, 0, 0, 0, 0, 0, 0, 0, []) := rfl
theorem i_X5_build_44 : tab t_X5_build 44 = some (.istore 5, 2, 5, 0, 0, 0, 0, 0, 0, 0, []) := rfl
theorem i_X5_build_46 : tab t_X5_build 46 = some (.iload 5, 2, 5, 0, 0, 0, 0, 0, 0, 0, []) := rfl
theorem i_X5_build_48 : tab t_X5_build 48 = some (.iload 4, 2, 4, 0, 0, 0, 0, 0, 0, 0, []) := rfl
theorem i_X5_build_50 : tab t_X5_build 50 = some (.invokestatic 33, 3, 2, 0, 0, 0, 112, 0, 0, 0, []) := rfl
theorem i_X5_build_53 : tab t_X5_build 53 = some (.ifCond .eq 38, 3, 91, 0, 0, 0, 0, 0, 0, 0, []) := rfl
theorem i_X5_build_56 : tab t_X5_build 56 = some (.aload_n 1, 1, 1, 0, 0, 0, 0, 0, 0, 0, []) := rfl
theorem i_X5_build_57 : tab t_X5_build 57 = some (.iload 4, 2, 4, 0, 0, 0, 0, 0, 0, 0, []) := rfl
theorem i_X5_build_59 : tab t_X5_build 59 = some (.bipush 6, 2, 0, 6, 0, 0, 0, 0, 0, 0, []) := rfl
theorem i_X5_build_61 : tab t_X5_build 61 = some (.iload_n 3, 1, 3, 0, 0, 0, 0, 0, 0, 0, []) := rfl
theorem i_X5_build_62 : tab t_X5_build 62 = some (.iconst 1, 1, 0, 1, 0, 0, 0, 0, 0, 0, []) := rfl
theorem i_X5_build_63 : tab t_X5_build 63 = some (.iand, 1, 0, 0, 0, 0, 0, 0, 0, 0, []) := rfl
theorem i_X5_build_64 : tab t_X5_build 64 = some (.invokevirtual 37, 3, 3, 0, 0, 0, 6, 1, 0, 0, []) := rfl
theorem i_X5_build_67 : tab t_X5_build 67 = some (.aload_n 1, 1, 1, 0, 0, 0, 0, 0, 0, 0, []) := rfl
theorem i_X5_build_68 : tab t_X5_build 68 = some (.aload_n 2, 1, 2, 0, 0, 0, 0, 0, 0, 0, []) := rfl
theorem i_X5_build_69 : tab t_X5_build 69 = some (.bipush 15, 2, 0, 15, 0, 0, 0, 0, 0, 0, []) := rfl
theorem i_X5_build_71 : tab t_X5_build 71 = some (.iload 4, 2, 4, 0, 0, 0, 0, 0, 0, 0, []) := rfl
theorem i_X5_build_73 : tab t_X5_build 73 = some (.invokevirtual 41, 3, 3, 0, 0, 0, 8, 1, 0, 0, []) := rfl
theorem i_X5_build_76 : tab t_X5_build 76 = some (.ifCond .ne 15, 3, 91, 0, 0, 0, 0, 0, 0, 0, []) := rfl
theorem i_X5_build_79 : tab t_X5_build 79 = some (.aload_n 0, 1, 0, 0, 0, 0, 0, 0, 0, 0, []) := rfl
theorem i_X5_build_80 : tab t_X5_build 80 = some (.aload_n 1, 1, 1, 0, 0, 0, 0, 0, 0, 0, []) := rfl
theorem i_X5_build_81 : tab t_X5_build 81 = some (.aload_n 2, 1, 2, 0, 0, 0, 0, 0, 0, 0, []) := rfl
theorem i_X5_build_82 : tab t_X5_build 82 = some (.iload_n 3, 1, 3, 0, 0, 0, 0, 0, 0, 0, []) := rfl
theorem i_X5_build_83 : tab t_X5_build 83 = some (.invokevirtual 45, 3, 3, 0, 0, 0, 51, 6, 0, 0, []) := rfl
theorem i_X5_build_86 : tab t_X5_build 86 = some (.aload_n 0, 1, 0, 0, 0, 0, 0, 0, 0, 0, []) := rfl
theorem i_X5_build_87 : tab t_X5_build 87 = some (.iload_n 3, 1, 3, 0, 0, 0, 0, 0, 0, 0, []) := rfl
theorem i_X5_build_88 : tab t_X5_build 88 = some (.invokevirtual 49, 3, 1, 0, 0, 0, 52, 6, 0, 0, []) := rfl
theorem i_X5_build_91 : tab t_X5_build 91 = some (.iinc 3 1, 3, 3, 1, 0, 0, 0, 0, 0, 0, []) := rfl
theorem i_X5_build_94 : tab t_X5_build 94 = some (.goto (-87), 3, 7, 0, 0, 0, 0, 0, 0, 0, []) := rfl
theorem i_X5_build_97 : tab t_X5_build 97 = some (.return_, 1, 0, 0, 0, 0, 0, 0, 0, 0, []) := rfl
def t_X5_weigh : List (Nat × rw_) := [(0, (.aload_n 2, 1, 2, 0, 0, 0, 0, 0, 0, 0, [])), (1, (.ifnull 13, 3, 14, 0, 0, 0, 0, 0, 0, 0, [])), (4, (.iload_n 3, 1, 3, 0, 0, 0, 0, 0, 0, 0, [])), (5, (.ifCond .lt 9, 3, 14, 0, 0, 0, 0, 0, 0, 0, [])), (8, (.iload_n 3, 1, 3, 0, 0, 0, 0, 0, 0, 0, [])), (9, (.bipush 48, 2, 0, 48, 0, 0, 0, 0, 0, 0, [])), (11, (.if_icmp .lt 4, 3, 15, 0, 0, 0, 0, 0, 0, 0, [])), (14, (.return_, 1, 0, 0, 0, 0, 0, 0, 0, 0, [])), (15, (.aload_n 0, 1, 0, 0, 0, 0, 0, 0, 0, 0, [])), (16, (.aload_n 2, 1, 2, 0, 0, 0, 0, 0, 0, 0, [])), (17, (.getfield 53, 3, 2, 0, 0, 2, 0, 0, 0, 0, [])), (20, (.arraylength, 1, 0, 0, 0, 0, 0, 0, 0, 0, [])), (21, (.bipush 12, 2, 0, 12, 0, 0, 0, 0, 0, 0, [])), (23, (.invokestatic 58, 3, 0, 0, 0, 8, 0, 0, 0, 0, [])), (26, (.putfield 22, 3, 0, 0, 0, 5, 3, 0, 0, 0, [])), (29, (.iload_n 3, 1, 3, 0, 0, 0, 0, 0, 0, 0, [])), (30, (.iconst 1, 1, 0, 1, 0, 0, 0, 0, 0, 0, [])), (31, (.ishr, 1, 0, 0, 0, 0, 0, 0, 0, 0, [])), (32, (.istore 4, 2, 4, 0, 0, 0, 0, 0, 0, 0, [])), (34, (.iconst 0, 1, 0, 0, 0, 0, 0, 0, 0, 0, [])), (35, (.istore 5, 2, 5, 0, 0, 0, 0, 0, 0, 0, [])), (37, (.iload 5, 2, 5, 0, 0, 0, 0, 0, 0, 0, [])), (39, (.aload_n 0, 1, 0, 0, 0, 0, 0, 0, 0, 0, [])), (40, (.getfield 22, 3, 0, 0, 0, 5, 3, 0, 0, 0, [])), (43, (.if_icmp .ge 70, 3, 113, 0, 0, 0, 0, 0, 0, 0, [])), (46, (.iconst 0, 1, 0, 0, 0, 0, 0, 0, 0, 0, [])), (47, (.istore 6, 2, 6, 0, 0, 0, 0, 0, 0, 0, [])), (49, (.aload_n 2, 1, 2, 0, 0, 0, 0, 0, 0, 0, [])), (50, (.getfield 53, 3, 2, 0, 0, 2, 0, 0, 0, 0, [])), (53, (.iload 5, 2, 5, 0, 0, 0, 0, 0, 0, 0, [])), (55, (.iaload, 1, 0, 0, 0, 0, 0, 0, 0, 0, [])), (56, (.bipush 14, 2, 0, 14, 0, 0, 0, 0, 0, 0, [])), (58, (.if_icmp .ne 35, 3, 93, 0, 0, 0, 0, 0, 0, 0, [])), (61, (.aload_n 1, 1, 1, 0, 0, 0, 0, 0, 0, 0, [])), (62, (.aload_n 2, 1, 2, 0, 0, 0, 0, 0, 0, 0, [])), (63, (.iload 5, 2, 5, 0, 0, 0, 0, 0, 0, 0, [])), (65, (.iload 4, 2, 4, 0, 0, 0, 0, 0, 0, 0, [])), (67, (.invokevirtual 64, 3, 3, 0, 0, 0, 9, 1, 0, 0, [])), (70, (.ifCond .eq 19, 3, 89, 0, 0, 0, 0, 0, 0, 0, [])), (73, (.aload_n 1, 1, 1, 0, 0, 0, 0, 0, 0, 0, [])), (74, (.aload_n 2, 1, 2, 0, 0, 0, 0, 0, 0, 0, [])), (75, (.getfield 67, 3, 2, 0, 0, 2, 1, 0, 0, 0, [])), (78, (.iload 5, 2, 5, 0, 0, 0, 0, 0, 0, 0, [])), (80, (.iaload, 1, 0, 0, 0, 0, 0, 0, 0, 0, [])), (81, (.iload 4, 2, 4, 0, 0, 0, 0, 0, 0, 0, [])), (83, (.invokevirtual 68, 3, 2, 0, 0, 0, 11, 1, 0, 0, [])), (86, (.goto 5, 3, 91, 0, 0, 0, 0, 0, 0, 0, [])), (89, (.ldc 71, 2, 0, 100000, 0, 0, 0, 0, 0, 0, [])), (91, (.istore 6, 2, 6, 0, 0, 0, 0, 0, 0, 0, [])), (93, (.aload_n 0, 1, 0, 0, 0, 0, 0, 0, 0, 0, [])), (94, (.getfield 15, 3, 2, 0, 0, 5, 1, 0, 0, 0, [])), (97, (.iload_n 3, 1, 3, 0, 0, 0, 0, 0, 0, 0, [])), (98, (.bipush 12, 2, 0, 12, 0, 0, 0, 0, 0, 0, [])), (100, (.imul, 1, 0, 0, 0, 0, 0, 0, 0, 0, [])), (101, (.iload 5, 2, 5, 0, 0, 0, 0, 0, 0, 0, [])), (103, (.iadd, 1, 0, 0, 0, 0, 0, 0, 0, 0, [])), (104, (.iload 6, 2, 6, 0, 0, 0, 0, 0, 0, 0, [])), (106, (.iastore, 1, 0, 0, 0, 0, 0, 0, 0, 0, [])), (107, (.iinc 5 1, 3, 5, 1, 0, 0, 0, 0, 0, 0, [])), (110, (.goto (-73), 3, 37, 0, 0, 0, 0, 0, 0, 0, [])), (113, (.return_, 1, 0, 0, 0, 0, 0, 0, 0, 0, []))]
set_option maxRecDepth 100000 in
theorem ok_X5_weigh : tb_ok ctX5 m_X5_weigh t_X5_weigh = true := by decide +kernel
theorem i_X5_weigh_0 : tab t_X5_weigh 0 = some (.aload_n 2, 1, 2, 0, 0, 0, 0, 0, 0, 0, []) := rfl
theorem i_X5_weigh_1 : tab t_X5_weigh 1 = some (.ifnull 13, 3, 14, 0, 0, 0, 0, 0, 0, 0, []) := rfl
theorem i_X5_weigh_4 : tab t_X5_weigh 4 = some (.iload_n 3, 1, 3, 0, 0, 0, 0, 0, 0, 0, []) := rfl
theorem i_X5_weigh_5 : tab t_X5_weigh 5 = some (.ifCond .lt 9, 3, 14, 0, 0, 0, 0, 0, 0, 0, []) := rfl
theorem i_X5_weigh_8 : tab t_X5_weigh 8 = some (.iload_n 3, 1, 3, 0, 0, 0, 0, 0, 0, 0, []) := rfl
theorem i_X5_weigh_9 : tab t_X5_weigh 9 = some (.bipush 48, 2, 0, 48, 0, 0, 0, 0, 0, 0, []) := rfl
theorem i_X5_weigh_11 : tab t_X5_weigh 11 = some (.if_icmp .lt 4, 3, 15, 0, 0, 0, 0, 0, 0, 0, []) := rfl
theorem i_X5_weigh_14 : tab t_X5_weigh 14 = some (.return_, 1, 0, 0, 0, 0, 0, 0, 0, 0, []) := rfl
theorem i_X5_weigh_15 : tab t_X5_weigh 15 = some (.aload_n 0, 1, 0, 0, 0, 0, 0, 0, 0, 0, []) := rfl
theorem i_X5_weigh_16 : tab t_X5_weigh 16 = some (.aload_n 2, 1, 2, 0, 0, 0, 0, 0, 0, 0, []) := rfl
theorem i_X5_weigh_17 : tab t_X5_weigh 17 = some (.getfield 53, 3, 2, 0, 0, 2, 0, 0, 0, 0, []) := rfl
theorem i_X5_weigh_20 : tab t_X5_weigh 20 = some (.arraylength, 1, 0, 0, 0, 0, 0, 0, 0, 0, []) := rfl
theorem i_X5_weigh_21 : tab t_X5_weigh 21 = some (.bipush 12, 2, 0, 12, 0, 0, 0, 0, 0, 0, []) := rfl
theorem i_X5_weigh_23 : tab t_X5_weigh 23 = some (.invokestatic 58, 3, 0, 0, 0, 8, 0, 0, 0, 0, []) := rfl
theorem i_X5_weigh_26 : tab t_X5_weigh 26 = some (.putfield 22, 3, 0, 0, 0, 5, 3, 0, 0, 0, []) := rfl
theorem i_X5_weigh_29 : tab t_X5_weigh 29 = some (.iload_n 3, 1, 3, 0, 0, 0, 0, 0, 0, 0, []) := rfl
theorem i_X5_weigh_30 : tab t_X5_weigh 30 = some (.iconst 1, 1, 0, 1, 0, 0, 0, 0, 0, 0, []) := rfl
theorem i_X5_weigh_31 : tab t_X5_weigh 31 = some (.ishr, 1, 0, 0, 0, 0, 0, 0, 0, 0, []) := rfl
theorem i_X5_weigh_32 : tab t_X5_weigh 32 = some (.istore 4, 2, 4, 0, 0, 0, 0, 0, 0, 0, []) := rfl
theorem i_X5_weigh_34 : tab t_X5_weigh 34 = some (.iconst 0, 1, 0, 0, 0, 0, 0, 0, 0, 0, []) := rfl
theorem i_X5_weigh_35 : tab t_X5_weigh 35 = some (.istore 5, 2, 5, 0, 0, 0, 0, 0, 0, 0, []) := rfl
theorem i_X5_weigh_37 : tab t_X5_weigh 37 = some (.iload 5, 2, 5, 0, 0, 0, 0, 0, 0, 0, []) := rfl
theorem i_X5_weigh_39 : tab t_X5_weigh 39 = some (.aload_n 0, 1, 0, 0, 0, 0, 0, 0, 0, 0, []) := rfl
theorem i_X5_weigh_40 : tab t_X5_weigh 40 = some (.getfield 22, 3, 0, 0, 0, 5, 3, 0, 0, 0, []) := rfl
theorem i_X5_weigh_43 : tab t_X5_weigh 43 = some (.if_icmp .ge 70, 3, 113, 0, 0, 0, 0, 0, 0, 0, []) := rfl
theorem i_X5_weigh_46 : tab t_X5_weigh 46 = some (.iconst 0, 1, 0, 0, 0, 0, 0, 0, 0, 0, []) := rfl
theorem i_X5_weigh_47 : tab t_X5_weigh 47 = some (.istore 6, 2, 6, 0, 0, 0, 0, 0, 0, 0, []) := rfl
theorem i_X5_weigh_49 : tab t_X5_weigh 49 = some (.aload_n 2, 1, 2, 0, 0, 0, 0, 0, 0, 0, []) := rfl
theorem i_X5_weigh_50 : tab t_X5_weigh 50 = some (.getfield 53, 3, 2, 0, 0, 2, 0, 0, 0, 0, []) := rfl
theorem i_X5_weigh_53 : tab t_X5_weigh 53 = some (.iload 5, 2, 5, 0, 0, 0, 0, 0, 0, 0, []) := rfl
theorem i_X5_weigh_55 : tab t_X5_weigh 55 = some (.iaload, 1, 0, 0, 0, 0, 0, 0, 0, 0, []) := rfl
theorem i_X5_weigh_56 : tab t_X5_weigh 56 = some (.bipush 14, 2, 0, 14, 0, 0, 0, 0, 0, 0, []) := rfl
theorem i_X5_weigh_58 : tab t_X5_weigh 58 = some (.if_icmp .ne 35, 3, 93, 0, 0, 0, 0, 0, 0, 0, []) := rfl
theorem i_X5_weigh_61 : tab t_X5_weigh 61 = some (.aload_n 1, 1, 1, 0, 0, 0, 0, 0, 0, 0, []) := rfl
theorem i_X5_weigh_62 : tab t_X5_weigh 62 = some (.aload_n 2, 1, 2, 0, 0, 0, 0, 0, 0, 0, []) := rfl
theorem i_X5_weigh_63 : tab t_X5_weigh 63 = some (.iload 5, 2, 5, 0, 0, 0, 0, 0, 0, 0, []) := rfl
theorem i_X5_weigh_65 : tab t_X5_weigh 65 = some (.iload 4, 2, 4, 0, 0, 0, 0, 0, 0, 0, []) := rfl
theorem i_X5_weigh_67 : tab t_X5_weigh 67 = some (.invokevirtual 64, 3, 3, 0, 0, 0, 9, 1, 0, 0, []) := rfl
theorem i_X5_weigh_70 : tab t_X5_weigh 70 = some (.ifCond .eq 19, 3, 89, 0, 0, 0, 0, 0, 0, 0, []) := rfl
theorem i_X5_weigh_73 : tab t_X5_weigh 73 = some (.aload_n 1, 1, 1, 0, 0, 0, 0, 0, 0, 0, []) := rfl
theorem i_X5_weigh_74 : tab t_X5_weigh 74 = some (.aload_n 2, 1, 2, 0, 0, 0, 0, 0, 0, 0, []) := rfl
theorem i_X5_weigh_75 : tab t_X5_weigh 75 = some (.getfield 67, 3, 2, 0, 0, 2, 1, 0, 0, 0, []) := rfl
theorem i_X5_weigh_78 : tab t_X5_weigh 78 = some (.iload 5, 2, 5, 0, 0, 0, 0, 0, 0, 0, []) := rfl
theorem i_X5_weigh_80 : tab t_X5_weigh 80 = some (.iaload, 1, 0, 0, 0, 0, 0, 0, 0, 0, []) := rfl
theorem i_X5_weigh_81 : tab t_X5_weigh 81 = some (.iload 4, 2, 4, 0, 0, 0, 0, 0, 0, 0, []) := rfl
theorem i_X5_weigh_83 : tab t_X5_weigh 83 = some (.invokevirtual 68, 3, 2, 0, 0, 0, 11, 1, 0, 0, []) := rfl
theorem i_X5_weigh_86 : tab t_X5_weigh 86 = some (.goto 5, 3, 91, 0, 0, 0, 0, 0, 0, 0, []) := rfl
theorem i_X5_weigh_89 : tab t_X5_weigh 89 = some (.ldc 71, 2, 0, 100000, 0, 0, 0, 0, 0, 0, []) := rfl
theorem i_X5_weigh_91 : tab t_X5_weigh 91 = some (.istore 6, 2, 6, 0, 0, 0, 0, 0, 0, 0, []) := rfl
theorem i_X5_weigh_93 : tab t_X5_weigh 93 = some (.aload_n 0, 1, 0, 0, 0, 0, 0, 0, 0, 0, []) := rfl
theorem i_X5_weigh_94 : tab t_X5_weigh 94 = some (.getfield 15, 3, 2, 0, 0, 5, 1, 0, 0, 0, []) := rfl
theorem i_X5_weigh_97 : tab t_X5_weigh 97 = some (.iload_n 3, 1, 3, 0, 0, 0, 0, 0, 0, 0, []) := rfl
theorem i_X5_weigh_98 : tab t_X5_weigh 98 = some (.bipush 12, 2, 0, 12, 0, 0, 0, 0, 0, 0, []) := rfl
theorem i_X5_weigh_100 : tab t_X5_weigh 100 = some (.imul, 1, 0, 0, 0, 0, 0, 0, 0, 0, []) := rfl
theorem i_X5_weigh_101 : tab t_X5_weigh 101 = some (.iload 5, 2, 5, 0, 0, 0, 0, 0, 0, 0, []) := rfl
theorem i_X5_weigh_103 : tab t_X5_weigh 103 = some (.iadd, 1, 0, 0, 0, 0, 0, 0, 0, 0, []) := rfl
theorem i_X5_weigh_104 : tab t_X5_weigh 104 = some (.iload 6, 2, 6, 0, 0, 0, 0, 0, 0, 0, []) := rfl
theorem i_X5_weigh_106 : tab t_X5_weigh 106 = some (.iastore, 1, 0, 0, 0, 0, 0, 0, 0, 0, []) := rfl
theorem i_X5_weigh_107 : tab t_X5_weigh 107 = some (.iinc 5 1, 3, 5, 1, 0, 0, 0, 0, 0, 0, []) := rfl
theorem i_X5_weigh_110 : tab t_X5_weigh 110 = some (.goto (-73), 3, 37, 0, 0, 0, 0, 0, 0, 0, []) := rfl
theorem i_X5_weigh_113 : tab t_X5_weigh 113 = some (.return_, 1, 0, 0, 0, 0, 0, 0, 0, 0, []) := rfl
def t_X5_insert : List (Nat × rw_) := [(0, (.aload_n 0, 1, 0, 0, 0, 0, 0, 0, 0, 0, [])), (1, (.getfield 18, 3, 0, 0, 0, 5, 2, 0, 0, 0, [])), (4, (.aload_n 0, 1, 0, 0, 0, 0, 0, 0, 0, 0, [])), (5, (.getfield 9, 3, 2, 0, 0, 5, 0, 0, 0, 0, [])), (8, (.arraylength, 1, 0, 0, 0, 0, 0, 0, 0, 0, [])), (9, (.if_icmp .lt 4, 3, 13, 0, 0, 0, 0, 0, 0, 0, [])), (12, (.return_, 1, 0, 0, 0, 0, 0, 0, 0, 0, [])), (13, (.aload_n 0, 1, 0, 0, 0, 0, 0, 0, 0, 0, [])), (14, (.getfield 18, 3, 0, 0, 0, 5, 2, 0, 0, 0, [])), (17, (.istore_n 2, 1, 2, 0, 0, 0, 0, 0, 0, 0, [])), (18, (.iload_n 2, 1, 2, 0, 0, 0, 0, 0, 0, 0, [])), (19, (.ifCond .le 39, 3, 58, 0, 0, 0, 0, 0, 0, 0, [])), (22, (.aload_n 0, 1, 0, 0, 0, 0, 0, 0, 0, 0, [])), (23, (.iload_n 1, 1, 1, 0, 0, 0, 0, 0, 0, 0, [])), (24, (.aload_n 0, 1, 0, 0, 0, 0, 0, 0, 0, 0, [])), (25, (.getfield 9, 3, 2, 0, 0, 5, 0, 0, 0, 0, [])), (28, (.iload_n 2, 1, 2, 0, 0, 0, 0, 0, 0, 0, [])), (29, (.iconst 1, 1, 0, 1, 0, 0, 0, 0, 0, 0, [])), (30, (.isub, 1, 0, 0, 0, 0, 0, 0, 0, 0, [])), (31, (.iaload, 1, 0, 0, 0, 0, 0, 0, 0, 0, [])), (32, (.invokevirtual 72, 3, 2, 0, 0, 0, 54, 6, 0, 0, [])), (35, (.ifCond .eq 23, 3, 58, 0, 0, 0, 0, 0, 0, 0, [])), (38, (.aload_n 0, 1, 0, 0, 0, 0, 0, 0, 0, 0, [])), (39, (.getfield 9, 3, 2, 0, 0, 5, 0, 0, 0, 0, [])), (42, (.iload_n 2, 1, 2, 0, 0, 0, 0, 0, 0, 0, [])), (43, (.aload_n 0, 1, 0, 0, 0, 0, 0, 0, 0, 0, [])), (44, (.getfield 9, 3, 2, 0, 0, 5, 0, 0, 0, 0, [])), (47, (.iload_n 2, 1, 2, 0, 0, 0, 0, 0, 0, 0, [])), (48, (.iconst 1, 1, 0, 1, 0, 0, 0, 0, 0, 0, [])), (49, (.isub, 1, 0, 0, 0, 0, 0, 0, 0, 0, [])), (50, (.iaload, 1, 0, 0, 0, 0, 0, 0, 0, 0, [])), (51, (.iastore, 1, 0, 0, 0, 0, 0, 0, 0, 0, [])), (52, (.iinc 2 (-1), 3, 2, -1, 0, 0, 0, 0, 0, 0, [])), (55, (.goto (-37), 3, 18, 0, 0, 0, 0, 0, 0, 0, [])), (58, (.aload_n 0, 1, 0, 0, 0, 0, 0, 0, 0, 0, [])), (59, (.getfield 9, 3, 2, 0, 0, 5, 0, 0, 0, 0, [])), (62, (.iload_n 2, 1, 2, 0, 0, 0, 0, 0, 0, 0, [])), (63, (.iload_n 1, 1, 1, 0, 0, 0, 0, 0, 0, 0, [])), (64, (.iastore, 1, 0, 0, 0, 0, 0, 0, 0, 0, [])), (65, (.aload_n 0, 1, 0, 0, 0, 0, 0, 0, 0, 0, [])), (66, (.dup, 1, 0, 0, 0, 0, 0, 0, 0, 0, [])), (67, (.getfield 18, 3, 0, 0, 0, 5, 2, 0, 0, 0, [])), (70, (.iconst 1, 1, 0, 1, 0, 0, 0, 0, 0, 0, [])), (71, (.iadd, 1, 0, 0, 0, 0, 0, 0, 0, 0, [])), (72, (.putfield 18, 3, 0, 0, 0, 5, 2, 0, 0, 0, [])), (75, (.return_, 1, 0, 0, 0, 0, 0, 0, 0, 0, []))]
set_option maxRecDepth 100000 in
theorem ok_X5_insert : tb_ok ctX5 m_X5_insert t_X5_insert = true := by decide +kernel
theorem i_X5_insert_0 : tab t_X5_insert 0 = some (.aload_n 0, 1, 0, 0, 0, 0, 0, 0, 0, 0, []) := rfl
theorem i_X5_insert_1 : tab t_X5_insert 1 = some (.getfield 18, 3, 0, 0, 0, 5, 2, 0, 0, 0, []) := rfl
theorem i_X5_insert_4 : tab t_X5_insert 4 = some (.aload_n 0, 1, 0, 0, 0, 0, 0, 0, 0, 0, []) := rfl
theorem i_X5_insert_5 : tab t_X5_insert 5 = some (.getfield 9, 3, 2, 0, 0, 5, 0, 0, 0, 0, []) := rfl
theorem i_X5_insert_8 : tab t_X5_insert 8 = some (.arraylength, 1, 0, 0, 0, 0, 0, 0, 0, 0, []) := rfl
theorem i_X5_insert_9 : tab t_X5_insert 9 = some (.if_icmp .lt 4, 3, 13, 0, 0, 0, 0, 0, 0, 0, []) := rfl
theorem i_X5_insert_12 : tab t_X5_insert 12 = some (.return_, 1, 0, 0, 0, 0, 0, 0, 0, 0, []) := rfl
theorem i_X5_insert_13 : tab t_X5_insert 13 = some (.aload_n 0, 1, 0, 0, 0, 0, 0, 0, 0, 0, []) := rfl
theorem i_X5_insert_14 : tab t_X5_insert 14 = some (.getfield 18, 3, 0, 0, 0, 5, 2, 0, 0, 0, []) := rfl
theorem i_X5_insert_17 : tab t_X5_insert 17 = some (.istore_n 2, 1, 2, 0, 0, 0, 0, 0, 0, 0, []) := rfl
theorem i_X5_insert_18 : tab t_X5_insert 18 = some (.iload_n 2, 1, 2, 0, 0, 0, 0, 0, 0, 0, []) := rfl
theorem i_X5_insert_19 : tab t_X5_insert 19 = some (.ifCond .le 39, 3, 58, 0, 0, 0, 0, 0, 0, 0, []) := rfl
theorem i_X5_insert_22 : tab t_X5_insert 22 = some (.aload_n 0, 1, 0, 0, 0, 0, 0, 0, 0, 0, []) := rfl
theorem i_X5_insert_23 : tab t_X5_insert 23 = some (.iload_n 1, 1, 1, 0, 0, 0, 0, 0, 0, 0, []) := rfl
theorem i_X5_insert_24 : tab t_X5_insert 24 = some (.aload_n 0, 1, 0, 0, 0, 0, 0, 0, 0, 0, []) := rfl
theorem i_X5_insert_25 : tab t_X5_insert 25 = some (.getfield 9, 3, 2, 0, 0, 5, 0, 0, 0, 0, []) := rfl
theorem i_X5_insert_28 : tab t_X5_insert 28 = some (.iload_n 2, 1, 2, 0, 0, 0, 0, 0, 0, 0, []) := rfl
theorem i_X5_insert_29 : tab t_X5_insert 29 = some (.iconst 1, 1, 0, 1, 0, 0, 0, 0, 0, 0, []) := rfl
theorem i_X5_insert_30 : tab t_X5_insert 30 = some (.isub, 1, 0, 0, 0, 0, 0, 0, 0, 0, []) := rfl
theorem i_X5_insert_31 : tab t_X5_insert 31 = some (.iaload, 1, 0, 0, 0, 0, 0, 0, 0, 0, []) := rfl
theorem i_X5_insert_32 : tab t_X5_insert 32 = some (.invokevirtual 72, 3, 2, 0, 0, 0, 54, 6, 0, 0, []) := rfl
theorem i_X5_insert_35 : tab t_X5_insert 35 = some (.ifCond .eq 23, 3, 58, 0, 0, 0, 0, 0, 0, 0, []) := rfl
theorem i_X5_insert_38 : tab t_X5_insert 38 = some (.aload_n 0, 1, 0, 0, 0, 0, 0, 0, 0, 0, []) := rfl
theorem i_X5_insert_39 : tab t_X5_insert 39 = some (.getfield 9, 3, 2, 0, 0, 5, 0, 0, 0, 0, []) := rfl
theorem i_X5_insert_42 : tab t_X5_insert 42 = some (.iload_n 2, 1, 2, 0, 0, 0, 0, 0, 0, 0, []) := rfl
theorem i_X5_insert_43 : tab t_X5_insert 43 = some (.aload_n 0, 1, 0, 0, 0, 0, 0, 0, 0, 0, []) := rfl
theorem i_X5_insert_44 : tab t_X5_insert 44 = some (.getfield 9, 3, 2, 0, 0, 5, 0, 0, 0, 0, []) := rfl
theorem i_X5_insert_47 : tab t_X5_insert 47 = some (.iload_n 2, 1, 2, 0, 0, 0, 0, 0, 0, 0, []) := rfl
theorem i_X5_insert_48 : tab t_X5_insert 48 = some (.iconst 1, 1, 0, 1, 0, 0, 0, 0, 0, 0, []) := rfl
theorem i_X5_insert_49 : tab t_X5_insert 49 = some (.isub, 1, 0, 0, 0, 0, 0, 0, 0, 0, []) := rfl
theorem i_X5_insert_50 : tab t_X5_insert 50 = some (.iaload, 1, 0, 0, 0, 0, 0, 0, 0, 0, []) := rfl
theorem i_X5_insert_51 : tab t_X5_insert 51 = some (.iastore, 1, 0, 0, 0, 0, 0, 0, 0, 0, []) := rfl
theorem i_X5_insert_52 : tab t_X5_insert 52 = some (.iinc 2 (-1), 3, 2, -1, 0, 0, 0, 0, 0, 0, []) := rfl
theorem i_X5_insert_55 : tab t_X5_insert 55 = some (.goto (-37), 3, 18, 0, 0, 0, 0, 0, 0, 0, []) := rfl
theorem i_X5_insert_58 : tab t_X5_insert 58 = some (.aload_n 0, 1, 0, 0, 0, 0, 0, 0, 0, 0, []) := rfl
theorem i_X5_insert_59 : tab t_X5_insert 59 = some (.getfield 9, 3, 2, 0, 0, 5, 0, 0, 0, 0, []) := rfl
theorem i_X5_insert_62 : tab t_X5_insert 62 = some (.iload_n 2, 1, 2, 0, 0, 0, 0, 0, 0, 0, []) := rfl
theorem i_X5_insert_63 : tab t_X5_insert 63 = some (.iload_n 1, 1, 1, 0, 0, 0, 0, 0, 0, 0, []) := rfl
theorem i_X5_insert_64 : tab t_X5_insert 64 = some (.iastore, 1, 0, 0, 0, 0, 0, 0, 0, 0, []) := rfl
theorem i_X5_insert_65 : tab t_X5_insert 65 = some (.aload_n 0, 1, 0, 0, 0, 0, 0, 0, 0, 0, []) := rfl
theorem i_X5_insert_66 : tab t_X5_insert 66 = some (.dup, 1, 0, 0, 0, 0, 0, 0, 0, 0, []) := rfl
theorem i_X5_insert_67 : tab t_X5_insert 67 = some (.getfield 18, 3, 0, 0, 0, 5, 2, 0, 0, 0, []) := rfl
theorem i_X5_insert_70 : tab t_X5_insert 70 = some (.iconst 1, 1, 0, 1, 0, 0, 0, 0, 0, 0, []) := rfl
theorem i_X5_insert_71 : tab t_X5_insert 71 = some (.iadd, 1, 0, 0, 0, 0, 0, 0, 0, 0, []) := rfl
theorem i_X5_insert_72 : tab t_X5_insert 72 = some (.putfield 18, 3, 0, 0, 0, 5, 2, 0, 0, 0, []) := rfl
theorem i_X5_insert_75 : tab t_X5_insert 75 = some (.return_, 1, 0, 0, 0, 0, 0, 0, 0, 0, []) := rfl
def t_X5_decidingClause : List (Nat × rw_) := [(0, (.iload_n 1, 1, 1, 0, 0, 0, 0, 0, 0, 0, [])), (1, (.ifCond .lt 19, 3, 20, 0, 0, 0, 0, 0, 0, 0, [])), (4, (.iload_n 1, 1, 1, 0, 0, 0, 0, 0, 0, 0, [])), (5, (.bipush 48, 2, 0, 48, 0, 0, 0, 0, 0, 0, [])), (7, (.if_icmp .ge 13, 3, 20, 0, 0, 0, 0, 0, 0, 0, [])), (10, (.iload_n 2, 1, 2, 0, 0, 0, 0, 0, 0, 0, [])), (11, (.ifCond .lt 9, 3, 20, 0, 0, 0, 0, 0, 0, 0, [])), (14, (.iload_n 2, 1, 2, 0, 0, 0, 0, 0, 0, 0, [])), (15, (.bipush 48, 2, 0, 48, 0, 0, 0, 0, 0, 0, [])), (17, (.if_icmp .lt 5, 3, 22, 0, 0, 0, 0, 0, 0, 0, [])), (20, (.iconst (-1), 1, 0, -1, 0, 0, 0, 0, 0, 0, [])), (21, (.ireturn, 1, 0, 0, 0, 0, 0, 0, 0, 0, [])), (22, (.iconst 0, 1, 0, 0, 0, 0, 0, 0, 0, 0, [])), (23, (.istore_n 3, 1, 3, 0, 0, 0, 0, 0, 0, 0, [])), (24, (.iload_n 3, 1, 3, 0, 0, 0, 0, 0, 0, 0, [])), (25, (.aload_n 0, 1, 0, 0, 0, 0, 0, 0, 0, 0, [])), (26, (.getfield 22, 3, 0, 0, 0, 5, 3, 0, 0, 0, [])), (29, (.if_icmp .ge 42, 3, 71, 0, 0, 0, 0, 0, 0, 0, [])), (32, (.iload_n 3, 1, 3, 0, 0, 0, 0, 0, 0, 0, [])), (33, (.bipush 12, 2, 0, 12, 0, 0, 0, 0, 0, 0, [])), (35, (.if_icmp .ge 36, 3, 71, 0, 0, 0, 0, 0, 0, 0, [])), (38, (.aload_n 0, 1, 0, 0, 0, 0, 0, 0, 0, 0, [])), (39, (.getfield 15, 3, 2, 0, 0, 5, 1, 0, 0, 0, [])), (42, (.iload_n 1, 1, 1, 0, 0, 0, 0, 0, 0, 0, [])), (43, (.bipush 12, 2, 0, 12, 0, 0, 0, 0, 0, 0, [])), (45, (.imul, 1, 0, 0, 0, 0, 0, 0, 0, 0, [])), (46, (.iload_n 3, 1, 3, 0, 0, 0, 0, 0, 0, 0, [])), (47, (.iadd, 1, 0, 0, 0, 0, 0, 0, 0, 0, [])), (48, (.iaload, 1, 0, 0, 0, 0, 0, 0, 0, 0, [])), (49, (.aload_n 0, 1, 0, 0, 0, 0, 0, 0, 0, 0, [])), (50, (.getfield 15, 3, 2, 0, 0, 5, 1, 0, 0, 0, [])), (53, (.iload_n 2, 1, 2, 0, 0, 0, 0, 0, 0, 0, [])), (54, (.bipush 12, 2, 0, 12, 0, 0, 0, 0, 0, 0, [])), (56, (.imul, 1, 0, 0, 0, 0, 0, 0, 0, 0, [])), (57, (.iload_n 3, 1, 3, 0, 0, 0, 0, 0, 0, 0, [])), (58, (.iadd, 1, 0, 0, 0, 0, 0, 0, 0, 0, [])), (59, (.iaload, 1, 0, 0, 0, 0, 0, 0, 0, 0, [])), (60, (.if_icmp .eq 5, 3, 65, 0, 0, 0, 0, 0, 0, 0, [])), (63, (.iload_n 3, 1, 3, 0, 0, 0, 0, 0, 0, 0, [])), (64, (.ireturn, 1, 0, 0, 0, 0, 0, 0, 0, 0, [])), (65, (.iinc 3 1, 3, 3, 1, 0, 0, 0, 0, 0, 0, [])), (68, (.goto (-44), 3, 24, 0, 0, 0, 0, 0, 0, 0, [])), (71, (.iconst (-1), 1, 0, -1, 0, 0, 0, 0, 0, 0, [])), (72, (.ireturn, 1, 0, 0, 0, 0, 0, 0, 0, 0, []))]
set_option maxRecDepth 100000 in
theorem ok_X5_decidingClause : tb_ok ctX5 m_X5_decidingClause t_X5_decidingClause = true := by decide +kernel
theorem i_X5_decidingClause_0 : tab t_X5_decidingClause 0 = some (.iload_n 1, 1, 1, 0, 0, 0, 0, 0, 0, 0, []) := rfl
theorem i_X5_decidingClause_1 : tab t_X5_decidingClause 1 = some (.ifCond .lt 19, 3, 20, 0, 0, 0, 0, 0, 0, 0, []) := rfl
theorem i_X5_decidingClause_4 : tab t_X5_decidingClause 4 = some (.iload_n 1, 1, 1, 0, 0, 0, 0, 0, 0, 0, []) := rfl
theorem i_X5_decidingClause_5 : tab t_X5_decidingClause 5 = some (.bipush 48, 2, 0, 48, 0, 0, 0, 0, 0, 0, []) := rfl
theorem i_X5_decidingClause_7 : tab t_X5_decidingClause 7 = some (.if_icmp .ge 13, 3, 20, 0, 0, 0, 0, 0, 0, 0, []) := rfl
theorem i_X5_decidingClause_10 : tab t_X5_decidingClause 10 = some (.iload_n 2, 1, 2, 0, 0, 0, 0, 0, 0, 0, []) := rfl
theorem i_X5_decidingClause_11 : tab t_X5_decidingClause 11 = some (.ifCond .lt 9, 3, 20, 0, 0, 0, 0, 0, 0, 0, []) := rfl
theorem i_X5_decidingClause_14 : tab t_X5_decidingClause 14 = some (.iload_n 2, 1, 2, 0, 0, 0, 0, 0, 0, 0, []) := rfl
theorem i_X5_decidingClause_15 : tab t_X5_decidingClause 15 = some (.bipush 48, 2, 0, 48, 0, 0, 0, 0, 0, 0, []) := rfl
theorem i_X5_decidingClause_17 : tab t_X5_decidingClause 17 = some (.if_icmp .lt 5, 3, 22, 0, 0, 0, 0, 0, 0, 0, []) := rfl
theorem i_X5_decidingClause_20 : tab t_X5_decidingClause 20 = some (.iconst (-1), 1, 0, -1, 0, 0, 0, 0, 0, 0, []) := rfl
theorem i_X5_decidingClause_21 : tab t_X5_decidingClause 21 = some (.ireturn, 1, 0, 0, 0, 0, 0, 0, 0, 0, []) := rfl
theorem i_X5_decidingClause_22 : tab t_X5_decidingClause 22 = some (.iconst 0, 1, 0, 0, 0, 0, 0, 0, 0, 0, []) := rfl
theorem i_X5_decidingClause_23 : tab t_X5_decidingClause 23 = some (.istore_n 3, 1, 3, 0, 0, 0, 0, 0, 0, 0, []) := rfl
theorem i_X5_decidingClause_24 : tab t_X5_decidingClause 24 = some (.iload_n 3, 1, 3, 0, 0, 0, 0, 0, 0, 0, []) := rfl
theorem i_X5_decidingClause_25 : tab t_X5_decidingClause 25 = some (.aload_n 0, 1, 0, 0, 0, 0, 0, 0, 0, 0, []) := rfl
theorem i_X5_decidingClause_26 : tab t_X5_decidingClause 26 = some (.getfield 22, 3, 0, 0, 0, 5, 3, 0, 0, 0, []) := rfl
theorem i_X5_decidingClause_29 : tab t_X5_decidingClause 29 = some (.if_icmp .ge 42, 3, 71, 0, 0, 0, 0, 0, 0, 0, []) := rfl
theorem i_X5_decidingClause_32 : tab t_X5_decidingClause 32 = some (.iload_n 3, 1, 3, 0, 0, 0, 0, 0, 0, 0, []) := rfl
theorem i_X5_decidingClause_33 : tab t_X5_decidingClause 33 = some (.bipush 12, 2, 0, 12, 0, 0, 0, 0, 0, 0, []) := rfl
theorem i_X5_decidingClause_35 : tab t_X5_decidingClause 35 = some (.if_icmp .ge 36, 3, 71, 0, 0, 0, 0, 0, 0, 0, []) := rfl
theorem i_X5_decidingClause_38 : tab t_X5_decidingClause 38 = some (.aload_n 0, 1, 0, 0, 0, 0, 0, 0, 0, 0, []) := rfl
theorem i_X5_decidingClause_39 : tab t_X5_decidingClause 39 = some (.getfield 15, 3, 2, 0, 0, 5, 1, 0, 0, 0, []) := rfl
theorem i_X5_decidingClause_42 : tab t_X5_decidingClause 42 = some (.iload_n 1, 1, 1, 0, 0, 0, 0, 0, 0, 0, []) := rfl
theorem i_X5_decidingClause_43 : tab t_X5_decidingClause 43 = some (.bipush 12, 2, 0, 12, 0, 0, 0, 0, 0, 0, []) := rfl
theorem i_X5_decidingClause_45 : tab t_X5_decidingClause 45 = some (.imul, 1, 0, 0, 0, 0, 0, 0, 0, 0, []) := rfl
theorem i_X5_decidingClause_46 : tab t_X5_decidingClause 46 = some (.iload_n 3, 1, 3, 0, 0, 0, 0, 0, 0, 0, []) := rfl
theorem i_X5_decidingClause_47 : tab t_X5_decidingClause 47 = some (.iadd, 1, 0, 0, 0, 0, 0, 0, 0, 0, []) := rfl
theorem i_X5_decidingClause_48 : tab t_X5_decidingClause 48 = some (.iaload, 1, 0, 0, 0, 0, 0, 0, 0, 0, []) := rfl
theorem i_X5_decidingClause_49 : tab t_X5_decidingClause 49 = some (.aload_n 0, 1, 0, 0, 0, 0, 0, 0, 0, 0, []) := rfl
theorem i_X5_decidingClause_50 : tab t_X5_decidingClause 50 = some (.getfield 15, 3, 2, 0, 0, 5, 1, 0, 0, 0, []) := rfl
theorem i_X5_decidingClause_53 : tab t_X5_decidingClause 53 = some (.iload_n 2, 1, 2, 0, 0, 0, 0, 0, 0, 0, []) := rfl
theorem i_X5_decidingClause_54 : tab t_X5_decidingClause 54 = some (.bipush 12, 2, 0, 12, 0, 0, 0, 0, 0, 0, []) := rfl
theorem i_X5_decidingClause_56 : tab t_X5_decidingClause 56 = some (.imul, 1, 0, 0, 0, 0, 0, 0, 0, 0, []) := rfl
theorem i_X5_decidingClause_57 : tab t_X5_decidingClause 57 = some (.iload_n 3, 1, 3, 0, 0, 0, 0, 0, 0, 0, []) := rfl
theorem i_X5_decidingClause_58 : tab t_X5_decidingClause 58 = some (.iadd, 1, 0, 0, 0, 0, 0, 0, 0, 0, []) := rfl
theorem i_X5_decidingClause_59 : tab t_X5_decidingClause 59 = some (.iaload, 1, 0, 0, 0, 0, 0, 0, 0, 0, []) := rfl
theorem i_X5_decidingClause_60 : tab t_X5_decidingClause 60 = some (.if_icmp .eq 5, 3, 65, 0, 0, 0, 0, 0, 0, 0, []) := rfl
theorem i_X5_decidingClause_63 : tab t_X5_decidingClause 63 = some (.iload_n 3, 1, 3, 0, 0, 0, 0, 0, 0, 0, []) := rfl
theorem i_X5_decidingClause_64 : tab t_X5_decidingClause 64 = some (.ireturn, 1, 0, 0, 0, 0, 0, 0, 0, 0, []) := rfl
theorem i_X5_decidingClause_65 : tab t_X5_decidingClause 65 = some (.iinc 3 1, 3, 3, 1, 0, 0, 0, 0, 0, 0, []) := rfl
theorem i_X5_decidingClause_68 : tab t_X5_decidingClause 68 = some (.goto (-44), 3, 24, 0, 0, 0, 0, 0, 0, 0, []) := rfl
theorem i_X5_decidingClause_71 : tab t_X5_decidingClause 71 = some (.iconst (-1), 1, 0, -1, 0, 0, 0, 0, 0, 0, []) := rfl
theorem i_X5_decidingClause_72 : tab t_X5_decidingClause 72 = some (.ireturn, 1, 0, 0, 0, 0, 0, 0, 0, 0, []) := rfl
def t_X5_isBefore : List (Nat × rw_) := [(0, (.aload_n 0, 1, 0, 0, 0, 0, 0, 0, 0, 0, [])), (1, (.iload_n 1, 1, 1, 0, 0, 0, 0, 0, 0, 0, [])), (2, (.iload_n 2, 1, 2, 0, 0, 0, 0, 0, 0, 0, [])), (3, (.invokevirtual 75, 3, 2, 0, 0, 0, 53, 6, 0, 0, [])), (6, (.istore_n 3, 1, 3, 0, 0, 0, 0, 0, 0, 0, [])), (7, (.iload_n 3, 1, 3, 0, 0, 0, 0, 0, 0, 0, [])), (8, (.iconst (-1), 1, 0, -1, 0, 0, 0, 0, 0, 0, [])), (9, (.if_icmp .ne 14, 3, 23, 0, 0, 0, 0, 0, 0, 0, [])), (12, (.iload_n 1, 1, 1, 0, 0, 0, 0, 0, 0, 0, [])), (13, (.iload_n 2, 1, 2, 0, 0, 0, 0, 0, 0, 0, [])), (14, (.if_icmp .ge 7, 3, 21, 0, 0, 0, 0, 0, 0, 0, [])), (17, (.iconst 1, 1, 0, 1, 0, 0, 0, 0, 0, 0, [])), (18, (.goto 4, 3, 22, 0, 0, 0, 0, 0, 0, 0, [])), (21, (.iconst 0, 1, 0, 0, 0, 0, 0, 0, 0, 0, [])), (22, (.ireturn, 1, 0, 0, 0, 1, 0, 0, 0, 0, [])), (23, (.aload_n 0, 1, 0, 0, 0, 0, 0, 0, 0, 0, [])), (24, (.getfield 15, 3, 2, 0, 0, 5, 1, 0, 0, 0, [])), (27, (.iload_n 1, 1, 1, 0, 0, 0, 0, 0, 0, 0, [])), (28, (.bipush 12, 2, 0, 12, 0, 0, 0, 0, 0, 0, [])), (30, (.imul, 1, 0, 0, 0, 0, 0, 0, 0, 0, [])), (31, (.iload_n 3, 1, 3, 0, 0, 0, 0, 0, 0, 0, [])), (32, (.iadd, 1, 0, 0, 0, 0, 0, 0, 0, 0, [])), (33, (.iaload, 1, 0, 0, 0, 0, 0, 0, 0, 0, [])), (34, (.aload_n 0, 1, 0, 0, 0, 0, 0, 0, 0, 0, [])), (35, (.getfield 15, 3, 2, 0, 0, 5, 1, 0, 0, 0, [])), (38, (.iload_n 2, 1, 2, 0, 0, 0, 0, 0, 0, 0, [])), (39, (.bipush 12, 2, 0, 12, 0, 0, 0, 0, 0, 0, [])), (41, (.imul, 1, 0, 0, 0, 0, 0, 0, 0, 0, [])), (42, (.iload_n 3, 1, 3, 0, 0, 0, 0, 0, 0, 0, [])), (43, (.iadd, 1, 0, 0, 0, 0, 0, 0, 0, 0, [])), (44, (.iaload, 1, 0, 0, 0, 0, 0, 0, 0, 0, [])), (45, (.if_icmp .ge 7, 3, 52, 0, 0, 0, 0, 0, 0, 0, [])), (48, (.iconst 1, 1, 0, 1, 0, 0, 0, 0, 0, 0, [])), (49, (.goto 4, 3, 53, 0, 0, 0, 0, 0, 0, 0, [])), (52, (.iconst 0, 1, 0, 0, 0, 0, 0, 0, 0, 0, [])), (53, (.ireturn, 1, 0, 0, 0, 1, 0, 0, 0, 0, []))]
set_option maxRecDepth 100000 in
theorem ok_X5_isBefore : tb_ok ctX5 m_X5_isBefore t_X5_isBefore = true := by decide +kernel
theorem i_X5_isBefore_0 : tab t_X5_isBefore 0 = some (.aload_n 0, 1, 0, 0, 0, 0, 0, 0, 0, 0, []) := rfl
theorem i_X5_isBefore_1 : tab t_X5_isBefore 1 = some (.iload_n 1, 1, 1, 0, 0, 0, 0, 0, 0, 0, []) := rfl
theorem i_X5_isBefore_2 : tab t_X5_isBefore 2 = some (.iload_n 2, 1, 2, 0, 0, 0, 0, 0, 0, 0, []) := rfl
theorem i_X5_isBefore_3 : tab t_X5_isBefore 3 = some (.invokevirtual 75, 3, 2, 0, 0, 0, 53, 6, 0, 0, []) := rfl
theorem i_X5_isBefore_6 : tab t_X5_isBefore 6 = some (.istore_n 3, 1, 3, 0, 0, 0, 0, 0, 0, 0, []) := rfl
theorem i_X5_isBefore_7 : tab t_X5_isBefore 7 = some (.iload_n 3, 1, 3, 0, 0, 0, 0, 0, 0, 0, []) := rfl
theorem i_X5_isBefore_8 : tab t_X5_isBefore 8 = some (.iconst (-1), 1, 0, -1, 0, 0, 0, 0, 0, 0, []) := rfl
theorem i_X5_isBefore_9 : tab t_X5_isBefore 9 = some (.if_icmp .ne 14, 3, 23, 0, 0, 0, 0, 0, 0, 0, []) := rfl
theorem i_X5_isBefore_12 : tab t_X5_isBefore 12 = some (.iload_n 1, 1, 1, 0, 0, 0, 0, 0, 0, 0, []) := rfl
theorem i_X5_isBefore_13 : tab t_X5_isBefore 13 = some (.iload_n 2, 1, 2, 0, 0, 0, 0, 0, 0, 0, []) := rfl
theorem i_X5_isBefore_14 : tab t_X5_isBefore 14 = some (.if_icmp .ge 7, 3, 21, 0, 0, 0, 0, 0, 0, 0, []) := rfl
theorem i_X5_isBefore_17 : tab t_X5_isBefore 17 = some (.iconst 1, 1, 0, 1, 0, 0, 0, 0, 0, 0, []) := rfl
theorem i_X5_isBefore_18 : tab t_X5_isBefore 18 = some (.goto 4, 3, 22, 0, 0, 0, 0, 0, 0, 0, []) := rfl
theorem i_X5_isBefore_21 : tab t_X5_isBefore 21 = some (.iconst 0, 1, 0, 0, 0, 0, 0, 0, 0, 0, []) := rfl
theorem i_X5_isBefore_22 : tab t_X5_isBefore 22 = some (.ireturn, 1, 0, 0, 0, 1, 0, 0, 0, 0, []) := rfl
theorem i_X5_isBefore_23 : tab t_X5_isBefore 23 = some (.aload_n 0, 1, 0, 0, 0, 0, 0, 0, 0, 0, []) := rfl
theorem i_X5_isBefore_24 : tab t_X5_isBefore 24 = some (.getfield 15, 3, 2, 0, 0, 5, 1, 0, 0, 0, []) := rfl
theorem i_X5_isBefore_27 : tab t_X5_isBefore 27 = some (.iload_n 1, 1, 1, 0, 0, 0, 0, 0, 0, 0, []) := rfl
theorem i_X5_isBefore_28 : tab t_X5_isBefore 28 = some (.bipush 12, 2, 0, 12, 0, 0, 0, 0, 0, 0, []) := rfl
theorem i_X5_isBefore_30 : tab t_X5_isBefore 30 = some (.imul, 1, 0, 0, 0, 0, 0, 0, 0, 0, []) := rfl
theorem i_X5_isBefore_31 : tab t_X5_isBefore 31 = some (.iload_n 3, 1, 3, 0, 0, 0, 0, 0, 0, 0, []) := rfl
theorem i_X5_isBefore_32 : tab t_X5_isBefore 32 = some (.iadd, 1, 0, 0, 0, 0, 0, 0, 0, 0, []) := rfl
theorem i_X5_isBefore_33 : tab t_X5_isBefore 33 = some (.iaload, 1, 0, 0, 0, 0, 0, 0, 0, 0, []) := rfl
theorem i_X5_isBefore_34 : tab t_X5_isBefore 34 = some (.aload_n 0, 1, 0, 0, 0, 0, 0, 0, 0, 0, []) := rfl
theorem i_X5_isBefore_35 : tab t_X5_isBefore 35 = some (.getfield 15, 3, 2, 0, 0, 5, 1, 0, 0, 0, []) := rfl
theorem i_X5_isBefore_38 : tab t_X5_isBefore 38 = some (.iload_n 2, 1, 2, 0, 0, 0, 0, 0, 0, 0, []) := rfl
theorem i_X5_isBefore_39 : tab t_X5_isBefore 39 = some (.bipush 12, 2, 0, 12, 0, 0, 0, 0, 0, 0, []) := rfl
theorem i_X5_isBefore_41 : tab t_X5_isBefore 41 = some (.imul, 1, 0, 0, 0, 0, 0, 0, 0, 0, []) := rfl
theorem i_X5_isBefore_42 : tab t_X5_isBefore 42 = some (.iload_n 3, 1, 3, 0, 0, 0, 0, 0, 0, 0, []) := rfl
theorem i_X5_isBefore_43 : tab t_X5_isBefore 43 = some (.iadd, 1, 0, 0, 0, 0, 0, 0, 0, 0, []) := rfl
theorem i_X5_isBefore_44 : tab t_X5_isBefore 44 = some (.iaload, 1, 0, 0, 0, 0, 0, 0, 0, 0, []) := rfl
theorem i_X5_isBefore_45 : tab t_X5_isBefore 45 = some (.if_icmp .ge 7, 3, 52, 0, 0, 0, 0, 0, 0, 0, []) := rfl
theorem i_X5_isBefore_48 : tab t_X5_isBefore 48 = some (.iconst 1, 1, 0, 1, 0, 0, 0, 0, 0, 0, []) := rfl
theorem i_X5_isBefore_49 : tab t_X5_isBefore 49 = some (.goto 4, 3, 53, 0, 0, 0, 0, 0, 0, 0, []) := rfl
theorem i_X5_isBefore_52 : tab t_X5_isBefore 52 = some (.iconst 0, 1, 0, 0, 0, 0, 0, 0, 0, 0, []) := rfl
theorem i_X5_isBefore_53 : tab t_X5_isBefore 53 = some (.ireturn, 1, 0, 0, 0, 1, 0, 0, 0, 0, []) := rfl
def t_X5_inPlace : List (Nat × rw_) := [(0, (.iconst 0, 1, 0, 0, 0, 0, 0, 0, 0, 0, [])), (1, (.istore 4, 2, 4, 0, 0, 0, 0, 0, 0, 0, [])), (3, (.iconst 0, 1, 0, 0, 0, 0, 0, 0, 0, 0, [])), (4, (.istore 5, 2, 5, 0, 0, 0, 0, 0, 0, 0, [])), (6, (.iload 5, 2, 5, 0, 0, 0, 0, 0, 0, 0, [])), (8, (.aload_n 0, 1, 0, 0, 0, 0, 0, 0, 0, 0, [])), (9, (.getfield 18, 3, 0, 0, 0, 5, 2, 0, 0, 0, [])), (12, (.if_icmp .ge 53, 3, 65, 0, 0, 0, 0, 0, 0, 0, [])), (15, (.iload 5, 2, 5, 0, 0, 0, 0, 0, 0, 0, [])), (17, (.aload_n 0, 1, 0, 0, 0, 0, 0, 0, 0, 0, [])), (18, (.getfield 9, 3, 2, 0, 0, 5, 0, 0, 0, 0, [])), (21, (.arraylength, 1, 0, 0, 0, 0, 0, 0, 0, 0, [])), (22, (.if_icmp .ge 43, 3, 65, 0, 0, 0, 0, 0, 0, 0, [])), (25, (.aload_n 0, 1, 0, 0, 0, 0, 0, 0, 0, 0, [])), (26, (.getfield 9, 3, 2, 0, 0, 5, 0, 0, 0, 0, [])), (29, (.iload 5, 2, 5, 0, 0, 0, 0, 0, 0, 0, [])), (31, (.iaload, 1, 0, 0, 0, 0, 0, 0, 0, 0, [])), (32, (.iload_n 2, 1, 2, 0, 0, 0, 0, 0, 0, 0, [])), (33, (.iload_n 3, 1, 3, 0, 0, 0, 0, 0, 0, 0, [])), (34, (.invokestatic 78, 3, 3, 0, 0, 0, 57, 0, 0, 0, [])), (37, (.ifCond .eq 22, 3, 59, 0, 0, 0, 0, 0, 0, 0, [])), (40, (.iload 4, 2, 4, 0, 0, 0, 0, 0, 0, 0, [])), (42, (.iload_n 1, 1, 1, 0, 0, 0, 0, 0, 0, 0, [])), (43, (.if_icmp .ne 13, 3, 56, 0, 0, 0, 0, 0, 0, 0, [])), (46, (.aload_n 0, 1, 0, 0, 0, 0, 0, 0, 0, 0, [])), (47, (.getfield 9, 3, 2, 0, 0, 5, 0, 0, 0, 0, [])), (50, (.iload 5, 2, 5, 0, 0, 0, 0, 0, 0, 0, [])), (52, (.iaload, 1, 0, 0, 0, 0, 0, 0, 0, 0, [])), (53, (.iconst 1, 1, 0, 1, 0, 0, 0, 0, 0, 0, [])), (54, (.ishr, 1, 0, 0, 0, 0, 0, 0, 0, 0, [])), (55, (.ireturn, 1, 0, 0, 0, 0, 0, 0, 0, 0, [])), (56, (.iinc 4 1, 3, 4, 1, 0, 0, 0, 0, 0, 0, [])), (59, (.iinc 5 1, 3, 5, 1, 0, 0, 0, 0, 0, 0, [])), (62, (.goto (-56), 3, 6, 0, 0, 0, 0, 0, 0, 0, [])), (65, (.iconst (-1), 1, 0, -1, 0, 0, 0, 0, 0, 0, [])), (66, (.ireturn, 1, 0, 0, 0, 0, 0, 0, 0, 0, []))]
set_option maxRecDepth 100000 in
theorem ok_X5_inPlace : tb_ok ctX5 m_X5_inPlace t_X5_inPlace = true := by decide +kernel
theorem i_X5_inPlace_0 : tab t_X5_inPlace 0 = some (.iconst 0, 1, 0, 0, 0, 0, 0, 0, 0, 0, []) := rfl
theorem i_X5_inPlace_1 : tab t_X5_inPlace 1 = some (.istore 4, 2, 4, 0, 0, 0, 0, 0, 0, 0, []) := rfl
theorem i_X5_inPlace_3 : tab t_X5_inPlace 3 = some (.iconst 0, 1, 0, 0, 0, 0, 0, 0, 0, 0, []) := rfl
theorem i_X5_inPlace_4 : tab t_X5_inPlace 4 = some (.istore 5, 2, 5, 0, 0, 0, 0, 0, 0, 0, []) := rfl
theorem i_X5_inPlace_6 : tab t_X5_inPlace 6 = some (.iload 5, 2, 5, 0, 0, 0, 0, 0, 0, 0, []) := rfl
theorem i_X5_inPlace_8 : tab t_X5_inPlace 8 = some (.aload_n 0, 1, 0, 0, 0, 0, 0, 0, 0, 0, []) := rfl
theorem i_X5_inPlace_9 : tab t_X5_inPlace 9 = some (.getfield 18, 3, 0, 0, 0, 5, 2, 0, 0, 0, []) := rfl
theorem i_X5_inPlace_12 : tab t_X5_inPlace 12 = some (.if_icmp .ge 53, 3, 65, 0, 0, 0, 0, 0, 0, 0, []) := rfl
theorem i_X5_inPlace_15 : tab t_X5_inPlace 15 = some (.iload 5, 2, 5, 0, 0, 0, 0, 0, 0, 0, []) := rfl
theorem i_X5_inPlace_17 : tab t_X5_inPlace 17 = some (.aload_n 0, 1, 0, 0, 0, 0, 0, 0, 0, 0, []) := rfl
theorem i_X5_inPlace_18 : tab t_X5_inPlace 18 = some (.getfield 9, 3, 2, 0, 0, 5, 0, 0, 0, 0, []) := rfl
theorem i_X5_inPlace_21 : tab t_X5_inPlace 21 = some (.arraylength, 1, 0, 0, 0, 0, 0, 0, 0, 0, []) := rfl
theorem i_X5_inPlace_22 : tab t_X5_inPlace 22 = some (.if_icmp .ge 43, 3, 65, 0, 0, 0, 0, 0, 0, 0, []) := rfl
theorem i_X5_inPlace_25 : tab t_X5_inPlace 25 = some (.aload_n 0, 1, 0, 0, 0, 0, 0, 0, 0, 0, []) := rfl
theorem i_X5_inPlace_26 : tab t_X5_inPlace 26 = some (.getfield 9, 3, 2, 0, 0, 5, 0, 0, 0, 0, []) := rfl
theorem i_X5_inPlace_29 : tab t_X5_inPlace 29 = some (.iload 5, 2, 5, 0, 0, 0, 0, 0, 0, 0, []) := rfl
theorem i_X5_inPlace_31 : tab t_X5_inPlace 31 = some (.iaload, 1, 0, 0, 0, 0, 0, 0, 0, 0, []) := rfl
theorem i_X5_inPlace_32 : tab t_X5_inPlace 32 = some (.iload_n 2, 1, 2, 0, 0, 0, 0, 0, 0, 0, []) := rfl
theorem i_X5_inPlace_33 : tab t_X5_inPlace 33 = some (.iload_n 3, 1, 3, 0, 0, 0, 0, 0, 0, 0, []) := rfl
theorem i_X5_inPlace_34 : tab t_X5_inPlace 34 = some (.invokestatic 78, 3, 3, 0, 0, 0, 57, 0, 0, 0, []) := rfl
theorem i_X5_inPlace_37 : tab t_X5_inPlace 37 = some (.ifCond .eq 22, 3, 59, 0, 0, 0, 0, 0, 0, 0, []) := rfl
theorem i_X5_inPlace_40 : tab t_X5_inPlace 40 = some (.iload 4, 2, 4, 0, 0, 0, 0, 0, 0, 0, []) := rfl
theorem i_X5_inPlace_42 : tab t_X5_inPlace 42 = some (.iload_n 1, 1, 1, 0, 0, 0, 0, 0, 0, 0, []) := rfl
theorem i_X5_inPlace_43 : tab t_X5_inPlace 43 = some (.if_icmp .ne 13, 3, 56, 0, 0, 0, 0, 0, 0, 0, []) := rfl
theorem i_X5_inPlace_46 : tab t_X5_inPlace 46 = some (.aload_n 0, 1, 0, 0, 0, 0, 0, 0, 0, 0, []) := rfl
theorem i_X5_inPlace_47 : tab t_X5_inPlace 47 = some (.getfield 9, 3, 2, 0, 0, 5, 0, 0, 0, 0, []) := rfl
theorem i_X5_inPlace_50 : tab t_X5_inPlace 50 = some (.iload 5, 2, 5, 0, 0, 0, 0, 0, 0, 0, []) := rfl
theorem i_X5_inPlace_52 : tab t_X5_inPlace 52 = some (.iaload, 1, 0, 0, 0, 0, 0, 0, 0, 0, []) := rfl
theorem i_X5_inPlace_53 : tab t_X5_inPlace 53 = some (.iconst 1, 1, 0, 1, 0, 0, 0, 0, 0, 0, []) := rfl
theorem i_X5_inPlace_54 : tab t_X5_inPlace 54 = some (.ishr, 1, 0, 0, 0, 0, 0, 0, 0, 0, []) := rfl
theorem i_X5_inPlace_55 : tab t_X5_inPlace 55 = some (.ireturn, 1, 0, 0, 0, 0, 0, 0, 0, 0, []) := rfl
theorem i_X5_inPlace_56 : tab t_X5_inPlace 56 = some (.iinc 4 1, 3, 4, 1, 0, 0, 0, 0, 0, 0, []) := rfl
theorem i_X5_inPlace_59 : tab t_X5_inPlace 59 = some (.iinc 5 1, 3, 5, 1, 0, 0, 0, 0, 0, 0, []) := rfl
theorem i_X5_inPlace_62 : tab t_X5_inPlace 62 = some (.goto (-56), 3, 6, 0, 0, 0, 0, 0, 0, 0, []) := rfl
theorem i_X5_inPlace_65 : tab t_X5_inPlace 65 = some (.iconst (-1), 1, 0, -1, 0, 0, 0, 0, 0, 0, []) := rfl
theorem i_X5_inPlace_66 : tab t_X5_inPlace 66 = some (.ireturn, 1, 0, 0, 0, 0, 0, 0, 0, 0, []) := rfl
def t_X5_everybody : List (Nat × rw_) := [(0, (.iconst 0, 1, 0, 0, 0, 0, 0, 0, 0, 0, [])), (1, (.istore_n 3, 1, 3, 0, 0, 0, 0, 0, 0, 0, [])), (2, (.iconst 0, 1, 0, 0, 0, 0, 0, 0, 0, 0, [])), (3, (.istore 4, 2, 4, 0, 0, 0, 0, 0, 0, 0, [])), (5, (.iload 4, 2, 4, 0, 0, 0, 0, 0, 0, 0, [])), (7, (.aload_n 0, 1, 0, 0, 0, 0, 0, 0, 0, 0, [])), (8, (.getfield 18, 3, 0, 0, 0, 5, 2, 0, 0, 0, [])), (11, (.if_icmp .ge 52, 3, 63, 0, 0, 0, 0, 0, 0, 0, [])), (14, (.iload 4, 2, 4, 0, 0, 0, 0, 0, 0, 0, [])), (16, (.aload_n 0, 1, 0, 0, 0, 0, 0, 0, 0, 0, [])), (17, (.getfield 9, 3, 2, 0, 0, 5, 0, 0, 0, 0, [])), (20, (.arraylength, 1, 0, 0, 0, 0, 0, 0, 0, 0, [])), (21, (.if_icmp .ge 42, 3, 63, 0, 0, 0, 0, 0, 0, 0, [])), (24, (.iload_n 3, 1, 3, 0, 0, 0, 0, 0, 0, 0, [])), (25, (.aload_n 0, 1, 0, 0, 0, 0, 0, 0, 0, 0, [])), (26, (.getfield 9, 3, 2, 0, 0, 5, 0, 0, 0, 0, [])), (29, (.iload 4, 2, 4, 0, 0, 0, 0, 0, 0, 0, [])), (31, (.iaload, 1, 0, 0, 0, 0, 0, 0, 0, 0, [])), (32, (.iload_n 1, 1, 1, 0, 0, 0, 0, 0, 0, 0, [])), (33, (.iload_n 2, 1, 2, 0, 0, 0, 0, 0, 0, 0, [])), (34, (.invokestatic 78, 3, 3, 0, 0, 0, 57, 0, 0, 0, [])), (37, (.ifCond .eq 17, 3, 54, 0, 0, 0, 0, 0, 0, 0, [])), (40, (.iconst 1, 1, 0, 1, 0, 0, 0, 0, 0, 0, [])), (41, (.aload_n 0, 1, 0, 0, 0, 0, 0, 0, 0, 0, [])), (42, (.getfield 9, 3, 2, 0, 0, 5, 0, 0, 0, 0, [])), (45, (.iload 4, 2, 4, 0, 0, 0, 0, 0, 0, 0, [])), (47, (.iaload, 1, 0, 0, 0, 0, 0, 0, 0, 0, [])), (48, (.iconst 1, 1, 0, 1, 0, 0, 0, 0, 0, 0, [])), (49, (.ishr, 1, 0, 0, 0, 0, 0, 0, 0, 0, [])), (50, (.ishl, 1, 0, 0, 0, 0, 0, 0, 0, 0, [])), (51, (.goto 4, 3, 55, 0, 0, 0, 0, 0, 0, 0, [])), (54, (.iconst 0, 1, 0, 0, 0, 0, 0, 0, 0, 0, [])), (55, (.ior, 1, 0, 0, 0, 0, 0, 0, 0, 0, [])), (56, (.istore_n 3, 1, 3, 0, 0, 0, 0, 0, 0, 0, [])), (57, (.iinc 4 1, 3, 4, 1, 0, 0, 0, 0, 0, 0, [])), (60, (.goto (-55), 3, 5, 0, 0, 0, 0, 0, 0, 0, [])), (63, (.iload_n 3, 1, 3, 0, 0, 0, 0, 0, 0, 0, [])), (64, (.ireturn, 1, 0, 0, 0, 0, 0, 0, 0, 0, []))]
set_option maxRecDepth 100000 in
theorem ok_X5_everybody : tb_ok ctX5 m_X5_everybody t_X5_everybody = true := by decide +kernel
theorem i_X5_everybody_0 : tab t_X5_everybody 0 = some (.iconst 0, 1, 0, 0, 0, 0, 0, 0, 0, 0, []) := rfl
theorem i_X5_everybody_1 : tab t_X5_everybody 1 = some (.istore_n 3, 1, 3, 0, 0, 0, 0, 0, 0, 0, []) := rfl
theorem i_X5_everybody_2 : tab t_X5_everybody 2 = some (.iconst 0, 1, 0, 0, 0, 0, 0, 0, 0, 0, []) := rfl
theorem i_X5_everybody_3 : tab t_X5_everybody 3 = some (.istore 4, 2, 4, 0, 0, 0, 0, 0, 0, 0, []) := rfl
theorem i_X5_everybody_5 : tab t_X5_everybody 5 = some (.iload 4, 2, 4, 0, 0, 0, 0, 0, 0, 0, []) := rfl
theorem i_X5_everybody_7 : tab t_X5_everybody 7 = some (.aload_n 0, 1, 0, 0, 0, 0, 0, 0, 0, 0, []) := rfl
theorem i_X5_everybody_8 : tab t_X5_everybody 8 = some (.getfield 18, 3, 0, 0, 0, 5, 2, 0, 0, 0, []) := rfl
theorem i_X5_everybody_11 : tab t_X5_everybody 11 = some (.if_icmp .ge 52, 3, 63, 0, 0, 0, 0, 0, 0, 0, []) := rfl
theorem i_X5_everybody_14 : tab t_X5_everybody 14 = some (.iload 4, 2, 4, 0, 0, 0, 0, 0, 0, 0, []) := rfl
theorem i_X5_everybody_16 : tab t_X5_everybody 16 = some (.aload_n 0, 1, 0, 0, 0, 0, 0, 0, 0, 0, []) := rfl
theorem i_X5_everybody_17 : tab t_X5_everybody 17 = some (.getfield 9, 3, 2, 0, 0, 5, 0, 0, 0, 0, []) := rfl
theorem i_X5_everybody_20 : tab t_X5_everybody 20 = some (.arraylength, 1, 0, 0, 0, 0, 0, 0, 0, 0, []) := rfl
theorem i_X5_everybody_21 : tab t_X5_everybody 21 = some (.if_icmp .ge 42, 3, 63, 0, 0, 0, 0, 0, 0, 0, []) := rfl
theorem i_X5_everybody_24 : tab t_X5_everybody 24 = some (.iload_n 3, 1, 3, 0, 0, 0, 0, 0, 0, 0, []) := rfl
theorem i_X5_everybody_25 : tab t_X5_everybody 25 = some (.aload_n 0, 1, 0, 0, 0, 0, 0, 0, 0, 0, []) := rfl
theorem i_X5_everybody_26 : tab t_X5_everybody 26 = some (.getfield 9, 3, 2, 0, 0, 5, 0, 0, 0, 0, []) := rfl
theorem i_X5_everybody_29 : tab t_X5_everybody 29 = some (.iload 4, 2, 4, 0, 0, 0, 0, 0, 0, 0, []) := rfl
theorem i_X5_everybody_31 : tab t_X5_everybody 31 = some (.iaload, 1, 0, 0, 0, 0, 0, 0, 0, 0, []) := rfl
theorem i_X5_everybody_32 : tab t_X5_everybody 32 = some (.iload_n 1, 1, 1, 0, 0, 0, 0, 0, 0, 0, []) := rfl
theorem i_X5_everybody_33 : tab t_X5_everybody 33 = some (.iload_n 2, 1, 2, 0, 0, 0, 0, 0, 0, 0, []) := rfl
theorem i_X5_everybody_34 : tab t_X5_everybody 34 = some (.invokestatic 78, 3, 3, 0, 0, 0, 57, 0, 0, 0, []) := rfl
theorem i_X5_everybody_37 : tab t_X5_everybody 37 = some (.ifCond .eq 17, 3, 54, 0, 0, 0, 0, 0, 0, 0, []) := rfl
theorem i_X5_everybody_40 : tab t_X5_everybody 40 = some (.iconst 1, 1, 0, 1, 0, 0, 0, 0, 0, 0, []) := rfl
theorem i_X5_everybody_41 : tab t_X5_everybody 41 = some (.aload_n 0, 1, 0, 0, 0, 0, 0, 0, 0, 0, []) := rfl
theorem i_X5_everybody_42 : tab t_X5_everybody 42 = some (.getfield 9, 3, 2, 0, 0, 5, 0, 0, 0, 0, []) := rfl
theorem i_X5_everybody_45 : tab t_X5_everybody 45 = some (.iload 4, 2, 4, 0, 0, 0, 0, 0, 0, 0, []) := rfl
theorem i_X5_everybody_47 : tab t_X5_everybody 47 = some (.iaload, 1, 0, 0, 0, 0, 0, 0, 0, 0, []) := rfl
theorem i_X5_everybody_48 : tab t_X5_everybody 48 = some (.iconst 1, 1, 0, 1, 0, 0, 0, 0, 0, 0, []) := rfl
theorem i_X5_everybody_49 : tab t_X5_everybody 49 = some (.ishr, 1, 0, 0, 0, 0, 0, 0, 0, 0, []) := rfl
theorem i_X5_everybody_50 : tab t_X5_everybody 50 = some (.ishl, 1, 0, 0, 0, 0, 0, 0, 0, 0, []) := rfl
theorem i_X5_everybody_51 : tab t_X5_everybody 51 = some (.goto 4, 3, 55, 0, 0, 0, 0, 0, 0, 0, []) := rfl
theorem i_X5_everybody_54 : tab t_X5_everybody 54 = some (.iconst 0, 1, 0, 0, 0, 0, 0, 0, 0, 0, []) := rfl
theorem i_X5_everybody_55 : tab t_X5_everybody 55 = some (.ior, 1, 0, 0, 0, 0, 0, 0, 0, 0, []) := rfl
theorem i_X5_everybody_56 : tab t_X5_everybody 56 = some (.istore_n 3, 1, 3, 0, 0, 0, 0, 0, 0, 0, []) := rfl
theorem i_X5_everybody_57 : tab t_X5_everybody 57 = some (.iinc 4 1, 3, 4, 1, 0, 0, 0, 0, 0, 0, []) := rfl
theorem i_X5_everybody_60 : tab t_X5_everybody 60 = some (.goto (-55), 3, 5, 0, 0, 0, 0, 0, 0, 0, []) := rfl
theorem i_X5_everybody_63 : tab t_X5_everybody 63 = some (.iload_n 3, 1, 3, 0, 0, 0, 0, 0, 0, 0, []) := rfl
theorem i_X5_everybody_64 : tab t_X5_everybody 64 = some (.ireturn, 1, 0, 0, 0, 0, 0, 0, 0, 0, []) := rfl
def t_X5_fits : List (Nat × rw_) := [(0, (.iload_n 0, 1, 0, 0, 0, 0, 0, 0, 0, 0, [])), (1, (.iconst 1, 1, 0, 1, 0, 0, 0, 0, 0, 0, [])), (2, (.ishr, 1, 0, 0, 0, 0, 0, 0, 0, 0, [])), (3, (.istore_n 3, 1, 3, 0, 0, 0, 0, 0, 0, 0, [])), (4, (.iload_n 1, 1, 1, 0, 0, 0, 0, 0, 0, 0, [])), (5, (.iload_n 3, 1, 3, 0, 0, 0, 0, 0, 0, 0, [])), (6, (.invokestatic 33, 3, 2, 0, 0, 0, 112, 0, 0, 0, [])), (9, (.ifCond .ne 27, 3, 36, 0, 0, 0, 0, 0, 0, 0, [])), (12, (.iload_n 2, 1, 2, 0, 0, 0, 0, 0, 0, 0, [])), (13, (.iload_n 3, 1, 3, 0, 0, 0, 0, 0, 0, 0, [])), (14, (.invokestatic 33, 3, 2, 0, 0, 0, 112, 0, 0, 0, [])), (17, (.iload_n 0, 1, 0, 0, 0, 0, 0, 0, 0, 0, [])), (18, (.iconst 1, 1, 0, 1, 0, 0, 0, 0, 0, 0, [])), (19, (.iand, 1, 0, 0, 0, 0, 0, 0, 0, 0, [])), (20, (.iconst 1, 1, 0, 1, 0, 0, 0, 0, 0, 0, [])), (21, (.if_icmp .ne 7, 3, 28, 0, 0, 0, 0, 0, 0, 0, [])), (24, (.iconst 1, 1, 0, 1, 0, 0, 0, 0, 0, 0, [])), (25, (.goto 4, 3, 29, 0, 0, 0, 0, 0, 0, 0, [])), (28, (.iconst 0, 1, 0, 0, 0, 0, 0, 0, 0, 0, [])), (29, (.if_icmp .ne 7, 3, 36, 0, 0, 0, 0, 0, 0, 0, [])), (32, (.iconst 1, 1, 0, 1, 0, 0, 0, 0, 0, 0, [])), (33, (.goto 4, 3, 37, 0, 0, 0, 0, 0, 0, 0, [])), (36, (.iconst 0, 1, 0, 0, 0, 0, 0, 0, 0, 0, [])), (37, (.ireturn, 1, 0, 0, 0, 1, 0, 0, 0, 0, []))]
set_option maxRecDepth 100000 in
theorem ok_X5_fits : tb_ok ctX5 m_X5_fits t_X5_fits = true := by decide +kernel
theorem i_X5_fits_0 : tab t_X5_fits 0 = some (.iload_n 0, 1, 0, 0, 0, 0, 0, 0, 0, 0, []) := rfl
theorem i_X5_fits_1 : tab t_X5_fits 1 = some (.iconst 1, 1, 0, 1, 0, 0, 0, 0, 0, 0, []) := rfl
theorem i_X5_fits_2 : tab t_X5_fits 2 = some (.ishr, 1, 0, 0, 0, 0, 0, 0, 0, 0, []) := rfl
theorem i_X5_fits_3 : tab t_X5_fits 3 = some (.istore_n 3, 1, 3, 0, 0, 0, 0, 0, 0, 0, []) := rfl
theorem i_X5_fits_4 : tab t_X5_fits 4 = some (.iload_n 1, 1, 1, 0, 0, 0, 0, 0, 0, 0, []) := rfl
theorem i_X5_fits_5 : tab t_X5_fits 5 = some (.iload_n 3, 1, 3, 0, 0, 0, 0, 0, 0, 0, []) := rfl
theorem i_X5_fits_6 : tab t_X5_fits 6 = some (.invokestatic 33, 3, 2, 0, 0, 0, 112, 0, 0, 0, []) := rfl
theorem i_X5_fits_9 : tab t_X5_fits 9 = some (.ifCond .ne 27, 3, 36, 0, 0, 0, 0, 0, 0, 0, []) := rfl
theorem i_X5_fits_12 : tab t_X5_fits 12 = some (.iload_n 2, 1, 2, 0, 0, 0, 0, 0, 0, 0, []) := rfl
theorem i_X5_fits_13 : tab t_X5_fits 13 = some (.iload_n 3, 1, 3, 0, 0, 0, 0, 0, 0, 0, []) := rfl
theorem i_X5_fits_14 : tab t_X5_fits 14 = some (.invokestatic 33, 3, 2, 0, 0, 0, 112, 0, 0, 0, []) := rfl
theorem i_X5_fits_17 : tab t_X5_fits 17 = some (.iload_n 0, 1, 0, 0, 0, 0, 0, 0, 0, 0, []) := rfl
theorem i_X5_fits_18 : tab t_X5_fits 18 = some (.iconst 1, 1, 0, 1, 0, 0, 0, 0, 0, 0, []) := rfl
theorem i_X5_fits_19 : tab t_X5_fits 19 = some (.iand, 1, 0, 0, 0, 0, 0, 0, 0, 0, []) := rfl
theorem i_X5_fits_20 : tab t_X5_fits 20 = some (.iconst 1, 1, 0, 1, 0, 0, 0, 0, 0, 0, []) := rfl
theorem i_X5_fits_21 : tab t_X5_fits 21 = some (.if_icmp .ne 7, 3, 28, 0, 0, 0, 0, 0, 0, 0, []) := rfl
theorem i_X5_fits_24 : tab t_X5_fits 24 = some (.iconst 1, 1, 0, 1, 0, 0, 0, 0, 0, 0, []) := rfl
theorem i_X5_fits_25 : tab t_X5_fits 25 = some (.goto 4, 3, 29, 0, 0, 0, 0, 0, 0, 0, []) := rfl
theorem i_X5_fits_28 : tab t_X5_fits 28 = some (.iconst 0, 1, 0, 0, 0, 0, 0, 0, 0, 0, []) := rfl
theorem i_X5_fits_29 : tab t_X5_fits 29 = some (.if_icmp .ne 7, 3, 36, 0, 0, 0, 0, 0, 0, 0, []) := rfl
theorem i_X5_fits_32 : tab t_X5_fits 32 = some (.iconst 1, 1, 0, 1, 0, 0, 0, 0, 0, 0, []) := rfl
theorem i_X5_fits_33 : tab t_X5_fits 33 = some (.goto 4, 3, 37, 0, 0, 0, 0, 0, 0, 0, []) := rfl
theorem i_X5_fits_36 : tab t_X5_fits 36 = some (.iconst 0, 1, 0, 0, 0, 0, 0, 0, 0, 0, []) := rfl
theorem i_X5_fits_37 : tab t_X5_fits 37 = some (.ireturn, 1, 0, 0, 0, 1, 0, 0, 0, 0, []) := rfl
