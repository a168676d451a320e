/-! 11: tables of class 3 -/
def t_X3_init : List (Nat × rw_) := [(0, (.aload_n 0, 1, 0, 0, 0, 0, 0, 0, 0, 0, [])), (1, (.invokespecial 3, 3, 0, 0, 0, 6, 0, 0, 0, 0, [])), (4, (.aload_n 0, 1, 0, 0, 0, 0, 0, 0, 0, 0, [])), (5, (.sipush 401, 3, 0, 401, 0, 0, 0, 0, 0, 0, [])), (8, (.newarray .int, 2, 0, 0, 0, 0, 0, 0, 0, 0, [])), (10, (.putfield 9, 3, 2, 0, 0, 3, 0, 1, 0, 0, [])), (13, (.aload_n 0, 1, 0, 0, 0, 0, 0, 0, 0, 0, [])), (14, (.sipush 401, 3, 0, 401, 0, 0, 0, 0, 0, 0, [])), (17, (.newarray .int, 2, 0, 0, 0, 0, 0, 0, 0, 0, [])), (19, (.putfield 15, 3, 2, 0, 0, 3, 1, 1, 0, 0, [])), (22, (.aload_n 0, 1, 0, 0, 0, 0, 0, 0, 0, 0, [])), (23, (.sipush 401, 3, 0, 401, 0, 0, 0, 0, 0, 0, [])), (26, (.newarray .int, 2, 0, 0, 0, 0, 0, 0, 0, 0, [])), (28, (.putfield 18, 3, 2, 0, 0, 3, 2, 1, 0, 0, [])), (31, (.aload_n 0, 1, 0, 0, 0, 0, 0, 0, 0, 0, [])), (32, (.iconst 0, 1, 0, 0, 0, 0, 0, 0, 0, 0, [])), (33, (.putfield 21, 3, 0, 0, 0, 3, 3, 0, 0, 0, [])), (36, (.aload_n 0, 1, 0, 0, 0, 0, 0, 0, 0, 0, [])), (37, (.iconst 0, 1, 0, 0, 0, 0, 0, 0, 0, 0, [])), (38, (.putfield 25, 3, 0, 0, 0, 3, 4, 0, 0, 0, [])), (41, (.aload_n 0, 1, 0, 0, 0, 0, 0, 0, 0, 0, [])), (42, (.iconst 0, 1, 0, 0, 0, 0, 0, 0, 0, 0, [])), (43, (.putfield 28, 3, 0, 0, 0, 3, 5, 0, 0, 0, [])), (46, (.aload_n 0, 1, 0, 0, 0, 0, 0, 0, 0, 0, [])), (47, (.iconst 0, 1, 0, 0, 0, 0, 0, 0, 0, 0, [])), (48, (.putfield 31, 3, 0, 0, 0, 3, 6, 0, 0, 0, [])), (51, (.aload_n 0, 1, 0, 0, 0, 0, 0, 0, 0, 0, [])), (52, (.bipush 12, 2, 0, 12, 0, 0, 0, 0, 0, 0, [])), (54, (.newarray .int, 2, 0, 0, 0, 0, 0, 0, 0, 0, [])), (56, (.putfield 34, 3, 2, 0, 0, 3, 7, 1, 0, 0, [])), (59, (.aload_n 0, 1, 0, 0, 0, 0, 0, 0, 0, 0, [])), (60, (.bipush 12, 2, 0, 12, 0, 0, 0, 0, 0, 0, [])), (62, (.newarray .int, 2, 0, 0, 0, 0, 0, 0, 0, 0, [])), (64, (.putfield 37, 3, 2, 0, 0, 3, 8, 1, 0, 0, [])), (67, (.aload_n 0, 1, 0, 0, 0, 0, 0, 0, 0, 0, [])), (68, (.bipush 12, 2, 0, 12, 0, 0, 0, 0, 0, 0, [])), (70, (.newarray .int, 2, 0, 0, 0, 0, 0, 0, 0, 0, [])), (72, (.putfield 40, 3, 2, 0, 0, 3, 9, 1, 0, 0, [])), (75, (.aload_n 0, 1, 0, 0, 0, 0, 0, 0, 0, 0, [])), (76, (.bipush 12, 2, 0, 12, 0, 0, 0, 0, 0, 0, [])), (78, (.newarray .int, 2, 0, 0, 0, 0, 0, 0, 0, 0, [])), (80, (.putfield 43, 3, 2, 0, 0, 3, 10, 1, 0, 0, [])), (83, (.aload_n 0, 1, 0, 0, 0, 0, 0, 0, 0, 0, [])), (84, (.iconst 0, 1, 0, 0, 0, 0, 0, 0, 0, 0, [])), (85, (.putfield 46, 3, 0, 0, 0, 3, 11, 0, 0, 0, [])), (88, (.aload_n 0, 1, 0, 0, 0, 0, 0, 0, 0, 0, [])), (89, (.sipush 400, 3, 0, 400, 0, 0, 0, 0, 0, 0, [])), (92, (.newarray .int, 2, 0, 0, 0, 0, 0, 0, 0, 0, [])), (94, (.putfield 49, 3, 2, 0, 0, 3, 12, 1, 0, 0, [])), (97, (.aload_n 0, 1, 0, 0, 0, 0, 0, 0, 0, 0, [])), (98, (.iconst 0, 1, 0, 0, 0, 0, 0, 0, 0, 0, [])), (99, (.putfield 52, 3, 0, 0, 0, 3, 13, 0, 0, 0, [])), (102, (.return_, 1, 0, 0, 0, 0, 0, 0, 0, 0, []))]
set_option maxRecDepth 100000 in
theorem ok_X3_init : tb_ok ctX3 m_X3_init t_X3_init = true := by decide +kernel
theorem i_X3_init_0 : tab t_X3_init 0 = some (.aload_n 0, 1, 0, 0, 0, 0, 0, 0, 0, 0, []) := rfl
theorem i_X3_init_1 : tab t_X3_init 1 = some (.invokespecial 3, 3, 0, 0, 0, 6, 0, 0, 0, 0, []) := rfl
theorem i_X3_init_4 : tab t_X3_init 4 = some (.aload_n 0, 1, 0, 0, 0, 0, 0, 0, 0, 0, []) := rfl
theorem i_X3_init_5 : tab t_X3_init 5 = some (.sipush 401, 3, 0, 401, 0, 0, 0, 0, 0, 0, []) := rfl
theorem i_X3_init_8 : tab t_X3_init 8 = some (.newarray .int, 2, 0, 0, 0, 0, 0, 0, 0, 0, []) := rfl
theorem i_X3_init_10 : tab t_X3_init 10 = some (.putfield 9, 3, 2, 0, 0, 3, 0, 1, 0, 0, []) := rfl
theorem i_X3_init_13 : tab t_X3_init 13 = some (.aload_n 0, 1, 0, 0, 0, 0, 0, 0, 0, 0, []) := rfl
theorem i_X3_init_14 : tab t_X3_init 14 = some (.sipush 401, 3, 0, 401, 0, 0, 0, 0, 0, 0, []) := rfl
theorem i_X3_init_17 : tab t_X3_init 17 = some (.newarray .int, 2, 0, 0, 0, 0, 0, 0, 0, 0, []) := rfl
theorem i_X3_init_19 : tab t_X3_init 19 = some (.putfield 15, 3, 2, 0, 0, 3, 1, 1, 0, 0, []) := rfl
theorem i_X3_init_22 : tab t_X3_init 22 = some (.aload_n 0, 1, 0, 0, 0, 0, 0, 0, 0, 0, []) := rfl
theorem i_X3_init_23 : tab t_X3_init 23 = some (.sipush 401, 3, 0, 401, 0, 0, 0, 0, 0, 0, []) := rfl
theorem i_X3_init_26 : tab t_X3_init 26 = some (.newarray .int, 2, 0, 0, 0, 0, 0, 0, 0, 0, []) := rfl
theorem i_X3_init_28 : tab t_X3_init 28 = some (.putfield 18, 3, 2, 0, 0, 3, 2, 1, 0, 0, []) := rfl
theorem i_X3_init_31 : tab t_X3_init 31 = some (.aload_n 0, 1, 0, 0, 0, 0, 0, 0, 0, 0, []) := rfl
theorem i_X3_init_32 : tab t_X3_init 32 = some (.iconst 0, 1, 0, 0, 0, 0, 0, 0, 0, 0, []) := rfl
theorem i_X3_init_33 : tab t_X3_init 33 = some (.putfield 21, 3, 0, 0, 0, 3, 3, 0, 0, 0, []) := rfl
theorem i_X3_init_36 : tab t_X3_init 36 = some (.aload_n 0, 1, 0, 0, 0, 0, 0, 0, 0, 0, []) := rfl
theorem i_X3_init_37 : tab t_X3_init 37 = some (.iconst 0, 1, 0, 0, 0, 0, 0, 0, 0, 0, []) := rfl
theorem i_X3_init_38 : tab t_X3_init 38 = some (.putfield 25, 3, 0, 0, 0, 3, 4, 0, 0, 0, []) := rfl
theorem i_X3_init_41 : tab t_X3_init 41 = some (.aload_n 0, 1, 0, 0, 0, 0, 0, 0, 0, 0, []) := rfl
theorem i_X3_init_42 : tab t_X3_init 42 = some (.iconst 0, 1, 0, 0, 0, 0, 0, 0, 0, 0, []) := rfl
theorem i_X3_init_43 : tab t_X3_init 43 = some (.putfield 28, 3, 0, 0, 0, 3, 5, 0, 0, 0, []) := rfl
theorem i_X3_init_46 : tab t_X3_init 46 = some (.aload_n 0, 1, 0, 0, 0, 0, 0, 0, 0, 0, []) := rfl
theorem i_X3_init_47 : tab t_X3_init 47 = some (.iconst 0, 1, 0, 0, 0, 0, 0, 0, 0, 0, []) := rfl
theorem i_X3_init_48 : tab t_X3_init 48 = some (.putfield 31, 3, 0, 0, 0, 3, 6, 0, 0, 0, []) := rfl
theorem i_X3_init_51 : tab t_X3_init 51 = some (.aload_n 0, 1, 0, 0, 0, 0, 0, 0, 0, 0, []) := rfl
theorem i_X3_init_52 : tab t_X3_init 52 = some (.bipush 12, 2, 0, 12, 0, 0, 0, 0, 0, 0, []) := rfl
theorem i_X3_init_54 : tab t_X3_init 54 = some (.newarray .int, 2, 0, 0, 0, 0, 0, 0, 0, 0, []) := rfl
theorem i_X3_init_56 : tab t_X3_init 56 = some (.putfield 34, 3, 2, 0, 0, 3, 7, 1, 0, 0, []) := rfl
theorem i_X3_init_59 : tab t_X3_init 59 = some (.aload_n 0, 1, 0, 0, 0, 0, 0, 0, 0, 0, []) := rfl
theorem i_X3_init_60 : tab t_X3_init 60 = some (.bipush 12, 2, 0, 12, 0, 0, 0, 0, 0, 0, []) := rfl
theorem i_X3_init_62 : tab t_X3_init 62 = some (.newarray .int, 2, 0, 0, 0, 0, 0, 0, 0, 0, []) := rfl
theorem i_X3_init_64 : tab t_X3_init 64 = some (.putfield 37, 3, 2, 0, 0, 3, 8, 1, 0, 0, []) := rfl
theorem i_X3_init_67 : tab t_X3_init 67 = some (.aload_n 0, 1, 0, 0, 0, 0, 0, 0, 0, 0, []) := rfl
theorem i_X3_init_68 : tab t_X3_init 68 = some (.bipush 12, 2, 0, 12, 0, 0, 0, 0, 0, 0, []) := rfl
theorem i_X3_init_70 : tab t_X3_init 70 = some (.newarray .int, 2, 0, 0, 0, 0, 0, 0, 0, 0, []) := rfl
theorem i_X3_init_72 : tab t_X3_init 72 = some (.putfield 40, 3, 2, 0, 0, 3, 9, 1, 0, 0, []) := rfl
theorem i_X3_init_75 : tab t_X3_init 75 = some (.aload_n 0, 1, 0, 0, 0, 0, 0, 0, 0, 0, []) := rfl
theorem i_X3_init_76 : tab t_X3_init 76 = some (.bipush 12, 2, 0, 12, 0, 0, 0, 0, 0, 0, []) := rfl
theorem i_X3_init_78 : tab t_X3_init 78 = some (.newarray .int, 2, 0, 0, 0, 0, 0, 0, 0, 0, []) := rfl
theorem i_X3_init_80 : tab t_X3_init 80 = some (.putfield 43, 3, 2, 0, 0, 3, 10, 1, 0, 0, []) := rfl
theorem i_X3_init_83 : tab t_X3_init 83 = some (.aload_n 0, 1, 0, 0, 0, 0, 0, 0, 0, 0, []) := rfl
theorem i_X3_init_84 : tab t_X3_init 84 = some (.iconst 0, 1, 0, 0, 0, 0, 0, 0, 0, 0, []) := rfl
theorem i_X3_init_85 : tab t_X3_init 85 = some (.putfield 46, 3, 0, 0, 0, 3, 11, 0, 0, 0, []) := rfl
theorem i_X3_init_88 : tab t_X3_init 88 = some (.aload_n 0, 1, 0, 0, 0, 0, 0, 0, 0, 0, []) := rfl
theorem i_X3_init_89 : tab t_X3_init 89 = some (.sipush 400, 3, 0, 400, 0, 0, 0, 0, 0, 0, []) := rfl
theorem i_X3_init_92 : tab t_X3_init 92 = some (.newarray .int, 2, 0, 0, 0, 0, 0, 0, 0, 0, []) := rfl
theorem i_X3_init_94 : tab t_X3_init 94 = some (.putfield 49, 3, 2, 0, 0, 3, 12, 1, 0, 0, []) := rfl
theorem i_X3_init_97 : tab t_X3_init 97 = some (.aload_n 0, 1, 0, 0, 0, 0, 0, 0, 0, 0, []) := rfl
theorem i_X3_init_98 : tab t_X3_init 98 = some (.iconst 0, 1, 0, 0, 0, 0, 0, 0, 0, 0, []) := rfl
theorem i_X3_init_99 : tab t_X3_init 99 = some (.putfield 52, 3, 0, 0, 0, 3, 13, 0, 0, 0, []) := rfl
theorem i_X3_init_102 : tab t_X3_init 102 = some (.return_, 1, 0, 0, 0, 0, 0, 0, 0, 0, []) := rfl
def t_X3_read : List (Nat × rw_) := [(0, (.aload_n 0, 1, 0, 0, 0, 0, 0, 0, 0, 0, [])), (1, (.aload_n 1, 1, 1, 0, 0, 0, 0, 0, 0, 0, [])), (2, (.iload_n 2, 1, 2, 0, 0, 0, 0, 0, 0, 0, [])), (3, (.aload_n 1, 1, 1, 0, 0, 0, 0, 0, 0, 0, [])), (4, (.arraylength, 1, 0, 0, 0, 0, 0, 0, 0, 0, [])), (5, (.sipush 400, 3, 0, 400, 0, 0, 0, 0, 0, 0, [])), (8, (.invokestatic 55, 3, 0, 0, 0, 8, 0, 0, 0, 0, [])), (11, (.invokestatic 55, 3, 0, 0, 0, 8, 0, 0, 0, 0, [])), (14, (.invokevirtual 61, 3, 2, 0, 0, 0, 26, 4, 0, 0, [])), (17, (.aload_n 0, 1, 0, 0, 0, 0, 0, 0, 0, 0, [])), (18, (.iconst 0, 1, 0, 0, 0, 0, 0, 0, 0, 0, [])), (19, (.putfield 25, 3, 0, 0, 0, 3, 4, 0, 0, 0, [])), (22, (.aload_n 0, 1, 0, 0, 0, 0, 0, 0, 0, 0, [])), (23, (.iconst 0, 1, 0, 0, 0, 0, 0, 0, 0, 0, [])), (24, (.putfield 28, 3, 0, 0, 0, 3, 5, 0, 0, 0, [])), (27, (.aload_n 0, 1, 0, 0, 0, 0, 0, 0, 0, 0, [])), (28, (.iconst 0, 1, 0, 0, 0, 0, 0, 0, 0, 0, [])), (29, (.putfield 31, 3, 0, 0, 0, 3, 6, 0, 0, 0, [])), (32, (.aload_n 0, 1, 0, 0, 0, 0, 0, 0, 0, 0, [])), (33, (.iconst 0, 1, 0, 0, 0, 0, 0, 0, 0, 0, [])), (34, (.putfield 46, 3, 0, 0, 0, 3, 11, 0, 0, 0, [])), (37, (.aload_n 0, 1, 0, 0, 0, 0, 0, 0, 0, 0, [])), (38, (.iconst 0, 1, 0, 0, 0, 0, 0, 0, 0, 0, [])), (39, (.putfield 52, 3, 0, 0, 0, 3, 13, 0, 0, 0, [])), (42, (.aload_n 0, 1, 0, 0, 0, 0, 0, 0, 0, 0, [])), (43, (.invokevirtual 65, 3, 0, 0, 0, 0, 37, 4, 0, 0, [])), (46, (.iconst 0, 1, 0, 0, 0, 0, 0, 0, 0, 0, [])), (47, (.istore_n 3, 1, 3, 0, 0, 0, 0, 0, 0, 0, [])), (48, (.iload_n 3, 1, 3, 0, 0, 0, 0, 0, 0, 0, [])), (49, (.aload_n 0, 1, 0, 0, 0, 0, 0, 0, 0, 0, [])), (50, (.getfield 21, 3, 0, 0, 0, 3, 3, 0, 0, 0, [])), (53, (.if_icmp .ge 39, 3, 92, 0, 0, 0, 0, 0, 0, 0, [])), (56, (.aload_n 0, 1, 0, 0, 0, 0, 0, 0, 0, 0, [])), (57, (.getfield 31, 3, 0, 0, 0, 3, 6, 0, 0, 0, [])), (60, (.ifCond .ne 32, 3, 92, 0, 0, 0, 0, 0, 0, 0, [])), (63, (.aload_n 0, 1, 0, 0, 0, 0, 0, 0, 0, 0, [])), (64, (.invokevirtual 68, 3, 0, 0, 0, 0, 34, 4, 0, 0, [])), (67, (.bipush 32, 2, 0, 32, 0, 0, 0, 0, 0, 0, [])), (69, (.if_icmp .ne 23, 3, 92, 0, 0, 0, 0, 0, 0, 0, [])), (72, (.aload_n 0, 1, 0, 0, 0, 0, 0, 0, 0, 0, [])), (73, (.dup, 1, 0, 0, 0, 0, 0, 0, 0, 0, [])), (74, (.getfield 25, 3, 0, 0, 0, 3, 4, 0, 0, 0, [])), (77, (.iconst 1, 1, 0, 1, 0, 0, 0, 0, 0, 0, [])), (78, (.iadd, 1, 0, 0, 0, 0, 0, 0, 0, 0, [])), (79, (.putfield 25, 3, 0, 0, 0, 3, 4, 0, 0, 0, [])), (82, (.aload_n 0, 1, 0, 0, 0, 0, 0, 0, 0, 0, [])), (83, (.invokevirtual 65, 3, 0, 0, 0, 0, 37, 4, 0, 0, [])), (86, (.iinc 3 1, 3, 3, 1, 0, 0, 0, 0, 0, 0, [])), (89, (.goto (-41), 3, 48, 0, 0, 0, 0, 0, 0, 0, [])), (92, (.aload_n 0, 1, 0, 0, 0, 0, 0, 0, 0, 0, [])), (93, (.invokevirtual 68, 3, 0, 0, 0, 0, 34, 4, 0, 0, [])), (96, (.bipush 34, 2, 0, 34, 0, 0, 0, 0, 0, 0, [])), (98, (.if_icmp .eq 8, 3, 106, 0, 0, 0, 0, 0, 0, 0, [])), (101, (.aload_n 0, 1, 0, 0, 0, 0, 0, 0, 0, 0, [])), (102, (.iconst 0, 1, 0, 0, 0, 0, 0, 0, 0, 0, [])), (103, (.invokevirtual 72, 3, 1, 0, 0, 0, 35, 4, 0, 0, [])), (106, (.aload_n 0, 1, 0, 0, 0, 0, 0, 0, 0, 0, [])), (107, (.getfield 31, 3, 0, 0, 0, 3, 6, 0, 0, 0, [])), (110, (.ireturn, 1, 0, 0, 0, 0, 0, 0, 0, 0, []))]
set_option maxRecDepth 100000 in
theorem ok_X3_read : tb_ok ctX3 m_X3_read t_X3_read = true := by decide +kernel
theorem i_X3_read_0 : tab t_X3_read 0 = some (.aload_n 0, 1, 0, 0, 0, 0, 0, 0, 0, 0, []) := rfl
theorem i_X3_read_1 : tab t_X3_read 1 = some (.aload_n 1, 1, 1, 0, 0, 0, 0, 0, 0, 0, []) := rfl
theorem i_X3_read_2 : tab t_X3_read 2 = some (.iload_n 2, 1, 2, 0, 0, 0, 0, 0, 0, 0, []) := rfl
theorem i_X3_read_3 : tab t_X3_read 3 = some (.aload_n 1, 1, 1, 0, 0, 0, 0, 0, 0, 0, []) := rfl
theorem i_X3_read_4 : tab t_X3_read 4 = some (.arraylength, 1, 0, 0, 0, 0, 0, 0, 0, 0, []) := rfl
theorem i_X3_read_5 : tab t_X3_read 5 = some (.sipush 400, 3, 0, 400, 0, 0, 0, 0, 0, 0, []) := rfl
theorem i_X3_read_8 : tab t_X3_read 8 = some (.invokestatic 55, 3, 0, 0, 0, 8, 0, 0, 0, 0, []) := rfl
theorem i_X3_read_11 : tab t_X3_read 11 = some (.invokestatic 55, 3, 0, 0, 0, 8, 0, 0, 0, 0, []) := rfl
theorem i_X3_read_14 : tab t_X3_read 14 = some (.invokevirtual 61, 3, 2, 0, 0, 0, 26, 4, 0, 0, []) := rfl
theorem i_X3_read_17 : tab t_X3_read 17 = some (.aload_n 0, 1, 0, 0, 0, 0, 0, 0, 0, 0, []) := rfl
theorem i_X3_read_18 : tab t_X3_read 18 = some (.iconst 0, 1, 0, 0, 0, 0, 0, 0, 0, 0, []) := rfl
theorem i_X3_read_19 : tab t_X3_read 19 = some (.putfield 25, 3, 0, 0, 0, 3, 4, 0, 0, 0, []) := rfl
theorem i_X3_read_22 : tab t_X3_read 22 = some (.aload_n 0, 1, 0, 0, 0, 0, 0, 0, 0, 0, []) := rfl
theorem i_X3_read_23 : tab t_X3_read 23 = some (.iconst 0, 1, 0, 0, 0, 0, 0, 0, 0, 0, []) := rfl
theorem i_X3_read_24 : tab t_X3_read 24 = some (.putfield 28, 3, 0, 0, 0, 3, 5, 0, 0, 0, []) := rfl
theorem i_X3_read_27 : tab t_X3_read 27 = some (.aload_n 0, 1, 0, 0, 0, 0, 0, 0, 0, 0, []) := rfl
theorem i_X3_read_28 : tab t_X3_read 28 = some (.iconst 0, 1, 0, 0, 0, 0, 0, 0, 0, 0, []) := rfl
theorem i_X3_read_29 : tab t_X3_read 29 = some (.putfield 31, 3, 0, 0, 0, 3, 6, 0, 0, 0, []) := rfl
theorem i_X3_read_32 : tab t_X3_read 32 = some (.aload_n 0, 1, 0, 0, 0, 0, 0, 0, 0, 0, []) := rfl
theorem i_X3_read_33 : tab t_X3_read 33 = some (.iconst 0, 1, 0, 0, 0, 0, 0, 0, 0, 0, []) := rfl
theorem i_X3_read_34 : tab t_X3_read 34 = some (.putfield 46, 3, 0, 0, 0, 3, 11, 0, 0, 0, []) := rfl
theorem i_X3_read_37 : tab t_X3_read 37 = some (.aload_n 0, 1, 0, 0, 0, 0, 0, 0, 0, 0, []) := rfl
theorem i_X3_read_38 : tab t_X3_read 38 = some (.iconst 0, 1, 0, 0, 0, 0, 0, 0, 0, 0, []) := rfl
theorem i_X3_read_39 : tab t_X3_read 39 = some (.putfield 52, 3, 0, 0, 0, 3, 13, 0, 0, 0, []) := rfl
theorem i_X3_read_42 : tab t_X3_read 42 = some (.aload_n 0, 1, 0, 0, 0, 0, 0, 0, 0, 0, []) := rfl
theorem i_X3_read_43 : tab t_X3_read 43 = some (.invokevirtual 65, 3, 0, 0, 0, 0, 37, 4, 0, 0, []) := rfl
theorem i_X3_read_46 : tab t_X3_read 46 = some (.iconst 0, 1, 0, 0, 0, 0, 0, 0, 0, 0, []) := rfl
theorem i_X3_read_47 : tab t_X3_read 47 = some (.istore_n 3, 1, 3, 0, 0, 0, 0, 0, 0, 0, []) := rfl
theorem i_X3_read_48 : tab t_X3_read 48 = some (.iload_n 3, 1, 3, 0, 0, 0, 0, 0, 0, 0, []) := rfl
theorem i_X3_read_49 : tab t_X3_read 49 = some (.aload_n 0, 1, 0, 0, 0, 0, 0, 0, 0, 0, []) := rfl
theorem i_X3_read_50 : tab t_X3_read 50 = some (.getfield 21, 3, 0, 0, 0, 3, 3, 0, 0, 0, []) := rfl
theorem i_X3_read_53 : tab t_X3_read 53 = some (.if_icmp .ge 39, 3, 92, 0, 0, 0, 0, 0, 0, 0, []) := rfl
theorem i_X3_read_56 : tab t_X3_read 56 = some (.aload_n 0, 1, 0, 0, 0, 0, 0, 0, 0, 0, []) := rfl
theorem i_X3_read_57 : tab t_X3_read 57 = some (.getfield 31, 3, 0, 0, 0, 3, 6, 0, 0, 0, []) := rfl
theorem i_X3_read_60 : tab t_X3_read 60 = some (.ifCond .ne 32, 3, 92, 0, 0, 0, 0, 0, 0, 0, []) := rfl
theorem i_X3_read_63 : tab t_X3_read 63 = some (.aload_n 0, 1, 0, 0, 0, 0, 0, 0, 0, 0, []) := rfl
theorem i_X3_read_64 : tab t_X3_read 64 = some (.invokevirtual 68, 3, 0, 0, 0, 0, 34, 4, 0, 0, []) := rfl
theorem i_X3_read_67 : tab t_X3_read 67 = some (.bipush 32, 2, 0, 32, 0, 0, 0, 0, 0, 0, []) := rfl
theorem i_X3_read_69 : tab t_X3_read 69 = some (.if_icmp .ne 23, 3, 92, 0, 0, 0, 0, 0, 0, 0, []) := rfl
theorem i_X3_read_72 : tab t_X3_read 72 = some (.aload_n 0, 1, 0, 0, 0, 0, 0, 0, 0, 0, []) := rfl
theorem i_X3_read_73 : tab t_X3_read 73 = some (.dup, 1, 0, 0, 0, 0, 0, 0, 0, 0, []) := rfl
theorem i_X3_read_74 : tab t_X3_read 74 = some (.getfield 25, 3, 0, 0, 0, 3, 4, 0, 0, 0, []) := rfl
theorem i_X3_read_77 : tab t_X3_read 77 = some (.iconst 1, 1, 0, 1, 0, 0, 0, 0, 0, 0, []) := rfl
theorem i_X3_read_78 : tab t_X3_read 78 = some (.iadd, 1, 0, 0, 0, 0, 0, 0, 0, 0, []) := rfl
theorem i_X3_read_79 : tab t_X3_read 79 = some (.putfield 25, 3, 0, 0, 0, 3, 4, 0, 0, 0, []) := rfl
theorem i_X3_read_82 : tab t_X3_read 82 = some (.aload_n 0, 1, 0, 0, 0, 0, 0, 0, 0, 0, []) := rfl
theorem i_X3_read_83 : tab t_X3_read 83 = some (.invokevirtual 65, 3, 0, 0, 0, 0, 37, 4, 0, 0, []) := rfl
theorem i_X3_read_86 : tab t_X3_read 86 = some (.iinc 3 1, 3, 3, 1, 0, 0, 0, 0, 0, 0, []) := rfl
theorem i_X3_read_89 : tab t_X3_read 89 = some (.goto (-41), 3, 48, 0, 0, 0, 0, 0, 0, 0, []) := rfl
theorem i_X3_read_92 : tab t_X3_read 92 = some (.aload_n 0, 1, 0, 0, 0, 0, 0, 0, 0, 0, []) := rfl
theorem i_X3_read_93 : tab t_X3_read 93 = some (.invokevirtual 68, 3, 0, 0, 0, 0, 34, 4, 0, 0, []) := rfl
theorem i_X3_read_96 : tab t_X3_read 96 = some (.bipush 34, 2, 0, 34, 0, 0, 0, 0, 0, 0, []) := rfl
theorem i_X3_read_98 : tab t_X3_read 98 = some (.if_icmp .eq 8, 3, 106, 0, 0, 0, 0, 0, 0, 0, []) := rfl
theorem i_X3_read_101 : tab t_X3_read 101 = some (.aload_n 0, 1, 0, 0, 0, 0, 0, 0, 0, 0, []) := rfl
theorem i_X3_read_102 : tab t_X3_read 102 = some (.iconst 0, 1, 0, 0, 0, 0, 0, 0, 0, 0, []) := rfl
theorem i_X3_read_103 : tab t_X3_read 103 = some (.invokevirtual 72, 3, 1, 0, 0, 0, 35, 4, 0, 0, []) := rfl
theorem i_X3_read_106 : tab t_X3_read 106 = some (.aload_n 0, 1, 0, 0, 0, 0, 0, 0, 0, 0, []) := rfl
theorem i_X3_read_107 : tab t_X3_read 107 = some (.getfield 31, 3, 0, 0, 0, 3, 6, 0, 0, 0, []) := rfl
theorem i_X3_read_110 : tab t_X3_read 110 = some (.ireturn, 1, 0, 0, 0, 0, 0, 0, 0, 0, []) := rfl
def t_X3_cutAll : List (Nat × rw_) := [(0, (.aload_n 0, 1, 0, 0, 0, 0, 0, 0, 0, 0, [])), (1, (.iconst 0, 1, 0, 0, 0, 0, 0, 0, 0, 0, [])), (2, (.putfield 21, 3, 0, 0, 0, 3, 3, 0, 0, 0, [])), (5, (.iconst 0, 1, 0, 0, 0, 0, 0, 0, 0, 0, [])), (6, (.istore_n 3, 1, 3, 0, 0, 0, 0, 0, 0, 0, [])), (7, (.iload_n 3, 1, 3, 0, 0, 0, 0, 0, 0, 0, [])), (8, (.iload_n 2, 1, 2, 0, 0, 0, 0, 0, 0, 0, [])), (9, (.if_icmp .ge 20, 3, 29, 0, 0, 0, 0, 0, 0, 0, [])), (12, (.iload_n 3, 1, 3, 0, 0, 0, 0, 0, 0, 0, [])), (13, (.iconst 1, 1, 0, 1, 0, 0, 0, 0, 0, 0, [])), (14, (.iadd, 1, 0, 0, 0, 0, 0, 0, 0, 0, [])), (15, (.aload_n 0, 1, 0, 0, 0, 0, 0, 0, 0, 0, [])), (16, (.aload_n 1, 1, 1, 0, 0, 0, 0, 0, 0, 0, [])), (17, (.iload_n 3, 1, 3, 0, 0, 0, 0, 0, 0, 0, [])), (18, (.iload_n 2, 1, 2, 0, 0, 0, 0, 0, 0, 0, [])), (19, (.invokevirtual 76, 3, 3, 0, 0, 0, 27, 4, 0, 0, [])), (22, (.invokestatic 80, 3, 0, 0, 0, 7, 0, 0, 0, 0, [])), (25, (.istore_n 3, 1, 3, 0, 0, 0, 0, 0, 0, 0, [])), (26, (.goto (-19), 3, 7, 0, 0, 0, 0, 0, 0, 0, [])), (29, (.aload_n 0, 1, 0, 0, 0, 0, 0, 0, 0, 0, [])), (30, (.bipush 34, 2, 0, 34, 0, 0, 0, 0, 0, 0, [])), (32, (.iload_n 2, 1, 2, 0, 0, 0, 0, 0, 0, 0, [])), (33, (.iconst 0, 1, 0, 0, 0, 0, 0, 0, 0, 0, [])), (34, (.invokevirtual 83, 3, 3, 0, 0, 0, 28, 4, 0, 0, [])), (37, (.return_, 1, 0, 0, 0, 0, 0, 0, 0, 0, []))]
set_option maxRecDepth 100000 in
theorem ok_X3_cutAll : tb_ok ctX3 m_X3_cutAll t_X3_cutAll = true := by decide +kernel
theorem i_X3_cutAll_0 : tab t_X3_cutAll 0 = some (.aload_n 0, 1, 0, 0, 0, 0, 0, 0, 0, 0, []) := rfl
theorem i_X3_cutAll_1 : tab t_X3_cutAll 1 = some (.iconst 0, 1, 0, 0, 0, 0, 0, 0, 0, 0, []) := rfl
theorem i_X3_cutAll_2 : tab t_X3_cutAll 2 = some (.putfield 21, 3, 0, 0, 0, 3, 3, 0, 0, 0, []) := rfl
theorem i_X3_cutAll_5 : tab t_X3_cutAll 5 = some (.iconst 0, 1, 0, 0, 0, 0, 0, 0, 0, 0, []) := rfl
theorem i_X3_cutAll_6 : tab t_X3_cutAll 6 = some (.istore_n 3, 1, 3, 0, 0, 0, 0, 0, 0, 0, []) := rfl
theorem i_X3_cutAll_7 : tab t_X3_cutAll 7 = some (.iload_n 3, 1, 3, 0, 0, 0, 0, 0, 0, 0, []) := rfl
theorem i_X3_cutAll_8 : tab t_X3_cutAll 8 = some (.iload_n 2, 1, 2, 0, 0, 0, 0, 0, 0, 0, []) := rfl
theorem i_X3_cutAll_9 : tab t_X3_cutAll 9 = some (.if_icmp .ge 20, 3, 29, 0, 0, 0, 0, 0, 0, 0, []) := rfl
theorem i_X3_cutAll_12 : tab t_X3_cutAll 12 = some (.iload_n 3, 1, 3, 0, 0, 0, 0, 0, 0, 0, []) := rfl
theorem i_X3_cutAll_13 : tab t_X3_cutAll 13 = some (.iconst 1, 1, 0, 1, 0, 0, 0, 0, 0, 0, []) := rfl
theorem i_X3_cutAll_14 : tab t_X3_cutAll 14 = some (.iadd, 1, 0, 0, 0, 0, 0, 0, 0, 0, []) := rfl
theorem i_X3_cutAll_15 : tab t_X3_cutAll 15 = some (.aload_n 0, 1, 0, 0, 0, 0, 0, 0, 0, 0, []) := rfl
theorem i_X3_cutAll_16 : tab t_X3_cutAll 16 = some (.aload_n 1, 1, 1, 0, 0, 0, 0, 0, 0, 0, []) := rfl
theorem i_X3_cutAll_17 : tab t_X3_cutAll 17 = some (.iload_n 3, 1, 3, 0, 0, 0, 0, 0, 0, 0, []) := rfl
theorem i_X3_cutAll_18 : tab t_X3_cutAll 18 = some (.iload_n 2, 1, 2, 0, 0, 0, 0, 0, 0, 0, []) := rfl
theorem i_X3_cutAll_19 : tab t_X3_cutAll 19 = some (.invokevirtual 76, 3, 3, 0, 0, 0, 27, 4, 0, 0, []) := rfl
theorem i_X3_cutAll_22 : tab t_X3_cutAll 22 = some (.invokestatic 80, 3, 0, 0, 0, 7, 0, 0, 0, 0, []) := rfl
theorem i_X3_cutAll_25 : tab t_X3_cutAll 25 = some (.istore_n 3, 1, 3, 0, 0, 0, 0, 0, 0, 0, []) := rfl
theorem i_X3_cutAll_26 : tab t_X3_cutAll 26 = some (.goto (-19), 3, 7, 0, 0, 0, 0, 0, 0, 0, []) := rfl
theorem i_X3_cutAll_29 : tab t_X3_cutAll 29 = some (.aload_n 0, 1, 0, 0, 0, 0, 0, 0, 0, 0, []) := rfl
theorem i_X3_cutAll_30 : tab t_X3_cutAll 30 = some (.bipush 34, 2, 0, 34, 0, 0, 0, 0, 0, 0, []) := rfl
theorem i_X3_cutAll_32 : tab t_X3_cutAll 32 = some (.iload_n 2, 1, 2, 0, 0, 0, 0, 0, 0, 0, []) := rfl
theorem i_X3_cutAll_33 : tab t_X3_cutAll 33 = some (.iconst 0, 1, 0, 0, 0, 0, 0, 0, 0, 0, []) := rfl
theorem i_X3_cutAll_34 : tab t_X3_cutAll 34 = some (.invokevirtual 83, 3, 3, 0, 0, 0, 28, 4, 0, 0, []) := rfl
theorem i_X3_cutAll_37 : tab t_X3_cutAll 37 = some (.return_, 1, 0, 0, 0, 0, 0, 0, 0, 0, []) := rfl
def t_X3_cut : List (Nat × rw_) := [(0, (.aload_n 1, 1, 1, 0, 0, 0, 0, 0, 0, 0, [])), (1, (.iload_n 2, 1, 2, 0, 0, 0, 0, 0, 0, 0, [])), (2, (.iaload, 1, 0, 0, 0, 0, 0, 0, 0, 0, [])), (3, (.istore 4, 2, 4, 0, 0, 0, 0, 0, 0, 0, [])), (5, (.iload_n 2, 1, 2, 0, 0, 0, 0, 0, 0, 0, [])), (6, (.iconst 1, 1, 0, 1, 0, 0, 0, 0, 0, 0, [])), (7, (.iadd, 1, 0, 0, 0, 0, 0, 0, 0, 0, [])), (8, (.istore 5, 2, 5, 0, 0, 0, 0, 0, 0, 0, [])), (10, (.iload 4, 2, 4, 0, 0, 0, 0, 0, 0, 0, [])), (12, (.invokestatic 87, 3, 1, 0, 0, 0, 29, 0, 0, 0, [])), (15, (.ifCond .eq 41, 3, 56, 0, 0, 0, 0, 0, 0, 0, [])), (18, (.iload 5, 2, 5, 0, 0, 0, 0, 0, 0, 0, [])), (20, (.iload_n 3, 1, 3, 0, 0, 0, 0, 0, 0, 0, [])), (21, (.if_icmp .ge 19, 3, 40, 0, 0, 0, 0, 0, 0, 0, [])), (24, (.aload_n 1, 1, 1, 0, 0, 0, 0, 0, 0, 0, [])), (25, (.iload 5, 2, 5, 0, 0, 0, 0, 0, 0, 0, [])), (27, (.iaload, 1, 0, 0, 0, 0, 0, 0, 0, 0, [])), (28, (.invokestatic 87, 3, 1, 0, 0, 0, 29, 0, 0, 0, [])), (31, (.ifCond .eq 9, 3, 40, 0, 0, 0, 0, 0, 0, 0, [])), (34, (.iinc 5 1, 3, 5, 1, 0, 0, 0, 0, 0, 0, [])), (37, (.goto (-19), 3, 18, 0, 0, 0, 0, 0, 0, 0, [])), (40, (.aload_n 0, 1, 0, 0, 0, 0, 0, 0, 0, 0, [])), (41, (.aload_n 1, 1, 1, 0, 0, 0, 0, 0, 0, 0, [])), (42, (.iload_n 2, 1, 2, 0, 0, 0, 0, 0, 0, 0, [])), (43, (.iload 5, 2, 5, 0, 0, 0, 0, 0, 0, 0, [])), (45, (.invokestatic 91, 3, 3, 0, 0, 0, 33, 0, 0, 0, [])), (48, (.iload_n 2, 1, 2, 0, 0, 0, 0, 0, 0, 0, [])), (49, (.iconst 0, 1, 0, 0, 0, 0, 0, 0, 0, 0, [])), (50, (.invokevirtual 83, 3, 3, 0, 0, 0, 28, 4, 0, 0, [])), (53, (.goto 175, 3, 228, 0, 0, 0, 0, 0, 0, 0, [])), (56, (.iload 4, 2, 4, 0, 0, 0, 0, 0, 0, 0, [])), (58, (.invokestatic 94, 3, 1, 0, 0, 0, 30, 0, 0, 0, [])), (61, (.ifCond .eq 84, 3, 145, 0, 0, 0, 0, 0, 0, 0, [])), (64, (.iload 4, 2, 4, 0, 0, 0, 0, 0, 0, 0, [])), (66, (.bipush 48, 2, 0, 48, 0, 0, 0, 0, 0, 0, [])), (68, (.isub, 1, 0, 0, 0, 0, 0, 0, 0, 0, [])), (69, (.istore 6, 2, 6, 0, 0, 0, 0, 0, 0, 0, [])), (71, (.iload 5, 2, 5, 0, 0, 0, 0, 0, 0, 0, [])), (73, (.iload_n 3, 1, 3, 0, 0, 0, 0, 0, 0, 0, [])), (74, (.if_icmp .ge 46, 3, 120, 0, 0, 0, 0, 0, 0, 0, [])), (77, (.aload_n 1, 1, 1, 0, 0, 0, 0, 0, 0, 0, [])), (78, (.iload 5, 2, 5, 0, 0, 0, 0, 0, 0, 0, [])), (80, (.iaload, 1, 0, 0, 0, 0, 0, 0, 0, 0, [])), (81, (.invokestatic 94, 3, 1, 0, 0, 0, 30, 0, 0, 0, [])), (84, (.ifCond .eq 36, 3, 120, 0, 0, 0, 0, 0, 0, 0, [])), (87, (.iload 5, 2, 5, 0, 0, 0, 0, 0, 0, 0, [])), (89, (.iload_n 2, 1, 2, 0, 0, 0, 0, 0, 0, 0, [])), (90, (.isub, 1, 0, 0, 0, 0, 0, 0, 0, 0, [])), (91, (.iconst 4, 1, 0, 4, 0, 0, 0, 0, 0, 0, [])), (92, (.if_icmp .ge 19, 3, 111, 0, 0, 0, 0, 0, 0, 0, [])), (95, (.iload 6, 2, 6, 0, 0, 0, 0, 0, 0, 0, [])), (97, (.bipush 10, 2, 0, 10, 0, 0, 0, 0, 0, 0, [])), (99, (.imul, 1, 0, 0, 0, 0, 0, 0, 0, 0, [])), (100, (.aload_n 1, 1, 1, 0, 0, 0, 0, 0, 0, 0, [])), (101, (.iload 5, 2, 5, 0, 0, 0, 0, 0, 0, 0, [])), (103, (.iaload, 1, 0, 0, 0, 0, 0, 0, 0, 0, [])), (104, (.iadd, 1, 0, 0, 0, 0, 0, 0, 0, 0, [])), (105, (.bipush 48, 2, 0, 48, 0, 0, 0, 0, 0, 0, [])), (107, (.isub, 1, 0, 0, 0, 0, 0, 0, 0, 0, [])), (108, (.goto 4, 3, 112, 0, 0, 0, 0, 0, 0, 0, [])), (111, (.iconst 0, 1, 0, 0, 0, 0, 0, 0, 0, 0, [])), (112, (.istore 6, 2, 6, 0, 0, 0, 0, 0, 0, 0, [])), (114, (.iinc 5 1, 3, 5, 1, 0, 0, 0, 0, 0, 0, [])), (117, (.goto (-46), 3, 71, 0, 0, 0, 0, 0, 0, 0, [])), (120, (.aload_n 0, 1, 0, 0, 0, 0, 0, 0, 0, 0, [])), (121, (.iload 5, 2, 5, 0, 0, 0, 0, 0, 0, 0, [])), (123, (.iload_n 2, 1, 2, 0, 0, 0, 0, 0, 0, 0, [])), (124, (.isub, 1, 0, 0, 0, 0, 0, 0, 0, 0, [])), (125, (.iconst 4, 1, 0, 4, 0, 0, 0, 0, 0, 0, [])), (126, (.if_icmp .le 8, 3, 134, 0, 0, 0, 0, 0, 0, 0, [])), (129, (.bipush 22, 2, 0, 22, 0, 0, 0, 0, 0, 0, [])), (131, (.goto 5, 3, 136, 0, 0, 0, 0, 0, 0, 0, [])), (134, (.bipush 21, 2, 0, 21, 0, 0, 0, 0, 0, 0, [])), (136, (.iload_n 2, 1, 2, 0, 0, 0, 0, 0, 0, 0, [])), (137, (.iload 6, 2, 6, 0, 0, 0, 0, 0, 0, 0, [])), (139, (.invokevirtual 83, 3, 3, 0, 0, 0, 28, 4, 0, 0, [])), (142, (.goto 86, 3, 228, 0, 0, 0, 0, 0, 0, 0, [])), (145, (.iload 4, 2, 4, 0, 0, 0, 0, 0, 0, 0, [])), (147, (.bipush 32, 2, 0, 32, 0, 0, 0, 0, 0, 0, [])), (149, (.if_icmp .eq 79, 3, 228, 0, 0, 0, 0, 0, 0, 0, [])), (152, (.iload 4, 2, 4, 0, 0, 0, 0, 0, 0, 0, [])), (154, (.bipush 60, 2, 0, 60, 0, 0, 0, 0, 0, 0, [])), (156, (.if_icmp .eq 10, 3, 166, 0, 0, 0, 0, 0, 0, 0, [])), (159, (.iload 4, 2, 4, 0, 0, 0, 0, 0, 0, 0, [])), (161, (.bipush 62, 2, 0, 62, 0, 0, 0, 0, 0, 0, [])), (163, (.if_icmp .ne 22, 3, 185, 0, 0, 0, 0, 0, 0, 0, [])), (166, (.iload 5, 2, 5, 0, 0, 0, 0, 0, 0, 0, [])), (168, (.iload_n 3, 1, 3, 0, 0, 0, 0, 0, 0, 0, [])), (169, (.if_icmp .ge 16, 3, 185, 0, 0, 0, 0, 0, 0, 0, [])), (172, (.aload_n 1, 1, 1, 0, 0, 0, 0, 0, 0, 0, [])), (173, (.iload 5, 2, 5, 0, 0, 0, 0, 0, 0, 0, [])), (175, (.iaload, 1, 0, 0, 0, 0, 0, 0, 0, 0, [])), (176, (.bipush 61, 2, 0, 61, 0, 0, 0, 0, 0, 0, [])), (178, (.if_icmp .ne 7, 3, 185, 0, 0, 0, 0, 0, 0, 0, [])), (181, (.iconst 1, 1, 0, 1, 0, 0, 0, 0, 0, 0, [])), (182, (.goto 4, 3, 186, 0, 0, 0, 0, 0, 0, 0, [])), (185, (.iconst 0, 1, 0, 0, 0, 0, 0, 0, 0, 0, [])), (186, (.istore 6, 2, 6, 0, 0, 0, 0, 0, 0, 0, [])), (188, (.aload_n 0, 1, 0, 0, 0, 0, 0, 0, 0, 0, [])), (189, (.iload 6, 2, 6, 0, 0, 0, 0, 0, 0, 0, [])), (191, (.ifCond .eq 11, 3, 202, 0, 0, 0, 0, 0, 0, 0, [])), (194, (.iload 4, 2, 4, 0, 0, 0, 0, 0, 0, 0, [])), (196, (.invokestatic 97, 3, 1, 0, 0, 0, 31, 0, 0, 0, [])), (199, (.goto 8, 3, 207, 0, 0, 0, 0, 0, 0, 0, [])), (202, (.iload 4, 2, 4, 0, 0, 0, 0, 0, 0, 0, [])), (204, (.invokestatic 101, 3, 1, 0, 0, 0, 32, 0, 0, 0, [])), (207, (.iload_n 2, 1, 2, 0, 0, 0, 0, 0, 0, 0, [])), (208, (.iconst 0, 1, 0, 0, 0, 0, 0, 0, 0, 0, [])), (209, (.invokevirtual 83, 3, 3, 0, 0, 0, 28, 4, 0, 0, [])), (212, (.iload 6, 2, 6, 0, 0, 0, 0, 0, 0, 0, [])), (214, (.ifCond .eq 10, 3, 224, 0, 0, 0, 0, 0, 0, 0, [])), (217, (.iload 5, 2, 5, 0, 0, 0, 0, 0, 0, 0, [])), (219, (.iconst 1, 1, 0, 1, 0, 0, 0, 0, 0, 0, [])), (220, (.iadd, 1, 0, 0, 0, 0, 0, 0, 0, 0, [])), (221, (.goto 5, 3, 226, 0, 0, 0, 0, 0, 0, 0, [])), (224, (.iload 5, 2, 5, 0, 0, 0, 0, 0, 0, 0, [])), (226, (.istore 5, 2, 5, 0, 0, 0, 0, 0, 0, 0, [])), (228, (.iload 5, 2, 5, 0, 0, 0, 0, 0, 0, 0, [])), (230, (.ireturn, 1, 0, 0, 0, 0, 0, 0, 0, 0, []))]
set_option maxRecDepth 100000 in
theorem ok_X3_cut : tb_ok ctX3 m_X3_cut t_X3_cut = true := by decide +kernel
theorem i_X3_cut_0 : tab t_X3_cut 0 = some (.aload_n 1, 1, 1, 0, 0, 0, 0, 0, 0, 0, []) := rfl
theorem i_X3_cut_1 : tab t_X3_cut 1 = some (.iload_n 2, 1, 2, 0, 0, 0, 0, 0, 0, 0, []) := rfl
theorem i_X3_cut_2 : tab t_X3_cut 2 = some (.iaload, 1, 0, 0, 0, 0, 0, 0, 0, 0, []) := rfl
theorem i_X3_cut_3 : tab t_X3_cut 3 = some (.istore 4, 2, 4, 0, 0, 0, 0, 0, 0, 0, []) := rfl
theorem i_X3_cut_5 : tab t_X3_cut 5 = some (.iload_n 2, 1, 2, 0, 0, 0, 0, 0, 0, 0, []) := rfl
theorem i_X3_cut_6 : tab t_X3_cut 6 = some (.iconst 1, 1, 0, 1, 0, 0, 0, 0, 0, 0, []) := rfl
theorem i_X3_cut_7 : tab t_X3_cut 7 = some (.iadd, 1, 0, 0, 0, 0, 0, 0, 0, 0, []) := rfl
theorem i_X3_cut_8 : tab t_X3_cut 8 = some (.istore 5, 2, 5, 0, 0, 0, 0, 0, 0, 0, []) := rfl
theorem i_X3_cut_10 : tab t_X3_cut 10 = some (.iload 4, 2, 4, 0, 0, 0, 0, 0, 0, 0, []) := rfl
theorem i_X3_cut_12 : tab t_X3_cut 12 = some (.invokestatic 87, 3, 1, 0, 0, 0, 29, 0, 0, 0, []) := rfl
theorem i_X3_cut_15 : tab t_X3_cut 15 = some (.ifCond .eq 41, 3, 56, 0, 0, 0, 0, 0, 0, 0, []) := rfl
theorem i_X3_cut_18 : tab t_X3_cut 18 = some (.iload 5, 2, 5, 0, 0, 0, 0, 0, 0, 0, []) := rfl
theorem i_X3_cut_20 : tab t_X3_cut 20 = some (.iload_n 3, 1, 3, 0, 0, 0, 0, 0, 0, 0, []) := rfl
theorem i_X3_cut_21 : tab t_X3_cut 21 = some (.if_icmp .ge 19, 3, 40, 0, 0, 0, 0, 0, 0, 0, []) := rfl
theorem i_X3_cut_24 : tab t_X3_cut 24 = some (.aload_n 1, 1, 1, 0, 0, 0, 0, 0, 0, 0, []) := rfl
theorem i_X3_cut_25 : tab t_X3_cut 25 = some (.iload 5, 2, 5, 0, 0, 0, 0, 0, 0, 0, []) := rfl
theorem i_X3_cut_27 : tab t_X3_cut 27 = some (.iaload, 1, 0, 0, 0, 0, 0, 0, 0, 0, []) := rfl
theorem i_X3_cut_28 : tab t_X3_cut 28 = some (.invokestatic 87, 3, 1, 0, 0, 0, 29, 0, 0, 0, []) := rfl
theorem i_X3_cut_31 : tab t_X3_cut 31 = some (.ifCond .eq 9, 3, 40, 0, 0, 0, 0, 0, 0, 0, []) := rfl
theorem i_X3_cut_34 : tab t_X3_cut 34 = some (.iinc 5 1, 3, 5, 1, 0, 0, 0, 0, 0, 0, []) := rfl
theorem i_X3_cut_37 : tab t_X3_cut 37 = some (.goto (-19), 3, 18, 0, 0, 0, 0, 0, 0, 0, []) := rfl
theorem i_X3_cut_40 : tab t_X3_cut 40 = some (.aload_n 0, 1, 0, 0, 0, 0, 0, 0, 0, 0, []) := rfl
theorem i_X3_cut_41 : tab t_X3_cut 41 = some (.aload_n 1, 1, 1, 0, 0, 0, 0, 0, 0, 0, []) := rfl
theorem i_X3_cut_42 : tab t_X3_cut 42 = some (.iload_n 2, 1, 2, 0, 0, 0, 0, 0, 0, 0, []) := rfl
theorem i_X3_cut_43 : tab t_X3_cut 43 = some (.iload 5, 2, 5, 0, 0, 0, 0, 0, 0, 0, []) := rfl
theorem i_X3_cut_45 : tab t_X3_cut 45 = some (.invokestatic 91, 3, 3, 0, 0, 0, 33, 0, 0, 0, []) := rfl
theorem i_X3_cut_48 : tab t_X3_cut 48 = some (.iload_n 2, 1, 2, 0, 0, 0, 0, 0, 0, 0, []) := rfl
theorem i_X3_cut_49 : tab t_X3_cut 49 = some (.iconst 0, 1, 0, 0, 0, 0, 0, 0, 0, 0, []) := rfl
theorem i_X3_cut_50 : tab t_X3_cut 50 = some (.invokevirtual 83, 3, 3, 0, 0, 0, 28, 4, 0, 0, []) := rfl
theorem i_X3_cut_53 : tab t_X3_cut 53 = some (.goto 175, 3, 228, 0, 0, 0, 0, 0, 0, 0, []) := rfl
theorem i_X3_cut_56 : tab t_X3_cut 56 = some (.iload 4, 2, 4, 0, 0, 0, 0, 0, 0, 0, []) := rfl
theorem i_X3_cut_58 : tab t_X3_cut 58 = some (.invokestatic 94, 3, 1, 0, 0, 0, 30, 0, 0, 0, []) := rfl
theorem i_X3_cut_61 : tab t_X3_cut 61 = some (.ifCond .eq 84, 3, 145, 0, 0, 0, 0, 0, 0, 0, []) := rfl
theorem i_X3_cut_64 : tab t_X3_cut 64 = some (.iload 4, 2, 4, 0, 0, 0, 0, 0, 0, 0, []) := rfl
theorem i_X3_cut_66 : tab t_X3_cut 66 = some (.bipush 48, 2, 0, 48, 0, 0, 0, 0, 0, 0, []) := rfl
theorem i_X3_cut_68 : tab t_X3_cut 68 = some (.isub, 1, 0, 0, 0, 0, 0, 0, 0, 0, []) := rfl
theorem i_X3_cut_69 : tab t_X3_cut 69 = some (.istore 6, 2, 6, 0, 0, 0, 0, 0, 0, 0, []) := rfl
theorem i_X3_cut_71 : tab t_X3_cut 71 = some (.iload 5, 2, 5, 0, 0, 0, 0, 0, 0, 0, []) := rfl
theorem i_X3_cut_73 : tab t_X3_cut 73 = some (.iload_n 3, 1, 3, 0, 0, 0, 0, 0, 0, 0, []) := rfl
theorem i_X3_cut_74 : tab t_X3_cut 74 = some (.if_icmp .ge 46, 3, 120, 0, 0, 0, 0, 0, 0, 0, []) := rfl
theorem i_X3_cut_77 : tab t_X3_cut 77 = some (.aload_n 1, 1, 1, 0, 0, 0, 0, 0, 0, 0, []) := rfl
theorem i_X3_cut_78 : tab t_X3_cut 78 = some (.iload 5, 2, 5, 0, 0, 0, 0, 0, 0, 0, []) := rfl
theorem i_X3_cut_80 : tab t_X3_cut 80 = some (.iaload, 1, 0, 0, 0, 0, 0, 0, 0, 0, []) := rfl
theorem i_X3_cut_81 : tab t_X3_cut 81 = some (.invokestatic 94, 3, 1, 0, 0, 0, 30, 0, 0, 0, []) := rfl
theorem i_X3_cut_84 : tab t_X3_cut 84 = some (.ifCond .eq 36, 3, 120, 0, 0, 0, 0, 0, 0, 0, []) := rfl
theorem i_X3_cut_87 : tab t_X3_cut 87 = some (.iload 5, 2, 5, 0, 0, 0, 0, 0, 0, 0, []) := rfl
theorem i_X3_cut_89 : tab t_X3_cut 89 = some (.iload_n 2, 1, 2, 0, 0, 0, 0, 0, 0, 0, []) := rfl
theorem i_X3_cut_90 : tab t_X3_cut 90 = some (.isub, 1, 0, 0, 0, 0, 0, 0, 0, 0, []) := rfl
theorem i_X3_cut_91 : tab t_X3_cut 91 = some (.iconst 4, 1, 0, 4, 0, 0, 0, 0, 0, 0, []) := rfl
theorem i_X3_cut_92 : tab t_X3_cut 92 = some (.if_icmp .ge 19, 3, 111, 0, 0, 0, 0, 0, 0, 0, []) := rfl
theorem i_X3_cut_95 : tab t_X3_cut 95 = some (.iload 6, 2, 6, 0, 0, 0, 0, 0, 0, 0, []) := rfl
theorem i_X3_cut_97 : tab t_X3_cut 97 = some (.bipush 10, 2, 0, 10, 0, 0, 0, 0, 0, 0, []) := rfl
theorem i_X3_cut_99 : tab t_X3_cut 99 = some (.imul, 1, 0, 0, 0, 0, 0, 0, 0, 0, []) := rfl
theorem i_X3_cut_100 : tab t_X3_cut 100 = some (.aload_n 1, 1, 1, 0, 0, 0, 0, 0, 0, 0, []) := rfl
theorem i_X3_cut_101 : tab t_X3_cut 101 = some (.iload 5, 2, 5, 0, 0, 0, 0, 0, 0, 0, []) := rfl
theorem i_X3_cut_103 : tab t_X3_cut 103 = some (.iaload, 1, 0, 0, 0, 0, 0, 0, 0, 0, []) := rfl
theorem i_X3_cut_104 : tab t_X3_cut 104 = some (.iadd, 1, 0, 0, 0, 0, 0, 0, 0, 0, []) := rfl
theorem i_X3_cut_105 : tab t_X3_cut 105 = some (.bipush 48, 2, 0, 48, 0, 0, 0, 0, 0, 0, []) := rfl
theorem i_X3_cut_107 : tab t_X3_cut 107 = some (.isub, 1, 0, 0, 0, 0, 0, 0, 0, 0, []) := rfl
theorem i_X3_cut_108 : tab t_X3_cut 108 = some (.goto 4, 3, 112, 0, 0, 0, 0, 0, 0, 0, []) := rfl
theorem i_X3_cut_111 : tab t_X3_cut 111 = some (.iconst 0, 1, 0, 0, 0, 0, 0, 0, 0, 0, []) := rfl
theorem i_X3_cut_112 : tab t_X3_cut 112 = some (.istore 6, 2, 6, 0, 0, 0, 0, 0, 0, 0, []) := rfl
theorem i_X3_cut_114 : tab t_X3_cut 114 = some (.iinc 5 1, 3, 5, 1, 0, 0, 0, 0, 0, 0, []) := rfl
theorem i_X3_cut_117 : tab t_X3_cut 117 = some (.goto (-46), 3, 71, 0, 0, 0, 0, 0, 0, 0, []) := rfl
theorem i_X3_cut_120 : tab t_X3_cut 120 = some (.aload_n 0, 1, 0, 0, 0, 0, 0, 0, 0, 0, []) := rfl
theorem i_X3_cut_121 : tab t_X3_cut 121 = some (.iload 5, 2, 5, 0, 0, 0, 0, 0, 0, 0, []) := rfl
theorem i_X3_cut_123 : tab t_X3_cut 123 = some (.iload_n 2, 1, 2, 0, 0, 0, 0, 0, 0, 0, []) := rfl
theorem i_X3_cut_124 : tab t_X3_cut 124 = some (.isub, 1, 0, 0, 0, 0, 0, 0, 0, 0, []) := rfl
theorem i_X3_cut_125 : tab t_X3_cut 125 = some (.iconst 4, 1, 0, 4, 0, 0, 0, 0, 0, 0, []) := rfl
theorem i_X3_cut_126 : tab t_X3_cut 126 = some (.if_icmp .le 8, 3, 134, 0, 0, 0, 0, 0, 0, 0, []) := rfl
theorem i_X3_cut_129 : tab t_X3_cut 129 = some (.bipush 22, 2, 0, 22, 0, 0, 0, 0, 0, 0, []) := rfl
theorem i_X3_cut_131 : tab t_X3_cut 131 = some (.goto 5, 3, 136, 0, 0, 0, 0, 0, 0, 0, []) := rfl
theorem i_X3_cut_134 : tab t_X3_cut 134 = some (.bipush 21, 2, 0, 21, 0, 0, 0, 0, 0, 0, []) := rfl
theorem i_X3_cut_136 : tab t_X3_cut 136 = some (.iload_n 2, 1, 2, 0, 0, 0, 0, 0, 0, 0, []) := rfl
theorem i_X3_cut_137 : tab t_X3_cut 137 = some (.iload 6, 2, 6, 0, 0, 0, 0, 0, 0, 0, []) := rfl
theorem i_X3_cut_139 : tab t_X3_cut 139 = some (.invokevirtual 83, 3, 3, 0, 0, 0, 28, 4, 0, 0, []) := rfl
theorem i_X3_cut_142 : tab t_X3_cut 142 = some (.goto 86, 3, 228, 0, 0, 0, 0, 0, 0, 0, []) := rfl
theorem i_X3_cut_145 : tab t_X3_cut 145 = some (.iload 4, 2, 4, 0, 0, 0, 0, 0, 0, 0, []) := rfl
theorem i_X3_cut_147 : tab t_X3_cut 147 = some (.bipush 32, 2, 0, 32, 0, 0, 0, 0, 0, 0, []) := rfl
theorem i_X3_cut_149 : tab t_X3_cut 149 = some (.if_icmp .eq 79, 3, 228, 0, 0, 0, 0, 0, 0, 0, []) := rfl
theorem i_X3_cut_152 : tab t_X3_cut 152 = some (.iload 4, 2, 4, 0, 0, 0, 0, 0, 0, 0, []) := rfl
theorem i_X3_cut_154 : tab t_X3_cut 154 = some (.bipush 60, 2, 0, 60, 0, 0, 0, 0, 0, 0, []) := rfl
theorem i_X3_cut_156 : tab t_X3_cut 156 = some (.if_icmp .eq 10, 3, 166, 0, 0, 0, 0, 0, 0, 0, []) := rfl
theorem i_X3_cut_159 : tab t_X3_cut 159 = some (.iload 4, 2, 4, 0, 0, 0, 0, 0, 0, 0, []) := rfl
theorem i_X3_cut_161 : tab t_X3_cut 161 = some (.bipush 62, 2, 0, 62, 0, 0, 0, 0, 0, 0, []) := rfl
theorem i_X3_cut_163 : tab t_X3_cut 163 = some (.if_icmp .ne 22, 3, 185, 0, 0, 0, 0, 0, 0, 0, []) := rfl
theorem i_X3_cut_166 : tab t_X3_cut 166 = some (.iload 5, 2, 5, 0, 0, 0, 0, 0, 0, 0, []) := rfl
theorem i_X3_cut_168 : tab t_X3_cut 168 = some (.iload_n 3, 1, 3, 0, 0, 0, 0, 0, 0, 0, []) := rfl
theorem i_X3_cut_169 : tab t_X3_cut 169 = some (.if_icmp .ge 16, 3, 185, 0, 0, 0, 0, 0, 0, 0, []) := rfl
theorem i_X3_cut_172 : tab t_X3_cut 172 = some (.aload_n 1, 1, 1, 0, 0, 0, 0, 0, 0, 0, []) := rfl
theorem i_X3_cut_173 : tab t_X3_cut 173 = some (.iload 5, 2, 5, 0, 0, 0, 0, 0, 0, 0, []) := rfl
theorem i_X3_cut_175 : tab t_X3_cut 175 = some (.iaload, 1, 0, 0, 0, 0, 0, 0, 0, 0, []) := rfl
theorem i_X3_cut_176 : tab t_X3_cut 176 = some (.bipush 61, 2, 0, 61, 0, 0, 0, 0, 0, 0, []) := rfl
theorem i_X3_cut_178 : tab t_X3_cut 178 = some (.if_icmp .ne 7, 3, 185, 0, 0, 0, 0, 0, 0, 0, []) := rfl
theorem i_X3_cut_181 : tab t_X3_cut 181 = some (.iconst 1, 1, 0, 1, 0, 0, 0, 0, 0, 0, []) := rfl
theorem i_X3_cut_182 : tab t_X3_cut 182 = some (.goto 4, 3, 186, 0, 0, 0, 0, 0, 0, 0, []) := rfl
theorem i_X3_cut_185 : tab t_X3_cut 185 = some (.iconst 0, 1, 0, 0, 0, 0, 0, 0, 0, 0, []) := rfl
theorem i_X3_cut_186 : tab t_X3_cut 186 = some (.istore 6, 2, 6, 0, 0, 0, 0, 0, 0, 0, []) := rfl
theorem i_X3_cut_188 : tab t_X3_cut 188 = some (.aload_n 0, 1, 0, 0, 0, 0, 0, 0, 0, 0, []) := rfl
theorem i_X3_cut_189 : tab t_X3_cut 189 = some (.iload 6, 2, 6, 0, 0, 0, 0, 0, 0, 0, []) := rfl
theorem i_X3_cut_191 : tab t_X3_cut 191 = some (.ifCond .eq 11, 3, 202, 0, 0, 0, 0, 0, 0, 0, []) := rfl
theorem i_X3_cut_194 : tab t_X3_cut 194 = some (.iload 4, 2, 4, 0, 0, 0, 0, 0, 0, 0, []) := rfl
theorem i_X3_cut_196 : tab t_X3_cut 196 = some (.invokestatic 97, 3, 1, 0, 0, 0, 31, 0, 0, 0, []) := rfl
theorem i_X3_cut_199 : tab t_X3_cut 199 = some (.goto 8, 3, 207, 0, 0, 0, 0, 0, 0, 0, []) := rfl
theorem i_X3_cut_202 : tab t_X3_cut 202 = some (.iload 4, 2, 4, 0, 0, 0, 0, 0, 0, 0, []) := rfl
theorem i_X3_cut_204 : tab t_X3_cut 204 = some (.invokestatic 101, 3, 1, 0, 0, 0, 32, 0, 0, 0, []) := rfl
theorem i_X3_cut_207 : tab t_X3_cut 207 = some (.iload_n 2, 1, 2, 0, 0, 0, 0, 0, 0, 0, []) := rfl
theorem i_X3_cut_208 : tab t_X3_cut 208 = some (.iconst 0, 1, 0, 0, 0, 0, 0, 0, 0, 0, []) := rfl
theorem i_X3_cut_209 : tab t_X3_cut 209 = some (.invokevirtual 83, 3, 3, 0, 0, 0, 28, 4, 0, 0, []) := rfl
theorem i_X3_cut_212 : tab t_X3_cut 212 = some (.iload 6, 2, 6, 0, 0, 0, 0, 0, 0, 0, []) := rfl
theorem i_X3_cut_214 : tab t_X3_cut 214 = some (.ifCond .eq 10, 3, 224, 0, 0, 0, 0, 0, 0, 0, []) := rfl
theorem i_X3_cut_217 : tab t_X3_cut 217 = some (.iload 5, 2, 5, 0, 0, 0, 0, 0, 0, 0, []) := rfl
theorem i_X3_cut_219 : tab t_X3_cut 219 = some (.iconst 1, 1, 0, 1, 0, 0, 0, 0, 0, 0, []) := rfl
theorem i_X3_cut_220 : tab t_X3_cut 220 = some (.iadd, 1, 0, 0, 0, 0, 0, 0, 0, 0, []) := rfl
theorem i_X3_cut_221 : tab t_X3_cut 221 = some (.goto 5, 3, 226, 0, 0, 0, 0, 0, 0, 0, []) := rfl
theorem i_X3_cut_224 : tab t_X3_cut 224 = some (.iload 5, 2, 5, 0, 0, 0, 0, 0, 0, 0, []) := rfl
theorem i_X3_cut_226 : tab t_X3_cut 226 = some (.istore 5, 2, 5, 0, 0, 0, 0, 0, 0, 0, []) := rfl
theorem i_X3_cut_228 : tab t_X3_cut 228 = some (.iload 5, 2, 5, 0, 0, 0, 0, 0, 0, 0, []) := rfl
theorem i_X3_cut_230 : tab t_X3_cut 230 = some (.ireturn, 1, 0, 0, 0, 0, 0, 0, 0, 0, []) := rfl
def t_X3_addToken : List (Nat × rw_) := [(0, (.aload_n 0, 1, 0, 0, 0, 0, 0, 0, 0, 0, [])), (1, (.getfield 21, 3, 0, 0, 0, 3, 3, 0, 0, 0, [])), (4, (.aload_n 0, 1, 0, 0, 0, 0, 0, 0, 0, 0, [])), (5, (.getfield 9, 3, 2, 0, 0, 3, 0, 0, 0, 0, [])), (8, (.arraylength, 1, 0, 0, 0, 0, 0, 0, 0, 0, [])), (9, (.if_icmp .ge 43, 3, 52, 0, 0, 0, 0, 0, 0, 0, [])), (12, (.aload_n 0, 1, 0, 0, 0, 0, 0, 0, 0, 0, [])), (13, (.getfield 9, 3, 2, 0, 0, 3, 0, 0, 0, 0, [])), (16, (.aload_n 0, 1, 0, 0, 0, 0, 0, 0, 0, 0, [])), (17, (.getfield 21, 3, 0, 0, 0, 3, 3, 0, 0, 0, [])), (20, (.iload_n 1, 1, 1, 0, 0, 0, 0, 0, 0, 0, [])), (21, (.iastore, 1, 0, 0, 0, 0, 0, 0, 0, 0, [])), (22, (.aload_n 0, 1, 0, 0, 0, 0, 0, 0, 0, 0, [])), (23, (.getfield 15, 3, 2, 0, 0, 3, 1, 0, 0, 0, [])), (26, (.aload_n 0, 1, 0, 0, 0, 0, 0, 0, 0, 0, [])), (27, (.getfield 21, 3, 0, 0, 0, 3, 3, 0, 0, 0, [])), (30, (.iload_n 2, 1, 2, 0, 0, 0, 0, 0, 0, 0, [])), (31, (.iastore, 1, 0, 0, 0, 0, 0, 0, 0, 0, [])), (32, (.aload_n 0, 1, 0, 0, 0, 0, 0, 0, 0, 0, [])), (33, (.getfield 18, 3, 2, 0, 0, 3, 2, 0, 0, 0, [])), (36, (.aload_n 0, 1, 0, 0, 0, 0, 0, 0, 0, 0, [])), (37, (.getfield 21, 3, 0, 0, 0, 3, 3, 0, 0, 0, [])), (40, (.iload_n 3, 1, 3, 0, 0, 0, 0, 0, 0, 0, [])), (41, (.iastore, 1, 0, 0, 0, 0, 0, 0, 0, 0, [])), (42, (.aload_n 0, 1, 0, 0, 0, 0, 0, 0, 0, 0, [])), (43, (.dup, 1, 0, 0, 0, 0, 0, 0, 0, 0, [])), (44, (.getfield 21, 3, 0, 0, 0, 3, 3, 0, 0, 0, [])), (47, (.iconst 1, 1, 0, 1, 0, 0, 0, 0, 0, 0, [])), (48, (.iadd, 1, 0, 0, 0, 0, 0, 0, 0, 0, [])), (49, (.putfield 21, 3, 0, 0, 0, 3, 3, 0, 0, 0, [])), (52, (.return_, 1, 0, 0, 0, 0, 0, 0, 0, 0, []))]
set_option maxRecDepth 100000 in
theorem ok_X3_addToken : tb_ok ctX3 m_X3_addToken t_X3_addToken = true := by decide +kernel
theorem i_X3_addToken_0 : tab t_X3_addToken 0 = some (.aload_n 0, 1, 0, 0, 0, 0, 0, 0, 0, 0, []) := rfl
theorem i_X3_addToken_1 : tab t_X3_addToken 1 = some (.getfield 21, 3, 0, 0, 0, 3, 3, 0, 0, 0, []) := rfl
theorem i_X3_addToken_4 : tab t_X3_addToken 4 = some (.aload_n 0, 1, 0, 0, 0, 0, 0, 0, 0, 0, []) := rfl
theorem i_X3_addToken_5 : tab t_X3_addToken 5 = some (.getfield 9, 3, 2, 0, 0, 3, 0, 0, 0, 0, []) := rfl
theorem i_X3_addToken_8 : tab t_X3_addToken 8 = some (.arraylength, 1, 0, 0, 0, 0, 0, 0, 0, 0, []) := rfl
theorem i_X3_addToken_9 : tab t_X3_addToken 9 = some (.if_icmp .ge 43, 3, 52, 0, 0, 0, 0, 0, 0, 0, []) := rfl
theorem i_X3_addToken_12 : tab t_X3_addToken 12 = some (.aload_n 0, 1, 0, 0, 0, 0, 0, 0, 0, 0, []) := rfl
theorem i_X3_addToken_13 : tab t_X3_addToken 13 = some (.getfield 9, 3, 2, 0, 0, 3, 0, 0, 0, 0, []) := rfl
theorem i_X3_addToken_16 : tab t_X3_addToken 16 = some (.aload_n 0, 1, 0, 0, 0, 0, 0, 0, 0, 0, []) := rfl
theorem i_X3_addToken_17 : tab t_X3_addToken 17 = some (.getfield 21, 3, 0, 0, 0, 3, 3, 0, 0, 0, []) := rfl
theorem i_X3_addToken_20 : tab t_X3_addToken 20 = some (.iload_n 1, 1, 1, 0, 0, 0, 0, 0, 0, 0, []) := rfl
theorem i_X3_addToken_21 : tab t_X3_addToken 21 = some (.iastore, 1, 0, 0, 0, 0, 0, 0, 0, 0, []) := rfl
theorem i_X3_addToken_22 : tab t_X3_addToken 22 = some (.aload_n 0, 1, 0, 0, 0, 0, 0, 0, 0, 0, []) := rfl
theorem i_X3_addToken_23 : tab t_X3_addToken 23 = some (.getfield 15, 3, 2, 0, 0, 3, 1, 0, 0, 0, []) := rfl
theorem i_X3_addToken_26 : tab t_X3_addToken 26 = some (.aload_n 0, 1, 0, 0, 0, 0, 0, 0, 0, 0, []) := rfl
theorem i_X3_addToken_27 : tab t_X3_addToken 27 = some (.getfield 21, 3, 0, 0, 0, 3, 3, 0, 0, 0, []) := rfl
theorem i_X3_addToken_30 : tab t_X3_addToken 30 = some (.iload_n 2, 1, 2, 0, 0, 0, 0, 0, 0, 0, []) := rfl
theorem i_X3_addToken_31 : tab t_X3_addToken 31 = some (.iastore, 1, 0, 0, 0, 0, 0, 0, 0, 0, []) := rfl
theorem i_X3_addToken_32 : tab t_X3_addToken 32 = some (.aload_n 0, 1, 0, 0, 0, 0, 0, 0, 0, 0, []) := rfl
theorem i_X3_addToken_33 : tab t_X3_addToken 33 = some (.getfield 18, 3, 2, 0, 0, 3, 2, 0, 0, 0, []) := rfl
theorem i_X3_addToken_36 : tab t_X3_addToken 36 = some (.aload_n 0, 1, 0, 0, 0, 0, 0, 0, 0, 0, []) := rfl
theorem i_X3_addToken_37 : tab t_X3_addToken 37 = some (.getfield 21, 3, 0, 0, 0, 3, 3, 0, 0, 0, []) := rfl
theorem i_X3_addToken_40 : tab t_X3_addToken 40 = some (.iload_n 3, 1, 3, 0, 0, 0, 0, 0, 0, 0, []) := rfl
theorem i_X3_addToken_41 : tab t_X3_addToken 41 = some (.iastore, 1, 0, 0, 0, 0, 0, 0, 0, 0, []) := rfl
theorem i_X3_addToken_42 : tab t_X3_addToken 42 = some (.aload_n 0, 1, 0, 0, 0, 0, 0, 0, 0, 0, []) := rfl
theorem i_X3_addToken_43 : tab t_X3_addToken 43 = some (.dup, 1, 0, 0, 0, 0, 0, 0, 0, 0, []) := rfl
theorem i_X3_addToken_44 : tab t_X3_addToken 44 = some (.getfield 21, 3, 0, 0, 0, 3, 3, 0, 0, 0, []) := rfl
theorem i_X3_addToken_47 : tab t_X3_addToken 47 = some (.iconst 1, 1, 0, 1, 0, 0, 0, 0, 0, 0, []) := rfl
theorem i_X3_addToken_48 : tab t_X3_addToken 48 = some (.iadd, 1, 0, 0, 0, 0, 0, 0, 0, 0, []) := rfl
theorem i_X3_addToken_49 : tab t_X3_addToken 49 = some (.putfield 21, 3, 0, 0, 0, 3, 3, 0, 0, 0, []) := rfl
theorem i_X3_addToken_52 : tab t_X3_addToken 52 = some (.return_, 1, 0, 0, 0, 0, 0, 0, 0, 0, []) := rfl
def t_X3_isLetter : List (Nat × rw_) := [(0, (.iload_n 0, 1, 0, 0, 0, 0, 0, 0, 0, 0, [])), (1, (.bipush 97, 2, 0, 97, 0, 0, 0, 0, 0, 0, [])), (3, (.if_icmp .lt 13, 3, 16, 0, 0, 0, 0, 0, 0, 0, [])), (6, (.iload_n 0, 1, 0, 0, 0, 0, 0, 0, 0, 0, [])), (7, (.bipush 122, 2, 0, 122, 0, 0, 0, 0, 0, 0, [])), (9, (.if_icmp .gt 7, 3, 16, 0, 0, 0, 0, 0, 0, 0, [])), (12, (.iconst 1, 1, 0, 1, 0, 0, 0, 0, 0, 0, [])), (13, (.goto 4, 3, 17, 0, 0, 0, 0, 0, 0, 0, [])), (16, (.iconst 0, 1, 0, 0, 0, 0, 0, 0, 0, 0, [])), (17, (.ireturn, 1, 0, 0, 0, 1, 0, 0, 0, 0, []))]
set_option maxRecDepth 100000 in
theorem ok_X3_isLetter : tb_ok ctX3 m_X3_isLetter t_X3_isLetter = true := by decide +kernel
theorem i_X3_isLetter_0 : tab t_X3_isLetter 0 = some (.iload_n 0, 1, 0, 0, 0, 0, 0, 0, 0, 0, []) := rfl
theorem i_X3_isLetter_1 : tab t_X3_isLetter 1 = some (.bipush 97, 2, 0, 97, 0, 0, 0, 0, 0, 0, []) := rfl
theorem i_X3_isLetter_3 : tab t_X3_isLetter 3 = some (.if_icmp .lt 13, 3, 16, 0, 0, 0, 0, 0, 0, 0, []) := rfl
theorem i_X3_isLetter_6 : tab t_X3_isLetter 6 = some (.iload_n 0, 1, 0, 0, 0, 0, 0, 0, 0, 0, []) := rfl
theorem i_X3_isLetter_7 : tab t_X3_isLetter 7 = some (.bipush 122, 2, 0, 122, 0, 0, 0, 0, 0, 0, []) := rfl
theorem i_X3_isLetter_9 : tab t_X3_isLetter 9 = some (.if_icmp .gt 7, 3, 16, 0, 0, 0, 0, 0, 0, 0, []) := rfl
theorem i_X3_isLetter_12 : tab t_X3_isLetter 12 = some (.iconst 1, 1, 0, 1, 0, 0, 0, 0, 0, 0, []) := rfl
theorem i_X3_isLetter_13 : tab t_X3_isLetter 13 = some (.goto 4, 3, 17, 0, 0, 0, 0, 0, 0, 0, []) := rfl
theorem i_X3_isLetter_16 : tab t_X3_isLetter 16 = some (.iconst 0, 1, 0, 0, 0, 0, 0, 0, 0, 0, []) := rfl
theorem i_X3_isLetter_17 : tab t_X3_isLetter 17 = some (.ireturn, 1, 0, 0, 0, 1, 0, 0, 0, 0, []) := rfl
def t_X3_isDigit : List (Nat × rw_) := [(0, (.iload_n 0, 1, 0, 0, 0, 0, 0, 0, 0, 0, [])), (1, (.bipush 48, 2, 0, 48, 0, 0, 0, 0, 0, 0, [])), (3, (.if_icmp .lt 13, 3, 16, 0, 0, 0, 0, 0, 0, 0, [])), (6, (.iload_n 0, 1, 0, 0, 0, 0, 0, 0, 0, 0, [])), (7, (.bipush 57, 2, 0, 57, 0, 0, 0, 0, 0, 0, [])), (9, (.if_icmp .gt 7, 3, 16, 0, 0, 0, 0, 0, 0, 0, [])), (12, (.iconst 1, 1, 0, 1, 0, 0, 0, 0, 0, 0, [])), (13, (.goto 4, 3, 17, 0, 0, 0, 0, 0, 0, 0, [])), (16, (.iconst 0, 1, 0, 0, 0, 0, 0, 0, 0, 0, [])), (17, (.ireturn, 1, 0, 0, 0, 1, 0, 0, 0, 0, []))]
set_option maxRecDepth 100000 in
theorem ok_X3_isDigit : tb_ok ctX3 m_X3_isDigit t_X3_isDigit = true := by decide +kernel
theorem i_X3_isDigit_0 : tab t_X3_isDigit 0 = some (.iload_n 0, 1, 0, 0, 0, 0, 0, 0, 0, 0, []) := rfl
theorem i_X3_isDigit_1 : tab t_X3_isDigit 1 = some (.bipush 48, 2, 0, 48, 0, 0, 0, 0, 0, 0, []) := rfl
theorem i_X3_isDigit_3 : tab t_X3_isDigit 3 = some (.if_icmp .lt 13, 3, 16, 0, 0, 0, 0, 0, 0, 0, []) := rfl
theorem i_X3_isDigit_6 : tab t_X3_isDigit 6 = some (.iload_n 0, 1, 0, 0, 0, 0, 0, 0, 0, 0, []) := rfl
theorem i_X3_isDigit_7 : tab t_X3_isDigit 7 = some (.bipush 57, 2, 0, 57, 0, 0, 0, 0, 0, 0, []) := rfl
theorem i_X3_isDigit_9 : tab t_X3_isDigit 9 = some (.if_icmp .gt 7, 3, 16, 0, 0, 0, 0, 0, 0, 0, []) := rfl
theorem i_X3_isDigit_12 : tab t_X3_isDigit 12 = some (.iconst 1, 1, 0, 1, 0, 0, 0, 0, 0, 0, []) := rfl
theorem i_X3_isDigit_13 : tab t_X3_isDigit 13 = some (.goto 4, 3, 17, 0, 0, 0, 0, 0, 0, 0, []) := rfl
theorem i_X3_isDigit_16 : tab t_X3_isDigit 16 = some (.iconst 0, 1, 0, 0, 0, 0, 0, 0, 0, 0, []) := rfl
theorem i_X3_isDigit_17 : tab t_X3_isDigit 17 = some (.ireturn, 1, 0, 0, 0, 1, 0, 0, 0, 0, []) := rfl
def t_X3_wideSignKind : List (Nat × rw_) := [(0, (.iload_n 0, 1, 0, 0, 0, 0, 0, 0, 0, 0, [])), (1, (.bipush 60, 2, 0, 60, 0, 0, 0, 0, 0, 0, [])), (3, (.if_icmp .ne 8, 3, 11, 0, 0, 0, 0, 0, 0, 0, [])), (6, (.bipush 26, 2, 0, 26, 0, 0, 0, 0, 0, 0, [])), (8, (.goto 5, 3, 13, 0, 0, 0, 0, 0, 0, 0, [])), (11, (.bipush 28, 2, 0, 28, 0, 0, 0, 0, 0, 0, [])), (13, (.ireturn, 1, 0, 0, 0, 0, 0, 0, 0, 0, []))]
set_option maxRecDepth 100000 in
theorem ok_X3_wideSignKind : tb_ok ctX3 m_X3_wideSignKind t_X3_wideSignKind = true := by decide +kernel
theorem i_X3_wideSignKind_0 : tab t_X3_wideSignKind 0 = some (.iload_n 0, 1, 0, 0, 0, 0, 0, 0, 0, 0, []) := rfl
theorem i_X3_wideSignKind_1 : tab t_X3_wideSignKind 1 = some (.bipush 60, 2, 0, 60, 0, 0, 0, 0, 0, 0, []) := rfl
theorem i_X3_wideSignKind_3 : tab t_X3_wideSignKind 3 = some (.if_icmp .ne 8, 3, 11, 0, 0, 0, 0, 0, 0, 0, []) := rfl
theorem i_X3_wideSignKind_6 : tab t_X3_wideSignKind 6 = some (.bipush 26, 2, 0, 26, 0, 0, 0, 0, 0, 0, []) := rfl
theorem i_X3_wideSignKind_8 : tab t_X3_wideSignKind 8 = some (.goto 5, 3, 13, 0, 0, 0, 0, 0, 0, 0, []) := rfl
theorem i_X3_wideSignKind_11 : tab t_X3_wideSignKind 11 = some (.bipush 28, 2, 0, 28, 0, 0, 0, 0, 0, 0, []) := rfl
theorem i_X3_wideSignKind_13 : tab t_X3_wideSignKind 13 = some (.ireturn, 1, 0, 0, 0, 0, 0, 0, 0, 0, []) := rfl
def t_X3_signKind : List (Nat × rw_) := [(0, (.iload_n 0, 1, 0, 0, 0, 0, 0, 0, 0, 0, [])), (1, (.lookupswitch 99 #[(43, 75), (45, 78), (59, 96), (60, 81), (61, 84), (62, 87), (91, 90), (93, 93)], 75, 100, 0, 0, 0, 0, 0, 0, 0, [(43, 76), (45, 79), (59, 97), (60, 82), (61, 85), (62, 88), (91, 91), (93, 94)])), (76, (.bipush 23, 2, 0, 23, 0, 0, 0, 0, 0, 0, [])), (78, (.ireturn, 1, 0, 0, 0, 0, 0, 0, 0, 0, [])), (79, (.bipush 24, 2, 0, 24, 0, 0, 0, 0, 0, 0, [])), (81, (.ireturn, 1, 0, 0, 0, 0, 0, 0, 0, 0, [])), (82, (.bipush 25, 2, 0, 25, 0, 0, 0, 0, 0, 0, [])), (84, (.ireturn, 1, 0, 0, 0, 0, 0, 0, 0, 0, [])), (85, (.bipush 27, 2, 0, 27, 0, 0, 0, 0, 0, 0, [])), (87, (.ireturn, 1, 0, 0, 0, 0, 0, 0, 0, 0, [])), (88, (.bipush 29, 2, 0, 29, 0, 0, 0, 0, 0, 0, [])), (90, (.ireturn, 1, 0, 0, 0, 0, 0, 0, 0, 0, [])), (91, (.bipush 30, 2, 0, 30, 0, 0, 0, 0, 0, 0, [])), (93, (.ireturn, 1, 0, 0, 0, 0, 0, 0, 0, 0, [])), (94, (.bipush 31, 2, 0, 31, 0, 0, 0, 0, 0, 0, [])), (96, (.ireturn, 1, 0, 0, 0, 0, 0, 0, 0, 0, [])), (97, (.bipush 32, 2, 0, 32, 0, 0, 0, 0, 0, 0, [])), (99, (.ireturn, 1, 0, 0, 0, 0, 0, 0, 0, 0, [])), (100, (.bipush 33, 2, 0, 33, 0, 0, 0, 0, 0, 0, [])), (102, (.ireturn, 1, 0, 0, 0, 0, 0, 0, 0, 0, []))]
set_option maxRecDepth 100000 in
theorem ok_X3_signKind : tb_ok ctX3 m_X3_signKind t_X3_signKind = true := by decide +kernel
theorem i_X3_signKind_0 : tab t_X3_signKind 0 = some (.iload_n 0, 1, 0, 0, 0, 0, 0, 0, 0, 0, []) := rfl
theorem i_X3_signKind_1 : tab t_X3_signKind 1 = some (.lookupswitch 99 #[(43, 75), (45, 78), (59, 96), (60, 81), (61, 84), (62, 87), (91, 90), (93, 93)], 75, 100, 0, 0, 0, 0, 0, 0, 0, [(43, 76), (45, 79), (59, 97), (60, 82), (61, 85), (62, 88), (91, 91), (93, 94)]) := rfl
theorem i_X3_signKind_76 : tab t_X3_signKind 76 = some (.bipush 23, 2, 0, 23, 0, 0, 0, 0, 0, 0, []) := rfl
theorem i_X3_signKind_78 : tab t_X3_signKind 78 = some (.ireturn, 1, 0, 0, 0, 0, 0, 0, 0, 0, []) := rfl
theorem i_X3_signKind_79 : tab t_X3_signKind 79 = some (.bipush 24, 2, 0, 24, 0, 0, 0, 0, 0, 0, []) := rfl
theorem i_X3_signKind_81 : tab t_X3_signKind 81 = some (.ireturn, 1, 0, 0, 0, 0, 0, 0, 0, 0, []) := rfl
theorem i_X3_signKind_82 : tab t_X3_signKind 82 = some (.bipush 25, 2, 0, 25, 0, 0, 0, 0, 0, 0, []) := rfl
theorem i_X3_signKind_84 : tab t_X3_signKind 84 = some (.ireturn, 1, 0, 0, 0, 0, 0, 0, 0, 0, []) := rfl
theorem i_X3_signKind_85 : tab t_X3_signKind 85 = some (.bipush 27, 2, 0, 27, 0, 0, 0, 0, 0, 0, []) := rfl
theorem i_X3_signKind_87 : tab t_X3_signKind 87 = some (.ireturn, 1, 0, 0, 0, 0, 0, 0, 0, 0, []) := rfl
theorem i_X3_signKind_88 : tab t_X3_signKind 88 = some (.bipush 29, 2, 0, 29, 0, 0, 0, 0, 0, 0, []) := rfl
theorem i_X3_signKind_90 : tab t_X3_signKind 90 = some (.ireturn, 1, 0, 0, 0, 0, 0, 0, 0, 0, []) := rfl
theorem i_X3_signKind_91 : tab t_X3_signKind 91 = some (.bipush 30, 2, 0, 30, 0, 0, 0, 0, 0, 0, []) := rfl
theorem i_X3_signKind_93 : tab t_X3_signKind 93 = some (.ireturn, 1, 0, 0, 0, 0, 0, 0, 0, 0, []) := rfl
theorem i_X3_signKind_94 : tab t_X3_signKind 94 = some (.bipush 31, 2, 0, 31, 0, 0, 0, 0, 0, 0, []) := rfl
theorem i_X3_signKind_96 : tab t_X3_signKind 96 = some (.ireturn, 1, 0, 0, 0, 0, 0, 0, 0, 0, []) := rfl
theorem i_X3_signKind_97 : tab t_X3_signKind 97 = some (.bipush 32, 2, 0, 32, 0, 0, 0, 0, 0, 0, []) := rfl
theorem i_X3_signKind_99 : tab t_X3_signKind 99 = some (.ireturn, 1, 0, 0, 0, 0, 0, 0, 0, 0, []) := rfl
theorem i_X3_signKind_100 : tab t_X3_signKind 100 = some (.bipush 33, 2, 0, 33, 0, 0, 0, 0, 0, 0, []) := rfl
theorem i_X3_signKind_102 : tab t_X3_signKind 102 = some (.ireturn, 1, 0, 0, 0, 0, 0, 0, 0, 0, []) := rfl
def t_X3_wordKind : List (Nat × rw_) := [(0, (.iconst 0, 1, 0, 0, 0, 0, 0, 0, 0, 0, [])), (1, (.istore_n 3, 1, 3, 0, 0, 0, 0, 0, 0, 0, [])), (2, (.iload_n 1, 1, 1, 0, 0, 0, 0, 0, 0, 0, [])), (3, (.istore 4, 2, 4, 0, 0, 0, 0, 0, 0, 0, [])), (5, (.iconst 1, 1, 0, 1, 0, 0, 0, 0, 0, 0, [])), (6, (.istore 5, 2, 5, 0, 0, 0, 0, 0, 0, 0, [])), (8, (.iconst 0, 1, 0, 0, 0, 0, 0, 0, 0, 0, [])), (9, (.istore 6, 2, 6, 0, 0, 0, 0, 0, 0, 0, [])), (11, (.iload 6, 2, 6, 0, 0, 0, 0, 0, 0, 0, [])), (13, (.ldc 104, 2, 0, 0, 0, 1, 0, 0, 0, 0, [])), (15, (.invokevirtual 106, 3, 0, 0, 0, 0, 231, 40, 0, 0, [])), (18, (.if_icmp .ge 87, 3, 105, 0, 0, 0, 0, 0, 0, 0, [])), (21, (.ldc 104, 2, 0, 0, 0, 1, 0, 0, 0, 0, [])), (23, (.iload 6, 2, 6, 0, 0, 0, 0, 0, 0, 0, [])), (25, (.invokevirtual 111, 3, 1, 0, 0, 0, 232, 40, 0, 0, [])), (28, (.istore 7, 2, 7, 0, 0, 0, 0, 0, 0, 0, [])), (30, (.iload 7, 2, 7, 0, 0, 0, 0, 0, 0, 0, [])), (32, (.bipush 32, 2, 0, 32, 0, 0, 0, 0, 0, 0, [])), (34, (.if_icmp .eq 43, 3, 77, 0, 0, 0, 0, 0, 0, 0, [])), (37, (.iload 5, 2, 5, 0, 0, 0, 0, 0, 0, 0, [])), (39, (.ifCond .eq 29, 3, 68, 0, 0, 0, 0, 0, 0, 0, [])), (42, (.iload 4, 2, 4, 0, 0, 0, 0, 0, 0, 0, [])), (44, (.iload_n 2, 1, 2, 0, 0, 0, 0, 0, 0, 0, [])), (45, (.if_icmp .ge 23, 3, 68, 0, 0, 0, 0, 0, 0, 0, [])), (48, (.iload 4, 2, 4, 0, 0, 0, 0, 0, 0, 0, [])), (50, (.aload_n 0, 1, 0, 0, 0, 0, 0, 0, 0, 0, [])), (51, (.arraylength, 1, 0, 0, 0, 0, 0, 0, 0, 0, [])), (52, (.if_icmp .ge 16, 3, 68, 0, 0, 0, 0, 0, 0, 0, [])), (55, (.aload_n 0, 1, 0, 0, 0, 0, 0, 0, 0, 0, [])), (56, (.iload 4, 2, 4, 0, 0, 0, 0, 0, 0, 0, [])), (58, (.iaload, 1, 0, 0, 0, 0, 0, 0, 0, 0, [])), (59, (.iload 7, 2, 7, 0, 0, 0, 0, 0, 0, 0, [])), (61, (.if_icmp .ne 7, 3, 68, 0, 0, 0, 0, 0, 0, 0, [])), (64, (.iconst 1, 1, 0, 1, 0, 0, 0, 0, 0, 0, [])), (65, (.goto 4, 3, 69, 0, 0, 0, 0, 0, 0, 0, [])), (68, (.iconst 0, 1, 0, 0, 0, 0, 0, 0, 0, 0, [])), (69, (.istore 5, 2, 5, 0, 0, 0, 0, 0, 0, 0, [])), (71, (.iinc 4 1, 3, 4, 1, 0, 0, 0, 0, 0, 0, [])), (74, (.goto 25, 3, 99, 0, 0, 0, 0, 0, 0, 0, [])), (77, (.iload 5, 2, 5, 0, 0, 0, 0, 0, 0, 0, [])), (79, (.ifCond .eq 11, 3, 90, 0, 0, 0, 0, 0, 0, 0, [])), (82, (.iload 4, 2, 4, 0, 0, 0, 0, 0, 0, 0, [])), (84, (.iload_n 2, 1, 2, 0, 0, 0, 0, 0, 0, 0, [])), (85, (.if_icmp .ne 5, 3, 90, 0, 0, 0, 0, 0, 0, 0, [])), (88, (.iload_n 3, 1, 3, 0, 0, 0, 0, 0, 0, 0, [])), (89, (.ireturn, 1, 0, 0, 0, 0, 0, 0, 0, 0, [])), (90, (.iinc 3 1, 3, 3, 1, 0, 0, 0, 0, 0, 0, [])), (93, (.iload_n 1, 1, 1, 0, 0, 0, 0, 0, 0, 0, [])), (94, (.istore 4, 2, 4, 0, 0, 0, 0, 0, 0, 0, [])), (96, (.iconst 1, 1, 0, 1, 0, 0, 0, 0, 0, 0, [])), (97, (.istore 5, 2, 5, 0, 0, 0, 0, 0, 0, 0, [])), (99, (.iinc 6 1, 3, 6, 1, 0, 0, 0, 0, 0, 0, [])), (102, (.goto (-91), 3, 11, 0, 0, 0, 0, 0, 0, 0, [])), (105, (.bipush 33, 2, 0, 33, 0, 0, 0, 0, 0, 0, [])), (107, (.ireturn, 1, 0, 0, 0, 0, 0, 0, 0, 0, []))]
set_option maxRecDepth 100000 in
theorem ok_X3_wordKind : tb_ok ctX3 m_X3_wordKind t_X3_wordKind = true := by decide +kernel
theorem i_X3_wordKind_0 : tab t_X3_wordKind 0 = some (.iconst 0, 1, 0, 0, 0, 0, 0, 0, 0, 0, []) := rfl
theorem i_X3_wordKind_1 : tab t_X3_wordKind 1 = some (.istore_n 3, 1, 3, 0, 0, 0, 0, 0, 0, 0, []) := rfl
theorem i_X3_wordKind_2 : tab t_X3_wordKind 2 = some (.iload_n 1, 1, 1, 0, 0, 0, 0, 0, 0, 0, []) := rfl
theorem i_X3_wordKind_3 : tab t_X3_wordKind 3 = some (.istore 4, 2, 4, 0, 0, 0, 0, 0, 0, 0, []) := rfl
theorem i_X3_wordKind_5 : tab t_X3_wordKind 5 = some (.iconst 1, 1, 0, 1, 0, 0, 0, 0, 0, 0, []) := rfl
theorem i_X3_wordKind_6 : tab t_X3_wordKind 6 = some (.istore 5, 2, 5, 0, 0, 0, 0, 0, 0, 0, []) := rfl
theorem i_X3_wordKind_8 : tab t_X3_wordKind 8 = some (.iconst 0, 1, 0, 0, 0, 0, 0, 0, 0, 0, []) := rfl
theorem i_X3_wordKind_9 : tab t_X3_wordKind 9 = some (.istore 6, 2, 6, 0, 0, 0, 0, 0, 0, 0, []) := rfl
theorem i_X3_wordKind_11 : tab t_X3_wordKind 11 = some (.iload 6, 2, 6, 0, 0, 0, 0, 0, 0, 0, []) := rfl
theorem i_X3_wordKind_13 : tab t_X3_wordKind 13 = some (.ldc 104, 2, 0, 0, 0, 1, 0, 0, 0, 0, []) := rfl
theorem i_X3_wordKind_15 : tab t_X3_wordKind 15 = some (.invokevirtual 106, 3, 0, 0, 0, 0, 231, 40, 0, 0, []) := rfl
theorem i_X3_wordKind_18 : tab t_X3_wordKind 18 = some (.if_icmp .ge 87, 3, 105, 0, 0, 0, 0, 0, 0, 0, []) := rfl
theorem i_X3_wordKind_21 : tab t_X3_wordKind 21 = some (.ldc 104, 2, 0, 0, 0, 1, 0, 0, 0, 0, []) := rfl
theorem i_X3_wordKind_23 : tab t_X3_wordKind 23 = some (.iload 6, 2, 6, 0, 0, 0, 0, 0, 0, 0, []) := rfl
theorem i_X3_wordKind_25 : tab t_X3_wordKind 25 = some (.invokevirtual 111, 3, 1, 0, 0, 0, 232, 40, 0, 0, []) := rfl
theorem i_X3_wordKind_28 : tab t_X3_wordKind 28 = some (.istore 7, 2, 7, 0, 0, 0, 0, 0, 0, 0, []) := rfl
theorem i_X3_wordKind_30 : tab t_X3_wordKind 30 = some (.iload 7, 2, 7, 0, 0, 0, 0, 0, 0, 0, []) := rfl
theorem i_X3_wordKind_32 : tab t_X3_wordKind 32 = some (.bipush 32, 2, 0, 32, 0, 0, 0, 0, 0, 0, []) := rfl
theorem i_X3_wordKind_34 : tab t_X3_wordKind 34 = some (.if_icmp .eq 43, 3, 77, 0, 0, 0, 0, 0, 0, 0, []) := rfl
theorem i_X3_wordKind_37 : tab t_X3_wordKind 37 = some (.iload 5, 2, 5, 0, 0, 0, 0, 0, 0, 0, []) := rfl
theorem i_X3_wordKind_39 : tab t_X3_wordKind 39 = some (.ifCond .eq 29, 3, 68, 0, 0, 0, 0, 0, 0, 0, []) := rfl
theorem i_X3_wordKind_42 : tab t_X3_wordKind 42 = some (.iload 4, 2, 4, 0, 0, 0, 0, 0, 0, 0, []) := rfl
theorem i_X3_wordKind_44 : tab t_X3_wordKind 44 = some (.iload_n 2, 1, 2, 0, 0, 0, 0, 0, 0, 0, []) := rfl
theorem i_X3_wordKind_45 : tab t_X3_wordKind 45 = some (.if_icmp .ge 23, 3, 68, 0, 0, 0, 0, 0, 0, 0, []) := rfl
theorem i_X3_wordKind_48 : tab t_X3_wordKind 48 = some (.iload 4, 2, 4, 0, 0, 0, 0, 0, 0, 0, []) := rfl
theorem i_X3_wordKind_50 : tab t_X3_wordKind 50 = some (.aload_n 0, 1, 0, 0, 0, 0, 0, 0, 0, 0, []) := rfl
theorem i_X3_wordKind_51 : tab t_X3_wordKind 51 = some (.arraylength, 1, 0, 0, 0, 0, 0, 0, 0, 0, []) := rfl
theorem i_X3_wordKind_52 : tab t_X3_wordKind 52 = some (.if_icmp .ge 16, 3, 68, 0, 0, 0, 0, 0, 0, 0, []) := rfl
theorem i_X3_wordKind_55 : tab t_X3_wordKind 55 = some (.aload_n 0, 1, 0, 0, 0, 0, 0, 0, 0, 0, []) := rfl
theorem i_X3_wordKind_56 : tab t_X3_wordKind 56 = some (.iload 4, 2, 4, 0, 0, 0, 0, 0, 0, 0, []) := rfl
theorem i_X3_wordKind_58 : tab t_X3_wordKind 58 = some (.iaload, 1, 0, 0, 0, 0, 0, 0, 0, 0, []) := rfl
theorem i_X3_wordKind_59 : tab t_X3_wordKind 59 = some (.iload 7, 2, 7, 0, 0, 0, 0, 0, 0, 0, []) := rfl
theorem i_X3_wordKind_61 : tab t_X3_wordKind 61 = some (.if_icmp .ne 7, 3, 68, 0, 0, 0, 0, 0, 0, 0, []) := rfl
theorem i_X3_wordKind_64 : tab t_X3_wordKind 64 = some (.iconst 1, 1, 0, 1, 0, 0, 0, 0, 0, 0, []) := rfl
theorem i_X3_wordKind_65 : tab t_X3_wordKind 65 = some (.goto 4, 3, 69, 0, 0, 0, 0, 0, 0, 0, []) := rfl
theorem i_X3_wordKind_68 : tab t_X3_wordKind 68 = some (.iconst 0, 1, 0, 0, 0, 0, 0, 0, 0, 0, []) := rfl
theorem i_X3_wordKind_69 : tab t_X3_wordKind 69 = some (.istore 5, 2, 5, 0, 0, 0, 0, 0, 0, 0, []) := rfl
theorem i_X3_wordKind_71 : tab t_X3_wordKind 71 = some (.iinc 4 1, 3, 4, 1, 0, 0, 0, 0, 0, 0, []) := rfl
theorem i_X3_wordKind_74 : tab t_X3_wordKind 74 = some (.goto 25, 3, 99, 0, 0, 0, 0, 0, 0, 0, []) := rfl
theorem i_X3_wordKind_77 : tab t_X3_wordKind 77 = some (.iload 5, 2, 5, 0, 0, 0, 0, 0, 0, 0, []) := rfl
theorem i_X3_wordKind_79 : tab t_X3_wordKind 79 = some (.ifCond .eq 11, 3, 90, 0, 0, 0, 0, 0, 0, 0, []) := rfl
theorem i_X3_wordKind_82 : tab t_X3_wordKind 82 = some (.iload 4, 2, 4, 0, 0, 0, 0, 0, 0, 0, []) := rfl
theorem i_X3_wordKind_84 : tab t_X3_wordKind 84 = some (.iload_n 2, 1, 2, 0, 0, 0, 0, 0, 0, 0, []) := rfl
theorem i_X3_wordKind_85 : tab t_X3_wordKind 85 = some (.if_icmp .ne 5, 3, 90, 0, 0, 0, 0, 0, 0, 0, []) := rfl
theorem i_X3_wordKind_88 : tab t_X3_wordKind 88 = some (.iload_n 3, 1, 3, 0, 0, 0, 0, 0, 0, 0, []) := rfl
theorem i_X3_wordKind_89 : tab t_X3_wordKind 89 = some (.ireturn, 1, 0, 0, 0, 0, 0, 0, 0, 0, []) := rfl
theorem i_X3_wordKind_90 : tab t_X3_wordKind 90 = some (.iinc 3 1, 3, 3, 1, 0, 0, 0, 0, 0, 0, []) := rfl
theorem i_X3_wordKind_93 : tab t_X3_wordKind 93 = some (.iload_n 1, 1, 1, 0, 0, 0, 0, 0, 0, 0, []) := rfl
theorem i_X3_wordKind_94 : tab t_X3_wordKind 94 = some (.istore 4, 2, 4, 0, 0, 0, 0, 0, 0, 0, []) := rfl
theorem i_X3_wordKind_96 : tab t_X3_wordKind 96 = some (.iconst 1, 1, 0, 1, 0, 0, 0, 0, 0, 0, []) := rfl
theorem i_X3_wordKind_97 : tab t_X3_wordKind 97 = some (.istore 5, 2, 5, 0, 0, 0, 0, 0, 0, 0, []) := rfl
theorem i_X3_wordKind_99 : tab t_X3_wordKind 99 = some (.iinc 6 1, 3, 6, 1, 0, 0, 0, 0, 0, 0, []) := rfl
theorem i_X3_wordKind_102 : tab t_X3_wordKind 102 = some (.goto (-91), 3, 11, 0, 0, 0, 0, 0, 0, 0, []) := rfl
theorem i_X3_wordKind_105 : tab t_X3_wordKind 105 = some (.bipush 33, 2, 0, 33, 0, 0, 0, 0, 0, 0, []) := rfl
theorem i_X3_wordKind_107 : tab t_X3_wordKind 107 = some (.ireturn, 1, 0, 0, 0, 0, 0, 0, 0, 0, []) := rfl
def t_X3_kind : List (Nat × rw_) := [(0, (.aload_n 0, 1, 0, 0, 0, 0, 0, 0, 0, 0, [])), (1, (.getfield 25, 3, 0, 0, 0, 3, 4, 0, 0, 0, [])), (4, (.aload_n 0, 1, 0, 0, 0, 0, 0, 0, 0, 0, [])), (5, (.getfield 21, 3, 0, 0, 0, 3, 3, 0, 0, 0, [])), (8, (.if_icmp .ge 15, 3, 23, 0, 0, 0, 0, 0, 0, 0, [])), (11, (.aload_n 0, 1, 0, 0, 0, 0, 0, 0, 0, 0, [])), (12, (.getfield 9, 3, 2, 0, 0, 3, 0, 0, 0, 0, [])), (15, (.aload_n 0, 1, 0, 0, 0, 0, 0, 0, 0, 0, [])), (16, (.getfield 25, 3, 0, 0, 0, 3, 4, 0, 0, 0, [])), (19, (.iaload, 1, 0, 0, 0, 0, 0, 0, 0, 0, [])), (20, (.goto 5, 3, 25, 0, 0, 0, 0, 0, 0, 0, [])), (23, (.bipush 34, 2, 0, 34, 0, 0, 0, 0, 0, 0, [])), (25, (.ireturn, 1, 0, 0, 0, 0, 0, 0, 0, 0, []))]
set_option maxRecDepth 100000 in
theorem ok_X3_kind : tb_ok ctX3 m_X3_kind t_X3_kind = true := by decide +kernel
theorem i_X3_kind_0 : tab t_X3_kind 0 = some (.aload_n 0, 1, 0, 0, 0, 0, 0, 0, 0, 0, []) := rfl
theorem i_X3_kind_1 : tab t_X3_kind 1 = some (.getfield 25, 3, 0, 0, 0, 3, 4, 0, 0, 0, []) := rfl
theorem i_X3_kind_4 : tab t_X3_kind 4 = some (.aload_n 0, 1, 0, 0, 0, 0, 0, 0, 0, 0, []) := rfl
theorem i_X3_kind_5 : tab t_X3_kind 5 = some (.getfield 21, 3, 0, 0, 0, 3, 3, 0, 0, 0, []) := rfl
theorem i_X3_kind_8 : tab t_X3_kind 8 = some (.if_icmp .ge 15, 3, 23, 0, 0, 0, 0, 0, 0, 0, []) := rfl
theorem i_X3_kind_11 : tab t_X3_kind 11 = some (.aload_n 0, 1, 0, 0, 0, 0, 0, 0, 0, 0, []) := rfl
theorem i_X3_kind_12 : tab t_X3_kind 12 = some (.getfield 9, 3, 2, 0, 0, 3, 0, 0, 0, 0, []) := rfl
theorem i_X3_kind_15 : tab t_X3_kind 15 = some (.aload_n 0, 1, 0, 0, 0, 0, 0, 0, 0, 0, []) := rfl
theorem i_X3_kind_16 : tab t_X3_kind 16 = some (.getfield 25, 3, 0, 0, 0, 3, 4, 0, 0, 0, []) := rfl
theorem i_X3_kind_19 : tab t_X3_kind 19 = some (.iaload, 1, 0, 0, 0, 0, 0, 0, 0, 0, []) := rfl
theorem i_X3_kind_20 : tab t_X3_kind 20 = some (.goto 5, 3, 25, 0, 0, 0, 0, 0, 0, 0, []) := rfl
theorem i_X3_kind_23 : tab t_X3_kind 23 = some (.bipush 34, 2, 0, 34, 0, 0, 0, 0, 0, 0, []) := rfl
theorem i_X3_kind_25 : tab t_X3_kind 25 = some (.ireturn, 1, 0, 0, 0, 0, 0, 0, 0, 0, []) := rfl
def t_X3_fail : List (Nat × rw_) := [(0, (.aload_n 0, 1, 0, 0, 0, 0, 0, 0, 0, 0, [])), (1, (.getfield 31, 3, 0, 0, 0, 3, 6, 0, 0, 0, [])), (4, (.ifCond .ne 34, 3, 38, 0, 0, 0, 0, 0, 0, 0, [])), (7, (.aload_n 0, 1, 0, 0, 0, 0, 0, 0, 0, 0, [])), (8, (.getfield 25, 3, 0, 0, 0, 3, 4, 0, 0, 0, [])), (11, (.aload_n 0, 1, 0, 0, 0, 0, 0, 0, 0, 0, [])), (12, (.getfield 21, 3, 0, 0, 0, 3, 3, 0, 0, 0, [])), (15, (.if_icmp .ge 23, 3, 38, 0, 0, 0, 0, 0, 0, 0, [])), (18, (.aload_n 0, 1, 0, 0, 0, 0, 0, 0, 0, 0, [])), (19, (.iconst 1, 1, 0, 1, 0, 0, 0, 0, 0, 0, [])), (20, (.bipush 8, 2, 0, 8, 0, 0, 0, 0, 0, 0, [])), (22, (.aload_n 0, 1, 0, 0, 0, 0, 0, 0, 0, 0, [])), (23, (.getfield 15, 3, 2, 0, 0, 3, 1, 0, 0, 0, [])), (26, (.aload_n 0, 1, 0, 0, 0, 0, 0, 0, 0, 0, [])), (27, (.getfield 25, 3, 0, 0, 0, 3, 4, 0, 0, 0, [])), (30, (.iaload, 1, 0, 0, 0, 0, 0, 0, 0, 0, [])), (31, (.imul, 1, 0, 0, 0, 0, 0, 0, 0, 0, [])), (32, (.iadd, 1, 0, 0, 0, 0, 0, 0, 0, 0, [])), (33, (.iload_n 1, 1, 1, 0, 0, 0, 0, 0, 0, 0, [])), (34, (.iadd, 1, 0, 0, 0, 0, 0, 0, 0, 0, [])), (35, (.putfield 31, 3, 0, 0, 0, 3, 6, 0, 0, 0, [])), (38, (.return_, 1, 0, 0, 0, 0, 0, 0, 0, 0, []))]
set_option maxRecDepth 100000 in
theorem ok_X3_fail : tb_ok ctX3 m_X3_fail t_X3_fail = true := by decide +kernel
theorem i_X3_fail_0 : tab t_X3_fail 0 = some (.aload_n 0, 1, 0, 0, 0, 0, 0, 0, 0, 0, []) := rfl
theorem i_X3_fail_1 : tab t_X3_fail 1 = some (.getfield 31, 3, 0, 0, 0, 3, 6, 0, 0, 0, []) := rfl
theorem i_X3_fail_4 : tab t_X3_fail 4 = some (.ifCond .ne 34, 3, 38, 0, 0, 0, 0, 0, 0, 0, []) := rfl
theorem i_X3_fail_7 : tab t_X3_fail 7 = some (.aload_n 0, 1, 0, 0, 0, 0, 0, 0, 0, 0, []) := rfl
theorem i_X3_fail_8 : tab t_X3_fail 8 = some (.getfield 25, 3, 0, 0, 0, 3, 4, 0, 0, 0, []) := rfl
theorem i_X3_fail_11 : tab t_X3_fail 11 = some (.aload_n 0, 1, 0, 0, 0, 0, 0, 0, 0, 0, []) := rfl
theorem i_X3_fail_12 : tab t_X3_fail 12 = some (.getfield 21, 3, 0, 0, 0, 3, 3, 0, 0, 0, []) := rfl
theorem i_X3_fail_15 : tab t_X3_fail 15 = some (.if_icmp .ge 23, 3, 38, 0, 0, 0, 0, 0, 0, 0, []) := rfl
theorem i_X3_fail_18 : tab t_X3_fail 18 = some (.aload_n 0, 1, 0, 0, 0, 0, 0, 0, 0, 0, []) := rfl
theorem i_X3_fail_19 : tab t_X3_fail 19 = some (.iconst 1, 1, 0, 1, 0, 0, 0, 0, 0, 0, []) := rfl
theorem i_X3_fail_20 : tab t_X3_fail 20 = some (.bipush 8, 2, 0, 8, 0, 0, 0, 0, 0, 0, []) := rfl
theorem i_X3_fail_22 : tab t_X3_fail 22 = some (.aload_n 0, 1, 0, 0, 0, 0, 0, 0, 0, 0, []) := rfl
theorem i_X3_fail_23 : tab t_X3_fail 23 = some (.getfield 15, 3, 2, 0, 0, 3, 1, 0, 0, 0, []) := rfl
theorem i_X3_fail_26 : tab t_X3_fail 26 = some (.aload_n 0, 1, 0, 0, 0, 0, 0, 0, 0, 0, []) := rfl
theorem i_X3_fail_27 : tab t_X3_fail 27 = some (.getfield 25, 3, 0, 0, 0, 3, 4, 0, 0, 0, []) := rfl
theorem i_X3_fail_30 : tab t_X3_fail 30 = some (.iaload, 1, 0, 0, 0, 0, 0, 0, 0, 0, []) := rfl
theorem i_X3_fail_31 : tab t_X3_fail 31 = some (.imul, 1, 0, 0, 0, 0, 0, 0, 0, 0, []) := rfl
theorem i_X3_fail_32 : tab t_X3_fail 32 = some (.iadd, 1, 0, 0, 0, 0, 0, 0, 0, 0, []) := rfl
theorem i_X3_fail_33 : tab t_X3_fail 33 = some (.iload_n 1, 1, 1, 0, 0, 0, 0, 0, 0, 0, []) := rfl
theorem i_X3_fail_34 : tab t_X3_fail 34 = some (.iadd, 1, 0, 0, 0, 0, 0, 0, 0, 0, []) := rfl
theorem i_X3_fail_35 : tab t_X3_fail 35 = some (.putfield 31, 3, 0, 0, 0, 3, 6, 0, 0, 0, []) := rfl
theorem i_X3_fail_38 : tab t_X3_fail 38 = some (.return_, 1, 0, 0, 0, 0, 0, 0, 0, 0, []) := rfl
def t_X3_emit : List (Nat × rw_) := [(0, (.aload_n 0, 1, 0, 0, 0, 0, 0, 0, 0, 0, [])), (1, (.getfield 52, 3, 0, 0, 0, 3, 13, 0, 0, 0, [])), (4, (.aload_n 0, 1, 0, 0, 0, 0, 0, 0, 0, 0, [])), (5, (.getfield 49, 3, 2, 0, 0, 3, 12, 0, 0, 0, [])), (8, (.arraylength, 1, 0, 0, 0, 0, 0, 0, 0, 0, [])), (9, (.if_icmp .ge 23, 3, 32, 0, 0, 0, 0, 0, 0, 0, [])), (12, (.aload_n 0, 1, 0, 0, 0, 0, 0, 0, 0, 0, [])), (13, (.getfield 49, 3, 2, 0, 0, 3, 12, 0, 0, 0, [])), (16, (.aload_n 0, 1, 0, 0, 0, 0, 0, 0, 0, 0, [])), (17, (.getfield 52, 3, 0, 0, 0, 3, 13, 0, 0, 0, [])), (20, (.iload_n 1, 1, 1, 0, 0, 0, 0, 0, 0, 0, [])), (21, (.iastore, 1, 0, 0, 0, 0, 0, 0, 0, 0, [])), (22, (.aload_n 0, 1, 0, 0, 0, 0, 0, 0, 0, 0, [])), (23, (.dup, 1, 0, 0, 0, 0, 0, 0, 0, 0, [])), (24, (.getfield 52, 3, 0, 0, 0, 3, 13, 0, 0, 0, [])), (27, (.iconst 1, 1, 0, 1, 0, 0, 0, 0, 0, 0, [])), (28, (.iadd, 1, 0, 0, 0, 0, 0, 0, 0, 0, [])), (29, (.putfield 52, 3, 0, 0, 0, 3, 13, 0, 0, 0, [])), (32, (.return_, 1, 0, 0, 0, 0, 0, 0, 0, 0, []))]
set_option maxRecDepth 100000 in
theorem ok_X3_emit : tb_ok ctX3 m_X3_emit t_X3_emit = true := by decide +kernel
theorem i_X3_emit_0 : tab t_X3_emit 0 = some (.aload_n 0, 1, 0, 0, 0, 0, 0, 0, 0, 0, []) := rfl
theorem i_X3_emit_1 : tab t_X3_emit 1 = some (.getfield 52, 3, 0, 0, 0, 3, 13, 0, 0, 0, []) := rfl
theorem i_X3_emit_4 : tab t_X3_emit 4 = some (.aload_n 0, 1, 0, 0, 0, 0, 0, 0, 0, 0, []) := rfl
theorem i_X3_emit_5 : tab t_X3_emit 5 = some (.getfield 49, 3, 2, 0, 0, 3, 12, 0, 0, 0, []) := rfl
theorem i_X3_emit_8 : tab t_X3_emit 8 = some (.arraylength, 1, 0, 0, 0, 0, 0, 0, 0, 0, []) := rfl
theorem i_X3_emit_9 : tab t_X3_emit 9 = some (.if_icmp .ge 23, 3, 32, 0, 0, 0, 0, 0, 0, 0, []) := rfl
theorem i_X3_emit_12 : tab t_X3_emit 12 = some (.aload_n 0, 1, 0, 0, 0, 0, 0, 0, 0, 0, []) := rfl
theorem i_X3_emit_13 : tab t_X3_emit 13 = some (.getfield 49, 3, 2, 0, 0, 3, 12, 0, 0, 0, []) := rfl
theorem i_X3_emit_16 : tab t_X3_emit 16 = some (.aload_n 0, 1, 0, 0, 0, 0, 0, 0, 0, 0, []) := rfl
theorem i_X3_emit_17 : tab t_X3_emit 17 = some (.getfield 52, 3, 0, 0, 0, 3, 13, 0, 0, 0, []) := rfl
theorem i_X3_emit_20 : tab t_X3_emit 20 = some (.iload_n 1, 1, 1, 0, 0, 0, 0, 0, 0, 0, []) := rfl
theorem i_X3_emit_21 : tab t_X3_emit 21 = some (.iastore, 1, 0, 0, 0, 0, 0, 0, 0, 0, []) := rfl
theorem i_X3_emit_22 : tab t_X3_emit 22 = some (.aload_n 0, 1, 0, 0, 0, 0, 0, 0, 0, 0, []) := rfl
theorem i_X3_emit_23 : tab t_X3_emit 23 = some (.dup, 1, 0, 0, 0, 0, 0, 0, 0, 0, []) := rfl
theorem i_X3_emit_24 : tab t_X3_emit 24 = some (.getfield 52, 3, 0, 0, 0, 3, 13, 0, 0, 0, []) := rfl
theorem i_X3_emit_27 : tab t_X3_emit 27 = some (.iconst 1, 1, 0, 1, 0, 0, 0, 0, 0, 0, []) := rfl
theorem i_X3_emit_28 : tab t_X3_emit 28 = some (.iadd, 1, 0, 0, 0, 0, 0, 0, 0, 0, []) := rfl
theorem i_X3_emit_29 : tab t_X3_emit 29 = some (.putfield 52, 3, 0, 0, 0, 3, 13, 0, 0, 0, []) := rfl
theorem i_X3_emit_32 : tab t_X3_emit 32 = some (.return_, 1, 0, 0, 0, 0, 0, 0, 0, 0, []) := rfl
def t_X3_readClause : List (Nat × rw_) := [(0, (.aload_n 0, 1, 0, 0, 0, 0, 0, 0, 0, 0, [])), (1, (.invokevirtual 68, 3, 0, 0, 0, 0, 34, 4, 0, 0, [])), (4, (.istore_n 1, 1, 1, 0, 0, 0, 0, 0, 0, 0, [])), (5, (.iload_n 1, 1, 1, 0, 0, 0, 0, 0, 0, 0, [])), (6, (.bipush 14, 2, 0, 14, 0, 0, 0, 0, 0, 0, [])), (8, (.if_icmp .eq 21, 3, 29, 0, 0, 0, 0, 0, 0, 0, [])), (11, (.iload_n 1, 1, 1, 0, 0, 0, 0, 0, 0, 0, [])), (12, (.bipush 15, 2, 0, 15, 0, 0, 0, 0, 0, 0, [])), (14, (.if_icmp .eq 15, 3, 29, 0, 0, 0, 0, 0, 0, 0, [])), (17, (.iload_n 1, 1, 1, 0, 0, 0, 0, 0, 0, 0, [])), (18, (.bipush 16, 2, 0, 16, 0, 0, 0, 0, 0, 0, [])), (20, (.if_icmp .eq 9, 3, 29, 0, 0, 0, 0, 0, 0, 0, [])), (23, (.aload_n 0, 1, 0, 0, 0, 0, 0, 0, 0, 0, [])), (24, (.iconst 0, 1, 0, 0, 0, 0, 0, 0, 0, 0, [])), (25, (.invokevirtual 72, 3, 1, 0, 0, 0, 35, 4, 0, 0, [])), (28, (.return_, 1, 0, 0, 0, 0, 0, 0, 0, 0, [])), (29, (.aload_n 0, 1, 0, 0, 0, 0, 0, 0, 0, 0, [])), (30, (.getfield 46, 3, 0, 0, 0, 3, 11, 0, 0, 0, [])), (33, (.bipush 12, 2, 0, 12, 0, 0, 0, 0, 0, 0, [])), (35, (.if_icmp .lt 9, 3, 44, 0, 0, 0, 0, 0, 0, 0, [])), (38, (.aload_n 0, 1, 0, 0, 0, 0, 0, 0, 0, 0, [])), (39, (.iconst 4, 1, 0, 4, 0, 0, 0, 0, 0, 0, [])), (40, (.invokevirtual 72, 3, 1, 0, 0, 0, 35, 4, 0, 0, [])), (43, (.return_, 1, 0, 0, 0, 0, 0, 0, 0, 0, [])), (44, (.aload_n 0, 1, 0, 0, 0, 0, 0, 0, 0, 0, [])), (45, (.dup, 1, 0, 0, 0, 0, 0, 0, 0, 0, [])), (46, (.getfield 25, 3, 0, 0, 0, 3, 4, 0, 0, 0, [])), (49, (.iconst 1, 1, 0, 1, 0, 0, 0, 0, 0, 0, [])), (50, (.iadd, 1, 0, 0, 0, 0, 0, 0, 0, 0, [])), (51, (.putfield 25, 3, 0, 0, 0, 3, 4, 0, 0, 0, [])), (54, (.aload_n 0, 1, 0, 0, 0, 0, 0, 0, 0, 0, [])), (55, (.getfield 34, 3, 2, 0, 0, 3, 7, 0, 0, 0, [])), (58, (.aload_n 0, 1, 0, 0, 0, 0, 0, 0, 0, 0, [])), (59, (.getfield 46, 3, 0, 0, 0, 3, 11, 0, 0, 0, [])), (62, (.iload_n 1, 1, 1, 0, 0, 0, 0, 0, 0, 0, [])), (63, (.iastore, 1, 0, 0, 0, 0, 0, 0, 0, 0, [])), (64, (.aload_n 0, 1, 0, 0, 0, 0, 0, 0, 0, 0, [])), (65, (.getfield 37, 3, 2, 0, 0, 3, 8, 0, 0, 0, [])), (68, (.aload_n 0, 1, 0, 0, 0, 0, 0, 0, 0, 0, [])), (69, (.getfield 46, 3, 0, 0, 0, 3, 11, 0, 0, 0, [])), (72, (.aload_n 0, 1, 0, 0, 0, 0, 0, 0, 0, 0, [])), (73, (.invokevirtual 68, 3, 0, 0, 0, 0, 34, 4, 0, 0, [])), (76, (.iastore, 1, 0, 0, 0, 0, 0, 0, 0, 0, [])), (77, (.aload_n 0, 1, 0, 0, 0, 0, 0, 0, 0, 0, [])), (78, (.getfield 40, 3, 2, 0, 0, 3, 9, 0, 0, 0, [])), (81, (.aload_n 0, 1, 0, 0, 0, 0, 0, 0, 0, 0, [])), (82, (.getfield 46, 3, 0, 0, 0, 3, 11, 0, 0, 0, [])), (85, (.aload_n 0, 1, 0, 0, 0, 0, 0, 0, 0, 0, [])), (86, (.getfield 52, 3, 0, 0, 0, 3, 13, 0, 0, 0, [])), (89, (.iastore, 1, 0, 0, 0, 0, 0, 0, 0, 0, [])), (90, (.iload_n 1, 1, 1, 0, 0, 0, 0, 0, 0, 0, [])), (91, (.bipush 14, 2, 0, 14, 0, 0, 0, 0, 0, 0, [])), (93, (.if_icmp .ne 10, 3, 103, 0, 0, 0, 0, 0, 0, 0, [])), (96, (.aload_n 0, 1, 0, 0, 0, 0, 0, 0, 0, 0, [])), (97, (.invokevirtual 115, 3, 0, 0, 0, 0, 38, 4, 0, 0, [])), (100, (.ifCond .eq 8, 3, 108, 0, 0, 0, 0, 0, 0, 0, [])), (103, (.aload_n 0, 1, 0, 0, 0, 0, 0, 0, 0, 0, [])), (104, (.iconst 0, 1, 0, 0, 0, 0, 0, 0, 0, 0, [])), (105, (.invokevirtual 119, 3, 1, 0, 0, 0, 40, 4, 0, 0, [])), (108, (.aload_n 0, 1, 0, 0, 0, 0, 0, 0, 0, 0, [])), (109, (.getfield 43, 3, 2, 0, 0, 3, 10, 0, 0, 0, [])), (112, (.aload_n 0, 1, 0, 0, 0, 0, 0, 0, 0, 0, [])), (113, (.getfield 46, 3, 0, 0, 0, 3, 11, 0, 0, 0, [])), (116, (.aload_n 0, 1, 0, 0, 0, 0, 0, 0, 0, 0, [])), (117, (.getfield 52, 3, 0, 0, 0, 3, 13, 0, 0, 0, [])), (120, (.iastore, 1, 0, 0, 0, 0, 0, 0, 0, 0, [])), (121, (.aload_n 0, 1, 0, 0, 0, 0, 0, 0, 0, 0, [])), (122, (.dup, 1, 0, 0, 0, 0, 0, 0, 0, 0, [])), (123, (.getfield 46, 3, 0, 0, 0, 3, 11, 0, 0, 0, [])), (126, (.iconst 1, 1, 0, 1, 0, 0, 0, 0, 0, 0, [])), (127, (.iadd, 1, 0, 0, 0, 0, 0, 0, 0, 0, [])), (128, (.putfield 46, 3, 0, 0, 0, 3, 11, 0, 0, 0, [])), (131, (.return_, 1, 0, 0, 0, 0, 0, 0, 0, 0, []))]
set_option maxRecDepth 100000 in
theorem ok_X3_readClause : tb_ok ctX3 m_X3_readClause t_X3_readClause = true := by decide +kernel
theorem i_X3_readClause_0 : tab t_X3_readClause 0 = some (.aload_n 0, 1, 0, 0, 0, 0, 0, 0, 0, 0, []) := rfl
theorem i_X3_readClause_1 : tab t_X3_readClause 1 = some (.invokevirtual 68, 3, 0, 0, 0, 0, 34, 4, 0, 0, []) := rfl
theorem i_X3_readClause_4 : tab t_X3_readClause 4 = some (.istore_n 1, 1, 1, 0, 0, 0, 0, 0, 0, 0, []) := rfl
theorem i_X3_readClause_5 : tab t_X3_readClause 5 = some (.iload_n 1, 1, 1, 0, 0, 0, 0, 0, 0, 0, []) := rfl
theorem i_X3_readClause_6 : tab t_X3_readClause 6 = some (.bipush 14, 2, 0, 14, 0, 0, 0, 0, 0, 0, []) := rfl
theorem i_X3_readClause_8 : tab t_X3_readClause 8 = some (.if_icmp .eq 21, 3, 29, 0, 0, 0, 0, 0, 0, 0, []) := rfl
theorem i_X3_readClause_11 : tab t_X3_readClause 11 = some (.iload_n 1, 1, 1, 0, 0, 0, 0, 0, 0, 0, []) := rfl
theorem i_X3_readClause_12 : tab t_X3_readClause 12 = some (.bipush 15, 2, 0, 15, 0, 0, 0, 0, 0, 0, []) := rfl
theorem i_X3_readClause_14 : tab t_X3_readClause 14 = some (.if_icmp .eq 15, 3, 29, 0, 0, 0, 0, 0, 0, 0, []) := rfl
theorem i_X3_readClause_17 : tab t_X3_readClause 17 = some (.iload_n 1, 1, 1, 0, 0, 0, 0, 0, 0, 0, []) := rfl
theorem i_X3_readClause_18 : tab t_X3_readClause 18 = some (.bipush 16, 2, 0, 16, 0, 0, 0, 0, 0, 0, []) := rfl
theorem i_X3_readClause_20 : tab t_X3_readClause 20 = some (.if_icmp .eq 9, 3, 29, 0, 0, 0, 0, 0, 0, 0, []) := rfl
theorem i_X3_readClause_23 : tab t_X3_readClause 23 = some (.aload_n 0, 1, 0, 0, 0, 0, 0, 0, 0, 0, []) := rfl
theorem i_X3_readClause_24 : tab t_X3_readClause 24 = some (.iconst 0, 1, 0, 0, 0, 0, 0, 0, 0, 0, []) := rfl
theorem i_X3_readClause_25 : tab t_X3_readClause 25 = some (.invokevirtual 72, 3, 1, 0, 0, 0, 35, 4, 0, 0, []) := rfl
theorem i_X3_readClause_28 : tab t_X3_readClause 28 = some (.return_, 1, 0, 0, 0, 0, 0, 0, 0, 0, []) := rfl
theorem i_X3_readClause_29 : tab t_X3_readClause 29 = some (.aload_n 0, 1, 0, 0, 0, 0, 0, 0, 0, 0, []) := rfl
theorem i_X3_readClause_30 : tab t_X3_readClause 30 = some (.getfield 46, 3, 0, 0, 0, 3, 11, 0, 0, 0, []) := rfl
theorem i_X3_readClause_33 : tab t_X3_readClause 33 = some (.bipush 12, 2, 0, 12, 0, 0, 0, 0, 0, 0, []) := rfl
theorem i_X3_readClause_35 : tab t_X3_readClause 35 = some (.if_icmp .lt 9, 3, 44, 0, 0, 0, 0, 0, 0, 0, []) := rfl
theorem i_X3_readClause_38 : tab t_X3_readClause 38 = some (.aload_n 0, 1, 0, 0, 0, 0, 0, 0, 0, 0, []) := rfl
theorem i_X3_readClause_39 : tab t_X3_readClause 39 = some (.iconst 4, 1, 0, 4, 0, 0, 0, 0, 0, 0, []) := rfl
theorem i_X3_readClause_40 : tab t_X3_readClause 40 = some (.invokevirtual 72, 3, 1, 0, 0, 0, 35, 4, 0, 0, []) := rfl
theorem i_X3_readClause_43 : tab t_X3_readClause 43 = some (.return_, 1, 0, 0, 0, 0, 0, 0, 0, 0, []) := rfl
theorem i_X3_readClause_44 : tab t_X3_readClause 44 = some (.aload_n 0, 1, 0, 0, 0, 0, 0, 0, 0, 0, []) := rfl
theorem i_X3_readClause_45 : tab t_X3_readClause 45 = some (.dup, 1, 0, 0, 0, 0, 0, 0, 0, 0, []) := rfl
theorem i_X3_readClause_46 : tab t_X3_readClause 46 = some (.getfield 25, 3, 0, 0, 0, 3, 4, 0, 0, 0, []) := rfl
theorem i_X3_readClause_49 : tab t_X3_readClause 49 = some (.iconst 1, 1, 0, 1, 0, 0, 0, 0, 0, 0, []) := rfl
theorem i_X3_readClause_50 : tab t_X3_readClause 50 = some (.iadd, 1, 0, 0, 0, 0, 0, 0, 0, 0, []) := rfl
theorem i_X3_readClause_51 : tab t_X3_readClause 51 = some (.putfield 25, 3, 0, 0, 0, 3, 4, 0, 0, 0, []) := rfl
theorem i_X3_readClause_54 : tab t_X3_readClause 54 = some (.aload_n 0, 1, 0, 0, 0, 0, 0, 0, 0, 0, []) := rfl
theorem i_X3_readClause_55 : tab t_X3_readClause 55 = some (.getfield 34, 3, 2, 0, 0, 3, 7, 0, 0, 0, []) := rfl
theorem i_X3_readClause_58 : tab t_X3_readClause 58 = some (.aload_n 0, 1, 0, 0, 0, 0, 0, 0, 0, 0, []) := rfl
theorem i_X3_readClause_59 : tab t_X3_readClause 59 = some (.getfield 46, 3, 0, 0, 0, 3, 11, 0, 0, 0, []) := rfl
theorem i_X3_readClause_62 : tab t_X3_readClause 62 = some (.iload_n 1, 1, 1, 0, 0, 0, 0, 0, 0, 0, []) := rfl
theorem i_X3_readClause_63 : tab t_X3_readClause 63 = some (.iastore, 1, 0, 0, 0, 0, 0, 0, 0, 0, []) := rfl
theorem i_X3_readClause_64 : tab t_X3_readClause 64 = some (.aload_n 0, 1, 0, 0, 0, 0, 0, 0, 0, 0, []) := rfl
theorem i_X3_readClause_65 : tab t_X3_readClause 65 = some (.getfield 37, 3, 2, 0, 0, 3, 8, 0, 0, 0, []) := rfl
theorem i_X3_readClause_68 : tab t_X3_readClause 68 = some (.aload_n 0, 1, 0, 0, 0, 0, 0, 0, 0, 0, []) := rfl
theorem i_X3_readClause_69 : tab t_X3_readClause 69 = some (.getfield 46, 3, 0, 0, 0, 3, 11, 0, 0, 0, []) := rfl
theorem i_X3_readClause_72 : tab t_X3_readClause 72 = some (.aload_n 0, 1, 0, 0, 0, 0, 0, 0, 0, 0, []) := rfl
theorem i_X3_readClause_73 : tab t_X3_readClause 73 = some (.invokevirtual 68, 3, 0, 0, 0, 0, 34, 4, 0, 0, []) := rfl
theorem i_X3_readClause_76 : tab t_X3_readClause 76 = some (.iastore, 1, 0, 0, 0, 0, 0, 0, 0, 0, []) := rfl
theorem i_X3_readClause_77 : tab t_X3_readClause 77 = some (.aload_n 0, 1, 0, 0, 0, 0, 0, 0, 0, 0, []) := rfl
theorem i_X3_readClause_78 : tab t_X3_readClause 78 = some (.getfield 40, 3, 2, 0, 0, 3, 9, 0, 0, 0, []) := rfl
theorem i_X3_readClause_81 : tab t_X3_readClause 81 = some (.aload_n 0, 1, 0, 0, 0, 0, 0, 0, 0, 0, []) := rfl
theorem i_X3_readClause_82 : tab t_X3_readClause 82 = some (.getfield 46, 3, 0, 0, 0, 3, 11, 0, 0, 0, []) := rfl
theorem i_X3_readClause_85 : tab t_X3_readClause 85 = some (.aload_n 0, 1, 0, 0, 0, 0, 0, 0, 0, 0, []) := rfl
theorem i_X3_readClause_86 : tab t_X3_readClause 86 = some (.getfield 52, 3, 0, 0, 0, 3, 13, 0, 0, 0, []) := rfl
theorem i_X3_readClause_89 : tab t_X3_readClause 89 = some (.iastore, 1, 0, 0, 0, 0, 0, 0, 0, 0, []) := rfl
theorem i_X3_readClause_90 : tab t_X3_readClause 90 = some (.iload_n 1, 1, 1, 0, 0, 0, 0, 0, 0, 0, []) := rfl
theorem i_X3_readClause_91 : tab t_X3_readClause 91 = some (.bipush 14, 2, 0, 14, 0, 0, 0, 0, 0, 0, []) := rfl
theorem i_X3_readClause_93 : tab t_X3_readClause 93 = some (.if_icmp .ne 10, 3, 103, 0, 0, 0, 0, 0, 0, 0, []) := rfl
theorem i_X3_readClause_96 : tab t_X3_readClause 96 = some (.aload_n 0, 1, 0, 0, 0, 0, 0, 0, 0, 0, []) := rfl
theorem i_X3_readClause_97 : tab t_X3_readClause 97 = some (.invokevirtual 115, 3, 0, 0, 0, 0, 38, 4, 0, 0, []) := rfl
theorem i_X3_readClause_100 : tab t_X3_readClause 100 = some (.ifCond .eq 8, 3, 108, 0, 0, 0, 0, 0, 0, 0, []) := rfl
theorem i_X3_readClause_103 : tab t_X3_readClause 103 = some (.aload_n 0, 1, 0, 0, 0, 0, 0, 0, 0, 0, []) := rfl
theorem i_X3_readClause_104 : tab t_X3_readClause 104 = some (.iconst 0, 1, 0, 0, 0, 0, 0, 0, 0, 0, []) := rfl
theorem i_X3_readClause_105 : tab t_X3_readClause 105 = some (.invokevirtual 119, 3, 1, 0, 0, 0, 40, 4, 0, 0, []) := rfl
theorem i_X3_readClause_108 : tab t_X3_readClause 108 = some (.aload_n 0, 1, 0, 0, 0, 0, 0, 0, 0, 0, []) := rfl
theorem i_X3_readClause_109 : tab t_X3_readClause 109 = some (.getfield 43, 3, 2, 0, 0, 3, 10, 0, 0, 0, []) := rfl
theorem i_X3_readClause_112 : tab t_X3_readClause 112 = some (.aload_n 0, 1, 0, 0, 0, 0, 0, 0, 0, 0, []) := rfl
theorem i_X3_readClause_113 : tab t_X3_readClause 113 = some (.getfield 46, 3, 0, 0, 0, 3, 11, 0, 0, 0, []) := rfl
theorem i_X3_readClause_116 : tab t_X3_readClause 116 = some (.aload_n 0, 1, 0, 0, 0, 0, 0, 0, 0, 0, []) := rfl
theorem i_X3_readClause_117 : tab t_X3_readClause 117 = some (.getfield 52, 3, 0, 0, 0, 3, 13, 0, 0, 0, []) := rfl
theorem i_X3_readClause_120 : tab t_X3_readClause 120 = some (.iastore, 1, 0, 0, 0, 0, 0, 0, 0, 0, []) := rfl
theorem i_X3_readClause_121 : tab t_X3_readClause 121 = some (.aload_n 0, 1, 0, 0, 0, 0, 0, 0, 0, 0, []) := rfl
theorem i_X3_readClause_122 : tab t_X3_readClause 122 = some (.dup, 1, 0, 0, 0, 0, 0, 0, 0, 0, []) := rfl
theorem i_X3_readClause_123 : tab t_X3_readClause 123 = some (.getfield 46, 3, 0, 0, 0, 3, 11, 0, 0, 0, []) := rfl
theorem i_X3_readClause_126 : tab t_X3_readClause 126 = some (.iconst 1, 1, 0, 1, 0, 0, 0, 0, 0, 0, []) := rfl
theorem i_X3_readClause_127 : tab t_X3_readClause 127 = some (.iadd, 1, 0, 0, 0, 0, 0, 0, 0, 0, []) := rfl
theorem i_X3_readClause_128 : tab t_X3_readClause 128 = some (.putfield 46, 3, 0, 0, 0, 3, 11, 0, 0, 0, []) := rfl
theorem i_X3_readClause_131 : tab t_X3_readClause 131 = some (.return_, 1, 0, 0, 0, 0, 0, 0, 0, 0, []) := rfl
def t_X3_takeKeyAndIf : List (Nat × rw_) := [(0, (.aload_n 0, 1, 0, 0, 0, 0, 0, 0, 0, 0, [])), (1, (.invokevirtual 68, 3, 0, 0, 0, 0, 34, 4, 0, 0, [])), (4, (.invokestatic 122, 3, 1, 0, 0, 0, 39, 0, 0, 0, [])), (7, (.ifCond .ne 10, 3, 17, 0, 0, 0, 0, 0, 0, 0, [])), (10, (.aload_n 0, 1, 0, 0, 0, 0, 0, 0, 0, 0, [])), (11, (.iconst 0, 1, 0, 0, 0, 0, 0, 0, 0, 0, [])), (12, (.invokevirtual 72, 3, 1, 0, 0, 0, 35, 4, 0, 0, [])), (15, (.iconst 0, 1, 0, 0, 0, 0, 0, 0, 0, 0, [])), (16, (.ireturn, 1, 0, 0, 0, 1, 0, 0, 0, 0, [])), (17, (.aload_n 0, 1, 0, 0, 0, 0, 0, 0, 0, 0, [])), (18, (.dup, 1, 0, 0, 0, 0, 0, 0, 0, 0, [])), (19, (.getfield 25, 3, 0, 0, 0, 3, 4, 0, 0, 0, [])), (22, (.iconst 1, 1, 0, 1, 0, 0, 0, 0, 0, 0, [])), (23, (.iadd, 1, 0, 0, 0, 0, 0, 0, 0, 0, [])), (24, (.putfield 25, 3, 0, 0, 0, 3, 4, 0, 0, 0, [])), (27, (.aload_n 0, 1, 0, 0, 0, 0, 0, 0, 0, 0, [])), (28, (.invokevirtual 68, 3, 0, 0, 0, 0, 34, 4, 0, 0, [])), (31, (.bipush 17, 2, 0, 17, 0, 0, 0, 0, 0, 0, [])), (33, (.if_icmp .ne 7, 3, 40, 0, 0, 0, 0, 0, 0, 0, [])), (36, (.iconst 1, 1, 0, 1, 0, 0, 0, 0, 0, 0, [])), (37, (.goto 4, 3, 41, 0, 0, 0, 0, 0, 0, 0, [])), (40, (.iconst 0, 1, 0, 0, 0, 0, 0, 0, 0, 0, [])), (41, (.istore_n 1, 1, 1, 0, 0, 0, 0, 0, 0, 0, [])), (42, (.aload_n 0, 1, 0, 0, 0, 0, 0, 0, 0, 0, [])), (43, (.dup, 1, 0, 0, 0, 0, 0, 0, 0, 0, [])), (44, (.getfield 25, 3, 0, 0, 0, 3, 4, 0, 0, 0, [])), (47, (.iload_n 1, 1, 1, 0, 0, 0, 0, 0, 0, 0, [])), (48, (.ifCond .eq 7, 3, 55, 0, 0, 0, 0, 0, 0, 0, [])), (51, (.iconst 1, 1, 0, 1, 0, 0, 0, 0, 0, 0, [])), (52, (.goto 4, 3, 56, 0, 0, 0, 0, 0, 0, 0, [])), (55, (.iconst 0, 1, 0, 0, 0, 0, 0, 0, 0, 0, [])), (56, (.iadd, 1, 0, 0, 0, 0, 0, 0, 0, 0, [])), (57, (.putfield 25, 3, 0, 0, 0, 3, 4, 0, 0, 0, [])), (60, (.iload_n 1, 1, 1, 0, 0, 0, 0, 0, 0, 0, [])), (61, (.ireturn, 1, 0, 0, 0, 1, 0, 0, 0, 0, []))]
set_option maxRecDepth 100000 in
theorem ok_X3_takeKeyAndIf : tb_ok ctX3 m_X3_takeKeyAndIf t_X3_takeKeyAndIf = true := by decide +kernel
theorem i_X3_takeKeyAndIf_0 : tab t_X3_takeKeyAndIf 0 = some (.aload_n 0, 1, 0, 0, 0, 0, 0, 0, 0, 0, []) := rfl
theorem i_X3_takeKeyAndIf_1 : tab t_X3_takeKeyAndIf 1 = some (.invokevirtual 68, 3, 0, 0, 0, 0, 34, 4, 0, 0, []) := rfl
theorem i_X3_takeKeyAndIf_4 : tab t_X3_takeKeyAndIf 4 = some (.invokestatic 122, 3, 1, 0, 0, 0, 39, 0, 0, 0, []) := rfl
theorem i_X3_takeKeyAndIf_7 : tab t_X3_takeKeyAndIf 7 = some (.ifCond .ne 10, 3, 17, 0, 0, 0, 0, 0, 0, 0, []) := rfl
theorem i_X3_takeKeyAndIf_10 : tab t_X3_takeKeyAndIf 10 = some (.aload_n 0, 1, 0, 0, 0, 0, 0, 0, 0, 0, []) := rfl
theorem i_X3_takeKeyAndIf_11 : tab t_X3_takeKeyAndIf 11 = some (.iconst 0, 1, 0, 0, 0, 0, 0, 0, 0, 0, []) := rfl
theorem i_X3_takeKeyAndIf_12 : tab t_X3_takeKeyAndIf 12 = some (.invokevirtual 72, 3, 1, 0, 0, 0, 35, 4, 0, 0, []) := rfl
theorem i_X3_takeKeyAndIf_15 : tab t_X3_takeKeyAndIf 15 = some (.iconst 0, 1, 0, 0, 0, 0, 0, 0, 0, 0, []) := rfl
theorem i_X3_takeKeyAndIf_16 : tab t_X3_takeKeyAndIf 16 = some (.ireturn, 1, 0, 0, 0, 1, 0, 0, 0, 0, []) := rfl
theorem i_X3_takeKeyAndIf_17 : tab t_X3_takeKeyAndIf 17 = some (.aload_n 0, 1, 0, 0, 0, 0, 0, 0, 0, 0, []) := rfl
theorem i_X3_takeKeyAndIf_18 : tab t_X3_takeKeyAndIf 18 = some (.dup, 1, 0, 0, 0, 0, 0, 0, 0, 0, []) := rfl
theorem i_X3_takeKeyAndIf_19 : tab t_X3_takeKeyAndIf 19 = some (.getfield 25, 3, 0, 0, 0, 3, 4, 0, 0, 0, []) := rfl
theorem i_X3_takeKeyAndIf_22 : tab t_X3_takeKeyAndIf 22 = some (.iconst 1, 1, 0, 1, 0, 0, 0, 0, 0, 0, []) := rfl
theorem i_X3_takeKeyAndIf_23 : tab t_X3_takeKeyAndIf 23 = some (.iadd, 1, 0, 0, 0, 0, 0, 0, 0, 0, []) := rfl
theorem i_X3_takeKeyAndIf_24 : tab t_X3_takeKeyAndIf 24 = some (.putfield 25, 3, 0, 0, 0, 3, 4, 0, 0, 0, []) := rfl
theorem i_X3_takeKeyAndIf_27 : tab t_X3_takeKeyAndIf 27 = some (.aload_n 0, 1, 0, 0, 0, 0, 0, 0, 0, 0, []) := rfl
theorem i_X3_takeKeyAndIf_28 : tab t_X3_takeKeyAndIf 28 = some (.invokevirtual 68, 3, 0, 0, 0, 0, 34, 4, 0, 0, []) := rfl
theorem i_X3_takeKeyAndIf_31 : tab t_X3_takeKeyAndIf 31 = some (.bipush 17, 2, 0, 17, 0, 0, 0, 0, 0, 0, []) := rfl
theorem i_X3_takeKeyAndIf_33 : tab t_X3_takeKeyAndIf 33 = some (.if_icmp .ne 7, 3, 40, 0, 0, 0, 0, 0, 0, 0, []) := rfl
theorem i_X3_takeKeyAndIf_36 : tab t_X3_takeKeyAndIf 36 = some (.iconst 1, 1, 0, 1, 0, 0, 0, 0, 0, 0, []) := rfl
theorem i_X3_takeKeyAndIf_37 : tab t_X3_takeKeyAndIf 37 = some (.goto 4, 3, 41, 0, 0, 0, 0, 0, 0, 0, []) := rfl
theorem i_X3_takeKeyAndIf_40 : tab t_X3_takeKeyAndIf 40 = some (.iconst 0, 1, 0, 0, 0, 0, 0, 0, 0, 0, []) := rfl
theorem i_X3_takeKeyAndIf_41 : tab t_X3_takeKeyAndIf 41 = some (.istore_n 1, 1, 1, 0, 0, 0, 0, 0, 0, 0, []) := rfl
theorem i_X3_takeKeyAndIf_42 : tab t_X3_takeKeyAndIf 42 = some (.aload_n 0, 1, 0, 0, 0, 0, 0, 0, 0, 0, []) := rfl
theorem i_X3_takeKeyAndIf_43 : tab t_X3_takeKeyAndIf 43 = some (.dup, 1, 0, 0, 0, 0, 0, 0, 0, 0, []) := rfl
theorem i_X3_takeKeyAndIf_44 : tab t_X3_takeKeyAndIf 44 = some (.getfield 25, 3, 0, 0, 0, 3, 4, 0, 0, 0, []) := rfl
theorem i_X3_takeKeyAndIf_47 : tab t_X3_takeKeyAndIf 47 = some (.iload_n 1, 1, 1, 0, 0, 0, 0, 0, 0, 0, []) := rfl
theorem i_X3_takeKeyAndIf_48 : tab t_X3_takeKeyAndIf 48 = some (.ifCond .eq 7, 3, 55, 0, 0, 0, 0, 0, 0, 0, []) := rfl
theorem i_X3_takeKeyAndIf_51 : tab t_X3_takeKeyAndIf 51 = some (.iconst 1, 1, 0, 1, 0, 0, 0, 0, 0, 0, []) := rfl
theorem i_X3_takeKeyAndIf_52 : tab t_X3_takeKeyAndIf 52 = some (.goto 4, 3, 56, 0, 0, 0, 0, 0, 0, 0, []) := rfl
theorem i_X3_takeKeyAndIf_55 : tab t_X3_takeKeyAndIf 55 = some (.iconst 0, 1, 0, 0, 0, 0, 0, 0, 0, 0, []) := rfl
theorem i_X3_takeKeyAndIf_56 : tab t_X3_takeKeyAndIf 56 = some (.iadd, 1, 0, 0, 0, 0, 0, 0, 0, 0, []) := rfl
theorem i_X3_takeKeyAndIf_57 : tab t_X3_takeKeyAndIf 57 = some (.putfield 25, 3, 0, 0, 0, 3, 4, 0, 0, 0, []) := rfl
theorem i_X3_takeKeyAndIf_60 : tab t_X3_takeKeyAndIf 60 = some (.iload_n 1, 1, 1, 0, 0, 0, 0, 0, 0, 0, []) := rfl
theorem i_X3_takeKeyAndIf_61 : tab t_X3_takeKeyAndIf 61 = some (.ireturn, 1, 0, 0, 0, 1, 0, 0, 0, 0, []) := rfl
def t_X3_isKey : List (Nat × rw_) := [(0, (.iload_n 0, 1, 0, 0, 0, 0, 0, 0, 0, 0, [])), (1, (.tableswitch 69 1 13 #[67, 67, 69, 67, 67, 67, 69, 67, 69, 69, 69, 69, 67], 67, 70, 0, 0, 0, 0, 0, 0, 0, [(1, 68), (2, 68), (3, 70), (4, 68), (5, 68), (6, 68), (7, 70), (8, 68), (9, 70), (10, 70), (11, 70), (12, 70), (13, 68)])), (68, (.iconst 1, 1, 0, 1, 0, 0, 0, 0, 0, 0, [])), (69, (.ireturn, 1, 0, 0, 0, 1, 0, 0, 0, 0, [])), (70, (.iconst 0, 1, 0, 0, 0, 0, 0, 0, 0, 0, [])), (71, (.ireturn, 1, 0, 0, 0, 1, 0, 0, 0, 0, []))]
set_option maxRecDepth 100000 in
theorem ok_X3_isKey : tb_ok ctX3 m_X3_isKey t_X3_isKey = true := by decide +kernel
theorem i_X3_isKey_0 : tab t_X3_isKey 0 = some (.iload_n 0, 1, 0, 0, 0, 0, 0, 0, 0, 0, []) := rfl
theorem i_X3_isKey_1 : tab t_X3_isKey 1 = some (.tableswitch 69 1 13 #[67, 67, 69, 67, 67, 67, 69, 67, 69, 69, 69, 69, 67], 67, 70, 0, 0, 0, 0, 0, 0, 0, [(1, 68), (2, 68), (3, 70), (4, 68), (5, 68), (6, 68), (7, 70), (8, 68), (9, 70), (10, 70), (11, 70), (12, 70), (13, 68)]) := rfl
theorem i_X3_isKey_68 : tab t_X3_isKey 68 = some (.iconst 1, 1, 0, 1, 0, 0, 0, 0, 0, 0, []) := rfl
theorem i_X3_isKey_69 : tab t_X3_isKey 69 = some (.ireturn, 1, 0, 0, 0, 1, 0, 0, 0, 0, []) := rfl
theorem i_X3_isKey_70 : tab t_X3_isKey 70 = some (.iconst 0, 1, 0, 0, 0, 0, 0, 0, 0, 0, []) := rfl
theorem i_X3_isKey_71 : tab t_X3_isKey 71 = some (.ireturn, 1, 0, 0, 0, 1, 0, 0, 0, 0, []) := rfl
def t_X3_readTest : List (Nat × rw_) := [(0, (.iconst 0, 1, 0, 0, 0, 0, 0, 0, 0, 0, [])), (1, (.istore_n 2, 1, 2, 0, 0, 0, 0, 0, 0, 0, [])), (2, (.iconst 0, 1, 0, 0, 0, 0, 0, 0, 0, 0, [])), (3, (.istore_n 3, 1, 3, 0, 0, 0, 0, 0, 0, 0, [])), (4, (.iload_n 3, 1, 3, 0, 0, 0, 0, 0, 0, 0, [])), (5, (.aload_n 0, 1, 0, 0, 0, 0, 0, 0, 0, 0, [])), (6, (.getfield 21, 3, 0, 0, 0, 3, 3, 0, 0, 0, [])), (9, (.if_icmp .ge 115, 3, 124, 0, 0, 0, 0, 0, 0, 0, [])), (12, (.aload_n 0, 1, 0, 0, 0, 0, 0, 0, 0, 0, [])), (13, (.getfield 31, 3, 0, 0, 0, 3, 6, 0, 0, 0, [])), (16, (.ifCond .ne 108, 3, 124, 0, 0, 0, 0, 0, 0, 0, [])), (19, (.aload_n 0, 1, 0, 0, 0, 0, 0, 0, 0, 0, [])), (20, (.iload_n 1, 1, 1, 0, 0, 0, 0, 0, 0, 0, [])), (21, (.invokevirtual 125, 3, 1, 0, 0, 0, 41, 4, 0, 0, [])), (24, (.iconst 0, 1, 0, 0, 0, 0, 0, 0, 0, 0, [])), (25, (.istore 4, 2, 4, 0, 0, 0, 0, 0, 0, 0, [])), (27, (.iload 4, 2, 4, 0, 0, 0, 0, 0, 0, 0, [])), (29, (.aload_n 0, 1, 0, 0, 0, 0, 0, 0, 0, 0, [])), (30, (.getfield 21, 3, 0, 0, 0, 3, 3, 0, 0, 0, [])), (33, (.if_icmp .ge 46, 3, 79, 0, 0, 0, 0, 0, 0, 0, [])), (36, (.aload_n 0, 1, 0, 0, 0, 0, 0, 0, 0, 0, [])), (37, (.getfield 31, 3, 0, 0, 0, 3, 6, 0, 0, 0, [])), (40, (.ifCond .ne 39, 3, 79, 0, 0, 0, 0, 0, 0, 0, [])), (43, (.aload_n 0, 1, 0, 0, 0, 0, 0, 0, 0, 0, [])), (44, (.invokevirtual 68, 3, 0, 0, 0, 0, 34, 4, 0, 0, [])), (47, (.bipush 18, 2, 0, 18, 0, 0, 0, 0, 0, 0, [])), (49, (.if_icmp .ne 30, 3, 79, 0, 0, 0, 0, 0, 0, 0, [])), (52, (.aload_n 0, 1, 0, 0, 0, 0, 0, 0, 0, 0, [])), (53, (.dup, 1, 0, 0, 0, 0, 0, 0, 0, 0, [])), (54, (.getfield 25, 3, 0, 0, 0, 3, 4, 0, 0, 0, [])), (57, (.iconst 1, 1, 0, 1, 0, 0, 0, 0, 0, 0, [])), (58, (.iadd, 1, 0, 0, 0, 0, 0, 0, 0, 0, [])), (59, (.putfield 25, 3, 0, 0, 0, 3, 4, 0, 0, 0, [])), (62, (.aload_n 0, 1, 0, 0, 0, 0, 0, 0, 0, 0, [])), (63, (.iload_n 1, 1, 1, 0, 0, 0, 0, 0, 0, 0, [])), (64, (.invokevirtual 125, 3, 1, 0, 0, 0, 41, 4, 0, 0, [])), (67, (.aload_n 0, 1, 0, 0, 0, 0, 0, 0, 0, 0, [])), (68, (.bipush 18, 2, 0, 18, 0, 0, 0, 0, 0, 0, [])), (70, (.invokevirtual 128, 3, 1, 0, 0, 0, 36, 4, 0, 0, [])), (73, (.iinc 4 1, 3, 4, 1, 0, 0, 0, 0, 0, 0, [])), (76, (.goto (-49), 3, 27, 0, 0, 0, 0, 0, 0, 0, [])), (79, (.iload_n 2, 1, 2, 0, 0, 0, 0, 0, 0, 0, [])), (80, (.ifCond .eq 9, 3, 89, 0, 0, 0, 0, 0, 0, 0, [])), (83, (.aload_n 0, 1, 0, 0, 0, 0, 0, 0, 0, 0, [])), (84, (.bipush 19, 2, 0, 19, 0, 0, 0, 0, 0, 0, [])), (86, (.invokevirtual 128, 3, 1, 0, 0, 0, 36, 4, 0, 0, [])), (89, (.aload_n 0, 1, 0, 0, 0, 0, 0, 0, 0, 0, [])), (90, (.getfield 31, 3, 0, 0, 0, 3, 6, 0, 0, 0, [])), (93, (.ifCond .ne 12, 3, 105, 0, 0, 0, 0, 0, 0, 0, [])), (96, (.aload_n 0, 1, 0, 0, 0, 0, 0, 0, 0, 0, [])), (97, (.invokevirtual 68, 3, 0, 0, 0, 0, 34, 4, 0, 0, [])), (100, (.bipush 19, 2, 0, 19, 0, 0, 0, 0, 0, 0, [])), (102, (.if_icmp .eq 4, 3, 106, 0, 0, 0, 0, 0, 0, 0, [])), (105, (.return_, 1, 0, 0, 0, 0, 0, 0, 0, 0, [])), (106, (.aload_n 0, 1, 0, 0, 0, 0, 0, 0, 0, 0, [])), (107, (.dup, 1, 0, 0, 0, 0, 0, 0, 0, 0, [])), (108, (.getfield 25, 3, 0, 0, 0, 3, 4, 0, 0, 0, [])), (111, (.iconst 1, 1, 0, 1, 0, 0, 0, 0, 0, 0, [])), (112, (.iadd, 1, 0, 0, 0, 0, 0, 0, 0, 0, [])), (113, (.putfield 25, 3, 0, 0, 0, 3, 4, 0, 0, 0, [])), (116, (.iconst 1, 1, 0, 1, 0, 0, 0, 0, 0, 0, [])), (117, (.istore_n 2, 1, 2, 0, 0, 0, 0, 0, 0, 0, [])), (118, (.iinc 3 1, 3, 3, 1, 0, 0, 0, 0, 0, 0, [])), (121, (.goto (-117), 3, 4, 0, 0, 0, 0, 0, 0, 0, [])), (124, (.return_, 1, 0, 0, 0, 0, 0, 0, 0, 0, []))]
set_option maxRecDepth 100000 in
theorem ok_X3_readTest : tb_ok ctX3 m_X3_readTest t_X3_readTest = true := by decide +kernel
theorem i_X3_readTest_0 : tab t_X3_readTest 0 = some (.iconst 0, 1, 0, 0, 0, 0, 0, 0, 0, 0, []) := rfl
theorem i_X3_readTest_1 : tab t_X3_readTest 1 = some (.istore_n 2, 1, 2, 0, 0, 0, 0, 0, 0, 0, []) := rfl
theorem i_X3_readTest_2 : tab t_X3_readTest 2 = some (.iconst 0, 1, 0, 0, 0, 0, 0, 0, 0, 0, []) := rfl
theorem i_X3_readTest_3 : tab t_X3_readTest 3 = some (.istore_n 3, 1, 3, 0, 0, 0, 0, 0, 0, 0, []) := rfl
theorem i_X3_readTest_4 : tab t_X3_readTest 4 = some (.iload_n 3, 1, 3, 0, 0, 0, 0, 0, 0, 0, []) := rfl
theorem i_X3_readTest_5 : tab t_X3_readTest 5 = some (.aload_n 0, 1, 0, 0, 0, 0, 0, 0, 0, 0, []) := rfl
theorem i_X3_readTest_6 : tab t_X3_readTest 6 = some (.getfield 21, 3, 0, 0, 0, 3, 3, 0, 0, 0, []) := rfl
theorem i_X3_readTest_9 : tab t_X3_readTest 9 = some (.if_icmp .ge 115, 3, 124, 0, 0, 0, 0, 0, 0, 0, []) := rfl
theorem i_X3_readTest_12 : tab t_X3_readTest 12 = some (.aload_n 0, 1, 0, 0, 0, 0, 0, 0, 0, 0, []) := rfl
theorem i_X3_readTest_13 : tab t_X3_readTest 13 = some (.getfield 31, 3, 0, 0, 0, 3, 6, 0, 0, 0, []) := rfl
theorem i_X3_readTest_16 : tab t_X3_readTest 16 = some (.ifCond .ne 108, 3, 124, 0, 0, 0, 0, 0, 0, 0, []) := rfl
theorem i_X3_readTest_19 : tab t_X3_readTest 19 = some (.aload_n 0, 1, 0, 0, 0, 0, 0, 0, 0, 0, []) := rfl
theorem i_X3_readTest_20 : tab t_X3_readTest 20 = some (.iload_n 1, 1, 1, 0, 0, 0, 0, 0, 0, 0, []) := rfl
theorem i_X3_readTest_21 : tab t_X3_readTest 21 = some (.invokevirtual 125, 3, 1, 0, 0, 0, 41, 4, 0, 0, []) := rfl
theorem i_X3_readTest_24 : tab t_X3_readTest 24 = some (.iconst 0, 1, 0, 0, 0, 0, 0, 0, 0, 0, []) := rfl
theorem i_X3_readTest_25 : tab t_X3_readTest 25 = some (.istore 4, 2, 4, 0, 0, 0, 0, 0, 0, 0, []) := rfl
theorem i_X3_readTest_27 : tab t_X3_readTest 27 = some (.iload 4, 2, 4, 0, 0, 0, 0, 0, 0, 0, []) := rfl
theorem i_X3_readTest_29 : tab t_X3_readTest 29 = some (.aload_n 0, 1, 0, 0, 0, 0, 0, 0, 0, 0, []) := rfl
theorem i_X3_readTest_30 : tab t_X3_readTest 30 = some (.getfield 21, 3, 0, 0, 0, 3, 3, 0, 0, 0, []) := rfl
theorem i_X3_readTest_33 : tab t_X3_readTest 33 = some (.if_icmp .ge 46, 3, 79, 0, 0, 0, 0, 0, 0, 0, []) := rfl
theorem i_X3_readTest_36 : tab t_X3_readTest 36 = some (.aload_n 0, 1, 0, 0, 0, 0, 0, 0, 0, 0, []) := rfl
theorem i_X3_readTest_37 : tab t_X3_readTest 37 = some (.getfield 31, 3, 0, 0, 0, 3, 6, 0, 0, 0, []) := rfl
theorem i_X3_readTest_40 : tab t_X3_readTest 40 = some (.ifCond .ne 39, 3, 79, 0, 0, 0, 0, 0, 0, 0, []) := rfl
theorem i_X3_readTest_43 : tab t_X3_readTest 43 = some (.aload_n 0, 1, 0, 0, 0, 0, 0, 0, 0, 0, []) := rfl
theorem i_X3_readTest_44 : tab t_X3_readTest 44 = some (.invokevirtual 68, 3, 0, 0, 0, 0, 34, 4, 0, 0, []) := rfl
theorem i_X3_readTest_47 : tab t_X3_readTest 47 = some (.bipush 18, 2, 0, 18, 0, 0, 0, 0, 0, 0, []) := rfl
theorem i_X3_readTest_49 : tab t_X3_readTest 49 = some (.if_icmp .ne 30, 3, 79, 0, 0, 0, 0, 0, 0, 0, []) := rfl
theorem i_X3_readTest_52 : tab t_X3_readTest 52 = some (.aload_n 0, 1, 0, 0, 0, 0, 0, 0, 0, 0, []) := rfl
theorem i_X3_readTest_53 : tab t_X3_readTest 53 = some (.dup, 1, 0, 0, 0, 0, 0, 0, 0, 0, []) := rfl
theorem i_X3_readTest_54 : tab t_X3_readTest 54 = some (.getfield 25, 3, 0, 0, 0, 3, 4, 0, 0, 0, []) := rfl
theorem i_X3_readTest_57 : tab t_X3_readTest 57 = some (.iconst 1, 1, 0, 1, 0, 0, 0, 0, 0, 0, []) := rfl
theorem i_X3_readTest_58 : tab t_X3_readTest 58 = some (.iadd, 1, 0, 0, 0, 0, 0, 0, 0, 0, []) := rfl
theorem i_X3_readTest_59 : tab t_X3_readTest 59 = some (.putfield 25, 3, 0, 0, 0, 3, 4, 0, 0, 0, []) := rfl
theorem i_X3_readTest_62 : tab t_X3_readTest 62 = some (.aload_n 0, 1, 0, 0, 0, 0, 0, 0, 0, 0, []) := rfl
theorem i_X3_readTest_63 : tab t_X3_readTest 63 = some (.iload_n 1, 1, 1, 0, 0, 0, 0, 0, 0, 0, []) := rfl
theorem i_X3_readTest_64 : tab t_X3_readTest 64 = some (.invokevirtual 125, 3, 1, 0, 0, 0, 41, 4, 0, 0, []) := rfl
theorem i_X3_readTest_67 : tab t_X3_readTest 67 = some (.aload_n 0, 1, 0, 0, 0, 0, 0, 0, 0, 0, []) := rfl
theorem i_X3_readTest_68 : tab t_X3_readTest 68 = some (.bipush 18, 2, 0, 18, 0, 0, 0, 0, 0, 0, []) := rfl
theorem i_X3_readTest_70 : tab t_X3_readTest 70 = some (.invokevirtual 128, 3, 1, 0, 0, 0, 36, 4, 0, 0, []) := rfl
theorem i_X3_readTest_73 : tab t_X3_readTest 73 = some (.iinc 4 1, 3, 4, 1, 0, 0, 0, 0, 0, 0, []) := rfl
theorem i_X3_readTest_76 : tab t_X3_readTest 76 = some (.goto (-49), 3, 27, 0, 0, 0, 0, 0, 0, 0, []) := rfl
theorem i_X3_readTest_79 : tab t_X3_readTest 79 = some (.iload_n 2, 1, 2, 0, 0, 0, 0, 0, 0, 0, []) := rfl
theorem i_X3_readTest_80 : tab t_X3_readTest 80 = some (.ifCond .eq 9, 3, 89, 0, 0, 0, 0, 0, 0, 0, []) := rfl
theorem i_X3_readTest_83 : tab t_X3_readTest 83 = some (.aload_n 0, 1, 0, 0, 0, 0, 0, 0, 0, 0, []) := rfl
theorem i_X3_readTest_84 : tab t_X3_readTest 84 = some (.bipush 19, 2, 0, 19, 0, 0, 0, 0, 0, 0, []) := rfl
theorem i_X3_readTest_86 : tab t_X3_readTest 86 = some (.invokevirtual 128, 3, 1, 0, 0, 0, 36, 4, 0, 0, []) := rfl
theorem i_X3_readTest_89 : tab t_X3_readTest 89 = some (.aload_n 0, 1, 0, 0, 0, 0, 0, 0, 0, 0, []) := rfl
theorem i_X3_readTest_90 : tab t_X3_readTest 90 = some (.getfield 31, 3, 0, 0, 0, 3, 6, 0, 0, 0, []) := rfl
theorem i_X3_readTest_93 : tab t_X3_readTest 93 = some (.ifCond .ne 12, 3, 105, 0, 0, 0, 0, 0, 0, 0, []) := rfl
theorem i_X3_readTest_96 : tab t_X3_readTest 96 = some (.aload_n 0, 1, 0, 0, 0, 0, 0, 0, 0, 0, []) := rfl
theorem i_X3_readTest_97 : tab t_X3_readTest 97 = some (.invokevirtual 68, 3, 0, 0, 0, 0, 34, 4, 0, 0, []) := rfl
theorem i_X3_readTest_100 : tab t_X3_readTest 100 = some (.bipush 19, 2, 0, 19, 0, 0, 0, 0, 0, 0, []) := rfl
theorem i_X3_readTest_102 : tab t_X3_readTest 102 = some (.if_icmp .eq 4, 3, 106, 0, 0, 0, 0, 0, 0, 0, []) := rfl
theorem i_X3_readTest_105 : tab t_X3_readTest 105 = some (.return_, 1, 0, 0, 0, 0, 0, 0, 0, 0, []) := rfl
theorem i_X3_readTest_106 : tab t_X3_readTest 106 = some (.aload_n 0, 1, 0, 0, 0, 0, 0, 0, 0, 0, []) := rfl
theorem i_X3_readTest_107 : tab t_X3_readTest 107 = some (.dup, 1, 0, 0, 0, 0, 0, 0, 0, 0, []) := rfl
theorem i_X3_readTest_108 : tab t_X3_readTest 108 = some (.getfield 25, 3, 0, 0, 0, 3, 4, 0, 0, 0, []) := rfl
theorem i_X3_readTest_111 : tab t_X3_readTest 111 = some (.iconst 1, 1, 0, 1, 0, 0, 0, 0, 0, 0, []) := rfl
theorem i_X3_readTest_112 : tab t_X3_readTest 112 = some (.iadd, 1, 0, 0, 0, 0, 0, 0, 0, 0, []) := rfl
theorem i_X3_readTest_113 : tab t_X3_readTest 113 = some (.putfield 25, 3, 0, 0, 0, 3, 4, 0, 0, 0, []) := rfl
theorem i_X3_readTest_116 : tab t_X3_readTest 116 = some (.iconst 1, 1, 0, 1, 0, 0, 0, 0, 0, 0, []) := rfl
theorem i_X3_readTest_117 : tab t_X3_readTest 117 = some (.istore_n 2, 1, 2, 0, 0, 0, 0, 0, 0, 0, []) := rfl
theorem i_X3_readTest_118 : tab t_X3_readTest 118 = some (.iinc 3 1, 3, 3, 1, 0, 0, 0, 0, 0, 0, []) := rfl
theorem i_X3_readTest_121 : tab t_X3_readTest 121 = some (.goto (-117), 3, 4, 0, 0, 0, 0, 0, 0, 0, []) := rfl
theorem i_X3_readTest_124 : tab t_X3_readTest 124 = some (.return_, 1, 0, 0, 0, 0, 0, 0, 0, 0, []) := rfl
def t_X3_readFact : List (Nat × rw_) := [(0, (.aload_n 0, 1, 0, 0, 0, 0, 0, 0, 0, 0, [])), (1, (.invokevirtual 68, 3, 0, 0, 0, 0, 34, 4, 0, 0, [])), (4, (.istore_n 2, 1, 2, 0, 0, 0, 0, 0, 0, 0, [])), (5, (.iload_n 2, 1, 2, 0, 0, 0, 0, 0, 0, 0, [])), (6, (.bipush 20, 2, 0, 20, 0, 0, 0, 0, 0, 0, [])), (8, (.if_icmp .eq 30, 3, 38, 0, 0, 0, 0, 0, 0, 0, [])), (11, (.iload_n 2, 1, 2, 0, 0, 0, 0, 0, 0, 0, [])), (12, (.bipush 30, 2, 0, 30, 0, 0, 0, 0, 0, 0, [])), (14, (.if_icmp .eq 24, 3, 38, 0, 0, 0, 0, 0, 0, 0, [])), (17, (.aload_n 0, 1, 0, 0, 0, 0, 0, 0, 0, 0, [])), (18, (.invokevirtual 131, 3, 0, 0, 0, 0, 43, 4, 0, 0, [])), (21, (.aload_n 0, 1, 0, 0, 0, 0, 0, 0, 0, 0, [])), (22, (.invokevirtual 134, 3, 0, 0, 0, 0, 42, 4, 0, 0, [])), (25, (.istore_n 3, 1, 3, 0, 0, 0, 0, 0, 0, 0, [])), (26, (.aload_n 0, 1, 0, 0, 0, 0, 0, 0, 0, 0, [])), (27, (.invokevirtual 131, 3, 0, 0, 0, 0, 43, 4, 0, 0, [])), (30, (.aload_n 0, 1, 0, 0, 0, 0, 0, 0, 0, 0, [])), (31, (.iload_n 3, 1, 3, 0, 0, 0, 0, 0, 0, 0, [])), (32, (.invokevirtual 128, 3, 1, 0, 0, 0, 36, 4, 0, 0, [])), (35, (.goto 101, 3, 136, 0, 0, 0, 0, 0, 0, 0, [])), (38, (.iload_n 1, 1, 1, 0, 0, 0, 0, 0, 0, 0, [])), (39, (.bipush 10, 2, 0, 10, 0, 0, 0, 0, 0, 0, [])), (41, (.if_icmp .lt 11, 3, 52, 0, 0, 0, 0, 0, 0, 0, [])), (44, (.aload_n 0, 1, 0, 0, 0, 0, 0, 0, 0, 0, [])), (45, (.iconst 2, 1, 0, 2, 0, 0, 0, 0, 0, 0, [])), (46, (.invokevirtual 72, 3, 1, 0, 0, 0, 35, 4, 0, 0, [])), (49, (.goto 87, 3, 136, 0, 0, 0, 0, 0, 0, 0, [])), (52, (.iload_n 2, 1, 2, 0, 0, 0, 0, 0, 0, 0, [])), (53, (.bipush 20, 2, 0, 20, 0, 0, 0, 0, 0, 0, [])), (55, (.if_icmp .ne 29, 3, 84, 0, 0, 0, 0, 0, 0, 0, [])), (58, (.aload_n 0, 1, 0, 0, 0, 0, 0, 0, 0, 0, [])), (59, (.dup, 1, 0, 0, 0, 0, 0, 0, 0, 0, [])), (60, (.getfield 25, 3, 0, 0, 0, 3, 4, 0, 0, 0, [])), (63, (.iconst 1, 1, 0, 1, 0, 0, 0, 0, 0, 0, [])), (64, (.iadd, 1, 0, 0, 0, 0, 0, 0, 0, 0, [])), (65, (.putfield 25, 3, 0, 0, 0, 3, 4, 0, 0, 0, [])), (68, (.aload_n 0, 1, 0, 0, 0, 0, 0, 0, 0, 0, [])), (69, (.iload_n 1, 1, 1, 0, 0, 0, 0, 0, 0, 0, [])), (70, (.iconst 1, 1, 0, 1, 0, 0, 0, 0, 0, 0, [])), (71, (.iadd, 1, 0, 0, 0, 0, 0, 0, 0, 0, [])), (72, (.invokevirtual 125, 3, 1, 0, 0, 0, 41, 4, 0, 0, [])), (75, (.aload_n 0, 1, 0, 0, 0, 0, 0, 0, 0, 0, [])), (76, (.bipush 20, 2, 0, 20, 0, 0, 0, 0, 0, 0, [])), (78, (.invokevirtual 128, 3, 1, 0, 0, 0, 36, 4, 0, 0, [])), (81, (.goto 55, 3, 136, 0, 0, 0, 0, 0, 0, 0, [])), (84, (.aload_n 0, 1, 0, 0, 0, 0, 0, 0, 0, 0, [])), (85, (.dup, 1, 0, 0, 0, 0, 0, 0, 0, 0, [])), (86, (.getfield 25, 3, 0, 0, 0, 3, 4, 0, 0, 0, [])), (89, (.iconst 1, 1, 0, 1, 0, 0, 0, 0, 0, 0, [])), (90, (.iadd, 1, 0, 0, 0, 0, 0, 0, 0, 0, [])), (91, (.putfield 25, 3, 0, 0, 0, 3, 4, 0, 0, 0, [])), (94, (.aload_n 0, 1, 0, 0, 0, 0, 0, 0, 0, 0, [])), (95, (.iload_n 1, 1, 1, 0, 0, 0, 0, 0, 0, 0, [])), (96, (.iconst 1, 1, 0, 1, 0, 0, 0, 0, 0, 0, [])), (97, (.iadd, 1, 0, 0, 0, 0, 0, 0, 0, 0, [])), (98, (.invokevirtual 119, 3, 1, 0, 0, 0, 40, 4, 0, 0, [])), (101, (.aload_n 0, 1, 0, 0, 0, 0, 0, 0, 0, 0, [])), (102, (.invokevirtual 68, 3, 0, 0, 0, 0, 34, 4, 0, 0, [])), (105, (.bipush 31, 2, 0, 31, 0, 0, 0, 0, 0, 0, [])), (107, (.if_icmp .eq 8, 3, 115, 0, 0, 0, 0, 0, 0, 0, [])), (110, (.aload_n 0, 1, 0, 0, 0, 0, 0, 0, 0, 0, [])), (111, (.iconst 0, 1, 0, 0, 0, 0, 0, 0, 0, 0, [])), (112, (.invokevirtual 72, 3, 1, 0, 0, 0, 35, 4, 0, 0, [])), (115, (.aload_n 0, 1, 0, 0, 0, 0, 0, 0, 0, 0, [])), (116, (.dup, 1, 0, 0, 0, 0, 0, 0, 0, 0, [])), (117, (.getfield 25, 3, 0, 0, 0, 3, 4, 0, 0, 0, [])), (120, (.aload_n 0, 1, 0, 0, 0, 0, 0, 0, 0, 0, [])), (121, (.getfield 31, 3, 0, 0, 0, 3, 6, 0, 0, 0, [])), (124, (.ifCond .ne 7, 3, 131, 0, 0, 0, 0, 0, 0, 0, [])), (127, (.iconst 1, 1, 0, 1, 0, 0, 0, 0, 0, 0, [])), (128, (.goto 4, 3, 132, 0, 0, 0, 0, 0, 0, 0, [])), (131, (.iconst 0, 1, 0, 0, 0, 0, 0, 0, 0, 0, [])), (132, (.iadd, 1, 0, 0, 0, 0, 0, 0, 0, 0, [])), (133, (.putfield 25, 3, 0, 0, 0, 3, 4, 0, 0, 0, [])), (136, (.return_, 1, 0, 0, 0, 0, 0, 0, 0, 0, []))]
set_option maxRecDepth 100000 in
theorem ok_X3_readFact : tb_ok ctX3 m_X3_readFact t_X3_readFact = true := by decide +kernel
theorem i_X3_readFact_0 : tab t_X3_readFact 0 = some (.aload_n 0, 1, 0, 0, 0, 0, 0, 0, 0, 0, []) := rfl
theorem i_X3_readFact_1 : tab t_X3_readFact 1 = some (.invokevirtual 68, 3, 0, 0, 0, 0, 34, 4, 0, 0, []) := rfl
theorem i_X3_readFact_4 : tab t_X3_readFact 4 = some (.istore_n 2, 1, 2, 0, 0, 0, 0, 0, 0, 0, []) := rfl
theorem i_X3_readFact_5 : tab t_X3_readFact 5 = some (.iload_n 2, 1, 2, 0, 0, 0, 0, 0, 0, 0, []) := rfl
theorem i_X3_readFact_6 : tab t_X3_readFact 6 = some (.bipush 20, 2, 0, 20, 0, 0, 0, 0, 0, 0, []) := rfl
theorem i_X3_readFact_8 : tab t_X3_readFact 8 = some (.if_icmp .eq 30, 3, 38, 0, 0, 0, 0, 0, 0, 0, []) := rfl
theorem i_X3_readFact_11 : tab t_X3_readFact 11 = some (.iload_n 2, 1, 2, 0, 0, 0, 0, 0, 0, 0, []) := rfl
theorem i_X3_readFact_12 : tab t_X3_readFact 12 = some (.bipush 30, 2, 0, 30, 0, 0, 0, 0, 0, 0, []) := rfl
theorem i_X3_readFact_14 : tab t_X3_readFact 14 = some (.if_icmp .eq 24, 3, 38, 0, 0, 0, 0, 0, 0, 0, []) := rfl
theorem i_X3_readFact_17 : tab t_X3_readFact 17 = some (.aload_n 0, 1, 0, 0, 0, 0, 0, 0, 0, 0, []) := rfl
theorem i_X3_readFact_18 : tab t_X3_readFact 18 = some (.invokevirtual 131, 3, 0, 0, 0, 0, 43, 4, 0, 0, []) := rfl
theorem i_X3_readFact_21 : tab t_X3_readFact 21 = some (.aload_n 0, 1, 0, 0, 0, 0, 0, 0, 0, 0, []) := rfl
theorem i_X3_readFact_22 : tab t_X3_readFact 22 = some (.invokevirtual 134, 3, 0, 0, 0, 0, 42, 4, 0, 0, []) := rfl
theorem i_X3_readFact_25 : tab t_X3_readFact 25 = some (.istore_n 3, 1, 3, 0, 0, 0, 0, 0, 0, 0, []) := rfl
theorem i_X3_readFact_26 : tab t_X3_readFact 26 = some (.aload_n 0, 1, 0, 0, 0, 0, 0, 0, 0, 0, []) := rfl
theorem i_X3_readFact_27 : tab t_X3_readFact 27 = some (.invokevirtual 131, 3, 0, 0, 0, 0, 43, 4, 0, 0, []) := rfl
theorem i_X3_readFact_30 : tab t_X3_readFact 30 = some (.aload_n 0, 1, 0, 0, 0, 0, 0, 0, 0, 0, []) := rfl
theorem i_X3_readFact_31 : tab t_X3_readFact 31 = some (.iload_n 3, 1, 3, 0, 0, 0, 0, 0, 0, 0, []) := rfl
theorem i_X3_readFact_32 : tab t_X3_readFact 32 = some (.invokevirtual 128, 3, 1, 0, 0, 0, 36, 4, 0, 0, []) := rfl
theorem i_X3_readFact_35 : tab t_X3_readFact 35 = some (.goto 101, 3, 136, 0, 0, 0, 0, 0, 0, 0, []) := rfl
theorem i_X3_readFact_38 : tab t_X3_readFact 38 = some (.iload_n 1, 1, 1, 0, 0, 0, 0, 0, 0, 0, []) := rfl
theorem i_X3_readFact_39 : tab t_X3_readFact 39 = some (.bipush 10, 2, 0, 10, 0, 0, 0, 0, 0, 0, []) := rfl
theorem i_X3_readFact_41 : tab t_X3_readFact 41 = some (.if_icmp .lt 11, 3, 52, 0, 0, 0, 0, 0, 0, 0, []) := rfl
theorem i_X3_readFact_44 : tab t_X3_readFact 44 = some (.aload_n 0, 1, 0, 0, 0, 0, 0, 0, 0, 0, []) := rfl
theorem i_X3_readFact_45 : tab t_X3_readFact 45 = some (.iconst 2, 1, 0, 2, 0, 0, 0, 0, 0, 0, []) := rfl
theorem i_X3_readFact_46 : tab t_X3_readFact 46 = some (.invokevirtual 72, 3, 1, 0, 0, 0, 35, 4, 0, 0, []) := rfl
theorem i_X3_readFact_49 : tab t_X3_readFact 49 = some (.goto 87, 3, 136, 0, 0, 0, 0, 0, 0, 0, []) := rfl
theorem i_X3_readFact_52 : tab t_X3_readFact 52 = some (.iload_n 2, 1, 2, 0, 0, 0, 0, 0, 0, 0, []) := rfl
theorem i_X3_readFact_53 : tab t_X3_readFact 53 = some (.bipush 20, 2, 0, 20, 0, 0, 0, 0, 0, 0, []) := rfl
theorem i_X3_readFact_55 : tab t_X3_readFact 55 = some (.if_icmp .ne 29, 3, 84, 0, 0, 0, 0, 0, 0, 0, []) := rfl
theorem i_X3_readFact_58 : tab t_X3_readFact 58 = some (.aload_n 0, 1, 0, 0, 0, 0, 0, 0, 0, 0, []) := rfl
theorem i_X3_readFact_59 : tab t_X3_readFact 59 = some (.dup, 1, 0, 0, 0, 0, 0, 0, 0, 0, []) := rfl
theorem i_X3_readFact_60 : tab t_X3_readFact 60 = some (.getfield 25, 3, 0, 0, 0, 3, 4, 0, 0, 0, []) := rfl
theorem i_X3_readFact_63 : tab t_X3_readFact 63 = some (.iconst 1, 1, 0, 1, 0, 0, 0, 0, 0, 0, []) := rfl
theorem i_X3_readFact_64 : tab t_X3_readFact 64 = some (.iadd, 1, 0, 0, 0, 0, 0, 0, 0, 0, []) := rfl
theorem i_X3_readFact_65 : tab t_X3_readFact 65 = some (.putfield 25, 3, 0, 0, 0, 3, 4, 0, 0, 0, []) := rfl
theorem i_X3_readFact_68 : tab t_X3_readFact 68 = some (.aload_n 0, 1, 0, 0, 0, 0, 0, 0, 0, 0, []) := rfl
theorem i_X3_readFact_69 : tab t_X3_readFact 69 = some (.iload_n 1, 1, 1, 0, 0, 0, 0, 0, 0, 0, []) := rfl
theorem i_X3_readFact_70 : tab t_X3_readFact 70 = some (.iconst 1, 1, 0, 1, 0, 0, 0, 0, 0, 0, []) := rfl
theorem i_X3_readFact_71 : tab t_X3_readFact 71 = some (.iadd, 1, 0, 0, 0, 0, 0, 0, 0, 0, []) := rfl
theorem i_X3_readFact_72 : tab t_X3_readFact 72 = some (.invokevirtual 125, 3, 1, 0, 0, 0, 41, 4, 0, 0, []) := rfl
theorem i_X3_readFact_75 : tab t_X3_readFact 75 = some (.aload_n 0, 1, 0, 0, 0, 0, 0, 0, 0, 0, []) := rfl
theorem i_X3_readFact_76 : tab t_X3_readFact 76 = some (.bipush 20, 2, 0, 20, 0, 0, 0, 0, 0, 0, []) := rfl
theorem i_X3_readFact_78 : tab t_X3_readFact 78 = some (.invokevirtual 128, 3, 1, 0, 0, 0, 36, 4, 0, 0, []) := rfl
theorem i_X3_readFact_81 : tab t_X3_readFact 81 = some (.goto 55, 3, 136, 0, 0, 0, 0, 0, 0, 0, []) := rfl
theorem i_X3_readFact_84 : tab t_X3_readFact 84 = some (.aload_n 0, 1, 0, 0, 0, 0, 0, 0, 0, 0, []) := rfl
theorem i_X3_readFact_85 : tab t_X3_readFact 85 = some (.dup, 1, 0, 0, 0, 0, 0, 0, 0, 0, []) := rfl
theorem i_X3_readFact_86 : tab t_X3_readFact 86 = some (.getfield 25, 3, 0, 0, 0, 3, 4, 0, 0, 0, []) := rfl
theorem i_X3_readFact_89 : tab t_X3_readFact 89 = some (.iconst 1, 1, 0, 1, 0, 0, 0, 0, 0, 0, []) := rfl
theorem i_X3_readFact_90 : tab t_X3_readFact 90 = some (.iadd, 1, 0, 0, 0, 0, 0, 0, 0, 0, []) := rfl
theorem i_X3_readFact_91 : tab t_X3_readFact 91 = some (.putfield 25, 3, 0, 0, 0, 3, 4, 0, 0, 0, []) := rfl
theorem i_X3_readFact_94 : tab t_X3_readFact 94 = some (.aload_n 0, 1, 0, 0, 0, 0, 0, 0, 0, 0, []) := rfl
theorem i_X3_readFact_95 : tab t_X3_readFact 95 = some (.iload_n 1, 1, 1, 0, 0, 0, 0, 0, 0, 0, []) := rfl
theorem i_X3_readFact_96 : tab t_X3_readFact 96 = some (.iconst 1, 1, 0, 1, 0, 0, 0, 0, 0, 0, []) := rfl
theorem i_X3_readFact_97 : tab t_X3_readFact 97 = some (.iadd, 1, 0, 0, 0, 0, 0, 0, 0, 0, []) := rfl
theorem i_X3_readFact_98 : tab t_X3_readFact 98 = some (.invokevirtual 119, 3, 1, 0, 0, 0, 40, 4, 0, 0, []) := rfl
theorem i_X3_readFact_101 : tab t_X3_readFact 101 = some (.aload_n 0, 1, 0, 0, 0, 0, 0, 0, 0, 0, []) := rfl
theorem i_X3_readFact_102 : tab t_X3_readFact 102 = some (.invokevirtual 68, 3, 0, 0, 0, 0, 34, 4, 0, 0, []) := rfl
theorem i_X3_readFact_105 : tab t_X3_readFact 105 = some (.bipush 31, 2, 0, 31, 0, 0, 0, 0, 0, 0, []) := rfl
theorem i_X3_readFact_107 : tab t_X3_readFact 107 = some (.if_icmp .eq 8, 3, 115, 0, 0, 0, 0, 0, 0, 0, []) := rfl
theorem i_X3_readFact_110 : tab t_X3_readFact 110 = some (.aload_n 0, 1, 0, 0, 0, 0, 0, 0, 0, 0, []) := rfl
theorem i_X3_readFact_111 : tab t_X3_readFact 111 = some (.iconst 0, 1, 0, 0, 0, 0, 0, 0, 0, 0, []) := rfl
theorem i_X3_readFact_112 : tab t_X3_readFact 112 = some (.invokevirtual 72, 3, 1, 0, 0, 0, 35, 4, 0, 0, []) := rfl
theorem i_X3_readFact_115 : tab t_X3_readFact 115 = some (.aload_n 0, 1, 0, 0, 0, 0, 0, 0, 0, 0, []) := rfl
theorem i_X3_readFact_116 : tab t_X3_readFact 116 = some (.dup, 1, 0, 0, 0, 0, 0, 0, 0, 0, []) := rfl
theorem i_X3_readFact_117 : tab t_X3_readFact 117 = some (.getfield 25, 3, 0, 0, 0, 3, 4, 0, 0, 0, []) := rfl
theorem i_X3_readFact_120 : tab t_X3_readFact 120 = some (.aload_n 0, 1, 0, 0, 0, 0, 0, 0, 0, 0, []) := rfl
theorem i_X3_readFact_121 : tab t_X3_readFact 121 = some (.getfield 31, 3, 0, 0, 0, 3, 6, 0, 0, 0, []) := rfl
theorem i_X3_readFact_124 : tab t_X3_readFact 124 = some (.ifCond .ne 7, 3, 131, 0, 0, 0, 0, 0, 0, 0, []) := rfl
theorem i_X3_readFact_127 : tab t_X3_readFact 127 = some (.iconst 1, 1, 0, 1, 0, 0, 0, 0, 0, 0, []) := rfl
theorem i_X3_readFact_128 : tab t_X3_readFact 128 = some (.goto 4, 3, 132, 0, 0, 0, 0, 0, 0, 0, []) := rfl
theorem i_X3_readFact_131 : tab t_X3_readFact 131 = some (.iconst 0, 1, 0, 0, 0, 0, 0, 0, 0, 0, []) := rfl
theorem i_X3_readFact_132 : tab t_X3_readFact 132 = some (.iadd, 1, 0, 0, 0, 0, 0, 0, 0, 0, []) := rfl
theorem i_X3_readFact_133 : tab t_X3_readFact 133 = some (.putfield 25, 3, 0, 0, 0, 3, 4, 0, 0, 0, []) := rfl
theorem i_X3_readFact_136 : tab t_X3_readFact 136 = some (.return_, 1, 0, 0, 0, 0, 0, 0, 0, 0, []) := rfl
def t_X3_takeSign : List (Nat × rw_) := [(0, (.aload_n 0, 1, 0, 0, 0, 0, 0, 0, 0, 0, [])), (1, (.invokevirtual 68, 3, 0, 0, 0, 0, 34, 4, 0, 0, [])), (4, (.istore_n 1, 1, 1, 0, 0, 0, 0, 0, 0, 0, [])), (5, (.iload_n 1, 1, 1, 0, 0, 0, 0, 0, 0, 0, [])), (6, (.bipush 25, 2, 0, 25, 0, 0, 0, 0, 0, 0, [])), (8, (.if_icmp .lt 9, 3, 17, 0, 0, 0, 0, 0, 0, 0, [])), (11, (.iload_n 1, 1, 1, 0, 0, 0, 0, 0, 0, 0, [])), (12, (.bipush 29, 2, 0, 29, 0, 0, 0, 0, 0, 0, [])), (14, (.if_icmp .le 11, 3, 25, 0, 0, 0, 0, 0, 0, 0, [])), (17, (.aload_n 0, 1, 0, 0, 0, 0, 0, 0, 0, 0, [])), (18, (.iconst 0, 1, 0, 0, 0, 0, 0, 0, 0, 0, [])), (19, (.invokevirtual 72, 3, 1, 0, 0, 0, 35, 4, 0, 0, [])), (22, (.goto 40, 3, 62, 0, 0, 0, 0, 0, 0, 0, [])), (25, (.aload_n 0, 1, 0, 0, 0, 0, 0, 0, 0, 0, [])), (26, (.getfield 28, 3, 0, 0, 0, 3, 5, 0, 0, 0, [])), (29, (.bipush 60, 2, 0, 60, 0, 0, 0, 0, 0, 0, [])), (31, (.if_icmp .lt 11, 3, 42, 0, 0, 0, 0, 0, 0, 0, [])), (34, (.aload_n 0, 1, 0, 0, 0, 0, 0, 0, 0, 0, [])), (35, (.iconst 3, 1, 0, 3, 0, 0, 0, 0, 0, 0, [])), (36, (.invokevirtual 72, 3, 1, 0, 0, 0, 35, 4, 0, 0, [])), (39, (.goto 23, 3, 62, 0, 0, 0, 0, 0, 0, 0, [])), (42, (.aload_n 0, 1, 0, 0, 0, 0, 0, 0, 0, 0, [])), (43, (.dup, 1, 0, 0, 0, 0, 0, 0, 0, 0, [])), (44, (.getfield 28, 3, 0, 0, 0, 3, 5, 0, 0, 0, [])), (47, (.iconst 1, 1, 0, 1, 0, 0, 0, 0, 0, 0, [])), (48, (.iadd, 1, 0, 0, 0, 0, 0, 0, 0, 0, [])), (49, (.putfield 28, 3, 0, 0, 0, 3, 5, 0, 0, 0, [])), (52, (.aload_n 0, 1, 0, 0, 0, 0, 0, 0, 0, 0, [])), (53, (.dup, 1, 0, 0, 0, 0, 0, 0, 0, 0, [])), (54, (.getfield 25, 3, 0, 0, 0, 3, 4, 0, 0, 0, [])), (57, (.iconst 1, 1, 0, 1, 0, 0, 0, 0, 0, 0, [])), (58, (.iadd, 1, 0, 0, 0, 0, 0, 0, 0, 0, [])), (59, (.putfield 25, 3, 0, 0, 0, 3, 4, 0, 0, 0, [])), (62, (.iload_n 1, 1, 1, 0, 0, 0, 0, 0, 0, 0, [])), (63, (.ireturn, 1, 0, 0, 0, 0, 0, 0, 0, 0, []))]
set_option maxRecDepth 100000 in
theorem ok_X3_takeSign : tb_ok ctX3 m_X3_takeSign t_X3_takeSign = true := by decide +kernel
theorem i_X3_takeSign_0 : tab t_X3_takeSign 0 = some (.aload_n 0, 1, 0, 0, 0, 0, 0, 0, 0, 0, []) := rfl
theorem i_X3_takeSign_1 : tab t_X3_takeSign 1 = some (.invokevirtual 68, 3, 0, 0, 0, 0, 34, 4, 0, 0, []) := rfl
theorem i_X3_takeSign_4 : tab t_X3_takeSign 4 = some (.istore_n 1, 1, 1, 0, 0, 0, 0, 0, 0, 0, []) := rfl
theorem i_X3_takeSign_5 : tab t_X3_takeSign 5 = some (.iload_n 1, 1, 1, 0, 0, 0, 0, 0, 0, 0, []) := rfl
theorem i_X3_takeSign_6 : tab t_X3_takeSign 6 = some (.bipush 25, 2, 0, 25, 0, 0, 0, 0, 0, 0, []) := rfl
theorem i_X3_takeSign_8 : tab t_X3_takeSign 8 = some (.if_icmp .lt 9, 3, 17, 0, 0, 0, 0, 0, 0, 0, []) := rfl
theorem i_X3_takeSign_11 : tab t_X3_takeSign 11 = some (.iload_n 1, 1, 1, 0, 0, 0, 0, 0, 0, 0, []) := rfl
theorem i_X3_takeSign_12 : tab t_X3_takeSign 12 = some (.bipush 29, 2, 0, 29, 0, 0, 0, 0, 0, 0, []) := rfl
theorem i_X3_takeSign_14 : tab t_X3_takeSign 14 = some (.if_icmp .le 11, 3, 25, 0, 0, 0, 0, 0, 0, 0, []) := rfl
theorem i_X3_takeSign_17 : tab t_X3_takeSign 17 = some (.aload_n 0, 1, 0, 0, 0, 0, 0, 0, 0, 0, []) := rfl
theorem i_X3_takeSign_18 : tab t_X3_takeSign 18 = some (.iconst 0, 1, 0, 0, 0, 0, 0, 0, 0, 0, []) := rfl
theorem i_X3_takeSign_19 : tab t_X3_takeSign 19 = some (.invokevirtual 72, 3, 1, 0, 0, 0, 35, 4, 0, 0, []) := rfl
theorem i_X3_takeSign_22 : tab t_X3_takeSign 22 = some (.goto 40, 3, 62, 0, 0, 0, 0, 0, 0, 0, []) := rfl
theorem i_X3_takeSign_25 : tab t_X3_takeSign 25 = some (.aload_n 0, 1, 0, 0, 0, 0, 0, 0, 0, 0, []) := rfl
theorem i_X3_takeSign_26 : tab t_X3_takeSign 26 = some (.getfield 28, 3, 0, 0, 0, 3, 5, 0, 0, 0, []) := rfl
theorem i_X3_takeSign_29 : tab t_X3_takeSign 29 = some (.bipush 60, 2, 0, 60, 0, 0, 0, 0, 0, 0, []) := rfl
theorem i_X3_takeSign_31 : tab t_X3_takeSign 31 = some (.if_icmp .lt 11, 3, 42, 0, 0, 0, 0, 0, 0, 0, []) := rfl
theorem i_X3_takeSign_34 : tab t_X3_takeSign 34 = some (.aload_n 0, 1, 0, 0, 0, 0, 0, 0, 0, 0, []) := rfl
theorem i_X3_takeSign_35 : tab t_X3_takeSign 35 = some (.iconst 3, 1, 0, 3, 0, 0, 0, 0, 0, 0, []) := rfl
theorem i_X3_takeSign_36 : tab t_X3_takeSign 36 = some (.invokevirtual 72, 3, 1, 0, 0, 0, 35, 4, 0, 0, []) := rfl
theorem i_X3_takeSign_39 : tab t_X3_takeSign 39 = some (.goto 23, 3, 62, 0, 0, 0, 0, 0, 0, 0, []) := rfl
theorem i_X3_takeSign_42 : tab t_X3_takeSign 42 = some (.aload_n 0, 1, 0, 0, 0, 0, 0, 0, 0, 0, []) := rfl
theorem i_X3_takeSign_43 : tab t_X3_takeSign 43 = some (.dup, 1, 0, 0, 0, 0, 0, 0, 0, 0, []) := rfl
theorem i_X3_takeSign_44 : tab t_X3_takeSign 44 = some (.getfield 28, 3, 0, 0, 0, 3, 5, 0, 0, 0, []) := rfl
theorem i_X3_takeSign_47 : tab t_X3_takeSign 47 = some (.iconst 1, 1, 0, 1, 0, 0, 0, 0, 0, 0, []) := rfl
theorem i_X3_takeSign_48 : tab t_X3_takeSign 48 = some (.iadd, 1, 0, 0, 0, 0, 0, 0, 0, 0, []) := rfl
theorem i_X3_takeSign_49 : tab t_X3_takeSign 49 = some (.putfield 28, 3, 0, 0, 0, 3, 5, 0, 0, 0, []) := rfl
theorem i_X3_takeSign_52 : tab t_X3_takeSign 52 = some (.aload_n 0, 1, 0, 0, 0, 0, 0, 0, 0, 0, []) := rfl
theorem i_X3_takeSign_53 : tab t_X3_takeSign 53 = some (.dup, 1, 0, 0, 0, 0, 0, 0, 0, 0, []) := rfl
theorem i_X3_takeSign_54 : tab t_X3_takeSign 54 = some (.getfield 25, 3, 0, 0, 0, 3, 4, 0, 0, 0, []) := rfl
theorem i_X3_takeSign_57 : tab t_X3_takeSign 57 = some (.iconst 1, 1, 0, 1, 0, 0, 0, 0, 0, 0, []) := rfl
theorem i_X3_takeSign_58 : tab t_X3_takeSign 58 = some (.iadd, 1, 0, 0, 0, 0, 0, 0, 0, 0, []) := rfl
theorem i_X3_takeSign_59 : tab t_X3_takeSign 59 = some (.putfield 25, 3, 0, 0, 0, 3, 4, 0, 0, 0, []) := rfl
theorem i_X3_takeSign_62 : tab t_X3_takeSign 62 = some (.iload_n 1, 1, 1, 0, 0, 0, 0, 0, 0, 0, []) := rfl
theorem i_X3_takeSign_63 : tab t_X3_takeSign 63 = some (.ireturn, 1, 0, 0, 0, 0, 0, 0, 0, 0, []) := rfl
def t_X3_readSum : List (Nat × rw_) := [(0, (.aload_n 0, 1, 0, 0, 0, 0, 0, 0, 0, 0, [])), (1, (.getfield 31, 3, 0, 0, 0, 3, 6, 0, 0, 0, [])), (4, (.ifCond .eq 4, 3, 8, 0, 0, 0, 0, 0, 0, 0, [])), (7, (.return_, 1, 0, 0, 0, 0, 0, 0, 0, 0, [])), (8, (.aload_n 0, 1, 0, 0, 0, 0, 0, 0, 0, 0, [])), (9, (.invokevirtual 137, 3, 0, 0, 0, 0, 44, 4, 0, 0, [])), (12, (.iconst 0, 1, 0, 0, 0, 0, 0, 0, 0, 0, [])), (13, (.istore_n 1, 1, 1, 0, 0, 0, 0, 0, 0, 0, [])), (14, (.iload_n 1, 1, 1, 0, 0, 0, 0, 0, 0, 0, [])), (15, (.aload_n 0, 1, 0, 0, 0, 0, 0, 0, 0, 0, [])), (16, (.getfield 21, 3, 0, 0, 0, 3, 3, 0, 0, 0, [])), (19, (.if_icmp .ge 58, 3, 77, 0, 0, 0, 0, 0, 0, 0, [])), (22, (.aload_n 0, 1, 0, 0, 0, 0, 0, 0, 0, 0, [])), (23, (.getfield 31, 3, 0, 0, 0, 3, 6, 0, 0, 0, [])), (26, (.ifCond .ne 51, 3, 77, 0, 0, 0, 0, 0, 0, 0, [])), (29, (.aload_n 0, 1, 0, 0, 0, 0, 0, 0, 0, 0, [])), (30, (.invokevirtual 68, 3, 0, 0, 0, 0, 34, 4, 0, 0, [])), (33, (.bipush 23, 2, 0, 23, 0, 0, 0, 0, 0, 0, [])), (35, (.if_icmp .eq 12, 3, 47, 0, 0, 0, 0, 0, 0, 0, [])), (38, (.aload_n 0, 1, 0, 0, 0, 0, 0, 0, 0, 0, [])), (39, (.invokevirtual 68, 3, 0, 0, 0, 0, 34, 4, 0, 0, [])), (42, (.bipush 24, 2, 0, 24, 0, 0, 0, 0, 0, 0, [])), (44, (.if_icmp .ne 33, 3, 77, 0, 0, 0, 0, 0, 0, 0, [])), (47, (.aload_n 0, 1, 0, 0, 0, 0, 0, 0, 0, 0, [])), (48, (.invokevirtual 68, 3, 0, 0, 0, 0, 34, 4, 0, 0, [])), (51, (.istore_n 2, 1, 2, 0, 0, 0, 0, 0, 0, 0, [])), (52, (.aload_n 0, 1, 0, 0, 0, 0, 0, 0, 0, 0, [])), (53, (.dup, 1, 0, 0, 0, 0, 0, 0, 0, 0, [])), (54, (.getfield 25, 3, 0, 0, 0, 3, 4, 0, 0, 0, [])), (57, (.iconst 1, 1, 0, 1, 0, 0, 0, 0, 0, 0, [])), (58, (.iadd, 1, 0, 0, 0, 0, 0, 0, 0, 0, [])), (59, (.putfield 25, 3, 0, 0, 0, 3, 4, 0, 0, 0, [])), (62, (.aload_n 0, 1, 0, 0, 0, 0, 0, 0, 0, 0, [])), (63, (.invokevirtual 137, 3, 0, 0, 0, 0, 44, 4, 0, 0, [])), (66, (.aload_n 0, 1, 0, 0, 0, 0, 0, 0, 0, 0, [])), (67, (.iload_n 2, 1, 2, 0, 0, 0, 0, 0, 0, 0, [])), (68, (.invokevirtual 128, 3, 1, 0, 0, 0, 36, 4, 0, 0, [])), (71, (.iinc 1 1, 3, 1, 1, 0, 0, 0, 0, 0, 0, [])), (74, (.goto (-60), 3, 14, 0, 0, 0, 0, 0, 0, 0, [])), (77, (.return_, 1, 0, 0, 0, 0, 0, 0, 0, 0, []))]
set_option maxRecDepth 100000 in
theorem ok_X3_readSum : tb_ok ctX3 m_X3_readSum t_X3_readSum = true := by decide +kernel
theorem i_X3_readSum_0 : tab t_X3_readSum 0 = some (.aload_n 0, 1, 0, 0, 0, 0, 0, 0, 0, 0, []) := rfl
theorem i_X3_readSum_1 : tab t_X3_readSum 1 = some (.getfield 31, 3, 0, 0, 0, 3, 6, 0, 0, 0, []) := rfl
theorem i_X3_readSum_4 : tab t_X3_readSum 4 = some (.ifCond .eq 4, 3, 8, 0, 0, 0, 0, 0, 0, 0, []) := rfl
theorem i_X3_readSum_7 : tab t_X3_readSum 7 = some (.return_, 1, 0, 0, 0, 0, 0, 0, 0, 0, []) := rfl
theorem i_X3_readSum_8 : tab t_X3_readSum 8 = some (.aload_n 0, 1, 0, 0, 0, 0, 0, 0, 0, 0, []) := rfl
theorem i_X3_readSum_9 : tab t_X3_readSum 9 = some (.invokevirtual 137, 3, 0, 0, 0, 0, 44, 4, 0, 0, []) := rfl
theorem i_X3_readSum_12 : tab t_X3_readSum 12 = some (.iconst 0, 1, 0, 0, 0, 0, 0, 0, 0, 0, []) := rfl
theorem i_X3_readSum_13 : tab t_X3_readSum 13 = some (.istore_n 1, 1, 1, 0, 0, 0, 0, 0, 0, 0, []) := rfl
theorem i_X3_readSum_14 : tab t_X3_readSum 14 = some (.iload_n 1, 1, 1, 0, 0, 0, 0, 0, 0, 0, []) := rfl
theorem i_X3_readSum_15 : tab t_X3_readSum 15 = some (.aload_n 0, 1, 0, 0, 0, 0, 0, 0, 0, 0, []) := rfl
theorem i_X3_readSum_16 : tab t_X3_readSum 16 = some (.getfield 21, 3, 0, 0, 0, 3, 3, 0, 0, 0, []) := rfl
theorem i_X3_readSum_19 : tab t_X3_readSum 19 = some (.if_icmp .ge 58, 3, 77, 0, 0, 0, 0, 0, 0, 0, []) := rfl
theorem i_X3_readSum_22 : tab t_X3_readSum 22 = some (.aload_n 0, 1, 0, 0, 0, 0, 0, 0, 0, 0, []) := rfl
theorem i_X3_readSum_23 : tab t_X3_readSum 23 = some (.getfield 31, 3, 0, 0, 0, 3, 6, 0, 0, 0, []) := rfl
theorem i_X3_readSum_26 : tab t_X3_readSum 26 = some (.ifCond .ne 51, 3, 77, 0, 0, 0, 0, 0, 0, 0, []) := rfl
theorem i_X3_readSum_29 : tab t_X3_readSum 29 = some (.aload_n 0, 1, 0, 0, 0, 0, 0, 0, 0, 0, []) := rfl
theorem i_X3_readSum_30 : tab t_X3_readSum 30 = some (.invokevirtual 68, 3, 0, 0, 0, 0, 34, 4, 0, 0, []) := rfl
theorem i_X3_readSum_33 : tab t_X3_readSum 33 = some (.bipush 23, 2, 0, 23, 0, 0, 0, 0, 0, 0, []) := rfl
theorem i_X3_readSum_35 : tab t_X3_readSum 35 = some (.if_icmp .eq 12, 3, 47, 0, 0, 0, 0, 0, 0, 0, []) := rfl
theorem i_X3_readSum_38 : tab t_X3_readSum 38 = some (.aload_n 0, 1, 0, 0, 0, 0, 0, 0, 0, 0, []) := rfl
theorem i_X3_readSum_39 : tab t_X3_readSum 39 = some (.invokevirtual 68, 3, 0, 0, 0, 0, 34, 4, 0, 0, []) := rfl
theorem i_X3_readSum_42 : tab t_X3_readSum 42 = some (.bipush 24, 2, 0, 24, 0, 0, 0, 0, 0, 0, []) := rfl
theorem i_X3_readSum_44 : tab t_X3_readSum 44 = some (.if_icmp .ne 33, 3, 77, 0, 0, 0, 0, 0, 0, 0, []) := rfl
theorem i_X3_readSum_47 : tab t_X3_readSum 47 = some (.aload_n 0, 1, 0, 0, 0, 0, 0, 0, 0, 0, []) := rfl
theorem i_X3_readSum_48 : tab t_X3_readSum 48 = some (.invokevirtual 68, 3, 0, 0, 0, 0, 34, 4, 0, 0, []) := rfl
theorem i_X3_readSum_51 : tab t_X3_readSum 51 = some (.istore_n 2, 1, 2, 0, 0, 0, 0, 0, 0, 0, []) := rfl
theorem i_X3_readSum_52 : tab t_X3_readSum 52 = some (.aload_n 0, 1, 0, 0, 0, 0, 0, 0, 0, 0, []) := rfl
theorem i_X3_readSum_53 : tab t_X3_readSum 53 = some (.dup, 1, 0, 0, 0, 0, 0, 0, 0, 0, []) := rfl
theorem i_X3_readSum_54 : tab t_X3_readSum 54 = some (.getfield 25, 3, 0, 0, 0, 3, 4, 0, 0, 0, []) := rfl
theorem i_X3_readSum_57 : tab t_X3_readSum 57 = some (.iconst 1, 1, 0, 1, 0, 0, 0, 0, 0, 0, []) := rfl
theorem i_X3_readSum_58 : tab t_X3_readSum 58 = some (.iadd, 1, 0, 0, 0, 0, 0, 0, 0, 0, []) := rfl
theorem i_X3_readSum_59 : tab t_X3_readSum 59 = some (.putfield 25, 3, 0, 0, 0, 3, 4, 0, 0, 0, []) := rfl
theorem i_X3_readSum_62 : tab t_X3_readSum 62 = some (.aload_n 0, 1, 0, 0, 0, 0, 0, 0, 0, 0, []) := rfl
theorem i_X3_readSum_63 : tab t_X3_readSum 63 = some (.invokevirtual 137, 3, 0, 0, 0, 0, 44, 4, 0, 0, []) := rfl
theorem i_X3_readSum_66 : tab t_X3_readSum 66 = some (.aload_n 0, 1, 0, 0, 0, 0, 0, 0, 0, 0, []) := rfl
theorem i_X3_readSum_67 : tab t_X3_readSum 67 = some (.iload_n 2, 1, 2, 0, 0, 0, 0, 0, 0, 0, []) := rfl
theorem i_X3_readSum_68 : tab t_X3_readSum 68 = some (.invokevirtual 128, 3, 1, 0, 0, 0, 36, 4, 0, 0, []) := rfl
theorem i_X3_readSum_71 : tab t_X3_readSum 71 = some (.iinc 1 1, 3, 1, 1, 0, 0, 0, 0, 0, 0, []) := rfl
theorem i_X3_readSum_74 : tab t_X3_readSum 74 = some (.goto (-60), 3, 14, 0, 0, 0, 0, 0, 0, 0, []) := rfl
theorem i_X3_readSum_77 : tab t_X3_readSum 77 = some (.return_, 1, 0, 0, 0, 0, 0, 0, 0, 0, []) := rfl
def t_X3_readValue : List (Nat × rw_) := [(0, (.aload_n 0, 1, 0, 0, 0, 0, 0, 0, 0, 0, [])), (1, (.invokevirtual 68, 3, 0, 0, 0, 0, 34, 4, 0, 0, [])), (4, (.istore_n 1, 1, 1, 0, 0, 0, 0, 0, 0, 0, [])), (5, (.iload_n 1, 1, 1, 0, 0, 0, 0, 0, 0, 0, [])), (6, (.bipush 22, 2, 0, 22, 0, 0, 0, 0, 0, 0, [])), (8, (.if_icmp .ne 11, 3, 19, 0, 0, 0, 0, 0, 0, 0, [])), (11, (.aload_n 0, 1, 0, 0, 0, 0, 0, 0, 0, 0, [])), (12, (.iconst 1, 1, 0, 1, 0, 0, 0, 0, 0, 0, [])), (13, (.invokevirtual 72, 3, 1, 0, 0, 0, 35, 4, 0, 0, [])), (16, (.goto 89, 3, 105, 0, 0, 0, 0, 0, 0, 0, [])), (19, (.iload_n 1, 1, 1, 0, 0, 0, 0, 0, 0, 0, [])), (20, (.bipush 21, 2, 0, 21, 0, 0, 0, 0, 0, 0, [])), (22, (.if_icmp .eq 17, 3, 39, 0, 0, 0, 0, 0, 0, 0, [])), (25, (.iload_n 1, 1, 1, 0, 0, 0, 0, 0, 0, 0, [])), (26, (.bipush 13, 2, 0, 13, 0, 0, 0, 0, 0, 0, [])), (28, (.if_icmp .lt 11, 3, 39, 0, 0, 0, 0, 0, 0, 0, [])), (31, (.aload_n 0, 1, 0, 0, 0, 0, 0, 0, 0, 0, [])), (32, (.iconst 0, 1, 0, 0, 0, 0, 0, 0, 0, 0, [])), (33, (.invokevirtual 72, 3, 1, 0, 0, 0, 35, 4, 0, 0, [])), (36, (.goto 69, 3, 105, 0, 0, 0, 0, 0, 0, 0, [])), (39, (.aload_n 0, 1, 0, 0, 0, 0, 0, 0, 0, 0, [])), (40, (.getfield 28, 3, 0, 0, 0, 3, 5, 0, 0, 0, [])), (43, (.bipush 60, 2, 0, 60, 0, 0, 0, 0, 0, 0, [])), (45, (.if_icmp .lt 11, 3, 56, 0, 0, 0, 0, 0, 0, 0, [])), (48, (.aload_n 0, 1, 0, 0, 0, 0, 0, 0, 0, 0, [])), (49, (.iconst 3, 1, 0, 3, 0, 0, 0, 0, 0, 0, [])), (50, (.invokevirtual 72, 3, 1, 0, 0, 0, 35, 4, 0, 0, [])), (53, (.goto 52, 3, 105, 0, 0, 0, 0, 0, 0, 0, [])), (56, (.aload_n 0, 1, 0, 0, 0, 0, 0, 0, 0, 0, [])), (57, (.getfield 25, 3, 0, 0, 0, 3, 4, 0, 0, 0, [])), (60, (.aload_n 0, 1, 0, 0, 0, 0, 0, 0, 0, 0, [])), (61, (.getfield 21, 3, 0, 0, 0, 3, 3, 0, 0, 0, [])), (64, (.if_icmp .ge 41, 3, 105, 0, 0, 0, 0, 0, 0, 0, [])), (67, (.aload_n 0, 1, 0, 0, 0, 0, 0, 0, 0, 0, [])), (68, (.iload_n 1, 1, 1, 0, 0, 0, 0, 0, 0, 0, [])), (69, (.aload_n 0, 1, 0, 0, 0, 0, 0, 0, 0, 0, [])), (70, (.getfield 18, 3, 2, 0, 0, 3, 2, 0, 0, 0, [])), (73, (.aload_n 0, 1, 0, 0, 0, 0, 0, 0, 0, 0, [])), (74, (.getfield 25, 3, 0, 0, 0, 3, 4, 0, 0, 0, [])), (77, (.iaload, 1, 0, 0, 0, 0, 0, 0, 0, 0, [])), (78, (.bipush 6, 2, 0, 6, 0, 0, 0, 0, 0, 0, [])), (80, (.ishl, 1, 0, 0, 0, 0, 0, 0, 0, 0, [])), (81, (.iadd, 1, 0, 0, 0, 0, 0, 0, 0, 0, [])), (82, (.invokevirtual 128, 3, 1, 0, 0, 0, 36, 4, 0, 0, [])), (85, (.aload_n 0, 1, 0, 0, 0, 0, 0, 0, 0, 0, [])), (86, (.dup, 1, 0, 0, 0, 0, 0, 0, 0, 0, [])), (87, (.getfield 28, 3, 0, 0, 0, 3, 5, 0, 0, 0, [])), (90, (.iconst 1, 1, 0, 1, 0, 0, 0, 0, 0, 0, [])), (91, (.iadd, 1, 0, 0, 0, 0, 0, 0, 0, 0, [])), (92, (.putfield 28, 3, 0, 0, 0, 3, 5, 0, 0, 0, [])), (95, (.aload_n 0, 1, 0, 0, 0, 0, 0, 0, 0, 0, [])), (96, (.dup, 1, 0, 0, 0, 0, 0, 0, 0, 0, [])), (97, (.getfield 25, 3, 0, 0, 0, 3, 4, 0, 0, 0, [])), (100, (.iconst 1, 1, 0, 1, 0, 0, 0, 0, 0, 0, [])), (101, (.iadd, 1, 0, 0, 0, 0, 0, 0, 0, 0, [])), (102, (.putfield 25, 3, 0, 0, 0, 3, 4, 0, 0, 0, [])), (105, (.return_, 1, 0, 0, 0, 0, 0, 0, 0, 0, []))]
set_option maxRecDepth 100000 in
theorem ok_X3_readValue : tb_ok ctX3 m_X3_readValue t_X3_readValue = true := by decide +kernel
theorem i_X3_readValue_0 : tab t_X3_readValue 0 = some (.aload_n 0, 1, 0, 0, 0, 0, 0, 0, 0, 0, []) := rfl
theorem i_X3_readValue_1 : tab t_X3_readValue 1 = some (.invokevirtual 68, 3, 0, 0, 0, 0, 34, 4, 0, 0, []) := rfl
theorem i_X3_readValue_4 : tab t_X3_readValue 4 = some (.istore_n 1, 1, 1, 0, 0, 0, 0, 0, 0, 0, []) := rfl
theorem i_X3_readValue_5 : tab t_X3_readValue 5 = some (.iload_n 1, 1, 1, 0, 0, 0, 0, 0, 0, 0, []) := rfl
theorem i_X3_readValue_6 : tab t_X3_readValue 6 = some (.bipush 22, 2, 0, 22, 0, 0, 0, 0, 0, 0, []) := rfl
theorem i_X3_readValue_8 : tab t_X3_readValue 8 = some (.if_icmp .ne 11, 3, 19, 0, 0, 0, 0, 0, 0, 0, []) := rfl
theorem i_X3_readValue_11 : tab t_X3_readValue 11 = some (.aload_n 0, 1, 0, 0, 0, 0, 0, 0, 0, 0, []) := rfl
theorem i_X3_readValue_12 : tab t_X3_readValue 12 = some (.iconst 1, 1, 0, 1, 0, 0, 0, 0, 0, 0, []) := rfl
theorem i_X3_readValue_13 : tab t_X3_readValue 13 = some (.invokevirtual 72, 3, 1, 0, 0, 0, 35, 4, 0, 0, []) := rfl
theorem i_X3_readValue_16 : tab t_X3_readValue 16 = some (.goto 89, 3, 105, 0, 0, 0, 0, 0, 0, 0, []) := rfl
theorem i_X3_readValue_19 : tab t_X3_readValue 19 = some (.iload_n 1, 1, 1, 0, 0, 0, 0, 0, 0, 0, []) := rfl
theorem i_X3_readValue_20 : tab t_X3_readValue 20 = some (.bipush 21, 2, 0, 21, 0, 0, 0, 0, 0, 0, []) := rfl
theorem i_X3_readValue_22 : tab t_X3_readValue 22 = some (.if_icmp .eq 17, 3, 39, 0, 0, 0, 0, 0, 0, 0, []) := rfl
theorem i_X3_readValue_25 : tab t_X3_readValue 25 = some (.iload_n 1, 1, 1, 0, 0, 0, 0, 0, 0, 0, []) := rfl
theorem i_X3_readValue_26 : tab t_X3_readValue 26 = some (.bipush 13, 2, 0, 13, 0, 0, 0, 0, 0, 0, []) := rfl
theorem i_X3_readValue_28 : tab t_X3_readValue 28 = some (.if_icmp .lt 11, 3, 39, 0, 0, 0, 0, 0, 0, 0, []) := rfl
theorem i_X3_readValue_31 : tab t_X3_readValue 31 = some (.aload_n 0, 1, 0, 0, 0, 0, 0, 0, 0, 0, []) := rfl
theorem i_X3_readValue_32 : tab t_X3_readValue 32 = some (.iconst 0, 1, 0, 0, 0, 0, 0, 0, 0, 0, []) := rfl
theorem i_X3_readValue_33 : tab t_X3_readValue 33 = some (.invokevirtual 72, 3, 1, 0, 0, 0, 35, 4, 0, 0, []) := rfl
theorem i_X3_readValue_36 : tab t_X3_readValue 36 = some (.goto 69, 3, 105, 0, 0, 0, 0, 0, 0, 0, []) := rfl
theorem i_X3_readValue_39 : tab t_X3_readValue 39 = some (.aload_n 0, 1, 0, 0, 0, 0, 0, 0, 0, 0, []) := rfl
theorem i_X3_readValue_40 : tab t_X3_readValue 40 = some (.getfield 28, 3, 0, 0, 0, 3, 5, 0, 0, 0, []) := rfl
theorem i_X3_readValue_43 : tab t_X3_readValue 43 = some (.bipush 60, 2, 0, 60, 0, 0, 0, 0, 0, 0, []) := rfl
theorem i_X3_readValue_45 : tab t_X3_readValue 45 = some (.if_icmp .lt 11, 3, 56, 0, 0, 0, 0, 0, 0, 0, []) := rfl
theorem i_X3_readValue_48 : tab t_X3_readValue 48 = some (.aload_n 0, 1, 0, 0, 0, 0, 0, 0, 0, 0, []) := rfl
theorem i_X3_readValue_49 : tab t_X3_readValue 49 = some (.iconst 3, 1, 0, 3, 0, 0, 0, 0, 0, 0, []) := rfl
theorem i_X3_readValue_50 : tab t_X3_readValue 50 = some (.invokevirtual 72, 3, 1, 0, 0, 0, 35, 4, 0, 0, []) := rfl
theorem i_X3_readValue_53 : tab t_X3_readValue 53 = some (.goto 52, 3, 105, 0, 0, 0, 0, 0, 0, 0, []) := rfl
theorem i_X3_readValue_56 : tab t_X3_readValue 56 = some (.aload_n 0, 1, 0, 0, 0, 0, 0, 0, 0, 0, []) := rfl
theorem i_X3_readValue_57 : tab t_X3_readValue 57 = some (.getfield 25, 3, 0, 0, 0, 3, 4, 0, 0, 0, []) := rfl
theorem i_X3_readValue_60 : tab t_X3_readValue 60 = some (.aload_n 0, 1, 0, 0, 0, 0, 0, 0, 0, 0, []) := rfl
theorem i_X3_readValue_61 : tab t_X3_readValue 61 = some (.getfield 21, 3, 0, 0, 0, 3, 3, 0, 0, 0, []) := rfl
theorem i_X3_readValue_64 : tab t_X3_readValue 64 = some (.if_icmp .ge 41, 3, 105, 0, 0, 0, 0, 0, 0, 0, []) := rfl
theorem i_X3_readValue_67 : tab t_X3_readValue 67 = some (.aload_n 0, 1, 0, 0, 0, 0, 0, 0, 0, 0, []) := rfl
theorem i_X3_readValue_68 : tab t_X3_readValue 68 = some (.iload_n 1, 1, 1, 0, 0, 0, 0, 0, 0, 0, []) := rfl
theorem i_X3_readValue_69 : tab t_X3_readValue 69 = some (.aload_n 0, 1, 0, 0, 0, 0, 0, 0, 0, 0, []) := rfl
theorem i_X3_readValue_70 : tab t_X3_readValue 70 = some (.getfield 18, 3, 2, 0, 0, 3, 2, 0, 0, 0, []) := rfl
theorem i_X3_readValue_73 : tab t_X3_readValue 73 = some (.aload_n 0, 1, 0, 0, 0, 0, 0, 0, 0, 0, []) := rfl
theorem i_X3_readValue_74 : tab t_X3_readValue 74 = some (.getfield 25, 3, 0, 0, 0, 3, 4, 0, 0, 0, []) := rfl
theorem i_X3_readValue_77 : tab t_X3_readValue 77 = some (.iaload, 1, 0, 0, 0, 0, 0, 0, 0, 0, []) := rfl
theorem i_X3_readValue_78 : tab t_X3_readValue 78 = some (.bipush 6, 2, 0, 6, 0, 0, 0, 0, 0, 0, []) := rfl
theorem i_X3_readValue_80 : tab t_X3_readValue 80 = some (.ishl, 1, 0, 0, 0, 0, 0, 0, 0, 0, []) := rfl
theorem i_X3_readValue_81 : tab t_X3_readValue 81 = some (.iadd, 1, 0, 0, 0, 0, 0, 0, 0, 0, []) := rfl
theorem i_X3_readValue_82 : tab t_X3_readValue 82 = some (.invokevirtual 128, 3, 1, 0, 0, 0, 36, 4, 0, 0, []) := rfl
theorem i_X3_readValue_85 : tab t_X3_readValue 85 = some (.aload_n 0, 1, 0, 0, 0, 0, 0, 0, 0, 0, []) := rfl
theorem i_X3_readValue_86 : tab t_X3_readValue 86 = some (.dup, 1, 0, 0, 0, 0, 0, 0, 0, 0, []) := rfl
theorem i_X3_readValue_87 : tab t_X3_readValue 87 = some (.getfield 28, 3, 0, 0, 0, 3, 5, 0, 0, 0, []) := rfl
theorem i_X3_readValue_90 : tab t_X3_readValue 90 = some (.iconst 1, 1, 0, 1, 0, 0, 0, 0, 0, 0, []) := rfl
theorem i_X3_readValue_91 : tab t_X3_readValue 91 = some (.iadd, 1, 0, 0, 0, 0, 0, 0, 0, 0, []) := rfl
theorem i_X3_readValue_92 : tab t_X3_readValue 92 = some (.putfield 28, 3, 0, 0, 0, 3, 5, 0, 0, 0, []) := rfl
theorem i_X3_readValue_95 : tab t_X3_readValue 95 = some (.aload_n 0, 1, 0, 0, 0, 0, 0, 0, 0, 0, []) := rfl
theorem i_X3_readValue_96 : tab t_X3_readValue 96 = some (.dup, 1, 0, 0, 0, 0, 0, 0, 0, 0, []) := rfl
theorem i_X3_readValue_97 : tab t_X3_readValue 97 = some (.getfield 25, 3, 0, 0, 0, 3, 4, 0, 0, 0, []) := rfl
theorem i_X3_readValue_100 : tab t_X3_readValue 100 = some (.iconst 1, 1, 0, 1, 0, 0, 0, 0, 0, 0, []) := rfl
theorem i_X3_readValue_101 : tab t_X3_readValue 101 = some (.iadd, 1, 0, 0, 0, 0, 0, 0, 0, 0, []) := rfl
theorem i_X3_readValue_102 : tab t_X3_readValue 102 = some (.putfield 25, 3, 0, 0, 0, 3, 4, 0, 0, 0, []) := rfl
theorem i_X3_readValue_105 : tab t_X3_readValue 105 = some (.return_, 1, 0, 0, 0, 0, 0, 0, 0, 0, []) := rfl
