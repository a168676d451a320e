/-! 11: tables of class 8, 0 -/
def t_X8_init : List (Nat × rw_) := [(0, (.aload_n 0, 1, 0, 0, 0, 0, 0, 0, 0, 0, [])), (1, (.invokespecial 1, 3, 0, 0, 0, 6, 0, 0, 0, 0, [])), (4, (.aload_n 0, 1, 0, 0, 0, 0, 0, 0, 0, 0, [])), (5, (.new 7, 3, 0, 0, 0, 7, 8, 0, 0, 0, [])), (8, (.dup, 1, 0, 0, 0, 0, 0, 0, 0, 0, [])), (9, (.invokespecial 9, 3, 0, 0, 0, 0, 64, 0, 14, 5700, [])), (12, (.putfield 10, 3, 2, 0, 0, 8, 0, 1, 0, 0, [])), (15, (.aload_n 0, 1, 0, 0, 0, 0, 0, 0, 0, 0, [])), (16, (.iconst 4, 1, 0, 4, 0, 0, 0, 0, 0, 0, [])), (17, (.anewarray 7, 3, 0, 0, 0, 4, 0, 0, 0, 0, [])), (20, (.putfield 16, 3, 2, 0, 0, 8, 1, 1, 0, 0, [])), (23, (.aload_n 0, 1, 0, 0, 0, 0, 0, 0, 0, 0, [])), (24, (.bipush 8, 2, 0, 8, 0, 0, 0, 0, 0, 0, [])), (26, (.anewarray 20, 3, 0, 0, 0, 5, 0, 0, 0, 0, [])), (29, (.putfield 22, 3, 2, 0, 0, 8, 2, 1, 0, 0, [])), (32, (.aload_n 0, 1, 0, 0, 0, 0, 0, 0, 0, 0, [])), (33, (.iconst 0, 1, 0, 0, 0, 0, 0, 0, 0, 0, [])), (34, (.putfield 26, 3, 0, 0, 0, 8, 3, 0, 0, 0, [])), (37, (.aload_n 0, 1, 0, 0, 0, 0, 0, 0, 0, 0, [])), (38, (.sipush 400, 3, 0, 400, 0, 0, 0, 0, 0, 0, [])), (41, (.newarray .int, 2, 0, 0, 0, 0, 0, 0, 0, 0, [])), (43, (.putfield 30, 3, 2, 0, 0, 8, 4, 1, 0, 0, [])), (46, (.aload_n 0, 1, 0, 0, 0, 0, 0, 0, 0, 0, [])), (47, (.iconst 0, 1, 0, 0, 0, 0, 0, 0, 0, 0, [])), (48, (.putfield 34, 3, 0, 0, 0, 8, 5, 0, 0, 0, [])), (51, (.aload_n 0, 1, 0, 0, 0, 0, 0, 0, 0, 0, [])), (52, (.new 37, 3, 0, 0, 0, 3, 14, 0, 0, 0, [])), (55, (.dup, 1, 0, 0, 0, 0, 0, 0, 0, 0, [])), (56, (.invokespecial 39, 3, 0, 0, 0, 0, 24, 0, 8, 1651, [])), (59, (.putfield 40, 3, 2, 0, 0, 8, 6, 1, 0, 0, [])), (62, (.aload_n 0, 1, 0, 0, 0, 0, 0, 0, 0, 0, [])), (63, (.new 44, 3, 0, 0, 0, 0, 6, 0, 0, 0, [])), (66, (.dup, 1, 0, 0, 0, 0, 0, 0, 0, 0, [])), (67, (.invokespecial 46, 3, 0, 0, 0, 0, 0, 0, 6, 447, [])), (70, (.putfield 47, 3, 2, 0, 0, 8, 7, 1, 0, 0, [])), (73, (.aload_n 0, 1, 0, 0, 0, 0, 0, 0, 0, 0, [])), (74, (.new 51, 3, 0, 0, 0, 5, 4, 0, 0, 0, [])), (77, (.dup, 1, 0, 0, 0, 0, 0, 0, 0, 0, [])), (78, (.invokespecial 53, 3, 0, 0, 0, 0, 49, 0, 2, 624, [])), (81, (.putfield 54, 3, 2, 0, 0, 8, 8, 1, 0, 0, [])), (84, (.aload_n 0, 1, 0, 0, 0, 0, 0, 0, 0, 0, [])), (85, (.new 58, 3, 0, 0, 0, 1, 5, 0, 0, 0, [])), (88, (.dup, 1, 0, 0, 0, 0, 0, 0, 0, 0, [])), (89, (.invokespecial 60, 3, 0, 0, 0, 0, 12, 0, 8, 171, [])), (92, (.putfield 61, 3, 2, 0, 0, 8, 9, 1, 0, 0, [])), (95, (.aload_n 0, 1, 0, 0, 0, 0, 0, 0, 0, 0, [])), (96, (.bipush 10, 2, 0, 10, 0, 0, 0, 0, 0, 0, [])), (98, (.newarray .int, 2, 0, 0, 0, 0, 0, 0, 0, 0, [])), (100, (.putfield 65, 3, 2, 0, 0, 8, 10, 1, 0, 0, [])), (103, (.return_, 1, 0, 0, 0, 0, 0, 0, 0, 0, []))]
set_option maxRecDepth 100000 in
theorem ok_X8_init : tb_ok ctX8 m_X8_init t_X8_init = true := by decide +kernel
theorem i_X8_init_0 : tab t_X8_init 0 = some (.aload_n 0, 1, 0, 0, 0, 0, 0, 0, 0, 0, []) := rfl
theorem i_X8_init_1 : tab t_X8_init 1 = some (.invokespecial 1, 3, 0, 0, 0, 6, 0, 0, 0, 0, []) := rfl
theorem i_X8_init_4 : tab t_X8_init 4 = some (.aload_n 0, 1, 0, 0, 0, 0, 0, 0, 0, 0, []) := rfl
theorem i_X8_init_5 : tab t_X8_init 5 = some (.new 7, 3, 0, 0, 0, 7, 8, 0, 0, 0, []) := rfl
theorem i_X8_init_8 : tab t_X8_init 8 = some (.dup, 1, 0, 0, 0, 0, 0, 0, 0, 0, []) := rfl
theorem i_X8_init_9 : tab t_X8_init 9 = some (.invokespecial 9, 3, 0, 0, 0, 0, 64, 0, 14, 5700, []) := rfl
theorem i_X8_init_12 : tab t_X8_init 12 = some (.putfield 10, 3, 2, 0, 0, 8, 0, 1, 0, 0, []) := rfl
theorem i_X8_init_15 : tab t_X8_init 15 = some (.aload_n 0, 1, 0, 0, 0, 0, 0, 0, 0, 0, []) := rfl
theorem i_X8_init_16 : tab t_X8_init 16 = some (.iconst 4, 1, 0, 4, 0, 0, 0, 0, 0, 0, []) := rfl
theorem i_X8_init_17 : tab t_X8_init 17 = some (.anewarray 7, 3, 0, 0, 0, 4, 0, 0, 0, 0, []) := rfl
theorem i_X8_init_20 : tab t_X8_init 20 = some (.putfield 16, 3, 2, 0, 0, 8, 1, 1, 0, 0, []) := rfl
theorem i_X8_init_23 : tab t_X8_init 23 = some (.aload_n 0, 1, 0, 0, 0, 0, 0, 0, 0, 0, []) := rfl
theorem i_X8_init_24 : tab t_X8_init 24 = some (.bipush 8, 2, 0, 8, 0, 0, 0, 0, 0, 0, []) := rfl
theorem i_X8_init_26 : tab t_X8_init 26 = some (.anewarray 20, 3, 0, 0, 0, 5, 0, 0, 0, 0, []) := rfl
theorem i_X8_init_29 : tab t_X8_init 29 = some (.putfield 22, 3, 2, 0, 0, 8, 2, 1, 0, 0, []) := rfl
theorem i_X8_init_32 : tab t_X8_init 32 = some (.aload_n 0, 1, 0, 0, 0, 0, 0, 0, 0, 0, []) := rfl
theorem i_X8_init_33 : tab t_X8_init 33 = some (.iconst 0, 1, 0, 0, 0, 0, 0, 0, 0, 0, []) := rfl
theorem i_X8_init_34 : tab t_X8_init 34 = some (.putfield 26, 3, 0, 0, 0, 8, 3, 0, 0, 0, []) := rfl
theorem i_X8_init_37 : tab t_X8_init 37 = some (.aload_n 0, 1, 0, 0, 0, 0, 0, 0, 0, 0, []) := rfl
theorem i_X8_init_38 : tab t_X8_init 38 = some (.sipush 400, 3, 0, 400, 0, 0, 0, 0, 0, 0, []) := rfl
theorem i_X8_init_41 : tab t_X8_init 41 = some (.newarray .int, 2, 0, 0, 0, 0, 0, 0, 0, 0, []) := rfl
theorem i_X8_init_43 : tab t_X8_init 43 = some (.putfield 30, 3, 2, 0, 0, 8, 4, 1, 0, 0, []) := rfl
theorem i_X8_init_46 : tab t_X8_init 46 = some (.aload_n 0, 1, 0, 0, 0, 0, 0, 0, 0, 0, []) := rfl
theorem i_X8_init_47 : tab t_X8_init 47 = some (.iconst 0, 1, 0, 0, 0, 0, 0, 0, 0, 0, []) := rfl
theorem i_X8_init_48 : tab t_X8_init 48 = some (.putfield 34, 3, 0, 0, 0, 8, 5, 0, 0, 0, []) := rfl
theorem i_X8_init_51 : tab t_X8_init 51 = some (.aload_n 0, 1, 0, 0, 0, 0, 0, 0, 0, 0, []) := rfl
theorem i_X8_init_52 : tab t_X8_init 52 = some (.new 37, 3, 0, 0, 0, 3, 14, 0, 0, 0, []) := rfl
theorem i_X8_init_55 : tab t_X8_init 55 = some (.dup, 1, 0, 0, 0, 0, 0, 0, 0, 0, []) := rfl
theorem i_X8_init_56 : tab t_X8_init 56 = some (.invokespecial 39, 3, 0, 0, 0, 0, 24, 0, 8, 1651, []) := rfl
theorem i_X8_init_59 : tab t_X8_init 59 = some (.putfield 40, 3, 2, 0, 0, 8, 6, 1, 0, 0, []) := rfl
theorem i_X8_init_62 : tab t_X8_init 62 = some (.aload_n 0, 1, 0, 0, 0, 0, 0, 0, 0, 0, []) := rfl
theorem i_X8_init_63 : tab t_X8_init 63 = some (.new 44, 3, 0, 0, 0, 0, 6, 0, 0, 0, []) := rfl
theorem i_X8_init_66 : tab t_X8_init 66 = some (.dup, 1, 0, 0, 0, 0, 0, 0, 0, 0, []) := rfl
theorem i_X8_init_67 : tab t_X8_init 67 = some (.invokespecial 46, 3, 0, 0, 0, 0, 0, 0, 6, 447, []) := rfl
theorem i_X8_init_70 : tab t_X8_init 70 = some (.putfield 47, 3, 2, 0, 0, 8, 7, 1, 0, 0, []) := rfl
theorem i_X8_init_73 : tab t_X8_init 73 = some (.aload_n 0, 1, 0, 0, 0, 0, 0, 0, 0, 0, []) := rfl
theorem i_X8_init_74 : tab t_X8_init 74 = some (.new 51, 3, 0, 0, 0, 5, 4, 0, 0, 0, []) := rfl
theorem i_X8_init_77 : tab t_X8_init 77 = some (.dup, 1, 0, 0, 0, 0, 0, 0, 0, 0, []) := rfl
theorem i_X8_init_78 : tab t_X8_init 78 = some (.invokespecial 53, 3, 0, 0, 0, 0, 49, 0, 2, 624, []) := rfl
theorem i_X8_init_81 : tab t_X8_init 81 = some (.putfield 54, 3, 2, 0, 0, 8, 8, 1, 0, 0, []) := rfl
theorem i_X8_init_84 : tab t_X8_init 84 = some (.aload_n 0, 1, 0, 0, 0, 0, 0, 0, 0, 0, []) := rfl
theorem i_X8_init_85 : tab t_X8_init 85 = some (.new 58, 3, 0, 0, 0, 1, 5, 0, 0, 0, []) := rfl
theorem i_X8_init_88 : tab t_X8_init 88 = some (.dup, 1, 0, 0, 0, 0, 0, 0, 0, 0, []) := rfl
theorem i_X8_init_89 : tab t_X8_init 89 = some (.invokespecial 60, 3, 0, 0, 0, 0, 12, 0, 8, 171, []) := rfl
theorem i_X8_init_92 : tab t_X8_init 92 = some (.putfield 61, 3, 2, 0, 0, 8, 9, 1, 0, 0, []) := rfl
theorem i_X8_init_95 : tab t_X8_init 95 = some (.aload_n 0, 1, 0, 0, 0, 0, 0, 0, 0, 0, []) := rfl
theorem i_X8_init_96 : tab t_X8_init 96 = some (.bipush 10, 2, 0, 10, 0, 0, 0, 0, 0, 0, []) := rfl
theorem i_X8_init_98 : tab t_X8_init 98 = some (.newarray .int, 2, 0, 0, 0, 0, 0, 0, 0, 0, []) := rfl
theorem i_X8_init_100 : tab t_X8_init 100 = some (.putfield 65, 3, 2, 0, 0, 8, 10, 1, 0, 0, []) := rfl
theorem i_X8_init_103 : tab t_X8_init 103 = some (.return_, 1, 0, 0, 0, 0, 0, 0, 0, 0, []) := rfl
def t_X8_body : List (Nat × rw_) := [(0, (.iload_n 1, 1, 1, 0, 0, 0, 0, 0, 0, 0, [])), (1, (.iconst (-1), 1, 0, -1, 0, 0, 0, 0, 0, 0, [])), (2, (.if_icmp .eq 17, 3, 19, 0, 0, 0, 0, 0, 0, 0, [])), (5, (.aload_n 0, 1, 0, 0, 0, 0, 0, 0, 0, 0, [])), (6, (.getfield 10, 3, 2, 0, 0, 8, 0, 0, 0, 0, [])), (9, (.getfield 68, 3, 2, 0, 0, 7, 0, 0, 0, 0, [])), (12, (.iload_n 1, 1, 1, 0, 0, 0, 0, 0, 0, 0, [])), (13, (.invokevirtual 72, 3, 1, 0, 0, 0, 59, 7, 0, 0, [])), (16, (.ifCond .eq 7, 3, 23, 0, 0, 0, 0, 0, 0, 0, [])), (19, (.iconst 1, 1, 0, 1, 0, 0, 0, 0, 0, 0, [])), (20, (.goto 4, 3, 24, 0, 0, 0, 0, 0, 0, 0, [])), (23, (.iconst 0, 1, 0, 0, 0, 0, 0, 0, 0, 0, [])), (24, (.istore 5, 2, 5, 0, 0, 0, 0, 0, 0, 0, [])), (26, (.iload 5, 2, 5, 0, 0, 0, 0, 0, 0, 0, [])), (28, (.ifCond .eq 20, 3, 48, 0, 0, 0, 0, 0, 0, 0, [])), (31, (.iload_n 2, 1, 2, 0, 0, 0, 0, 0, 0, 0, [])), (32, (.iconst 4, 1, 0, 4, 0, 0, 0, 0, 0, 0, [])), (33, (.invokestatic 78, 3, 2, 0, 0, 0, 109, 0, 0, 0, [])), (36, (.ifCond .eq 12, 3, 48, 0, 0, 0, 0, 0, 0, 0, [])), (39, (.iload_n 3, 1, 3, 0, 0, 0, 0, 0, 0, 0, [])), (40, (.iload 4, 2, 4, 0, 0, 0, 0, 0, 0, 0, [])), (42, (.invokestatic 82, 3, 2, 0, 0, 0, 111, 0, 0, 0, [])), (45, (.ifCond .ne 5, 3, 50, 0, 0, 0, 0, 0, 0, 0, [])), (48, (.iconst (-1), 1, 0, -1, 0, 0, 0, 0, 0, 0, [])), (49, (.ireturn, 1, 0, 0, 0, 0, 0, 0, 0, 0, [])), (50, (.aload_n 0, 1, 0, 0, 0, 0, 0, 0, 0, 0, [])), (51, (.getfield 10, 3, 2, 0, 0, 8, 0, 0, 0, 0, [])), (54, (.getfield 68, 3, 2, 0, 0, 7, 0, 0, 0, 0, [])), (57, (.invokevirtual 85, 3, 0, 0, 0, 0, 62, 7, 0, 0, [])), (60, (.istore 6, 2, 6, 0, 0, 0, 0, 0, 0, 0, [])), (62, (.aload_n 0, 1, 0, 0, 0, 0, 0, 0, 0, 0, [])), (63, (.getfield 10, 3, 2, 0, 0, 8, 0, 0, 0, 0, [])), (66, (.getfield 68, 3, 2, 0, 0, 7, 0, 0, 0, 0, [])), (69, (.iload 6, 2, 6, 0, 0, 0, 0, 0, 0, 0, [])), (71, (.iconst 0, 1, 0, 0, 0, 0, 0, 0, 0, 0, [])), (72, (.iload_n 1, 1, 1, 0, 0, 0, 0, 0, 0, 0, [])), (73, (.invokevirtual 89, 3, 3, 0, 0, 0, 61, 7, 0, 0, [])), (76, (.aload_n 0, 1, 0, 0, 0, 0, 0, 0, 0, 0, [])), (77, (.getfield 10, 3, 2, 0, 0, 8, 0, 0, 0, 0, [])), (80, (.getfield 68, 3, 2, 0, 0, 7, 0, 0, 0, 0, [])), (83, (.iload 6, 2, 6, 0, 0, 0, 0, 0, 0, 0, [])), (85, (.iconst 1, 1, 0, 1, 0, 0, 0, 0, 0, 0, [])), (86, (.iload_n 2, 1, 2, 0, 0, 0, 0, 0, 0, 0, [])), (87, (.invokevirtual 89, 3, 3, 0, 0, 0, 61, 7, 0, 0, [])), (90, (.aload_n 0, 1, 0, 0, 0, 0, 0, 0, 0, 0, [])), (91, (.getfield 10, 3, 2, 0, 0, 8, 0, 0, 0, 0, [])), (94, (.getfield 68, 3, 2, 0, 0, 7, 0, 0, 0, 0, [])), (97, (.iload 6, 2, 6, 0, 0, 0, 0, 0, 0, 0, [])), (99, (.iconst 2, 1, 0, 2, 0, 0, 0, 0, 0, 0, [])), (100, (.iload_n 3, 1, 3, 0, 0, 0, 0, 0, 0, 0, [])), (101, (.invokevirtual 89, 3, 3, 0, 0, 0, 61, 7, 0, 0, [])), (104, (.aload_n 0, 1, 0, 0, 0, 0, 0, 0, 0, 0, [])), (105, (.getfield 10, 3, 2, 0, 0, 8, 0, 0, 0, 0, [])), (108, (.getfield 68, 3, 2, 0, 0, 7, 0, 0, 0, 0, [])), (111, (.iload 6, 2, 6, 0, 0, 0, 0, 0, 0, 0, [])), (113, (.iconst 3, 1, 0, 3, 0, 0, 0, 0, 0, 0, [])), (114, (.iload 4, 2, 4, 0, 0, 0, 0, 0, 0, 0, [])), (116, (.invokevirtual 89, 3, 3, 0, 0, 0, 61, 7, 0, 0, [])), (119, (.aload_n 0, 1, 0, 0, 0, 0, 0, 0, 0, 0, [])), (120, (.getfield 10, 3, 2, 0, 0, 8, 0, 0, 0, 0, [])), (123, (.getfield 68, 3, 2, 0, 0, 7, 0, 0, 0, 0, [])), (126, (.iload 6, 2, 6, 0, 0, 0, 0, 0, 0, 0, [])), (128, (.iconst 4, 1, 0, 4, 0, 0, 0, 0, 0, 0, [])), (129, (.iconst (-1), 1, 0, -1, 0, 0, 0, 0, 0, 0, [])), (130, (.invokevirtual 89, 3, 3, 0, 0, 0, 61, 7, 0, 0, [])), (133, (.iload 6, 2, 6, 0, 0, 0, 0, 0, 0, 0, [])), (135, (.ireturn, 1, 0, 0, 0, 0, 0, 0, 0, 0, []))]
set_option maxRecDepth 100000 in
theorem ok_X8_body : tb_ok ctX8 m_X8_body t_X8_body = true := by decide +kernel
theorem i_X8_body_0 : tab t_X8_body 0 = some (.iload_n 1, 1, 1, 0, 0, 0, 0, 0, 0, 0, []) := rfl
theorem i_X8_body_1 : tab t_X8_body 1 = some (.iconst (-1), 1, 0, -1, 0, 0, 0, 0, 0, 0, []) := rfl
theorem i_X8_body_2 : tab t_X8_body 2 = some (.if_icmp .eq 17, 3, 19, 0, 0, 0, 0, 0, 0, 0, []) := rfl
theorem i_X8_body_5 : tab t_X8_body 5 = some (.aload_n 0, 1, 0, 0, 0, 0, 0, 0, 0, 0, []) := rfl
theorem i_X8_body_6 : tab t_X8_body 6 = some (.getfield 10, 3, 2, 0, 0, 8, 0, 0, 0, 0, []) := rfl
theorem i_X8_body_9 : tab t_X8_body 9 = some (.getfield 68, 3, 2, 0, 0, 7, 0, 0, 0, 0, []) := rfl
theorem i_X8_body_12 : tab t_X8_body 12 = some (.iload_n 1, 1, 1, 0, 0, 0, 0, 0, 0, 0, []) := rfl
theorem i_X8_body_13 : tab t_X8_body 13 = some (.invokevirtual 72, 3, 1, 0, 0, 0, 59, 7, 0, 0, []) := rfl
theorem i_X8_body_16 : tab t_X8_body 16 = some (.ifCond .eq 7, 3, 23, 0, 0, 0, 0, 0, 0, 0, []) := rfl
theorem i_X8_body_19 : tab t_X8_body 19 = some (.iconst 1, 1, 0, 1, 0, 0, 0, 0, 0, 0, []) := rfl
theorem i_X8_body_20 : tab t_X8_body 20 = some (.goto 4, 3, 24, 0, 0, 0, 0, 0, 0, 0, []) := rfl
theorem i_X8_body_23 : tab t_X8_body 23 = some (.iconst 0, 1, 0, 0, 0, 0, 0, 0, 0, 0, []) := rfl
theorem i_X8_body_24 : tab t_X8_body 24 = some (.istore 5, 2, 5, 0, 0, 0, 0, 0, 0, 0, []) := rfl
theorem i_X8_body_26 : tab t_X8_body 26 = some (.iload 5, 2, 5, 0, 0, 0, 0, 0, 0, 0, []) := rfl
theorem i_X8_body_28 : tab t_X8_body 28 = some (.ifCond .eq 20, 3, 48, 0, 0, 0, 0, 0, 0, 0, []) := rfl
theorem i_X8_body_31 : tab t_X8_body 31 = some (.iload_n 2, 1, 2, 0, 0, 0, 0, 0, 0, 0, []) := rfl
theorem i_X8_body_32 : tab t_X8_body 32 = some (.iconst 4, 1, 0, 4, 0, 0, 0, 0, 0, 0, []) := rfl
theorem i_X8_body_33 : tab t_X8_body 33 = some (.invokestatic 78, 3, 2, 0, 0, 0, 109, 0, 0, 0, []) := rfl
theorem i_X8_body_36 : tab t_X8_body 36 = some (.ifCond .eq 12, 3, 48, 0, 0, 0, 0, 0, 0, 0, []) := rfl
theorem i_X8_body_39 : tab t_X8_body 39 = some (.iload_n 3, 1, 3, 0, 0, 0, 0, 0, 0, 0, []) := rfl
theorem i_X8_body_40 : tab t_X8_body 40 = some (.iload 4, 2, 4, 0, 0, 0, 0, 0, 0, 0, []) := rfl
theorem i_X8_body_42 : tab t_X8_body 42 = some (.invokestatic 82, 3, 2, 0, 0, 0, 111, 0, 0, 0, []) := rfl
theorem i_X8_body_45 : tab t_X8_body 45 = some (.ifCond .ne 5, 3, 50, 0, 0, 0, 0, 0, 0, 0, []) := rfl
theorem i_X8_body_48 : tab t_X8_body 48 = some (.iconst (-1), 1, 0, -1, 0, 0, 0, 0, 0, 0, []) := rfl
theorem i_X8_body_49 : tab t_X8_body 49 = some (.ireturn, 1, 0, 0, 0, 0, 0, 0, 0, 0, []) := rfl
theorem i_X8_body_50 : tab t_X8_body 50 = some (.aload_n 0, 1, 0, 0, 0, 0, 0, 0, 0, 0, []) := rfl
theorem i_X8_body_51 : tab t_X8_body 51 = some (.getfield 10, 3, 2, 0, 0, 8, 0, 0, 0, 0, []) := rfl
theorem i_X8_body_54 : tab t_X8_body 54 = some (.getfield 68, 3, 2, 0, 0, 7, 0, 0, 0, 0, []) := rfl
theorem i_X8_body_57 : tab t_X8_body 57 = some (.invokevirtual 85, 3, 0, 0, 0, 0, 62, 7, 0, 0, []) := rfl
theorem i_X8_body_60 : tab t_X8_body 60 = some (.istore 6, 2, 6, 0, 0, 0, 0, 0, 0, 0, []) := rfl
theorem i_X8_body_62 : tab t_X8_body 62 = some (.aload_n 0, 1, 0, 0, 0, 0, 0, 0, 0, 0, []) := rfl
theorem i_X8_body_63 : tab t_X8_body 63 = some (.getfield 10, 3, 2, 0, 0, 8, 0, 0, 0, 0, []) := rfl
theorem i_X8_body_66 : tab t_X8_body 66 = some (.getfield 68, 3, 2, 0, 0, 7, 0, 0, 0, 0, []) := rfl
theorem i_X8_body_69 : tab t_X8_body 69 = some (.iload 6, 2, 6, 0, 0, 0, 0, 0, 0, 0, []) := rfl
theorem i_X8_body_71 : tab t_X8_body 71 = some (.iconst 0, 1, 0, 0, 0, 0, 0, 0, 0, 0, []) := rfl
theorem i_X8_body_72 : tab t_X8_body 72 = some (.iload_n 1, 1, 1, 0, 0, 0, 0, 0, 0, 0, []) := rfl
theorem i_X8_body_73 : tab t_X8_body 73 = some (.invokevirtual 89, 3, 3, 0, 0, 0, 61, 7, 0, 0, []) := rfl
theorem i_X8_body_76 : tab t_X8_body 76 = some (.aload_n 0, 1, 0, 0, 0, 0, 0, 0, 0, 0, []) := rfl
theorem i_X8_body_77 : tab t_X8_body 77 = some (.getfield 10, 3, 2, 0, 0, 8, 0, 0, 0, 0, []) := rfl
theorem i_X8_body_80 : tab t_X8_body 80 = some (.getfield 68, 3, 2, 0, 0, 7, 0, 0, 0, 0, []) := rfl
theorem i_X8_body_83 : tab t_X8_body 83 = some (.iload 6, 2, 6, 0, 0, 0, 0, 0, 0, 0, []) := rfl
theorem i_X8_body_85 : tab t_X8_body 85 = some (.iconst 1, 1, 0, 1, 0, 0, 0, 0, 0, 0, []) := rfl
theorem i_X8_body_86 : tab t_X8_body 86 = some (.iload_n 2, 1, 2, 0, 0, 0, 0, 0, 0, 0, []) := rfl
theorem i_X8_body_87 : tab t_X8_body 87 = some (.invokevirtual 89, 3, 3, 0, 0, 0, 61, 7, 0, 0, []) := rfl
theorem i_X8_body_90 : tab t_X8_body 90 = some (.aload_n 0, 1, 0, 0, 0, 0, 0, 0, 0, 0, []) := rfl
theorem i_X8_body_91 : tab t_X8_body 91 = some (.getfield 10, 3, 2, 0, 0, 8, 0, 0, 0, 0, []) := rfl
theorem i_X8_body_94 : tab t_X8_body 94 = some (.getfield 68, 3, 2, 0, 0, 7, 0, 0, 0, 0, []) := rfl
theorem i_X8_body_97 : tab t_X8_body 97 = some (.iload 6, 2, 6, 0, 0, 0, 0, 0, 0, 0, []) := rfl
theorem i_X8_body_99 : tab t_X8_body 99 = some (.iconst 2, 1, 0, 2, 0, 0, 0, 0, 0, 0, []) := rfl
theorem i_X8_body_100 : tab t_X8_body 100 = some (.iload_n 3, 1, 3, 0, 0, 0, 0, 0, 0, 0, []) := rfl
theorem i_X8_body_101 : tab t_X8_body 101 = some (.invokevirtual 89, 3, 3, 0, 0, 0, 61, 7, 0, 0, []) := rfl
theorem i_X8_body_104 : tab t_X8_body 104 = some (.aload_n 0, 1, 0, 0, 0, 0, 0, 0, 0, 0, []) := rfl
theorem i_X8_body_105 : tab t_X8_body 105 = some (.getfield 10, 3, 2, 0, 0, 8, 0, 0, 0, 0, []) := rfl
theorem i_X8_body_108 : tab t_X8_body 108 = some (.getfield 68, 3, 2, 0, 0, 7, 0, 0, 0, 0, []) := rfl
theorem i_X8_body_111 : tab t_X8_body 111 = some (.iload 6, 2, 6, 0, 0, 0, 0, 0, 0, 0, []) := rfl
theorem i_X8_body_113 : tab t_X8_body 113 = some (.iconst 3, 1, 0, 3, 0, 0, 0, 0, 0, 0, []) := rfl
theorem i_X8_body_114 : tab t_X8_body 114 = some (.iload 4, 2, 4, 0, 0, 0, 0, 0, 0, 0, []) := rfl
theorem i_X8_body_116 : tab t_X8_body 116 = some (.invokevirtual 89, 3, 3, 0, 0, 0, 61, 7, 0, 0, []) := rfl
theorem i_X8_body_119 : tab t_X8_body 119 = some (.aload_n 0, 1, 0, 0, 0, 0, 0, 0, 0, 0, []) := rfl
theorem i_X8_body_120 : tab t_X8_body 120 = some (.getfield 10, 3, 2, 0, 0, 8, 0, 0, 0, 0, []) := rfl
theorem i_X8_body_123 : tab t_X8_body 123 = some (.getfield 68, 3, 2, 0, 0, 7, 0, 0, 0, 0, []) := rfl
theorem i_X8_body_126 : tab t_X8_body 126 = some (.iload 6, 2, 6, 0, 0, 0, 0, 0, 0, 0, []) := rfl
theorem i_X8_body_128 : tab t_X8_body 128 = some (.iconst 4, 1, 0, 4, 0, 0, 0, 0, 0, 0, []) := rfl
theorem i_X8_body_129 : tab t_X8_body 129 = some (.iconst (-1), 1, 0, -1, 0, 0, 0, 0, 0, 0, []) := rfl
theorem i_X8_body_130 : tab t_X8_body 130 = some (.invokevirtual 89, 3, 3, 0, 0, 0, 61, 7, 0, 0, []) := rfl
theorem i_X8_body_133 : tab t_X8_body 133 = some (.iload 6, 2, 6, 0, 0, 0, 0, 0, 0, 0, []) := rfl
theorem i_X8_body_135 : tab t_X8_body 135 = some (.ireturn, 1, 0, 0, 0, 0, 0, 0, 0, 0, []) := rfl
def t_X8_person : List (Nat × rw_) := [(0, (.iload_n 1, 1, 1, 0, 0, 0, 0, 0, 0, 0, [])), (1, (.bipush 10, 2, 0, 10, 0, 0, 0, 0, 0, 0, [])), (3, (.invokestatic 78, 3, 2, 0, 0, 0, 109, 0, 0, 0, [])), (6, (.ifCond .eq 35, 3, 41, 0, 0, 0, 0, 0, 0, 0, [])), (9, (.iload_n 2, 1, 2, 0, 0, 0, 0, 0, 0, 0, [])), (10, (.sipush 10000, 3, 0, 10000, 0, 0, 0, 0, 0, 0, [])), (13, (.invokestatic 78, 3, 2, 0, 0, 0, 109, 0, 0, 0, [])), (16, (.ifCond .eq 25, 3, 41, 0, 0, 0, 0, 0, 0, 0, [])), (19, (.iload_n 3, 1, 3, 0, 0, 0, 0, 0, 0, 0, [])), (20, (.iconst 4, 1, 0, 4, 0, 0, 0, 0, 0, 0, [])), (21, (.invokestatic 78, 3, 2, 0, 0, 0, 109, 0, 0, 0, [])), (24, (.ifCond .eq 17, 3, 41, 0, 0, 0, 0, 0, 0, 0, [])), (27, (.iload 5, 2, 5, 0, 0, 0, 0, 0, 0, 0, [])), (29, (.bipush 10, 2, 0, 10, 0, 0, 0, 0, 0, 0, [])), (31, (.invokestatic 78, 3, 2, 0, 0, 0, 109, 0, 0, 0, [])), (34, (.ifCond .eq 7, 3, 41, 0, 0, 0, 0, 0, 0, 0, [])), (37, (.iconst 1, 1, 0, 1, 0, 0, 0, 0, 0, 0, [])), (38, (.goto 4, 3, 42, 0, 0, 0, 0, 0, 0, 0, [])), (41, (.iconst 0, 1, 0, 0, 0, 0, 0, 0, 0, 0, [])), (42, (.istore 6, 2, 6, 0, 0, 0, 0, 0, 0, 0, [])), (44, (.iload 6, 2, 6, 0, 0, 0, 0, 0, 0, 0, [])), (46, (.ifCond .eq 18, 3, 64, 0, 0, 0, 0, 0, 0, 0, [])), (49, (.aload_n 0, 1, 0, 0, 0, 0, 0, 0, 0, 0, [])), (50, (.getfield 10, 3, 2, 0, 0, 8, 0, 0, 0, 0, [])), (53, (.getfield 68, 3, 2, 0, 0, 7, 0, 0, 0, 0, [])), (56, (.iload 4, 2, 4, 0, 0, 0, 0, 0, 0, 0, [])), (58, (.invokevirtual 72, 3, 1, 0, 0, 0, 59, 7, 0, 0, [])), (61, (.ifCond .ne 5, 3, 66, 0, 0, 0, 0, 0, 0, 0, [])), (64, (.iconst (-1), 1, 0, -1, 0, 0, 0, 0, 0, 0, [])), (65, (.ireturn, 1, 0, 0, 0, 0, 0, 0, 0, 0, [])), (66, (.aload_n 0, 1, 0, 0, 0, 0, 0, 0, 0, 0, [])), (67, (.getfield 10, 3, 2, 0, 0, 8, 0, 0, 0, 0, [])), (70, (.getfield 93, 3, 2, 0, 0, 7, 1, 0, 0, 0, [])), (73, (.invokevirtual 85, 3, 0, 0, 0, 0, 62, 7, 0, 0, [])), (76, (.istore 7, 2, 7, 0, 0, 0, 0, 0, 0, 0, [])), (78, (.aload_n 0, 1, 0, 0, 0, 0, 0, 0, 0, 0, [])), (79, (.getfield 10, 3, 2, 0, 0, 8, 0, 0, 0, 0, [])), (82, (.getfield 93, 3, 2, 0, 0, 7, 1, 0, 0, 0, [])), (85, (.iload 7, 2, 7, 0, 0, 0, 0, 0, 0, 0, [])), (87, (.iconst 0, 1, 0, 0, 0, 0, 0, 0, 0, 0, [])), (88, (.iload_n 1, 1, 1, 0, 0, 0, 0, 0, 0, 0, [])), (89, (.invokevirtual 89, 3, 3, 0, 0, 0, 61, 7, 0, 0, [])), (92, (.aload_n 0, 1, 0, 0, 0, 0, 0, 0, 0, 0, [])), (93, (.getfield 10, 3, 2, 0, 0, 8, 0, 0, 0, 0, [])), (96, (.getfield 93, 3, 2, 0, 0, 7, 1, 0, 0, 0, [])), (99, (.iload 7, 2, 7, 0, 0, 0, 0, 0, 0, 0, [])), (101, (.iconst 1, 1, 0, 1, 0, 0, 0, 0, 0, 0, [])), (102, (.iload_n 2, 1, 2, 0, 0, 0, 0, 0, 0, 0, [])), (103, (.invokevirtual 89, 3, 3, 0, 0, 0, 61, 7, 0, 0, [])), (106, (.aload_n 0, 1, 0, 0, 0, 0, 0, 0, 0, 0, [])), (107, (.getfield 10, 3, 2, 0, 0, 8, 0, 0, 0, 0, [])), (110, (.getfield 93, 3, 2, 0, 0, 7, 1, 0, 0, 0, [])), (113, (.iload 7, 2, 7, 0, 0, 0, 0, 0, 0, 0, [])), (115, (.iconst 2, 1, 0, 2, 0, 0, 0, 0, 0, 0, [])), (116, (.iload_n 3, 1, 3, 0, 0, 0, 0, 0, 0, 0, [])), (117, (.invokevirtual 89, 3, 3, 0, 0, 0, 61, 7, 0, 0, [])), (120, (.aload_n 0, 1, 0, 0, 0, 0, 0, 0, 0, 0, [])), (121, (.getfield 10, 3, 2, 0, 0, 8, 0, 0, 0, 0, [])), (124, (.getfield 93, 3, 2, 0, 0, 7, 1, 0, 0, 0, [])), (127, (.iload 7, 2, 7, 0, 0, 0, 0, 0, 0, 0, [])), (129, (.iconst 3, 1, 0, 3, 0, 0, 0, 0, 0, 0, [])), (130, (.iload 4, 2, 4, 0, 0, 0, 0, 0, 0, 0, [])), (132, (.invokevirtual 89, 3, 3, 0, 0, 0, 61, 7, 0, 0, [])), (135, (.aload_n 0, 1, 0, 0, 0, 0, 0, 0, 0, 0, [])), (136, (.getfield 10, 3, 2, 0, 0, 8, 0, 0, 0, 0, [])), (139, (.getfield 93, 3, 2, 0, 0, 7, 1, 0, 0, 0, [])), (142, (.iload 7, 2, 7, 0, 0, 0, 0, 0, 0, 0, [])), (144, (.iconst 4, 1, 0, 4, 0, 0, 0, 0, 0, 0, [])), (145, (.iload 5, 2, 5, 0, 0, 0, 0, 0, 0, 0, [])), (147, (.invokevirtual 89, 3, 3, 0, 0, 0, 61, 7, 0, 0, [])), (150, (.aload_n 0, 1, 0, 0, 0, 0, 0, 0, 0, 0, [])), (151, (.getfield 10, 3, 2, 0, 0, 8, 0, 0, 0, 0, [])), (154, (.getfield 93, 3, 2, 0, 0, 7, 1, 0, 0, 0, [])), (157, (.iload 7, 2, 7, 0, 0, 0, 0, 0, 0, 0, [])), (159, (.iconst 5, 1, 0, 5, 0, 0, 0, 0, 0, 0, [])), (160, (.iconst (-1), 1, 0, -1, 0, 0, 0, 0, 0, 0, [])), (161, (.invokevirtual 89, 3, 3, 0, 0, 0, 61, 7, 0, 0, [])), (164, (.iload 7, 2, 7, 0, 0, 0, 0, 0, 0, 0, [])), (166, (.ireturn, 1, 0, 0, 0, 0, 0, 0, 0, 0, []))]
set_option maxRecDepth 100000 in
theorem ok_X8_person : tb_ok ctX8 m_X8_person t_X8_person = true := by decide +kernel
theorem i_X8_person_0 : tab t_X8_person 0 = some (.iload_n 1, 1, 1, 0, 0, 0, 0, 0, 0, 0, []) := rfl
theorem i_X8_person_1 : tab t_X8_person 1 = some (.bipush 10, 2, 0, 10, 0, 0, 0, 0, 0, 0, []) := rfl
theorem i_X8_person_3 : tab t_X8_person 3 = some (.invokestatic 78, 3, 2, 0, 0, 0, 109, 0, 0, 0, []) := rfl
theorem i_X8_person_6 : tab t_X8_person 6 = some (.ifCond .eq 35, 3, 41, 0, 0, 0, 0, 0, 0, 0, []) := rfl
theorem i_X8_person_9 : tab t_X8_person 9 = some (.iload_n 2, 1, 2, 0, 0, 0, 0, 0, 0, 0, []) := rfl
theorem i_X8_person_10 : tab t_X8_person 10 = some (.sipush 10000, 3, 0, 10000, 0, 0, 0, 0, 0, 0, []) := rfl
theorem i_X8_person_13 : tab t_X8_person 13 = some (.invokestatic 78, 3, 2, 0, 0, 0, 109, 0, 0, 0, []) := rfl
theorem i_X8_person_16 : tab t_X8_person 16 = some (.ifCond .eq 25, 3, 41, 0, 0, 0, 0, 0, 0, 0, []) := rfl
theorem i_X8_person_19 : tab t_X8_person 19 = some (.iload_n 3, 1, 3, 0, 0, 0, 0, 0, 0, 0, []) := rfl
theorem i_X8_person_20 : tab t_X8_person 20 = some (.iconst 4, 1, 0, 4, 0, 0, 0, 0, 0, 0, []) := rfl
theorem i_X8_person_21 : tab t_X8_person 21 = some (.invokestatic 78, 3, 2, 0, 0, 0, 109, 0, 0, 0, []) := rfl
theorem i_X8_person_24 : tab t_X8_person 24 = some (.ifCond .eq 17, 3, 41, 0, 0, 0, 0, 0, 0, 0, []) := rfl
theorem i_X8_person_27 : tab t_X8_person 27 = some (.iload 5, 2, 5, 0, 0, 0, 0, 0, 0, 0, []) := rfl
theorem i_X8_person_29 : tab t_X8_person 29 = some (.bipush 10, 2, 0, 10, 0, 0, 0, 0, 0, 0, []) := rfl
theorem i_X8_person_31 : tab t_X8_person 31 = some (.invokestatic 78, 3, 2, 0, 0, 0, 109, 0, 0, 0, []) := rfl
theorem i_X8_person_34 : tab t_X8_person 34 = some (.ifCond .eq 7, 3, 41, 0, 0, 0, 0, 0, 0, 0, []) := rfl
theorem i_X8_person_37 : tab t_X8_person 37 = some (.iconst 1, 1, 0, 1, 0, 0, 0, 0, 0, 0, []) := rfl
theorem i_X8_person_38 : tab t_X8_person 38 = some (.goto 4, 3, 42, 0, 0, 0, 0, 0, 0, 0, []) := rfl
theorem i_X8_person_41 : tab t_X8_person 41 = some (.iconst 0, 1, 0, 0, 0, 0, 0, 0, 0, 0, []) := rfl
theorem i_X8_person_42 : tab t_X8_person 42 = some (.istore 6, 2, 6, 0, 0, 0, 0, 0, 0, 0, []) := rfl
theorem i_X8_person_44 : tab t_X8_person 44 = some (.iload 6, 2, 6, 0, 0, 0, 0, 0, 0, 0, []) := rfl
theorem i_X8_person_46 : tab t_X8_person 46 = some (.ifCond .eq 18, 3, 64, 0, 0, 0, 0, 0, 0, 0, []) := rfl
theorem i_X8_person_49 : tab t_X8_person 49 = some (.aload_n 0, 1, 0, 0, 0, 0, 0, 0, 0, 0, []) := rfl
theorem i_X8_person_50 : tab t_X8_person 50 = some (.getfield 10, 3, 2, 0, 0, 8, 0, 0, 0, 0, []) := rfl
theorem i_X8_person_53 : tab t_X8_person 53 = some (.getfield 68, 3, 2, 0, 0, 7, 0, 0, 0, 0, []) := rfl
theorem i_X8_person_56 : tab t_X8_person 56 = some (.iload 4, 2, 4, 0, 0, 0, 0, 0, 0, 0, []) := rfl
theorem i_X8_person_58 : tab t_X8_person 58 = some (.invokevirtual 72, 3, 1, 0, 0, 0, 59, 7, 0, 0, []) := rfl
theorem i_X8_person_61 : tab t_X8_person 61 = some (.ifCond .ne 5, 3, 66, 0, 0, 0, 0, 0, 0, 0, []) := rfl
theorem i_X8_person_64 : tab t_X8_person 64 = some (.iconst (-1), 1, 0, -1, 0, 0, 0, 0, 0, 0, []) := rfl
theorem i_X8_person_65 : tab t_X8_person 65 = some (.ireturn, 1, 0, 0, 0, 0, 0, 0, 0, 0, []) := rfl
theorem i_X8_person_66 : tab t_X8_person 66 = some (.aload_n 0, 1, 0, 0, 0, 0, 0, 0, 0, 0, []) := rfl
theorem i_X8_person_67 : tab t_X8_person 67 = some (.getfield 10, 3, 2, 0, 0, 8, 0, 0, 0, 0, []) := rfl
theorem i_X8_person_70 : tab t_X8_person 70 = some (.getfield 93, 3, 2, 0, 0, 7, 1, 0, 0, 0, []) := rfl
theorem i_X8_person_73 : tab t_X8_person 73 = some (.invokevirtual 85, 3, 0, 0, 0, 0, 62, 7, 0, 0, []) := rfl
theorem i_X8_person_76 : tab t_X8_person 76 = some (.istore 7, 2, 7, 0, 0, 0, 0, 0, 0, 0, []) := rfl
theorem i_X8_person_78 : tab t_X8_person 78 = some (.aload_n 0, 1, 0, 0, 0, 0, 0, 0, 0, 0, []) := rfl
theorem i_X8_person_79 : tab t_X8_person 79 = some (.getfield 10, 3, 2, 0, 0, 8, 0, 0, 0, 0, []) := rfl
theorem i_X8_person_82 : tab t_X8_person 82 = some (.getfield 93, 3, 2, 0, 0, 7, 1, 0, 0, 0, []) := rfl
theorem i_X8_person_85 : tab t_X8_person 85 = some (.iload 7, 2, 7, 0, 0, 0, 0, 0, 0, 0, []) := rfl
theorem i_X8_person_87 : tab t_X8_person 87 = some (.iconst 0, 1, 0, 0, 0, 0, 0, 0, 0, 0, []) := rfl
theorem i_X8_person_88 : tab t_X8_person 88 = some (.iload_n 1, 1, 1, 0, 0, 0, 0, 0, 0, 0, []) := rfl
theorem i_X8_person_89 : tab t_X8_person 89 = some (.invokevirtual 89, 3, 3, 0, 0, 0, 61, 7, 0, 0, []) := rfl
theorem i_X8_person_92 : tab t_X8_person 92 = some (.aload_n 0, 1, 0, 0, 0, 0, 0, 0, 0, 0, []) := rfl
theorem i_X8_person_93 : tab t_X8_person 93 = some (.getfield 10, 3, 2, 0, 0, 8, 0, 0, 0, 0, []) := rfl
theorem i_X8_person_96 : tab t_X8_person 96 = some (.getfield 93, 3, 2, 0, 0, 7, 1, 0, 0, 0, []) := rfl
theorem i_X8_person_99 : tab t_X8_person 99 = some (.iload 7, 2, 7, 0, 0, 0, 0, 0, 0, 0, []) := rfl
theorem i_X8_person_101 : tab t_X8_person 101 = some (.iconst 1, 1, 0, 1, 0, 0, 0, 0, 0, 0, []) := rfl
theorem i_X8_person_102 : tab t_X8_person 102 = some (.iload_n 2, 1, 2, 0, 0, 0, 0, 0, 0, 0, []) := rfl
theorem i_X8_person_103 : tab t_X8_person 103 = some (.invokevirtual 89, 3, 3, 0, 0, 0, 61, 7, 0, 0, []) := rfl
theorem i_X8_person_106 : tab t_X8_person 106 = some (.aload_n 0, 1, 0, 0, 0, 0, 0, 0, 0, 0, []) := rfl
theorem i_X8_person_107 : tab t_X8_person 107 = some (.getfield 10, 3, 2, 0, 0, 8, 0, 0, 0, 0, []) := rfl
theorem i_X8_person_110 : tab t_X8_person 110 = some (.getfield 93, 3, 2, 0, 0, 7, 1, 0, 0, 0, []) := rfl
theorem i_X8_person_113 : tab t_X8_person 113 = some (.iload 7, 2, 7, 0, 0, 0, 0, 0, 0, 0, []) := rfl
theorem i_X8_person_115 : tab t_X8_person 115 = some (.iconst 2, 1, 0, 2, 0, 0, 0, 0, 0, 0, []) := rfl
theorem i_X8_person_116 : tab t_X8_person 116 = some (.iload_n 3, 1, 3, 0, 0, 0, 0, 0, 0, 0, []) := rfl
theorem i_X8_person_117 : tab t_X8_person 117 = some (.invokevirtual 89, 3, 3, 0, 0, 0, 61, 7, 0, 0, []) := rfl
theorem i_X8_person_120 : tab t_X8_person 120 = some (.aload_n 0, 1, 0, 0, 0, 0, 0, 0, 0, 0, []) := rfl
theorem i_X8_person_121 : tab t_X8_person 121 = some (.getfield 10, 3, 2, 0, 0, 8, 0, 0, 0, 0, []) := rfl
theorem i_X8_person_124 : tab t_X8_person 124 = some (.getfield 93, 3, 2, 0, 0, 7, 1, 0, 0, 0, []) := rfl
theorem i_X8_person_127 : tab t_X8_person 127 = some (.iload 7, 2, 7, 0, 0, 0, 0, 0, 0, 0, []) := rfl
theorem i_X8_person_129 : tab t_X8_person 129 = some (.iconst 3, 1, 0, 3, 0, 0, 0, 0, 0, 0, []) := rfl
theorem i_X8_person_130 : tab t_X8_person 130 = some (.iload 4, 2, 4, 0, 0, 0, 0, 0, 0, 0, []) := rfl
theorem i_X8_person_132 : tab t_X8_person 132 = some (.invokevirtual 89, 3, 3, 0, 0, 0, 61, 7, 0, 0, []) := rfl
theorem i_X8_person_135 : tab t_X8_person 135 = some (.aload_n 0, 1, 0, 0, 0, 0, 0, 0, 0, 0, []) := rfl
theorem i_X8_person_136 : tab t_X8_person 136 = some (.getfield 10, 3, 2, 0, 0, 8, 0, 0, 0, 0, []) := rfl
theorem i_X8_person_139 : tab t_X8_person 139 = some (.getfield 93, 3, 2, 0, 0, 7, 1, 0, 0, 0, []) := rfl
theorem i_X8_person_142 : tab t_X8_person 142 = some (.iload 7, 2, 7, 0, 0, 0, 0, 0, 0, 0, []) := rfl
theorem i_X8_person_144 : tab t_X8_person 144 = some (.iconst 4, 1, 0, 4, 0, 0, 0, 0, 0, 0, []) := rfl
theorem i_X8_person_145 : tab t_X8_person 145 = some (.iload 5, 2, 5, 0, 0, 0, 0, 0, 0, 0, []) := rfl
theorem i_X8_person_147 : tab t_X8_person 147 = some (.invokevirtual 89, 3, 3, 0, 0, 0, 61, 7, 0, 0, []) := rfl
theorem i_X8_person_150 : tab t_X8_person 150 = some (.aload_n 0, 1, 0, 0, 0, 0, 0, 0, 0, 0, []) := rfl
theorem i_X8_person_151 : tab t_X8_person 151 = some (.getfield 10, 3, 2, 0, 0, 8, 0, 0, 0, 0, []) := rfl
theorem i_X8_person_154 : tab t_X8_person 154 = some (.getfield 93, 3, 2, 0, 0, 7, 1, 0, 0, 0, []) := rfl
theorem i_X8_person_157 : tab t_X8_person 157 = some (.iload 7, 2, 7, 0, 0, 0, 0, 0, 0, 0, []) := rfl
theorem i_X8_person_159 : tab t_X8_person 159 = some (.iconst 5, 1, 0, 5, 0, 0, 0, 0, 0, 0, []) := rfl
theorem i_X8_person_160 : tab t_X8_person 160 = some (.iconst (-1), 1, 0, -1, 0, 0, 0, 0, 0, 0, []) := rfl
theorem i_X8_person_161 : tab t_X8_person 161 = some (.invokevirtual 89, 3, 3, 0, 0, 0, 61, 7, 0, 0, []) := rfl
theorem i_X8_person_164 : tab t_X8_person 164 = some (.iload 7, 2, 7, 0, 0, 0, 0, 0, 0, 0, []) := rfl
theorem i_X8_person_166 : tab t_X8_person 166 = some (.ireturn, 1, 0, 0, 0, 0, 0, 0, 0, 0, []) := rfl
def t_X8_step : List (Nat × rw_) := [(0, (.aload_n 0, 1, 0, 0, 0, 0, 0, 0, 0, 0, [])), (1, (.getfield 10, 3, 2, 0, 0, 8, 0, 0, 0, 0, [])), (4, (.getfield 93, 3, 2, 0, 0, 7, 1, 0, 0, 0, [])), (7, (.iload_n 1, 1, 1, 0, 0, 0, 0, 0, 0, 0, [])), (8, (.invokevirtual 72, 3, 1, 0, 0, 0, 59, 7, 0, 0, [])), (11, (.ifCond .eq 19, 3, 30, 0, 0, 0, 0, 0, 0, 0, [])), (14, (.iload_n 2, 1, 2, 0, 0, 0, 0, 0, 0, 0, [])), (15, (.invokestatic 96, 3, 1, 0, 0, 0, 110, 0, 0, 0, [])), (18, (.ifCond .eq 12, 3, 30, 0, 0, 0, 0, 0, 0, 0, [])), (21, (.iload_n 3, 1, 3, 0, 0, 0, 0, 0, 0, 0, [])), (22, (.iload 4, 2, 4, 0, 0, 0, 0, 0, 0, 0, [])), (24, (.invokestatic 82, 3, 2, 0, 0, 0, 111, 0, 0, 0, [])), (27, (.ifCond .ne 5, 3, 32, 0, 0, 0, 0, 0, 0, 0, [])), (30, (.iconst (-1), 1, 0, -1, 0, 0, 0, 0, 0, 0, [])), (31, (.ireturn, 1, 0, 0, 0, 0, 0, 0, 0, 0, [])), (32, (.aload_n 0, 1, 0, 0, 0, 0, 0, 0, 0, 0, [])), (33, (.getfield 10, 3, 2, 0, 0, 8, 0, 0, 0, 0, [])), (36, (.getfield 99, 3, 2, 0, 0, 7, 2, 0, 0, 0, [])), (39, (.invokevirtual 85, 3, 0, 0, 0, 0, 62, 7, 0, 0, [])), (42, (.istore 5, 2, 5, 0, 0, 0, 0, 0, 0, 0, [])), (44, (.iload 5, 2, 5, 0, 0, 0, 0, 0, 0, 0, [])), (46, (.iconst (-1), 1, 0, -1, 0, 0, 0, 0, 0, 0, [])), (47, (.if_icmp .ne 5, 3, 52, 0, 0, 0, 0, 0, 0, 0, [])), (50, (.iconst (-1), 1, 0, -1, 0, 0, 0, 0, 0, 0, [])), (51, (.ireturn, 1, 0, 0, 0, 0, 0, 0, 0, 0, [])), (52, (.aload_n 0, 1, 0, 0, 0, 0, 0, 0, 0, 0, [])), (53, (.getfield 10, 3, 2, 0, 0, 8, 0, 0, 0, 0, [])), (56, (.getfield 99, 3, 2, 0, 0, 7, 2, 0, 0, 0, [])), (59, (.iload 5, 2, 5, 0, 0, 0, 0, 0, 0, 0, [])), (61, (.iconst 0, 1, 0, 0, 0, 0, 0, 0, 0, 0, [])), (62, (.iload_n 1, 1, 1, 0, 0, 0, 0, 0, 0, 0, [])), (63, (.invokevirtual 89, 3, 3, 0, 0, 0, 61, 7, 0, 0, [])), (66, (.aload_n 0, 1, 0, 0, 0, 0, 0, 0, 0, 0, [])), (67, (.getfield 10, 3, 2, 0, 0, 8, 0, 0, 0, 0, [])), (70, (.getfield 99, 3, 2, 0, 0, 7, 2, 0, 0, 0, [])), (73, (.iload 5, 2, 5, 0, 0, 0, 0, 0, 0, 0, [])), (75, (.iconst 1, 1, 0, 1, 0, 0, 0, 0, 0, 0, [])), (76, (.iload_n 2, 1, 2, 0, 0, 0, 0, 0, 0, 0, [])), (77, (.invokevirtual 89, 3, 3, 0, 0, 0, 61, 7, 0, 0, [])), (80, (.aload_n 0, 1, 0, 0, 0, 0, 0, 0, 0, 0, [])), (81, (.getfield 10, 3, 2, 0, 0, 8, 0, 0, 0, 0, [])), (84, (.getfield 99, 3, 2, 0, 0, 7, 2, 0, 0, 0, [])), (87, (.iload 5, 2, 5, 0, 0, 0, 0, 0, 0, 0, [])), (89, (.iconst 2, 1, 0, 2, 0, 0, 0, 0, 0, 0, [])), (90, (.iload_n 3, 1, 3, 0, 0, 0, 0, 0, 0, 0, [])), (91, (.invokevirtual 89, 3, 3, 0, 0, 0, 61, 7, 0, 0, [])), (94, (.aload_n 0, 1, 0, 0, 0, 0, 0, 0, 0, 0, [])), (95, (.getfield 10, 3, 2, 0, 0, 8, 0, 0, 0, 0, [])), (98, (.getfield 99, 3, 2, 0, 0, 7, 2, 0, 0, 0, [])), (101, (.iload 5, 2, 5, 0, 0, 0, 0, 0, 0, 0, [])), (103, (.iconst 3, 1, 0, 3, 0, 0, 0, 0, 0, 0, [])), (104, (.iload 4, 2, 4, 0, 0, 0, 0, 0, 0, 0, [])), (106, (.invokevirtual 89, 3, 3, 0, 0, 0, 61, 7, 0, 0, [])), (109, (.iload 5, 2, 5, 0, 0, 0, 0, 0, 0, 0, [])), (111, (.iconst 1, 1, 0, 1, 0, 0, 0, 0, 0, 0, [])), (112, (.iadd, 1, 0, 0, 0, 0, 0, 0, 0, 0, [])), (113, (.ireturn, 1, 0, 0, 0, 0, 0, 0, 0, 0, []))]
set_option maxRecDepth 100000 in
theorem ok_X8_step : tb_ok ctX8 m_X8_step t_X8_step = true := by decide +kernel
theorem i_X8_step_0 : tab t_X8_step 0 = some (.aload_n 0, 1, 0, 0, 0, 0, 0, 0, 0, 0, []) := rfl
theorem i_X8_step_1 : tab t_X8_step 1 = some (.getfield 10, 3, 2, 0, 0, 8, 0, 0, 0, 0, []) := rfl
theorem i_X8_step_4 : tab t_X8_step 4 = some (.getfield 93, 3, 2, 0, 0, 7, 1, 0, 0, 0, []) := rfl
theorem i_X8_step_7 : tab t_X8_step 7 = some (.iload_n 1, 1, 1, 0, 0, 0, 0, 0, 0, 0, []) := rfl
theorem i_X8_step_8 : tab t_X8_step 8 = some (.invokevirtual 72, 3, 1, 0, 0, 0, 59, 7, 0, 0, []) := rfl
theorem i_X8_step_11 : tab t_X8_step 11 = some (.ifCond .eq 19, 3, 30, 0, 0, 0, 0, 0, 0, 0, []) := rfl
theorem i_X8_step_14 : tab t_X8_step 14 = some (.iload_n 2, 1, 2, 0, 0, 0, 0, 0, 0, 0, []) := rfl
theorem i_X8_step_15 : tab t_X8_step 15 = some (.invokestatic 96, 3, 1, 0, 0, 0, 110, 0, 0, 0, []) := rfl
theorem i_X8_step_18 : tab t_X8_step 18 = some (.ifCond .eq 12, 3, 30, 0, 0, 0, 0, 0, 0, 0, []) := rfl
theorem i_X8_step_21 : tab t_X8_step 21 = some (.iload_n 3, 1, 3, 0, 0, 0, 0, 0, 0, 0, []) := rfl
theorem i_X8_step_22 : tab t_X8_step 22 = some (.iload 4, 2, 4, 0, 0, 0, 0, 0, 0, 0, []) := rfl
theorem i_X8_step_24 : tab t_X8_step 24 = some (.invokestatic 82, 3, 2, 0, 0, 0, 111, 0, 0, 0, []) := rfl
theorem i_X8_step_27 : tab t_X8_step 27 = some (.ifCond .ne 5, 3, 32, 0, 0, 0, 0, 0, 0, 0, []) := rfl
theorem i_X8_step_30 : tab t_X8_step 30 = some (.iconst (-1), 1, 0, -1, 0, 0, 0, 0, 0, 0, []) := rfl
theorem i_X8_step_31 : tab t_X8_step 31 = some (.ireturn, 1, 0, 0, 0, 0, 0, 0, 0, 0, []) := rfl
theorem i_X8_step_32 : tab t_X8_step 32 = some (.aload_n 0, 1, 0, 0, 0, 0, 0, 0, 0, 0, []) := rfl
theorem i_X8_step_33 : tab t_X8_step 33 = some (.getfield 10, 3, 2, 0, 0, 8, 0, 0, 0, 0, []) := rfl
theorem i_X8_step_36 : tab t_X8_step 36 = some (.getfield 99, 3, 2, 0, 0, 7, 2, 0, 0, 0, []) := rfl
theorem i_X8_step_39 : tab t_X8_step 39 = some (.invokevirtual 85, 3, 0, 0, 0, 0, 62, 7, 0, 0, []) := rfl
theorem i_X8_step_42 : tab t_X8_step 42 = some (.istore 5, 2, 5, 0, 0, 0, 0, 0, 0, 0, []) := rfl
theorem i_X8_step_44 : tab t_X8_step 44 = some (.iload 5, 2, 5, 0, 0, 0, 0, 0, 0, 0, []) := rfl
theorem i_X8_step_46 : tab t_X8_step 46 = some (.iconst (-1), 1, 0, -1, 0, 0, 0, 0, 0, 0, []) := rfl
theorem i_X8_step_47 : tab t_X8_step 47 = some (.if_icmp .ne 5, 3, 52, 0, 0, 0, 0, 0, 0, 0, []) := rfl
theorem i_X8_step_50 : tab t_X8_step 50 = some (.iconst (-1), 1, 0, -1, 0, 0, 0, 0, 0, 0, []) := rfl
theorem i_X8_step_51 : tab t_X8_step 51 = some (.ireturn, 1, 0, 0, 0, 0, 0, 0, 0, 0, []) := rfl
theorem i_X8_step_52 : tab t_X8_step 52 = some (.aload_n 0, 1, 0, 0, 0, 0, 0, 0, 0, 0, []) := rfl
theorem i_X8_step_53 : tab t_X8_step 53 = some (.getfield 10, 3, 2, 0, 0, 8, 0, 0, 0, 0, []) := rfl
theorem i_X8_step_56 : tab t_X8_step 56 = some (.getfield 99, 3, 2, 0, 0, 7, 2, 0, 0, 0, []) := rfl
theorem i_X8_step_59 : tab t_X8_step 59 = some (.iload 5, 2, 5, 0, 0, 0, 0, 0, 0, 0, []) := rfl
theorem i_X8_step_61 : tab t_X8_step 61 = some (.iconst 0, 1, 0, 0, 0, 0, 0, 0, 0, 0, []) := rfl
theorem i_X8_step_62 : tab t_X8_step 62 = some (.iload_n 1, 1, 1, 0, 0, 0, 0, 0, 0, 0, []) := rfl
theorem i_X8_step_63 : tab t_X8_step 63 = some (.invokevirtual 89, 3, 3, 0, 0, 0, 61, 7, 0, 0, []) := rfl
theorem i_X8_step_66 : tab t_X8_step 66 = some (.aload_n 0, 1, 0, 0, 0, 0, 0, 0, 0, 0, []) := rfl
theorem i_X8_step_67 : tab t_X8_step 67 = some (.getfield 10, 3, 2, 0, 0, 8, 0, 0, 0, 0, []) := rfl
theorem i_X8_step_70 : tab t_X8_step 70 = some (.getfield 99, 3, 2, 0, 0, 7, 2, 0, 0, 0, []) := rfl
theorem i_X8_step_73 : tab t_X8_step 73 = some (.iload 5, 2, 5, 0, 0, 0, 0, 0, 0, 0, []) := rfl
theorem i_X8_step_75 : tab t_X8_step 75 = some (.iconst 1, 1, 0, 1, 0, 0, 0, 0, 0, 0, []) := rfl
theorem i_X8_step_76 : tab t_X8_step 76 = some (.iload_n 2, 1, 2, 0, 0, 0, 0, 0, 0, 0, []) := rfl
theorem i_X8_step_77 : tab t_X8_step 77 = some (.invokevirtual 89, 3, 3, 0, 0, 0, 61, 7, 0, 0, []) := rfl
theorem i_X8_step_80 : tab t_X8_step 80 = some (.aload_n 0, 1, 0, 0, 0, 0, 0, 0, 0, 0, []) := rfl
theorem i_X8_step_81 : tab t_X8_step 81 = some (.getfield 10, 3, 2, 0, 0, 8, 0, 0, 0, 0, []) := rfl
theorem i_X8_step_84 : tab t_X8_step 84 = some (.getfield 99, 3, 2, 0, 0, 7, 2, 0, 0, 0, []) := rfl
theorem i_X8_step_87 : tab t_X8_step 87 = some (.iload 5, 2, 5, 0, 0, 0, 0, 0, 0, 0, []) := rfl
theorem i_X8_step_89 : tab t_X8_step 89 = some (.iconst 2, 1, 0, 2, 0, 0, 0, 0, 0, 0, []) := rfl
theorem i_X8_step_90 : tab t_X8_step 90 = some (.iload_n 3, 1, 3, 0, 0, 0, 0, 0, 0, 0, []) := rfl
theorem i_X8_step_91 : tab t_X8_step 91 = some (.invokevirtual 89, 3, 3, 0, 0, 0, 61, 7, 0, 0, []) := rfl
theorem i_X8_step_94 : tab t_X8_step 94 = some (.aload_n 0, 1, 0, 0, 0, 0, 0, 0, 0, 0, []) := rfl
theorem i_X8_step_95 : tab t_X8_step 95 = some (.getfield 10, 3, 2, 0, 0, 8, 0, 0, 0, 0, []) := rfl
theorem i_X8_step_98 : tab t_X8_step 98 = some (.getfield 99, 3, 2, 0, 0, 7, 2, 0, 0, 0, []) := rfl
theorem i_X8_step_101 : tab t_X8_step 101 = some (.iload 5, 2, 5, 0, 0, 0, 0, 0, 0, 0, []) := rfl
theorem i_X8_step_103 : tab t_X8_step 103 = some (.iconst 3, 1, 0, 3, 0, 0, 0, 0, 0, 0, []) := rfl
theorem i_X8_step_104 : tab t_X8_step 104 = some (.iload 4, 2, 4, 0, 0, 0, 0, 0, 0, 0, []) := rfl
theorem i_X8_step_106 : tab t_X8_step 106 = some (.invokevirtual 89, 3, 3, 0, 0, 0, 61, 7, 0, 0, []) := rfl
theorem i_X8_step_109 : tab t_X8_step 109 = some (.iload 5, 2, 5, 0, 0, 0, 0, 0, 0, 0, []) := rfl
theorem i_X8_step_111 : tab t_X8_step 111 = some (.iconst 1, 1, 0, 1, 0, 0, 0, 0, 0, 0, []) := rfl
theorem i_X8_step_112 : tab t_X8_step 112 = some (.iadd, 1, 0, 0, 0, 0, 0, 0, 0, 0, []) := rfl
theorem i_X8_step_113 : tab t_X8_step 113 = some (.ireturn, 1, 0, 0, 0, 0, 0, 0, 0, 0, []) := rfl
def t_X8_near : List (Nat × rw_) := [(0, (.aload_n 0, 1, 0, 0, 0, 0, 0, 0, 0, 0, [])), (1, (.getfield 10, 3, 2, 0, 0, 8, 0, 0, 0, 0, [])), (4, (.getfield 93, 3, 2, 0, 0, 7, 1, 0, 0, 0, [])), (7, (.iload_n 1, 1, 1, 0, 0, 0, 0, 0, 0, 0, [])), (8, (.invokevirtual 72, 3, 1, 0, 0, 0, 59, 7, 0, 0, [])), (11, (.ifCond .eq 12, 3, 23, 0, 0, 0, 0, 0, 0, 0, [])), (14, (.aload_n 0, 1, 0, 0, 0, 0, 0, 0, 0, 0, [])), (15, (.iload_n 2, 1, 2, 0, 0, 0, 0, 0, 0, 0, [])), (16, (.iload_n 3, 1, 3, 0, 0, 0, 0, 0, 0, 0, [])), (17, (.invokevirtual 102, 3, 2, 0, 0, 0, 114, 9, 0, 0, [])), (20, (.ifCond .ne 5, 3, 25, 0, 0, 0, 0, 0, 0, 0, [])), (23, (.iconst (-1), 1, 0, -1, 0, 0, 0, 0, 0, 0, [])), (24, (.ireturn, 1, 0, 0, 0, 0, 0, 0, 0, 0, [])), (25, (.aload_n 0, 1, 0, 0, 0, 0, 0, 0, 0, 0, [])), (26, (.getfield 47, 3, 2, 0, 0, 8, 7, 0, 0, 0, [])), (29, (.aload_n 0, 1, 0, 0, 0, 0, 0, 0, 0, 0, [])), (30, (.getfield 10, 3, 2, 0, 0, 8, 0, 0, 0, 0, [])), (33, (.iload_n 2, 1, 2, 0, 0, 0, 0, 0, 0, 0, [])), (34, (.iload_n 3, 1, 3, 0, 0, 0, 0, 0, 0, 0, [])), (35, (.invokevirtual 105, 3, 3, 0, 0, 0, 1, 1, 0, 0, [])), (38, (.aload_n 0, 1, 0, 0, 0, 0, 0, 0, 0, 0, [])), (39, (.getfield 47, 3, 2, 0, 0, 8, 7, 0, 0, 0, [])), (42, (.iload_n 1, 1, 1, 0, 0, 0, 0, 0, 0, 0, [])), (43, (.iconst 5, 1, 0, 5, 0, 0, 0, 0, 0, 0, [])), (44, (.invokevirtual 109, 3, 2, 0, 0, 0, 5, 1, 0, 0, [])), (47, (.ireturn, 1, 0, 0, 0, 0, 0, 0, 0, 0, []))]
set_option maxRecDepth 100000 in
theorem ok_X8_near : tb_ok ctX8 m_X8_near t_X8_near = true := by decide +kernel
theorem i_X8_near_0 : tab t_X8_near 0 = some (.aload_n 0, 1, 0, 0, 0, 0, 0, 0, 0, 0, []) := rfl
theorem i_X8_near_1 : tab t_X8_near 1 = some (.getfield 10, 3, 2, 0, 0, 8, 0, 0, 0, 0, []) := rfl
theorem i_X8_near_4 : tab t_X8_near 4 = some (.getfield 93, 3, 2, 0, 0, 7, 1, 0, 0, 0, []) := rfl
theorem i_X8_near_7 : tab t_X8_near 7 = some (.iload_n 1, 1, 1, 0, 0, 0, 0, 0, 0, 0, []) := rfl
theorem i_X8_near_8 : tab t_X8_near 8 = some (.invokevirtual 72, 3, 1, 0, 0, 0, 59, 7, 0, 0, []) := rfl
theorem i_X8_near_11 : tab t_X8_near 11 = some (.ifCond .eq 12, 3, 23, 0, 0, 0, 0, 0, 0, 0, []) := rfl
theorem i_X8_near_14 : tab t_X8_near 14 = some (.aload_n 0, 1, 0, 0, 0, 0, 0, 0, 0, 0, []) := rfl
theorem i_X8_near_15 : tab t_X8_near 15 = some (.iload_n 2, 1, 2, 0, 0, 0, 0, 0, 0, 0, []) := rfl
theorem i_X8_near_16 : tab t_X8_near 16 = some (.iload_n 3, 1, 3, 0, 0, 0, 0, 0, 0, 0, []) := rfl
theorem i_X8_near_17 : tab t_X8_near 17 = some (.invokevirtual 102, 3, 2, 0, 0, 0, 114, 9, 0, 0, []) := rfl
theorem i_X8_near_20 : tab t_X8_near 20 = some (.ifCond .ne 5, 3, 25, 0, 0, 0, 0, 0, 0, 0, []) := rfl
theorem i_X8_near_23 : tab t_X8_near 23 = some (.iconst (-1), 1, 0, -1, 0, 0, 0, 0, 0, 0, []) := rfl
theorem i_X8_near_24 : tab t_X8_near 24 = some (.ireturn, 1, 0, 0, 0, 0, 0, 0, 0, 0, []) := rfl
theorem i_X8_near_25 : tab t_X8_near 25 = some (.aload_n 0, 1, 0, 0, 0, 0, 0, 0, 0, 0, []) := rfl
theorem i_X8_near_26 : tab t_X8_near 26 = some (.getfield 47, 3, 2, 0, 0, 8, 7, 0, 0, 0, []) := rfl
theorem i_X8_near_29 : tab t_X8_near 29 = some (.aload_n 0, 1, 0, 0, 0, 0, 0, 0, 0, 0, []) := rfl
theorem i_X8_near_30 : tab t_X8_near 30 = some (.getfield 10, 3, 2, 0, 0, 8, 0, 0, 0, 0, []) := rfl
theorem i_X8_near_33 : tab t_X8_near 33 = some (.iload_n 2, 1, 2, 0, 0, 0, 0, 0, 0, 0, []) := rfl
theorem i_X8_near_34 : tab t_X8_near 34 = some (.iload_n 3, 1, 3, 0, 0, 0, 0, 0, 0, 0, []) := rfl
theorem i_X8_near_35 : tab t_X8_near 35 = some (.invokevirtual 105, 3, 3, 0, 0, 0, 1, 1, 0, 0, []) := rfl
theorem i_X8_near_38 : tab t_X8_near 38 = some (.aload_n 0, 1, 0, 0, 0, 0, 0, 0, 0, 0, []) := rfl
theorem i_X8_near_39 : tab t_X8_near 39 = some (.getfield 47, 3, 2, 0, 0, 8, 7, 0, 0, 0, []) := rfl
theorem i_X8_near_42 : tab t_X8_near 42 = some (.iload_n 1, 1, 1, 0, 0, 0, 0, 0, 0, 0, []) := rfl
theorem i_X8_near_43 : tab t_X8_near 43 = some (.iconst 5, 1, 0, 5, 0, 0, 0, 0, 0, 0, []) := rfl
theorem i_X8_near_44 : tab t_X8_near 44 = some (.invokevirtual 109, 3, 2, 0, 0, 0, 5, 1, 0, 0, []) := rfl
theorem i_X8_near_47 : tab t_X8_near 47 = some (.ireturn, 1, 0, 0, 0, 0, 0, 0, 0, 0, []) := rfl
def t_X8_paper : List (Nat × rw_) := [(0, (.iload_n 3, 1, 3, 0, 0, 0, 0, 0, 0, 0, [])), (1, (.invokestatic 96, 3, 1, 0, 0, 0, 110, 0, 0, 0, [])), (4, (.ifCond .eq 21, 3, 25, 0, 0, 0, 0, 0, 0, 0, [])), (7, (.iload 4, 2, 4, 0, 0, 0, 0, 0, 0, 0, [])), (9, (.invokestatic 96, 3, 1, 0, 0, 0, 110, 0, 0, 0, [])), (12, (.ifCond .eq 13, 3, 25, 0, 0, 0, 0, 0, 0, 0, [])), (15, (.iload_n 3, 1, 3, 0, 0, 0, 0, 0, 0, 0, [])), (16, (.iload 4, 2, 4, 0, 0, 0, 0, 0, 0, 0, [])), (18, (.if_icmp .ge 7, 3, 25, 0, 0, 0, 0, 0, 0, 0, [])), (21, (.iconst 1, 1, 0, 1, 0, 0, 0, 0, 0, 0, [])), (22, (.goto 4, 3, 26, 0, 0, 0, 0, 0, 0, 0, [])), (25, (.iconst 0, 1, 0, 0, 0, 0, 0, 0, 0, 0, [])), (26, (.istore 5, 2, 5, 0, 0, 0, 0, 0, 0, 0, [])), (28, (.iload 5, 2, 5, 0, 0, 0, 0, 0, 0, 0, [])), (30, (.ifCond .eq 31, 3, 61, 0, 0, 0, 0, 0, 0, 0, [])), (33, (.aload_n 0, 1, 0, 0, 0, 0, 0, 0, 0, 0, [])), (34, (.getfield 10, 3, 2, 0, 0, 8, 0, 0, 0, 0, [])), (37, (.getfield 93, 3, 2, 0, 0, 7, 1, 0, 0, 0, [])), (40, (.iload_n 1, 1, 1, 0, 0, 0, 0, 0, 0, 0, [])), (41, (.invokevirtual 72, 3, 1, 0, 0, 0, 59, 7, 0, 0, [])), (44, (.ifCond .eq 17, 3, 61, 0, 0, 0, 0, 0, 0, 0, [])), (47, (.aload_n 0, 1, 0, 0, 0, 0, 0, 0, 0, 0, [])), (48, (.getfield 10, 3, 2, 0, 0, 8, 0, 0, 0, 0, [])), (51, (.getfield 68, 3, 2, 0, 0, 7, 0, 0, 0, 0, [])), (54, (.iload_n 2, 1, 2, 0, 0, 0, 0, 0, 0, 0, [])), (55, (.invokevirtual 72, 3, 1, 0, 0, 0, 59, 7, 0, 0, [])), (58, (.ifCond .ne 5, 3, 63, 0, 0, 0, 0, 0, 0, 0, [])), (61, (.iconst (-1), 1, 0, -1, 0, 0, 0, 0, 0, 0, [])), (62, (.ireturn, 1, 0, 0, 0, 0, 0, 0, 0, 0, [])), (63, (.aload_n 0, 1, 0, 0, 0, 0, 0, 0, 0, 0, [])), (64, (.getfield 10, 3, 2, 0, 0, 8, 0, 0, 0, 0, [])), (67, (.getfield 113, 3, 2, 0, 0, 7, 3, 0, 0, 0, [])), (70, (.invokevirtual 85, 3, 0, 0, 0, 0, 62, 7, 0, 0, [])), (73, (.istore 6, 2, 6, 0, 0, 0, 0, 0, 0, 0, [])), (75, (.aload_n 0, 1, 0, 0, 0, 0, 0, 0, 0, 0, [])), (76, (.getfield 10, 3, 2, 0, 0, 8, 0, 0, 0, 0, [])), (79, (.getfield 113, 3, 2, 0, 0, 7, 3, 0, 0, 0, [])), (82, (.iload 6, 2, 6, 0, 0, 0, 0, 0, 0, 0, [])), (84, (.iconst 0, 1, 0, 0, 0, 0, 0, 0, 0, 0, [])), (85, (.iload_n 1, 1, 1, 0, 0, 0, 0, 0, 0, 0, [])), (86, (.invokevirtual 89, 3, 3, 0, 0, 0, 61, 7, 0, 0, [])), (89, (.aload_n 0, 1, 0, 0, 0, 0, 0, 0, 0, 0, [])), (90, (.getfield 10, 3, 2, 0, 0, 8, 0, 0, 0, 0, [])), (93, (.getfield 113, 3, 2, 0, 0, 7, 3, 0, 0, 0, [])), (96, (.iload 6, 2, 6, 0, 0, 0, 0, 0, 0, 0, [])), (98, (.iconst 1, 1, 0, 1, 0, 0, 0, 0, 0, 0, [])), (99, (.iload_n 2, 1, 2, 0, 0, 0, 0, 0, 0, 0, [])), (100, (.invokevirtual 89, 3, 3, 0, 0, 0, 61, 7, 0, 0, [])), (103, (.aload_n 0, 1, 0, 0, 0, 0, 0, 0, 0, 0, [])), (104, (.getfield 10, 3, 2, 0, 0, 8, 0, 0, 0, 0, [])), (107, (.getfield 113, 3, 2, 0, 0, 7, 3, 0, 0, 0, [])), (110, (.iload 6, 2, 6, 0, 0, 0, 0, 0, 0, 0, [])), (112, (.iconst 2, 1, 0, 2, 0, 0, 0, 0, 0, 0, [])), (113, (.iload_n 3, 1, 3, 0, 0, 0, 0, 0, 0, 0, [])), (114, (.invokevirtual 89, 3, 3, 0, 0, 0, 61, 7, 0, 0, [])), (117, (.aload_n 0, 1, 0, 0, 0, 0, 0, 0, 0, 0, [])), (118, (.getfield 10, 3, 2, 0, 0, 8, 0, 0, 0, 0, [])), (121, (.getfield 113, 3, 2, 0, 0, 7, 3, 0, 0, 0, [])), (124, (.iload 6, 2, 6, 0, 0, 0, 0, 0, 0, 0, [])), (126, (.iconst 3, 1, 0, 3, 0, 0, 0, 0, 0, 0, [])), (127, (.iload 4, 2, 4, 0, 0, 0, 0, 0, 0, 0, [])), (129, (.invokevirtual 89, 3, 3, 0, 0, 0, 61, 7, 0, 0, [])), (132, (.iload 6, 2, 6, 0, 0, 0, 0, 0, 0, 0, [])), (134, (.ireturn, 1, 0, 0, 0, 0, 0, 0, 0, 0, []))]
set_option maxRecDepth 100000 in
theorem ok_X8_paper : tb_ok ctX8 m_X8_paper t_X8_paper = true := by decide +kernel
theorem i_X8_paper_0 : tab t_X8_paper 0 = some (.iload_n 3, 1, 3, 0, 0, 0, 0, 0, 0, 0, []) := rfl
theorem i_X8_paper_1 : tab t_X8_paper 1 = some (.invokestatic 96, 3, 1, 0, 0, 0, 110, 0, 0, 0, []) := rfl
theorem i_X8_paper_4 : tab t_X8_paper 4 = some (.ifCond .eq 21, 3, 25, 0, 0, 0, 0, 0, 0, 0, []) := rfl
theorem i_X8_paper_7 : tab t_X8_paper 7 = some (.iload 4, 2, 4, 0, 0, 0, 0, 0, 0, 0, []) := rfl
theorem i_X8_paper_9 : tab t_X8_paper 9 = some (.invokestatic 96, 3, 1, 0, 0, 0, 110, 0, 0, 0, []) := rfl
theorem i_X8_paper_12 : tab t_X8_paper 12 = some (.ifCond .eq 13, 3, 25, 0, 0, 0, 0, 0, 0, 0, []) := rfl
theorem i_X8_paper_15 : tab t_X8_paper 15 = some (.iload_n 3, 1, 3, 0, 0, 0, 0, 0, 0, 0, []) := rfl
theorem i_X8_paper_16 : tab t_X8_paper 16 = some (.iload 4, 2, 4, 0, 0, 0, 0, 0, 0, 0, []) := rfl
theorem i_X8_paper_18 : tab t_X8_paper 18 = some (.if_icmp .ge 7, 3, 25, 0, 0, 0, 0, 0, 0, 0, []) := rfl
theorem i_X8_paper_21 : tab t_X8_paper 21 = some (.iconst 1, 1, 0, 1, 0, 0, 0, 0, 0, 0, []) := rfl
theorem i_X8_paper_22 : tab t_X8_paper 22 = some (.goto 4, 3, 26, 0, 0, 0, 0, 0, 0, 0, []) := rfl
theorem i_X8_paper_25 : tab t_X8_paper 25 = some (.iconst 0, 1, 0, 0, 0, 0, 0, 0, 0, 0, []) := rfl
theorem i_X8_paper_26 : tab t_X8_paper 26 = some (.istore 5, 2, 5, 0, 0, 0, 0, 0, 0, 0, []) := rfl
theorem i_X8_paper_28 : tab t_X8_paper 28 = some (.iload 5, 2, 5, 0, 0, 0, 0, 0, 0, 0, []) := rfl
theorem i_X8_paper_30 : tab t_X8_paper 30 = some (.ifCond .eq 31, 3, 61, 0, 0, 0, 0, 0, 0, 0, []) := rfl
theorem i_X8_paper_33 : tab t_X8_paper 33 = some (.aload_n 0, 1, 0, 0, 0, 0, 0, 0, 0, 0, []) := rfl
theorem i_X8_paper_34 : tab t_X8_paper 34 = some (.getfield 10, 3, 2, 0, 0, 8, 0, 0, 0, 0, []) := rfl
theorem i_X8_paper_37 : tab t_X8_paper 37 = some (.getfield 93, 3, 2, 0, 0, 7, 1, 0, 0, 0, []) := rfl
theorem i_X8_paper_40 : tab t_X8_paper 40 = some (.iload_n 1, 1, 1, 0, 0, 0, 0, 0, 0, 0, []) := rfl
theorem i_X8_paper_41 : tab t_X8_paper 41 = some (.invokevirtual 72, 3, 1, 0, 0, 0, 59, 7, 0, 0, []) := rfl
theorem i_X8_paper_44 : tab t_X8_paper 44 = some (.ifCond .eq 17, 3, 61, 0, 0, 0, 0, 0, 0, 0, []) := rfl
theorem i_X8_paper_47 : tab t_X8_paper 47 = some (.aload_n 0, 1, 0, 0, 0, 0, 0, 0, 0, 0, []) := rfl
theorem i_X8_paper_48 : tab t_X8_paper 48 = some (.getfield 10, 3, 2, 0, 0, 8, 0, 0, 0, 0, []) := rfl
theorem i_X8_paper_51 : tab t_X8_paper 51 = some (.getfield 68, 3, 2, 0, 0, 7, 0, 0, 0, 0, []) := rfl
theorem i_X8_paper_54 : tab t_X8_paper 54 = some (.iload_n 2, 1, 2, 0, 0, 0, 0, 0, 0, 0, []) := rfl
theorem i_X8_paper_55 : tab t_X8_paper 55 = some (.invokevirtual 72, 3, 1, 0, 0, 0, 59, 7, 0, 0, []) := rfl
theorem i_X8_paper_58 : tab t_X8_paper 58 = some (.ifCond .ne 5, 3, 63, 0, 0, 0, 0, 0, 0, 0, []) := rfl
theorem i_X8_paper_61 : tab t_X8_paper 61 = some (.iconst (-1), 1, 0, -1, 0, 0, 0, 0, 0, 0, []) := rfl
theorem i_X8_paper_62 : tab t_X8_paper 62 = some (.ireturn, 1, 0, 0, 0, 0, 0, 0, 0, 0, []) := rfl
theorem i_X8_paper_63 : tab t_X8_paper 63 = some (.aload_n 0, 1, 0, 0, 0, 0, 0, 0, 0, 0, []) := rfl
theorem i_X8_paper_64 : tab t_X8_paper 64 = some (.getfield 10, 3, 2, 0, 0, 8, 0, 0, 0, 0, []) := rfl
theorem i_X8_paper_67 : tab t_X8_paper 67 = some (.getfield 113, 3, 2, 0, 0, 7, 3, 0, 0, 0, []) := rfl
theorem i_X8_paper_70 : tab t_X8_paper 70 = some (.invokevirtual 85, 3, 0, 0, 0, 0, 62, 7, 0, 0, []) := rfl
theorem i_X8_paper_73 : tab t_X8_paper 73 = some (.istore 6, 2, 6, 0, 0, 0, 0, 0, 0, 0, []) := rfl
theorem i_X8_paper_75 : tab t_X8_paper 75 = some (.aload_n 0, 1, 0, 0, 0, 0, 0, 0, 0, 0, []) := rfl
theorem i_X8_paper_76 : tab t_X8_paper 76 = some (.getfield 10, 3, 2, 0, 0, 8, 0, 0, 0, 0, []) := rfl
theorem i_X8_paper_79 : tab t_X8_paper 79 = some (.getfield 113, 3, 2, 0, 0, 7, 3, 0, 0, 0, []) := rfl
theorem i_X8_paper_82 : tab t_X8_paper 82 = some (.iload 6, 2, 6, 0, 0, 0, 0, 0, 0, 0, []) := rfl
theorem i_X8_paper_84 : tab t_X8_paper 84 = some (.iconst 0, 1, 0, 0, 0, 0, 0, 0, 0, 0, []) := rfl
theorem i_X8_paper_85 : tab t_X8_paper 85 = some (.iload_n 1, 1, 1, 0, 0, 0, 0, 0, 0, 0, []) := rfl
theorem i_X8_paper_86 : tab t_X8_paper 86 = some (.invokevirtual 89, 3, 3, 0, 0, 0, 61, 7, 0, 0, []) := rfl
theorem i_X8_paper_89 : tab t_X8_paper 89 = some (.aload_n 0, 1, 0, 0, 0, 0, 0, 0, 0, 0, []) := rfl
theorem i_X8_paper_90 : tab t_X8_paper 90 = some (.getfield 10, 3, 2, 0, 0, 8, 0, 0, 0, 0, []) := rfl
theorem i_X8_paper_93 : tab t_X8_paper 93 = some (.getfield 113, 3, 2, 0, 0, 7, 3, 0, 0, 0, []) := rfl
theorem i_X8_paper_96 : tab t_X8_paper 96 = some (.iload 6, 2, 6, 0, 0, 0, 0, 0, 0, 0, []) := rfl
theorem i_X8_paper_98 : tab t_X8_paper 98 = some (.iconst 1, 1, 0, 1, 0, 0, 0, 0, 0, 0, []) := rfl
theorem i_X8_paper_99 : tab t_X8_paper 99 = some (.iload_n 2, 1, 2, 0, 0, 0, 0, 0, 0, 0, []) := rfl
theorem i_X8_paper_100 : tab t_X8_paper 100 = some (.invokevirtual 89, 3, 3, 0, 0, 0, 61, 7, 0, 0, []) := rfl
theorem i_X8_paper_103 : tab t_X8_paper 103 = some (.aload_n 0, 1, 0, 0, 0, 0, 0, 0, 0, 0, []) := rfl
theorem i_X8_paper_104 : tab t_X8_paper 104 = some (.getfield 10, 3, 2, 0, 0, 8, 0, 0, 0, 0, []) := rfl
theorem i_X8_paper_107 : tab t_X8_paper 107 = some (.getfield 113, 3, 2, 0, 0, 7, 3, 0, 0, 0, []) := rfl
theorem i_X8_paper_110 : tab t_X8_paper 110 = some (.iload 6, 2, 6, 0, 0, 0, 0, 0, 0, 0, []) := rfl
theorem i_X8_paper_112 : tab t_X8_paper 112 = some (.iconst 2, 1, 0, 2, 0, 0, 0, 0, 0, 0, []) := rfl
theorem i_X8_paper_113 : tab t_X8_paper 113 = some (.iload_n 3, 1, 3, 0, 0, 0, 0, 0, 0, 0, []) := rfl
theorem i_X8_paper_114 : tab t_X8_paper 114 = some (.invokevirtual 89, 3, 3, 0, 0, 0, 61, 7, 0, 0, []) := rfl
theorem i_X8_paper_117 : tab t_X8_paper 117 = some (.aload_n 0, 1, 0, 0, 0, 0, 0, 0, 0, 0, []) := rfl
theorem i_X8_paper_118 : tab t_X8_paper 118 = some (.getfield 10, 3, 2, 0, 0, 8, 0, 0, 0, 0, []) := rfl
theorem i_X8_paper_121 : tab t_X8_paper 121 = some (.getfield 113, 3, 2, 0, 0, 7, 3, 0, 0, 0, []) := rfl
theorem i_X8_paper_124 : tab t_X8_paper 124 = some (.iload 6, 2, 6, 0, 0, 0, 0, 0, 0, 0, []) := rfl
theorem i_X8_paper_126 : tab t_X8_paper 126 = some (.iconst 3, 1, 0, 3, 0, 0, 0, 0, 0, 0, []) := rfl
theorem i_X8_paper_127 : tab t_X8_paper 127 = some (.iload 4, 2, 4, 0, 0, 0, 0, 0, 0, 0, []) := rfl
theorem i_X8_paper_129 : tab t_X8_paper 129 = some (.invokevirtual 89, 3, 3, 0, 0, 0, 61, 7, 0, 0, []) := rfl
theorem i_X8_paper_132 : tab t_X8_paper 132 = some (.iload 6, 2, 6, 0, 0, 0, 0, 0, 0, 0, []) := rfl
theorem i_X8_paper_134 : tab t_X8_paper 134 = some (.ireturn, 1, 0, 0, 0, 0, 0, 0, 0, 0, []) := rfl
def t_X8_list : List (Nat × rw_) := [(0, (.aload_n 0, 1, 0, 0, 0, 0, 0, 0, 0, 0, [])), (1, (.getfield 10, 3, 2, 0, 0, 8, 0, 0, 0, 0, [])), (4, (.getfield 68, 3, 2, 0, 0, 7, 0, 0, 0, 0, [])), (7, (.iload_n 1, 1, 1, 0, 0, 0, 0, 0, 0, 0, [])), (8, (.invokevirtual 72, 3, 1, 0, 0, 0, 59, 7, 0, 0, [])), (11, (.ifCond .eq 17, 3, 28, 0, 0, 0, 0, 0, 0, 0, [])), (14, (.aload_n 0, 1, 0, 0, 0, 0, 0, 0, 0, 0, [])), (15, (.getfield 10, 3, 2, 0, 0, 8, 0, 0, 0, 0, [])), (18, (.getfield 93, 3, 2, 0, 0, 7, 1, 0, 0, 0, [])), (21, (.iload_n 2, 1, 2, 0, 0, 0, 0, 0, 0, 0, [])), (22, (.invokevirtual 72, 3, 1, 0, 0, 0, 59, 7, 0, 0, [])), (25, (.ifCond .ne 5, 3, 30, 0, 0, 0, 0, 0, 0, 0, [])), (28, (.iconst (-1), 1, 0, -1, 0, 0, 0, 0, 0, 0, [])), (29, (.ireturn, 1, 0, 0, 0, 0, 0, 0, 0, 0, [])), (30, (.aload_n 0, 1, 0, 0, 0, 0, 0, 0, 0, 0, [])), (31, (.getfield 10, 3, 2, 0, 0, 8, 0, 0, 0, 0, [])), (34, (.iload_n 1, 1, 1, 0, 0, 0, 0, 0, 0, 0, [])), (35, (.invokevirtual 116, 3, 1, 0, 0, 0, 69, 8, 0, 0, [])), (38, (.istore_n 3, 1, 3, 0, 0, 0, 0, 0, 0, 0, [])), (39, (.iload_n 3, 1, 3, 0, 0, 0, 0, 0, 0, 0, [])), (40, (.bipush 8, 2, 0, 8, 0, 0, 0, 0, 0, 0, [])), (42, (.if_icmp .ge 15, 3, 57, 0, 0, 0, 0, 0, 0, 0, [])), (45, (.aload_n 0, 1, 0, 0, 0, 0, 0, 0, 0, 0, [])), (46, (.getfield 10, 3, 2, 0, 0, 8, 0, 0, 0, 0, [])), (49, (.iload_n 1, 1, 1, 0, 0, 0, 0, 0, 0, 0, [])), (50, (.iload_n 2, 1, 2, 0, 0, 0, 0, 0, 0, 0, [])), (51, (.invokevirtual 120, 3, 2, 0, 0, 0, 70, 8, 0, 0, [])), (54, (.ifCond .eq 5, 3, 59, 0, 0, 0, 0, 0, 0, 0, [])), (57, (.iconst (-1), 1, 0, -1, 0, 0, 0, 0, 0, 0, [])), (58, (.ireturn, 1, 0, 0, 0, 0, 0, 0, 0, 0, [])), (59, (.aload_n 0, 1, 0, 0, 0, 0, 0, 0, 0, 0, [])), (60, (.getfield 10, 3, 2, 0, 0, 8, 0, 0, 0, 0, [])), (63, (.getfield 123, 3, 2, 0, 0, 7, 4, 0, 0, 0, [])), (66, (.invokevirtual 85, 3, 0, 0, 0, 0, 62, 7, 0, 0, [])), (69, (.istore 4, 2, 4, 0, 0, 0, 0, 0, 0, 0, [])), (71, (.aload_n 0, 1, 0, 0, 0, 0, 0, 0, 0, 0, [])), (72, (.getfield 10, 3, 2, 0, 0, 8, 0, 0, 0, 0, [])), (75, (.getfield 123, 3, 2, 0, 0, 7, 4, 0, 0, 0, [])), (78, (.iload 4, 2, 4, 0, 0, 0, 0, 0, 0, 0, [])), (80, (.iconst 0, 1, 0, 0, 0, 0, 0, 0, 0, 0, [])), (81, (.iload_n 1, 1, 1, 0, 0, 0, 0, 0, 0, 0, [])), (82, (.invokevirtual 89, 3, 3, 0, 0, 0, 61, 7, 0, 0, [])), (85, (.aload_n 0, 1, 0, 0, 0, 0, 0, 0, 0, 0, [])), (86, (.getfield 10, 3, 2, 0, 0, 8, 0, 0, 0, 0, [])), (89, (.getfield 123, 3, 2, 0, 0, 7, 4, 0, 0, 0, [])), (92, (.iload 4, 2, 4, 0, 0, 0, 0, 0, 0, 0, [])), (94, (.iconst 1, 1, 0, 1, 0, 0, 0, 0, 0, 0, [])), (95, (.iload_n 2, 1, 2, 0, 0, 0, 0, 0, 0, 0, [])), (96, (.invokevirtual 89, 3, 3, 0, 0, 0, 61, 7, 0, 0, [])), (99, (.iload_n 3, 1, 3, 0, 0, 0, 0, 0, 0, 0, [])), (100, (.iconst 1, 1, 0, 1, 0, 0, 0, 0, 0, 0, [])), (101, (.iadd, 1, 0, 0, 0, 0, 0, 0, 0, 0, [])), (102, (.ireturn, 1, 0, 0, 0, 0, 0, 0, 0, 0, []))]
set_option maxRecDepth 100000 in
theorem ok_X8_list : tb_ok ctX8 m_X8_list t_X8_list = true := by decide +kernel
theorem i_X8_list_0 : tab t_X8_list 0 = some (.aload_n 0, 1, 0, 0, 0, 0, 0, 0, 0, 0, []) := rfl
theorem i_X8_list_1 : tab t_X8_list 1 = some (.getfield 10, 3, 2, 0, 0, 8, 0, 0, 0, 0, []) := rfl
theorem i_X8_list_4 : tab t_X8_list 4 = some (.getfield 68, 3, 2, 0, 0, 7, 0, 0, 0, 0, []) := rfl
theorem i_X8_list_7 : tab t_X8_list 7 = some (.iload_n 1, 1, 1, 0, 0, 0, 0, 0, 0, 0, []) := rfl
theorem i_X8_list_8 : tab t_X8_list 8 = some (.invokevirtual 72, 3, 1, 0, 0, 0, 59, 7, 0, 0, []) := rfl
theorem i_X8_list_11 : tab t_X8_list 11 = some (.ifCond .eq 17, 3, 28, 0, 0, 0, 0, 0, 0, 0, []) := rfl
theorem i_X8_list_14 : tab t_X8_list 14 = some (.aload_n 0, 1, 0, 0, 0, 0, 0, 0, 0, 0, []) := rfl
theorem i_X8_list_15 : tab t_X8_list 15 = some (.getfield 10, 3, 2, 0, 0, 8, 0, 0, 0, 0, []) := rfl
theorem i_X8_list_18 : tab t_X8_list 18 = some (.getfield 93, 3, 2, 0, 0, 7, 1, 0, 0, 0, []) := rfl
theorem i_X8_list_21 : tab t_X8_list 21 = some (.iload_n 2, 1, 2, 0, 0, 0, 0, 0, 0, 0, []) := rfl
theorem i_X8_list_22 : tab t_X8_list 22 = some (.invokevirtual 72, 3, 1, 0, 0, 0, 59, 7, 0, 0, []) := rfl
theorem i_X8_list_25 : tab t_X8_list 25 = some (.ifCond .ne 5, 3, 30, 0, 0, 0, 0, 0, 0, 0, []) := rfl
theorem i_X8_list_28 : tab t_X8_list 28 = some (.iconst (-1), 1, 0, -1, 0, 0, 0, 0, 0, 0, []) := rfl
theorem i_X8_list_29 : tab t_X8_list 29 = some (.ireturn, 1, 0, 0, 0, 0, 0, 0, 0, 0, []) := rfl
theorem i_X8_list_30 : tab t_X8_list 30 = some (.aload_n 0, 1, 0, 0, 0, 0, 0, 0, 0, 0, []) := rfl
theorem i_X8_list_31 : tab t_X8_list 31 = some (.getfield 10, 3, 2, 0, 0, 8, 0, 0, 0, 0, []) := rfl
theorem i_X8_list_34 : tab t_X8_list 34 = some (.iload_n 1, 1, 1, 0, 0, 0, 0, 0, 0, 0, []) := rfl
theorem i_X8_list_35 : tab t_X8_list 35 = some (.invokevirtual 116, 3, 1, 0, 0, 0, 69, 8, 0, 0, []) := rfl
theorem i_X8_list_38 : tab t_X8_list 38 = some (.istore_n 3, 1, 3, 0, 0, 0, 0, 0, 0, 0, []) := rfl
theorem i_X8_list_39 : tab t_X8_list 39 = some (.iload_n 3, 1, 3, 0, 0, 0, 0, 0, 0, 0, []) := rfl
theorem i_X8_list_40 : tab t_X8_list 40 = some (.bipush 8, 2, 0, 8, 0, 0, 0, 0, 0, 0, []) := rfl
theorem i_X8_list_42 : tab t_X8_list 42 = some (.if_icmp .ge 15, 3, 57, 0, 0, 0, 0, 0, 0, 0, []) := rfl
theorem i_X8_list_45 : tab t_X8_list 45 = some (.aload_n 0, 1, 0, 0, 0, 0, 0, 0, 0, 0, []) := rfl
theorem i_X8_list_46 : tab t_X8_list 46 = some (.getfield 10, 3, 2, 0, 0, 8, 0, 0, 0, 0, []) := rfl
theorem i_X8_list_49 : tab t_X8_list 49 = some (.iload_n 1, 1, 1, 0, 0, 0, 0, 0, 0, 0, []) := rfl
theorem i_X8_list_50 : tab t_X8_list 50 = some (.iload_n 2, 1, 2, 0, 0, 0, 0, 0, 0, 0, []) := rfl
theorem i_X8_list_51 : tab t_X8_list 51 = some (.invokevirtual 120, 3, 2, 0, 0, 0, 70, 8, 0, 0, []) := rfl
theorem i_X8_list_54 : tab t_X8_list 54 = some (.ifCond .eq 5, 3, 59, 0, 0, 0, 0, 0, 0, 0, []) := rfl
theorem i_X8_list_57 : tab t_X8_list 57 = some (.iconst (-1), 1, 0, -1, 0, 0, 0, 0, 0, 0, []) := rfl
theorem i_X8_list_58 : tab t_X8_list 58 = some (.ireturn, 1, 0, 0, 0, 0, 0, 0, 0, 0, []) := rfl
theorem i_X8_list_59 : tab t_X8_list 59 = some (.aload_n 0, 1, 0, 0, 0, 0, 0, 0, 0, 0, []) := rfl
theorem i_X8_list_60 : tab t_X8_list 60 = some (.getfield 10, 3, 2, 0, 0, 8, 0, 0, 0, 0, []) := rfl
theorem i_X8_list_63 : tab t_X8_list 63 = some (.getfield 123, 3, 2, 0, 0, 7, 4, 0, 0, 0, []) := rfl
theorem i_X8_list_66 : tab t_X8_list 66 = some (.invokevirtual 85, 3, 0, 0, 0, 0, 62, 7, 0, 0, []) := rfl
theorem i_X8_list_69 : tab t_X8_list 69 = some (.istore 4, 2, 4, 0, 0, 0, 0, 0, 0, 0, []) := rfl
theorem i_X8_list_71 : tab t_X8_list 71 = some (.aload_n 0, 1, 0, 0, 0, 0, 0, 0, 0, 0, []) := rfl
theorem i_X8_list_72 : tab t_X8_list 72 = some (.getfield 10, 3, 2, 0, 0, 8, 0, 0, 0, 0, []) := rfl
theorem i_X8_list_75 : tab t_X8_list 75 = some (.getfield 123, 3, 2, 0, 0, 7, 4, 0, 0, 0, []) := rfl
theorem i_X8_list_78 : tab t_X8_list 78 = some (.iload 4, 2, 4, 0, 0, 0, 0, 0, 0, 0, []) := rfl
theorem i_X8_list_80 : tab t_X8_list 80 = some (.iconst 0, 1, 0, 0, 0, 0, 0, 0, 0, 0, []) := rfl
theorem i_X8_list_81 : tab t_X8_list 81 = some (.iload_n 1, 1, 1, 0, 0, 0, 0, 0, 0, 0, []) := rfl
theorem i_X8_list_82 : tab t_X8_list 82 = some (.invokevirtual 89, 3, 3, 0, 0, 0, 61, 7, 0, 0, []) := rfl
theorem i_X8_list_85 : tab t_X8_list 85 = some (.aload_n 0, 1, 0, 0, 0, 0, 0, 0, 0, 0, []) := rfl
theorem i_X8_list_86 : tab t_X8_list 86 = some (.getfield 10, 3, 2, 0, 0, 8, 0, 0, 0, 0, []) := rfl
theorem i_X8_list_89 : tab t_X8_list 89 = some (.getfield 123, 3, 2, 0, 0, 7, 4, 0, 0, 0, []) := rfl
theorem i_X8_list_92 : tab t_X8_list 92 = some (.iload 4, 2, 4, 0, 0, 0, 0, 0, 0, 0, []) := rfl
theorem i_X8_list_94 : tab t_X8_list 94 = some (.iconst 1, 1, 0, 1, 0, 0, 0, 0, 0, 0, []) := rfl
theorem i_X8_list_95 : tab t_X8_list 95 = some (.iload_n 2, 1, 2, 0, 0, 0, 0, 0, 0, 0, []) := rfl
theorem i_X8_list_96 : tab t_X8_list 96 = some (.invokevirtual 89, 3, 3, 0, 0, 0, 61, 7, 0, 0, []) := rfl
theorem i_X8_list_99 : tab t_X8_list 99 = some (.iload_n 3, 1, 3, 0, 0, 0, 0, 0, 0, 0, []) := rfl
theorem i_X8_list_100 : tab t_X8_list 100 = some (.iconst 1, 1, 0, 1, 0, 0, 0, 0, 0, 0, []) := rfl
theorem i_X8_list_101 : tab t_X8_list 101 = some (.iadd, 1, 0, 0, 0, 0, 0, 0, 0, 0, []) := rfl
theorem i_X8_list_102 : tab t_X8_list 102 = some (.ireturn, 1, 0, 0, 0, 0, 0, 0, 0, 0, []) := rfl
def t_X8_falls : List (Nat × rw_) := [(0, (.aload_n 0, 1, 0, 0, 0, 0, 0, 0, 0, 0, [])), (1, (.getfield 10, 3, 2, 0, 0, 8, 0, 0, 0, 0, [])), (4, (.getfield 93, 3, 2, 0, 0, 7, 1, 0, 0, 0, [])), (7, (.iload_n 1, 1, 1, 0, 0, 0, 0, 0, 0, 0, [])), (8, (.invokevirtual 72, 3, 1, 0, 0, 0, 59, 7, 0, 0, [])), (11, (.ifCond .eq 26, 3, 37, 0, 0, 0, 0, 0, 0, 0, [])), (14, (.iload_n 2, 1, 2, 0, 0, 0, 0, 0, 0, 0, [])), (15, (.invokestatic 96, 3, 1, 0, 0, 0, 110, 0, 0, 0, [])), (18, (.ifCond .eq 19, 3, 37, 0, 0, 0, 0, 0, 0, 0, [])), (21, (.aload_n 0, 1, 0, 0, 0, 0, 0, 0, 0, 0, [])), (22, (.getfield 10, 3, 2, 0, 0, 8, 0, 0, 0, 0, [])), (25, (.getfield 93, 3, 2, 0, 0, 7, 1, 0, 0, 0, [])), (28, (.iload_n 1, 1, 1, 0, 0, 0, 0, 0, 0, 0, [])), (29, (.iconst 5, 1, 0, 5, 0, 0, 0, 0, 0, 0, [])), (30, (.invokevirtual 126, 3, 2, 0, 0, 0, 60, 7, 0, 0, [])), (33, (.iconst (-1), 1, 0, -1, 0, 0, 0, 0, 0, 0, [])), (34, (.if_icmp .eq 5, 3, 39, 0, 0, 0, 0, 0, 0, 0, [])), (37, (.iconst 0, 1, 0, 0, 0, 0, 0, 0, 0, 0, [])), (38, (.ireturn, 1, 0, 0, 0, 1, 0, 0, 0, 0, [])), (39, (.aload_n 0, 1, 0, 0, 0, 0, 0, 0, 0, 0, [])), (40, (.getfield 10, 3, 2, 0, 0, 8, 0, 0, 0, 0, [])), (43, (.getfield 93, 3, 2, 0, 0, 7, 1, 0, 0, 0, [])), (46, (.iload_n 1, 1, 1, 0, 0, 0, 0, 0, 0, 0, [])), (47, (.iconst 5, 1, 0, 5, 0, 0, 0, 0, 0, 0, [])), (48, (.iload_n 2, 1, 2, 0, 0, 0, 0, 0, 0, 0, [])), (49, (.invokevirtual 89, 3, 3, 0, 0, 0, 61, 7, 0, 0, [])), (52, (.iconst 1, 1, 0, 1, 0, 0, 0, 0, 0, 0, [])), (53, (.ireturn, 1, 0, 0, 0, 1, 0, 0, 0, 0, []))]
set_option maxRecDepth 100000 in
theorem ok_X8_falls : tb_ok ctX8 m_X8_falls t_X8_falls = true := by decide +kernel
theorem i_X8_falls_0 : tab t_X8_falls 0 = some (.aload_n 0, 1, 0, 0, 0, 0, 0, 0, 0, 0, []) := rfl
theorem i_X8_falls_1 : tab t_X8_falls 1 = some (.getfield 10, 3, 2, 0, 0, 8, 0, 0, 0, 0, []) := rfl
theorem i_X8_falls_4 : tab t_X8_falls 4 = some (.getfield 93, 3, 2, 0, 0, 7, 1, 0, 0, 0, []) := rfl
theorem i_X8_falls_7 : tab t_X8_falls 7 = some (.iload_n 1, 1, 1, 0, 0, 0, 0, 0, 0, 0, []) := rfl
theorem i_X8_falls_8 : tab t_X8_falls 8 = some (.invokevirtual 72, 3, 1, 0, 0, 0, 59, 7, 0, 0, []) := rfl
theorem i_X8_falls_11 : tab t_X8_falls 11 = some (.ifCond .eq 26, 3, 37, 0, 0, 0, 0, 0, 0, 0, []) := rfl
theorem i_X8_falls_14 : tab t_X8_falls 14 = some (.iload_n 2, 1, 2, 0, 0, 0, 0, 0, 0, 0, []) := rfl
theorem i_X8_falls_15 : tab t_X8_falls 15 = some (.invokestatic 96, 3, 1, 0, 0, 0, 110, 0, 0, 0, []) := rfl
theorem i_X8_falls_18 : tab t_X8_falls 18 = some (.ifCond .eq 19, 3, 37, 0, 0, 0, 0, 0, 0, 0, []) := rfl
theorem i_X8_falls_21 : tab t_X8_falls 21 = some (.aload_n 0, 1, 0, 0, 0, 0, 0, 0, 0, 0, []) := rfl
theorem i_X8_falls_22 : tab t_X8_falls 22 = some (.getfield 10, 3, 2, 0, 0, 8, 0, 0, 0, 0, []) := rfl
theorem i_X8_falls_25 : tab t_X8_falls 25 = some (.getfield 93, 3, 2, 0, 0, 7, 1, 0, 0, 0, []) := rfl
theorem i_X8_falls_28 : tab t_X8_falls 28 = some (.iload_n 1, 1, 1, 0, 0, 0, 0, 0, 0, 0, []) := rfl
theorem i_X8_falls_29 : tab t_X8_falls 29 = some (.iconst 5, 1, 0, 5, 0, 0, 0, 0, 0, 0, []) := rfl
theorem i_X8_falls_30 : tab t_X8_falls 30 = some (.invokevirtual 126, 3, 2, 0, 0, 0, 60, 7, 0, 0, []) := rfl
theorem i_X8_falls_33 : tab t_X8_falls 33 = some (.iconst (-1), 1, 0, -1, 0, 0, 0, 0, 0, 0, []) := rfl
theorem i_X8_falls_34 : tab t_X8_falls 34 = some (.if_icmp .eq 5, 3, 39, 0, 0, 0, 0, 0, 0, 0, []) := rfl
theorem i_X8_falls_37 : tab t_X8_falls 37 = some (.iconst 0, 1, 0, 0, 0, 0, 0, 0, 0, 0, []) := rfl
theorem i_X8_falls_38 : tab t_X8_falls 38 = some (.ireturn, 1, 0, 0, 0, 1, 0, 0, 0, 0, []) := rfl
theorem i_X8_falls_39 : tab t_X8_falls 39 = some (.aload_n 0, 1, 0, 0, 0, 0, 0, 0, 0, 0, []) := rfl
theorem i_X8_falls_40 : tab t_X8_falls 40 = some (.getfield 10, 3, 2, 0, 0, 8, 0, 0, 0, 0, []) := rfl
theorem i_X8_falls_43 : tab t_X8_falls 43 = some (.getfield 93, 3, 2, 0, 0, 7, 1, 0, 0, 0, []) := rfl
theorem i_X8_falls_46 : tab t_X8_falls 46 = some (.iload_n 1, 1, 1, 0, 0, 0, 0, 0, 0, 0, []) := rfl
theorem i_X8_falls_47 : tab t_X8_falls 47 = some (.iconst 5, 1, 0, 5, 0, 0, 0, 0, 0, 0, []) := rfl
theorem i_X8_falls_48 : tab t_X8_falls 48 = some (.iload_n 2, 1, 2, 0, 0, 0, 0, 0, 0, 0, []) := rfl
theorem i_X8_falls_49 : tab t_X8_falls 49 = some (.invokevirtual 89, 3, 3, 0, 0, 0, 61, 7, 0, 0, []) := rfl
theorem i_X8_falls_52 : tab t_X8_falls 52 = some (.iconst 1, 1, 0, 1, 0, 0, 0, 0, 0, 0, []) := rfl
theorem i_X8_falls_53 : tab t_X8_falls 53 = some (.ireturn, 1, 0, 0, 0, 1, 0, 0, 0, 0, []) := rfl
def t_X8_feed : List (Nat × rw_) := [(0, (.aload_n 0, 1, 0, 0, 0, 0, 0, 0, 0, 0, [])), (1, (.getfield 34, 3, 0, 0, 0, 8, 5, 0, 0, 0, [])), (4, (.bipush 20, 2, 0, 20, 0, 0, 0, 0, 0, 0, [])), (6, (.iadd, 1, 0, 0, 0, 0, 0, 0, 0, 0, [])), (7, (.sipush 400, 3, 0, 400, 0, 0, 0, 0, 0, 0, [])), (10, (.if_icmp .le 5, 3, 15, 0, 0, 0, 0, 0, 0, 0, [])), (13, (.iconst (-1), 1, 0, -1, 0, 0, 0, 0, 0, 0, [])), (14, (.ireturn, 1, 0, 0, 0, 0, 0, 0, 0, 0, [])), (15, (.aload_n 0, 1, 0, 0, 0, 0, 0, 0, 0, 0, [])), (16, (.iload_n 1, 1, 1, 0, 0, 0, 0, 0, 0, 0, [])), (17, (.invokevirtual 127, 3, 1, 0, 0, 0, 115, 9, 0, 0, [])), (20, (.aload_n 0, 1, 0, 0, 0, 0, 0, 0, 0, 0, [])), (21, (.iload_n 2, 1, 2, 0, 0, 0, 0, 0, 0, 0, [])), (22, (.invokevirtual 127, 3, 1, 0, 0, 0, 115, 9, 0, 0, [])), (25, (.aload_n 0, 1, 0, 0, 0, 0, 0, 0, 0, 0, [])), (26, (.iload_n 3, 1, 3, 0, 0, 0, 0, 0, 0, 0, [])), (27, (.invokevirtual 127, 3, 1, 0, 0, 0, 115, 9, 0, 0, [])), (30, (.aload_n 0, 1, 0, 0, 0, 0, 0, 0, 0, 0, [])), (31, (.iload 4, 2, 4, 0, 0, 0, 0, 0, 0, 0, [])), (33, (.invokevirtual 127, 3, 1, 0, 0, 0, 115, 9, 0, 0, [])), (36, (.aload_n 0, 1, 0, 0, 0, 0, 0, 0, 0, 0, [])), (37, (.iload 5, 2, 5, 0, 0, 0, 0, 0, 0, 0, [])), (39, (.invokevirtual 127, 3, 1, 0, 0, 0, 115, 9, 0, 0, [])), (42, (.aload_n 0, 1, 0, 0, 0, 0, 0, 0, 0, 0, [])), (43, (.getfield 34, 3, 0, 0, 0, 8, 5, 0, 0, 0, [])), (46, (.ireturn, 1, 0, 0, 0, 0, 0, 0, 0, 0, []))]
set_option maxRecDepth 100000 in
theorem ok_X8_feed : tb_ok ctX8 m_X8_feed t_X8_feed = true := by decide +kernel
theorem i_X8_feed_0 : tab t_X8_feed 0 = some (.aload_n 0, 1, 0, 0, 0, 0, 0, 0, 0, 0, []) := rfl
theorem i_X8_feed_1 : tab t_X8_feed 1 = some (.getfield 34, 3, 0, 0, 0, 8, 5, 0, 0, 0, []) := rfl
theorem i_X8_feed_4 : tab t_X8_feed 4 = some (.bipush 20, 2, 0, 20, 0, 0, 0, 0, 0, 0, []) := rfl
theorem i_X8_feed_6 : tab t_X8_feed 6 = some (.iadd, 1, 0, 0, 0, 0, 0, 0, 0, 0, []) := rfl
theorem i_X8_feed_7 : tab t_X8_feed 7 = some (.sipush 400, 3, 0, 400, 0, 0, 0, 0, 0, 0, []) := rfl
theorem i_X8_feed_10 : tab t_X8_feed 10 = some (.if_icmp .le 5, 3, 15, 0, 0, 0, 0, 0, 0, 0, []) := rfl
theorem i_X8_feed_13 : tab t_X8_feed 13 = some (.iconst (-1), 1, 0, -1, 0, 0, 0, 0, 0, 0, []) := rfl
theorem i_X8_feed_14 : tab t_X8_feed 14 = some (.ireturn, 1, 0, 0, 0, 0, 0, 0, 0, 0, []) := rfl
theorem i_X8_feed_15 : tab t_X8_feed 15 = some (.aload_n 0, 1, 0, 0, 0, 0, 0, 0, 0, 0, []) := rfl
theorem i_X8_feed_16 : tab t_X8_feed 16 = some (.iload_n 1, 1, 1, 0, 0, 0, 0, 0, 0, 0, []) := rfl
theorem i_X8_feed_17 : tab t_X8_feed 17 = some (.invokevirtual 127, 3, 1, 0, 0, 0, 115, 9, 0, 0, []) := rfl
theorem i_X8_feed_20 : tab t_X8_feed 20 = some (.aload_n 0, 1, 0, 0, 0, 0, 0, 0, 0, 0, []) := rfl
theorem i_X8_feed_21 : tab t_X8_feed 21 = some (.iload_n 2, 1, 2, 0, 0, 0, 0, 0, 0, 0, []) := rfl
theorem i_X8_feed_22 : tab t_X8_feed 22 = some (.invokevirtual 127, 3, 1, 0, 0, 0, 115, 9, 0, 0, []) := rfl
theorem i_X8_feed_25 : tab t_X8_feed 25 = some (.aload_n 0, 1, 0, 0, 0, 0, 0, 0, 0, 0, []) := rfl
theorem i_X8_feed_26 : tab t_X8_feed 26 = some (.iload_n 3, 1, 3, 0, 0, 0, 0, 0, 0, 0, []) := rfl
theorem i_X8_feed_27 : tab t_X8_feed 27 = some (.invokevirtual 127, 3, 1, 0, 0, 0, 115, 9, 0, 0, []) := rfl
theorem i_X8_feed_30 : tab t_X8_feed 30 = some (.aload_n 0, 1, 0, 0, 0, 0, 0, 0, 0, 0, []) := rfl
theorem i_X8_feed_31 : tab t_X8_feed 31 = some (.iload 4, 2, 4, 0, 0, 0, 0, 0, 0, 0, []) := rfl
theorem i_X8_feed_33 : tab t_X8_feed 33 = some (.invokevirtual 127, 3, 1, 0, 0, 0, 115, 9, 0, 0, []) := rfl
theorem i_X8_feed_36 : tab t_X8_feed 36 = some (.aload_n 0, 1, 0, 0, 0, 0, 0, 0, 0, 0, []) := rfl
theorem i_X8_feed_37 : tab t_X8_feed 37 = some (.iload 5, 2, 5, 0, 0, 0, 0, 0, 0, 0, []) := rfl
theorem i_X8_feed_39 : tab t_X8_feed 39 = some (.invokevirtual 127, 3, 1, 0, 0, 0, 115, 9, 0, 0, []) := rfl
theorem i_X8_feed_42 : tab t_X8_feed 42 = some (.aload_n 0, 1, 0, 0, 0, 0, 0, 0, 0, 0, []) := rfl
theorem i_X8_feed_43 : tab t_X8_feed 43 = some (.getfield 34, 3, 0, 0, 0, 8, 5, 0, 0, 0, []) := rfl
theorem i_X8_feed_46 : tab t_X8_feed 46 = some (.ireturn, 1, 0, 0, 0, 0, 0, 0, 0, 0, []) := rfl
def t_X8_end : List (Nat × rw_) := [(0, (.iload_n 1, 1, 1, 0, 0, 0, 0, 0, 0, 0, [])), (1, (.ifCond .lt 11, 3, 12, 0, 0, 0, 0, 0, 0, 0, [])), (4, (.iload_n 1, 1, 1, 0, 0, 0, 0, 0, 0, 0, [])), (5, (.aload_n 0, 1, 0, 0, 0, 0, 0, 0, 0, 0, [])), (6, (.getfield 34, 3, 0, 0, 0, 8, 5, 0, 0, 0, [])), (9, (.if_icmp .le 5, 3, 14, 0, 0, 0, 0, 0, 0, 0, [])), (12, (.iconst (-1), 1, 0, -1, 0, 0, 0, 0, 0, 0, [])), (13, (.ireturn, 1, 0, 0, 0, 0, 0, 0, 0, 0, [])), (14, (.aload_n 0, 1, 0, 0, 0, 0, 0, 0, 0, 0, [])), (15, (.iload_n 1, 1, 1, 0, 0, 0, 0, 0, 0, 0, [])), (16, (.putfield 34, 3, 0, 0, 0, 8, 5, 0, 0, 0, [])), (19, (.iload_n 1, 1, 1, 0, 0, 0, 0, 0, 0, 0, [])), (20, (.ireturn, 1, 0, 0, 0, 0, 0, 0, 0, 0, []))]
set_option maxRecDepth 100000 in
theorem ok_X8_end : tb_ok ctX8 m_X8_end t_X8_end = true := by decide +kernel
theorem i_X8_end_0 : tab t_X8_end 0 = some (.iload_n 1, 1, 1, 0, 0, 0, 0, 0, 0, 0, []) := rfl
theorem i_X8_end_1 : tab t_X8_end 1 = some (.ifCond .lt 11, 3, 12, 0, 0, 0, 0, 0, 0, 0, []) := rfl
theorem i_X8_end_4 : tab t_X8_end 4 = some (.iload_n 1, 1, 1, 0, 0, 0, 0, 0, 0, 0, []) := rfl
theorem i_X8_end_5 : tab t_X8_end 5 = some (.aload_n 0, 1, 0, 0, 0, 0, 0, 0, 0, 0, []) := rfl
theorem i_X8_end_6 : tab t_X8_end 6 = some (.getfield 34, 3, 0, 0, 0, 8, 5, 0, 0, 0, []) := rfl
theorem i_X8_end_9 : tab t_X8_end 9 = some (.if_icmp .le 5, 3, 14, 0, 0, 0, 0, 0, 0, 0, []) := rfl
theorem i_X8_end_12 : tab t_X8_end 12 = some (.iconst (-1), 1, 0, -1, 0, 0, 0, 0, 0, 0, []) := rfl
theorem i_X8_end_13 : tab t_X8_end 13 = some (.ireturn, 1, 0, 0, 0, 0, 0, 0, 0, 0, []) := rfl
theorem i_X8_end_14 : tab t_X8_end 14 = some (.aload_n 0, 1, 0, 0, 0, 0, 0, 0, 0, 0, []) := rfl
theorem i_X8_end_15 : tab t_X8_end 15 = some (.iload_n 1, 1, 1, 0, 0, 0, 0, 0, 0, 0, []) := rfl
theorem i_X8_end_16 : tab t_X8_end 16 = some (.putfield 34, 3, 0, 0, 0, 8, 5, 0, 0, 0, []) := rfl
theorem i_X8_end_19 : tab t_X8_end 19 = some (.iload_n 1, 1, 1, 0, 0, 0, 0, 0, 0, 0, []) := rfl
theorem i_X8_end_20 : tab t_X8_end 20 = some (.ireturn, 1, 0, 0, 0, 0, 0, 0, 0, 0, []) := rfl
def t_X8_law : List (Nat × rw_) := [(0, (.aload_n 0, 1, 0, 0, 0, 0, 0, 0, 0, 0, [])), (1, (.getfield 26, 3, 0, 0, 0, 8, 3, 0, 0, 0, [])), (4, (.bipush 8, 2, 0, 8, 0, 0, 0, 0, 0, 0, [])), (6, (.if_icmp .lt 5, 3, 11, 0, 0, 0, 0, 0, 0, 0, [])), (9, (.iconst (-1), 1, 0, -1, 0, 0, 0, 0, 0, 0, [])), (10, (.ireturn, 1, 0, 0, 0, 0, 0, 0, 0, 0, [])), (11, (.aload_n 0, 1, 0, 0, 0, 0, 0, 0, 0, 0, [])), (12, (.getfield 40, 3, 2, 0, 0, 8, 6, 0, 0, 0, [])), (15, (.aload_n 0, 1, 0, 0, 0, 0, 0, 0, 0, 0, [])), (16, (.getfield 30, 3, 2, 0, 0, 8, 4, 0, 0, 0, [])), (19, (.aload_n 0, 1, 0, 0, 0, 0, 0, 0, 0, 0, [])), (20, (.getfield 34, 3, 0, 0, 0, 8, 5, 0, 0, 0, [])), (23, (.invokevirtual 131, 3, 2, 0, 0, 0, 25, 4, 0, 0, [])), (26, (.istore_n 1, 1, 1, 0, 0, 0, 0, 0, 0, 0, [])), (27, (.aload_n 0, 1, 0, 0, 0, 0, 0, 0, 0, 0, [])), (28, (.iconst 0, 1, 0, 0, 0, 0, 0, 0, 0, 0, [])), (29, (.putfield 34, 3, 0, 0, 0, 8, 5, 0, 0, 0, [])), (32, (.iload_n 1, 1, 1, 0, 0, 0, 0, 0, 0, 0, [])), (33, (.ifCond .eq 8, 3, 41, 0, 0, 0, 0, 0, 0, 0, [])), (36, (.bipush (-2), 2, 0, -2, 0, 0, 0, 0, 0, 0, [])), (38, (.iload_n 1, 1, 1, 0, 0, 0, 0, 0, 0, 0, [])), (39, (.isub, 1, 0, 0, 0, 0, 0, 0, 0, 0, [])), (40, (.ireturn, 1, 0, 0, 0, 0, 0, 0, 0, 0, [])), (41, (.aload_n 0, 1, 0, 0, 0, 0, 0, 0, 0, 0, [])), (42, (.getfield 22, 3, 2, 0, 0, 8, 2, 0, 0, 0, [])), (45, (.aload_n 0, 1, 0, 0, 0, 0, 0, 0, 0, 0, [])), (46, (.getfield 26, 3, 0, 0, 0, 8, 3, 0, 0, 0, [])), (49, (.new 20, 3, 0, 0, 0, 2, 5, 0, 0, 0, [])), (52, (.dup, 1, 0, 0, 0, 0, 0, 0, 0, 0, [])), (53, (.aload_n 0, 1, 0, 0, 0, 0, 0, 0, 0, 0, [])), (54, (.getfield 40, 3, 2, 0, 0, 8, 6, 0, 0, 0, [])), (57, (.invokespecial 135, 3, 1, 0, 0, 0, 23, 0, 5, 2000, [])), (60, (.aastore, 1, 0, 0, 0, 0, 0, 0, 0, 0, [])), (61, (.aload_n 0, 1, 0, 0, 0, 0, 0, 0, 0, 0, [])), (62, (.dup, 1, 0, 0, 0, 0, 0, 0, 0, 0, [])), (63, (.getfield 26, 3, 0, 0, 0, 8, 3, 0, 0, 0, [])), (66, (.iconst 1, 1, 0, 1, 0, 0, 0, 0, 0, 0, [])), (67, (.iadd, 1, 0, 0, 0, 0, 0, 0, 0, 0, [])), (68, (.putfield 26, 3, 0, 0, 0, 8, 3, 0, 0, 0, [])), (71, (.aload_n 0, 1, 0, 0, 0, 0, 0, 0, 0, 0, [])), (72, (.getfield 26, 3, 0, 0, 0, 8, 3, 0, 0, 0, [])), (75, (.iconst 1, 1, 0, 1, 0, 0, 0, 0, 0, 0, [])), (76, (.isub, 1, 0, 0, 0, 0, 0, 0, 0, 0, [])), (77, (.ireturn, 1, 0, 0, 0, 0, 0, 0, 0, 0, []))]
set_option maxRecDepth 100000 in
theorem ok_X8_law : tb_ok ctX8 m_X8_law t_X8_law = true := by decide +kernel
theorem i_X8_law_0 : tab t_X8_law 0 = some (.aload_n 0, 1, 0, 0, 0, 0, 0, 0, 0, 0, []) := rfl
theorem i_X8_law_1 : tab t_X8_law 1 = some (.getfield 26, 3, 0, 0, 0, 8, 3, 0, 0, 0, []) := rfl
theorem i_X8_law_4 : tab t_X8_law 4 = some (.bipush 8, 2, 0, 8, 0, 0, 0, 0, 0, 0, []) := rfl
theorem i_X8_law_6 : tab t_X8_law 6 = some (.if_icmp .lt 5, 3, 11, 0, 0, 0, 0, 0, 0, 0, []) := rfl
theorem i_X8_law_9 : tab t_X8_law 9 = some (.iconst (-1), 1, 0, -1, 0, 0, 0, 0, 0, 0, []) := rfl
theorem i_X8_law_10 : tab t_X8_law 10 = some (.ireturn, 1, 0, 0, 0, 0, 0, 0, 0, 0, []) := rfl
theorem i_X8_law_11 : tab t_X8_law 11 = some (.aload_n 0, 1, 0, 0, 0, 0, 0, 0, 0, 0, []) := rfl
theorem i_X8_law_12 : tab t_X8_law 12 = some (.getfield 40, 3, 2, 0, 0, 8, 6, 0, 0, 0, []) := rfl
theorem i_X8_law_15 : tab t_X8_law 15 = some (.aload_n 0, 1, 0, 0, 0, 0, 0, 0, 0, 0, []) := rfl
theorem i_X8_law_16 : tab t_X8_law 16 = some (.getfield 30, 3, 2, 0, 0, 8, 4, 0, 0, 0, []) := rfl
theorem i_X8_law_19 : tab t_X8_law 19 = some (.aload_n 0, 1, 0, 0, 0, 0, 0, 0, 0, 0, []) := rfl
theorem i_X8_law_20 : tab t_X8_law 20 = some (.getfield 34, 3, 0, 0, 0, 8, 5, 0, 0, 0, []) := rfl
theorem i_X8_law_23 : tab t_X8_law 23 = some (.invokevirtual 131, 3, 2, 0, 0, 0, 25, 4, 0, 0, []) := rfl
theorem i_X8_law_26 : tab t_X8_law 26 = some (.istore_n 1, 1, 1, 0, 0, 0, 0, 0, 0, 0, []) := rfl
theorem i_X8_law_27 : tab t_X8_law 27 = some (.aload_n 0, 1, 0, 0, 0, 0, 0, 0, 0, 0, []) := rfl
theorem i_X8_law_28 : tab t_X8_law 28 = some (.iconst 0, 1, 0, 0, 0, 0, 0, 0, 0, 0, []) := rfl
theorem i_X8_law_29 : tab t_X8_law 29 = some (.putfield 34, 3, 0, 0, 0, 8, 5, 0, 0, 0, []) := rfl
theorem i_X8_law_32 : tab t_X8_law 32 = some (.iload_n 1, 1, 1, 0, 0, 0, 0, 0, 0, 0, []) := rfl
theorem i_X8_law_33 : tab t_X8_law 33 = some (.ifCond .eq 8, 3, 41, 0, 0, 0, 0, 0, 0, 0, []) := rfl
theorem i_X8_law_36 : tab t_X8_law 36 = some (.bipush (-2), 2, 0, -2, 0, 0, 0, 0, 0, 0, []) := rfl
theorem i_X8_law_38 : tab t_X8_law 38 = some (.iload_n 1, 1, 1, 0, 0, 0, 0, 0, 0, 0, []) := rfl
theorem i_X8_law_39 : tab t_X8_law 39 = some (.isub, 1, 0, 0, 0, 0, 0, 0, 0, 0, []) := rfl
theorem i_X8_law_40 : tab t_X8_law 40 = some (.ireturn, 1, 0, 0, 0, 0, 0, 0, 0, 0, []) := rfl
theorem i_X8_law_41 : tab t_X8_law 41 = some (.aload_n 0, 1, 0, 0, 0, 0, 0, 0, 0, 0, []) := rfl
theorem i_X8_law_42 : tab t_X8_law 42 = some (.getfield 22, 3, 2, 0, 0, 8, 2, 0, 0, 0, []) := rfl
theorem i_X8_law_45 : tab t_X8_law 45 = some (.aload_n 0, 1, 0, 0, 0, 0, 0, 0, 0, 0, []) := rfl
theorem i_X8_law_46 : tab t_X8_law 46 = some (.getfield 26, 3, 0, 0, 0, 8, 3, 0, 0, 0, []) := rfl
theorem i_X8_law_49 : tab t_X8_law 49 = some (.new 20, 3, 0, 0, 0, 2, 5, 0, 0, 0, []) := rfl
theorem i_X8_law_52 : tab t_X8_law 52 = some (.dup, 1, 0, 0, 0, 0, 0, 0, 0, 0, []) := rfl
theorem i_X8_law_53 : tab t_X8_law 53 = some (.aload_n 0, 1, 0, 0, 0, 0, 0, 0, 0, 0, []) := rfl
theorem i_X8_law_54 : tab t_X8_law 54 = some (.getfield 40, 3, 2, 0, 0, 8, 6, 0, 0, 0, []) := rfl
theorem i_X8_law_57 : tab t_X8_law 57 = some (.invokespecial 135, 3, 1, 0, 0, 0, 23, 0, 5, 2000, []) := rfl
theorem i_X8_law_60 : tab t_X8_law 60 = some (.aastore, 1, 0, 0, 0, 0, 0, 0, 0, 0, []) := rfl
theorem i_X8_law_61 : tab t_X8_law 61 = some (.aload_n 0, 1, 0, 0, 0, 0, 0, 0, 0, 0, []) := rfl
theorem i_X8_law_62 : tab t_X8_law 62 = some (.dup, 1, 0, 0, 0, 0, 0, 0, 0, 0, []) := rfl
theorem i_X8_law_63 : tab t_X8_law 63 = some (.getfield 26, 3, 0, 0, 0, 8, 3, 0, 0, 0, []) := rfl
theorem i_X8_law_66 : tab t_X8_law 66 = some (.iconst 1, 1, 0, 1, 0, 0, 0, 0, 0, 0, []) := rfl
theorem i_X8_law_67 : tab t_X8_law 67 = some (.iadd, 1, 0, 0, 0, 0, 0, 0, 0, 0, []) := rfl
theorem i_X8_law_68 : tab t_X8_law 68 = some (.putfield 26, 3, 0, 0, 0, 8, 3, 0, 0, 0, []) := rfl
theorem i_X8_law_71 : tab t_X8_law 71 = some (.aload_n 0, 1, 0, 0, 0, 0, 0, 0, 0, 0, []) := rfl
theorem i_X8_law_72 : tab t_X8_law 72 = some (.getfield 26, 3, 0, 0, 0, 8, 3, 0, 0, 0, []) := rfl
theorem i_X8_law_75 : tab t_X8_law 75 = some (.iconst 1, 1, 0, 1, 0, 0, 0, 0, 0, 0, []) := rfl
theorem i_X8_law_76 : tab t_X8_law 76 = some (.isub, 1, 0, 0, 0, 0, 0, 0, 0, 0, []) := rfl
theorem i_X8_law_77 : tab t_X8_law 77 = some (.ireturn, 1, 0, 0, 0, 0, 0, 0, 0, 0, []) := rfl
def t_X8_rules : List (Nat × rw_) := [(0, (.aload_n 0, 1, 0, 0, 0, 0, 0, 0, 0, 0, [])), (1, (.getfield 10, 3, 2, 0, 0, 8, 0, 0, 0, 0, [])), (4, (.getfield 68, 3, 2, 0, 0, 7, 0, 0, 0, 0, [])), (7, (.iload_n 1, 1, 1, 0, 0, 0, 0, 0, 0, 0, [])), (8, (.invokevirtual 72, 3, 1, 0, 0, 0, 59, 7, 0, 0, [])), (11, (.ifCond .eq 19, 3, 30, 0, 0, 0, 0, 0, 0, 0, [])), (14, (.iload_n 2, 1, 2, 0, 0, 0, 0, 0, 0, 0, [])), (15, (.iconst (-1), 1, 0, -1, 0, 0, 0, 0, 0, 0, [])), (16, (.if_icmp .eq 16, 3, 32, 0, 0, 0, 0, 0, 0, 0, [])), (19, (.iload_n 2, 1, 2, 0, 0, 0, 0, 0, 0, 0, [])), (20, (.aload_n 0, 1, 0, 0, 0, 0, 0, 0, 0, 0, [])), (21, (.getfield 26, 3, 0, 0, 0, 8, 3, 0, 0, 0, [])), (24, (.invokestatic 78, 3, 2, 0, 0, 0, 109, 0, 0, 0, [])), (27, (.ifCond .ne 5, 3, 32, 0, 0, 0, 0, 0, 0, 0, [])), (30, (.iconst 0, 1, 0, 0, 0, 0, 0, 0, 0, 0, [])), (31, (.ireturn, 1, 0, 0, 0, 1, 0, 0, 0, 0, [])), (32, (.aload_n 0, 1, 0, 0, 0, 0, 0, 0, 0, 0, [])), (33, (.getfield 10, 3, 2, 0, 0, 8, 0, 0, 0, 0, [])), (36, (.getfield 68, 3, 2, 0, 0, 7, 0, 0, 0, 0, [])), (39, (.iload_n 1, 1, 1, 0, 0, 0, 0, 0, 0, 0, [])), (40, (.iconst 4, 1, 0, 4, 0, 0, 0, 0, 0, 0, [])), (41, (.iload_n 2, 1, 2, 0, 0, 0, 0, 0, 0, 0, [])), (42, (.invokevirtual 89, 3, 3, 0, 0, 0, 61, 7, 0, 0, [])), (45, (.iconst 1, 1, 0, 1, 0, 0, 0, 0, 0, 0, [])), (46, (.ireturn, 1, 0, 0, 0, 1, 0, 0, 0, 0, []))]
set_option maxRecDepth 100000 in
theorem ok_X8_rules : tb_ok ctX8 m_X8_rules t_X8_rules = true := by decide +kernel
theorem i_X8_rules_0 : tab t_X8_rules 0 = some (.aload_n 0, 1, 0, 0, 0, 0, 0, 0, 0, 0, []) := rfl
theorem i_X8_rules_1 : tab t_X8_rules 1 = some (.getfield 10, 3, 2, 0, 0, 8, 0, 0, 0, 0, []) := rfl
theorem i_X8_rules_4 : tab t_X8_rules 4 = some (.getfield 68, 3, 2, 0, 0, 7, 0, 0, 0, 0, []) := rfl
theorem i_X8_rules_7 : tab t_X8_rules 7 = some (.iload_n 1, 1, 1, 0, 0, 0, 0, 0, 0, 0, []) := rfl
theorem i_X8_rules_8 : tab t_X8_rules 8 = some (.invokevirtual 72, 3, 1, 0, 0, 0, 59, 7, 0, 0, []) := rfl
theorem i_X8_rules_11 : tab t_X8_rules 11 = some (.ifCond .eq 19, 3, 30, 0, 0, 0, 0, 0, 0, 0, []) := rfl
theorem i_X8_rules_14 : tab t_X8_rules 14 = some (.iload_n 2, 1, 2, 0, 0, 0, 0, 0, 0, 0, []) := rfl
theorem i_X8_rules_15 : tab t_X8_rules 15 = some (.iconst (-1), 1, 0, -1, 0, 0, 0, 0, 0, 0, []) := rfl
theorem i_X8_rules_16 : tab t_X8_rules 16 = some (.if_icmp .eq 16, 3, 32, 0, 0, 0, 0, 0, 0, 0, []) := rfl
theorem i_X8_rules_19 : tab t_X8_rules 19 = some (.iload_n 2, 1, 2, 0, 0, 0, 0, 0, 0, 0, []) := rfl
theorem i_X8_rules_20 : tab t_X8_rules 20 = some (.aload_n 0, 1, 0, 0, 0, 0, 0, 0, 0, 0, []) := rfl
theorem i_X8_rules_21 : tab t_X8_rules 21 = some (.getfield 26, 3, 0, 0, 0, 8, 3, 0, 0, 0, []) := rfl
theorem i_X8_rules_24 : tab t_X8_rules 24 = some (.invokestatic 78, 3, 2, 0, 0, 0, 109, 0, 0, 0, []) := rfl
theorem i_X8_rules_27 : tab t_X8_rules 27 = some (.ifCond .ne 5, 3, 32, 0, 0, 0, 0, 0, 0, 0, []) := rfl
theorem i_X8_rules_30 : tab t_X8_rules 30 = some (.iconst 0, 1, 0, 0, 0, 0, 0, 0, 0, 0, []) := rfl
theorem i_X8_rules_31 : tab t_X8_rules 31 = some (.ireturn, 1, 0, 0, 0, 1, 0, 0, 0, 0, []) := rfl
theorem i_X8_rules_32 : tab t_X8_rules 32 = some (.aload_n 0, 1, 0, 0, 0, 0, 0, 0, 0, 0, []) := rfl
theorem i_X8_rules_33 : tab t_X8_rules 33 = some (.getfield 10, 3, 2, 0, 0, 8, 0, 0, 0, 0, []) := rfl
theorem i_X8_rules_36 : tab t_X8_rules 36 = some (.getfield 68, 3, 2, 0, 0, 7, 0, 0, 0, 0, []) := rfl
theorem i_X8_rules_39 : tab t_X8_rules 39 = some (.iload_n 1, 1, 1, 0, 0, 0, 0, 0, 0, 0, []) := rfl
theorem i_X8_rules_40 : tab t_X8_rules 40 = some (.iconst 4, 1, 0, 4, 0, 0, 0, 0, 0, 0, []) := rfl
theorem i_X8_rules_41 : tab t_X8_rules 41 = some (.iload_n 2, 1, 2, 0, 0, 0, 0, 0, 0, 0, []) := rfl
theorem i_X8_rules_42 : tab t_X8_rules 42 = some (.invokevirtual 89, 3, 3, 0, 0, 0, 61, 7, 0, 0, []) := rfl
theorem i_X8_rules_45 : tab t_X8_rules 45 = some (.iconst 1, 1, 0, 1, 0, 0, 0, 0, 0, 0, []) := rfl
theorem i_X8_rules_46 : tab t_X8_rules 46 = some (.ireturn, 1, 0, 0, 0, 1, 0, 0, 0, 0, []) := rfl
def t_X8_may : List (Nat × rw_) := [(0, (.aload_n 0, 1, 0, 0, 0, 0, 0, 0, 0, 0, [])), (1, (.iload_n 1, 1, 1, 0, 0, 0, 0, 0, 0, 0, [])), (2, (.iload_n 2, 1, 2, 0, 0, 0, 0, 0, 0, 0, [])), (3, (.invokevirtual 102, 3, 2, 0, 0, 0, 114, 9, 0, 0, [])), (6, (.ifCond .ne 5, 3, 11, 0, 0, 0, 0, 0, 0, 0, [])), (9, (.iconst (-1), 1, 0, -1, 0, 0, 0, 0, 0, 0, [])), (10, (.ireturn, 1, 0, 0, 0, 0, 0, 0, 0, 0, [])), (11, (.aload_n 0, 1, 0, 0, 0, 0, 0, 0, 0, 0, [])), (12, (.iload_n 1, 1, 1, 0, 0, 0, 0, 0, 0, 0, [])), (13, (.iload_n 2, 1, 2, 0, 0, 0, 0, 0, 0, 0, [])), (14, (.invokevirtual 138, 3, 2, 0, 0, 0, 117, 9, 0, 0, [])), (17, (.pop, 1, 0, 0, 0, 0, 0, 0, 0, 0, [])), (18, (.aload_n 0, 1, 0, 0, 0, 0, 0, 0, 0, 0, [])), (19, (.getfield 54, 3, 2, 0, 0, 8, 8, 0, 0, 0, [])), (22, (.aload_n 0, 1, 0, 0, 0, 0, 0, 0, 0, 0, [])), (23, (.getfield 47, 3, 2, 0, 0, 8, 7, 0, 0, 0, [])), (26, (.getfield 141, 3, 0, 0, 0, 0, 5, 0, 0, 0, [])), (29, (.aload_n 0, 1, 0, 0, 0, 0, 0, 0, 0, 0, [])), (30, (.getfield 47, 3, 2, 0, 0, 8, 7, 0, 0, 0, [])), (33, (.getfield 144, 3, 0, 0, 0, 0, 4, 0, 0, 0, [])), (36, (.invokevirtual 147, 3, 2, 0, 0, 0, 56, 6, 0, 0, [])), (39, (.ireturn, 1, 0, 0, 0, 0, 0, 0, 0, 0, []))]
set_option maxRecDepth 100000 in
theorem ok_X8_may : tb_ok ctX8 m_X8_may t_X8_may = true := by decide +kernel
theorem i_X8_may_0 : tab t_X8_may 0 = some (.aload_n 0, 1, 0, 0, 0, 0, 0, 0, 0, 0, []) := rfl
theorem i_X8_may_1 : tab t_X8_may 1 = some (.iload_n 1, 1, 1, 0, 0, 0, 0, 0, 0, 0, []) := rfl
theorem i_X8_may_2 : tab t_X8_may 2 = some (.iload_n 2, 1, 2, 0, 0, 0, 0, 0, 0, 0, []) := rfl
theorem i_X8_may_3 : tab t_X8_may 3 = some (.invokevirtual 102, 3, 2, 0, 0, 0, 114, 9, 0, 0, []) := rfl
theorem i_X8_may_6 : tab t_X8_may 6 = some (.ifCond .ne 5, 3, 11, 0, 0, 0, 0, 0, 0, 0, []) := rfl
theorem i_X8_may_9 : tab t_X8_may 9 = some (.iconst (-1), 1, 0, -1, 0, 0, 0, 0, 0, 0, []) := rfl
theorem i_X8_may_10 : tab t_X8_may 10 = some (.ireturn, 1, 0, 0, 0, 0, 0, 0, 0, 0, []) := rfl
theorem i_X8_may_11 : tab t_X8_may 11 = some (.aload_n 0, 1, 0, 0, 0, 0, 0, 0, 0, 0, []) := rfl
theorem i_X8_may_12 : tab t_X8_may 12 = some (.iload_n 1, 1, 1, 0, 0, 0, 0, 0, 0, 0, []) := rfl
theorem i_X8_may_13 : tab t_X8_may 13 = some (.iload_n 2, 1, 2, 0, 0, 0, 0, 0, 0, 0, []) := rfl
theorem i_X8_may_14 : tab t_X8_may 14 = some (.invokevirtual 138, 3, 2, 0, 0, 0, 117, 9, 0, 0, []) := rfl
theorem i_X8_may_17 : tab t_X8_may 17 = some (.pop, 1, 0, 0, 0, 0, 0, 0, 0, 0, []) := rfl
theorem i_X8_may_18 : tab t_X8_may 18 = some (.aload_n 0, 1, 0, 0, 0, 0, 0, 0, 0, 0, []) := rfl
theorem i_X8_may_19 : tab t_X8_may 19 = some (.getfield 54, 3, 2, 0, 0, 8, 8, 0, 0, 0, []) := rfl
theorem i_X8_may_22 : tab t_X8_may 22 = some (.aload_n 0, 1, 0, 0, 0, 0, 0, 0, 0, 0, []) := rfl
theorem i_X8_may_23 : tab t_X8_may 23 = some (.getfield 47, 3, 2, 0, 0, 8, 7, 0, 0, 0, []) := rfl
theorem i_X8_may_26 : tab t_X8_may 26 = some (.getfield 141, 3, 0, 0, 0, 0, 5, 0, 0, 0, []) := rfl
theorem i_X8_may_29 : tab t_X8_may 29 = some (.aload_n 0, 1, 0, 0, 0, 0, 0, 0, 0, 0, []) := rfl
theorem i_X8_may_30 : tab t_X8_may 30 = some (.getfield 47, 3, 2, 0, 0, 8, 7, 0, 0, 0, []) := rfl
theorem i_X8_may_33 : tab t_X8_may 33 = some (.getfield 144, 3, 0, 0, 0, 0, 4, 0, 0, 0, []) := rfl
theorem i_X8_may_36 : tab t_X8_may 36 = some (.invokevirtual 147, 3, 2, 0, 0, 0, 56, 6, 0, 0, []) := rfl
theorem i_X8_may_39 : tab t_X8_may 39 = some (.ireturn, 1, 0, 0, 0, 0, 0, 0, 0, 0, []) := rfl
def t_X8_commands : List (Nat × rw_) := [(0, (.aload_n 0, 1, 0, 0, 0, 0, 0, 0, 0, 0, [])), (1, (.iload_n 1, 1, 1, 0, 0, 0, 0, 0, 0, 0, [])), (2, (.iload_n 2, 1, 2, 0, 0, 0, 0, 0, 0, 0, [])), (3, (.invokevirtual 102, 3, 2, 0, 0, 0, 114, 9, 0, 0, [])), (6, (.ifCond .eq 12, 3, 18, 0, 0, 0, 0, 0, 0, 0, [])), (9, (.aload_n 0, 1, 0, 0, 0, 0, 0, 0, 0, 0, [])), (10, (.iload_n 1, 1, 1, 0, 0, 0, 0, 0, 0, 0, [])), (11, (.iload_n 2, 1, 2, 0, 0, 0, 0, 0, 0, 0, [])), (12, (.invokevirtual 138, 3, 2, 0, 0, 0, 117, 9, 0, 0, [])), (15, (.goto 5, 3, 20, 0, 0, 0, 0, 0, 0, 0, [])), (18, (.bipush (-2), 2, 0, -2, 0, 0, 0, 0, 0, 0, [])), (20, (.ireturn, 1, 0, 0, 0, 0, 0, 0, 0, 0, []))]
set_option maxRecDepth 100000 in
theorem ok_X8_commands : tb_ok ctX8 m_X8_commands t_X8_commands = true := by decide +kernel
theorem i_X8_commands_0 : tab t_X8_commands 0 = some (.aload_n 0, 1, 0, 0, 0, 0, 0, 0, 0, 0, []) := rfl
theorem i_X8_commands_1 : tab t_X8_commands 1 = some (.iload_n 1, 1, 1, 0, 0, 0, 0, 0, 0, 0, []) := rfl
theorem i_X8_commands_2 : tab t_X8_commands 2 = some (.iload_n 2, 1, 2, 0, 0, 0, 0, 0, 0, 0, []) := rfl
theorem i_X8_commands_3 : tab t_X8_commands 3 = some (.invokevirtual 102, 3, 2, 0, 0, 0, 114, 9, 0, 0, []) := rfl
theorem i_X8_commands_6 : tab t_X8_commands 6 = some (.ifCond .eq 12, 3, 18, 0, 0, 0, 0, 0, 0, 0, []) := rfl
theorem i_X8_commands_9 : tab t_X8_commands 9 = some (.aload_n 0, 1, 0, 0, 0, 0, 0, 0, 0, 0, []) := rfl
theorem i_X8_commands_10 : tab t_X8_commands 10 = some (.iload_n 1, 1, 1, 0, 0, 0, 0, 0, 0, 0, []) := rfl
theorem i_X8_commands_11 : tab t_X8_commands 11 = some (.iload_n 2, 1, 2, 0, 0, 0, 0, 0, 0, 0, []) := rfl
theorem i_X8_commands_12 : tab t_X8_commands 12 = some (.invokevirtual 138, 3, 2, 0, 0, 0, 117, 9, 0, 0, []) := rfl
theorem i_X8_commands_15 : tab t_X8_commands 15 = some (.goto 5, 3, 20, 0, 0, 0, 0, 0, 0, 0, []) := rfl
theorem i_X8_commands_18 : tab t_X8_commands 18 = some (.bipush (-2), 2, 0, -2, 0, 0, 0, 0, 0, 0, []) := rfl
theorem i_X8_commands_20 : tab t_X8_commands 20 = some (.ireturn, 1, 0, 0, 0, 0, 0, 0, 0, 0, []) := rfl
def t_X8_ahead : List (Nat × rw_) := [(0, (.aload_n 0, 1, 0, 0, 0, 0, 0, 0, 0, 0, [])), (1, (.getfield 10, 3, 2, 0, 0, 8, 0, 0, 0, 0, [])), (4, (.getfield 93, 3, 2, 0, 0, 7, 1, 0, 0, 0, [])), (7, (.iload_n 1, 1, 1, 0, 0, 0, 0, 0, 0, 0, [])), (8, (.invokevirtual 72, 3, 1, 0, 0, 0, 59, 7, 0, 0, [])), (11, (.ifCond .eq 26, 3, 37, 0, 0, 0, 0, 0, 0, 0, [])), (14, (.aload_n 0, 1, 0, 0, 0, 0, 0, 0, 0, 0, [])), (15, (.getfield 10, 3, 2, 0, 0, 8, 0, 0, 0, 0, [])), (18, (.getfield 93, 3, 2, 0, 0, 7, 1, 0, 0, 0, [])), (21, (.iload_n 2, 1, 2, 0, 0, 0, 0, 0, 0, 0, [])), (22, (.invokevirtual 72, 3, 1, 0, 0, 0, 59, 7, 0, 0, [])), (25, (.ifCond .eq 12, 3, 37, 0, 0, 0, 0, 0, 0, 0, [])), (28, (.iload_n 1, 1, 1, 0, 0, 0, 0, 0, 0, 0, [])), (29, (.iload_n 2, 1, 2, 0, 0, 0, 0, 0, 0, 0, [])), (30, (.if_icmp .eq 7, 3, 37, 0, 0, 0, 0, 0, 0, 0, [])), (33, (.iconst 1, 1, 0, 1, 0, 0, 0, 0, 0, 0, [])), (34, (.goto 4, 3, 38, 0, 0, 0, 0, 0, 0, 0, [])), (37, (.iconst 0, 1, 0, 0, 0, 0, 0, 0, 0, 0, [])), (38, (.istore 6, 2, 6, 0, 0, 0, 0, 0, 0, 0, [])), (40, (.iload 6, 2, 6, 0, 0, 0, 0, 0, 0, 0, [])), (42, (.ifCond .eq 22, 3, 64, 0, 0, 0, 0, 0, 0, 0, [])), (45, (.aload_n 0, 1, 0, 0, 0, 0, 0, 0, 0, 0, [])), (46, (.iload_n 3, 1, 3, 0, 0, 0, 0, 0, 0, 0, [])), (47, (.iload 4, 2, 4, 0, 0, 0, 0, 0, 0, 0, [])), (49, (.invokevirtual 102, 3, 2, 0, 0, 0, 114, 9, 0, 0, [])), (52, (.ifCond .eq 12, 3, 64, 0, 0, 0, 0, 0, 0, 0, [])), (55, (.iload 5, 2, 5, 0, 0, 0, 0, 0, 0, 0, [])), (57, (.iconst 2, 1, 0, 2, 0, 0, 0, 0, 0, 0, [])), (58, (.invokestatic 78, 3, 2, 0, 0, 0, 109, 0, 0, 0, [])), (61, (.ifCond .ne 6, 3, 67, 0, 0, 0, 0, 0, 0, 0, [])), (64, (.bipush (-2), 2, 0, -2, 0, 0, 0, 0, 0, 0, [])), (66, (.ireturn, 1, 0, 0, 0, 0, 0, 0, 0, 0, [])), (67, (.aload_n 0, 1, 0, 0, 0, 0, 0, 0, 0, 0, [])), (68, (.iload_n 3, 1, 3, 0, 0, 0, 0, 0, 0, 0, [])), (69, (.invokevirtual 150, 3, 1, 0, 0, 0, 116, 9, 0, 0, [])), (72, (.astore 7, 2, 7, 0, 0, 0, 0, 0, 0, 0, [])), (74, (.aload 7, 2, 7, 0, 0, 0, 0, 0, 0, 0, [])), (76, (.ifnonnull 6, 3, 82, 0, 0, 0, 0, 0, 0, 0, [])), (79, (.bipush (-2), 2, 0, -2, 0, 0, 0, 0, 0, 0, [])), (81, (.ireturn, 1, 0, 0, 0, 0, 0, 0, 0, 0, [])), (82, (.aload_n 0, 1, 0, 0, 0, 0, 0, 0, 0, 0, [])), (83, (.getfield 47, 3, 2, 0, 0, 8, 7, 0, 0, 0, [])), (86, (.aload_n 0, 1, 0, 0, 0, 0, 0, 0, 0, 0, [])), (87, (.getfield 10, 3, 2, 0, 0, 8, 0, 0, 0, 0, [])), (90, (.iload_n 3, 1, 3, 0, 0, 0, 0, 0, 0, 0, [])), (91, (.iload 4, 2, 4, 0, 0, 0, 0, 0, 0, 0, [])), (93, (.invokevirtual 105, 3, 3, 0, 0, 0, 1, 1, 0, 0, [])), (96, (.aload_n 0, 1, 0, 0, 0, 0, 0, 0, 0, 0, [])), (97, (.getfield 47, 3, 2, 0, 0, 8, 7, 0, 0, 0, [])), (100, (.iload_n 1, 1, 1, 0, 0, 0, 0, 0, 0, 0, [])), (101, (.invokevirtual 154, 3, 1, 0, 0, 0, 7, 1, 0, 0, [])), (104, (.istore 8, 2, 8, 0, 0, 0, 0, 0, 0, 0, [])), (106, (.aload_n 0, 1, 0, 0, 0, 0, 0, 0, 0, 0, [])), (107, (.getfield 47, 3, 2, 0, 0, 8, 7, 0, 0, 0, [])), (110, (.iload_n 2, 1, 2, 0, 0, 0, 0, 0, 0, 0, [])), (111, (.invokevirtual 154, 3, 1, 0, 0, 0, 7, 1, 0, 0, [])), (114, (.istore 9, 2, 9, 0, 0, 0, 0, 0, 0, 0, [])), (116, (.aload_n 0, 1, 0, 0, 0, 0, 0, 0, 0, 0, [])), (117, (.getfield 54, 3, 2, 0, 0, 8, 8, 0, 0, 0, [])), (120, (.aload_n 0, 1, 0, 0, 0, 0, 0, 0, 0, 0, [])), (121, (.getfield 47, 3, 2, 0, 0, 8, 7, 0, 0, 0, [])), (124, (.aload 7, 2, 7, 0, 0, 0, 0, 0, 0, 0, [])), (126, (.iload 8, 2, 8, 0, 0, 0, 0, 0, 0, 0, [])), (128, (.invokevirtual 157, 3, 3, 0, 0, 0, 51, 6, 0, 0, [])), (131, (.aload_n 0, 1, 0, 0, 0, 0, 0, 0, 0, 0, [])), (132, (.getfield 54, 3, 2, 0, 0, 8, 8, 0, 0, 0, [])), (135, (.aload_n 0, 1, 0, 0, 0, 0, 0, 0, 0, 0, [])), (136, (.getfield 47, 3, 2, 0, 0, 8, 7, 0, 0, 0, [])), (139, (.aload 7, 2, 7, 0, 0, 0, 0, 0, 0, 0, [])), (141, (.iload 9, 2, 9, 0, 0, 0, 0, 0, 0, 0, [])), (143, (.invokevirtual 157, 3, 3, 0, 0, 0, 51, 6, 0, 0, [])), (146, (.iload 5, 2, 5, 0, 0, 0, 0, 0, 0, 0, [])), (148, (.iconst 1, 1, 0, 1, 0, 0, 0, 0, 0, 0, [])), (149, (.if_icmp .ne 15, 3, 164, 0, 0, 0, 0, 0, 0, 0, [])), (152, (.aload_n 0, 1, 0, 0, 0, 0, 0, 0, 0, 0, [])), (153, (.getfield 54, 3, 2, 0, 0, 8, 8, 0, 0, 0, [])), (156, (.iload 8, 2, 8, 0, 0, 0, 0, 0, 0, 0, [])), (158, (.iload 9, 2, 9, 0, 0, 0, 0, 0, 0, 0, [])), (160, (.invokevirtual 161, 3, 2, 0, 0, 0, 53, 6, 0, 0, [])), (163, (.ireturn, 1, 0, 0, 0, 0, 0, 0, 0, 0, [])), (164, (.aload_n 0, 1, 0, 0, 0, 0, 0, 0, 0, 0, [])), (165, (.getfield 54, 3, 2, 0, 0, 8, 8, 0, 0, 0, [])), (168, (.iload 8, 2, 8, 0, 0, 0, 0, 0, 0, 0, [])), (170, (.iload 9, 2, 9, 0, 0, 0, 0, 0, 0, 0, [])), (172, (.invokevirtual 164, 3, 2, 0, 0, 0, 54, 6, 0, 0, [])), (175, (.ifCond .eq 7, 3, 182, 0, 0, 0, 0, 0, 0, 0, [])), (178, (.iload_n 1, 1, 1, 0, 0, 0, 0, 0, 0, 0, [])), (179, (.goto 4, 3, 183, 0, 0, 0, 0, 0, 0, 0, [])), (182, (.iload_n 2, 1, 2, 0, 0, 0, 0, 0, 0, 0, [])), (183, (.ireturn, 1, 0, 0, 0, 0, 0, 0, 0, 0, []))]
set_option maxRecDepth 100000 in
theorem ok_X8_ahead : tb_ok ctX8 m_X8_ahead t_X8_ahead = true := by decide +kernel
theorem i_X8_ahead_0 : tab t_X8_ahead 0 = some (.aload_n 0, 1, 0, 0, 0, 0, 0, 0, 0, 0, []) := rfl
theorem i_X8_ahead_1 : tab t_X8_ahead 1 = some (.getfield 10, 3, 2, 0, 0, 8, 0, 0, 0, 0, []) := rfl
theorem i_X8_ahead_4 : tab t_X8_ahead 4 = some (.getfield 93, 3, 2, 0, 0, 7, 1, 0, 0, 0, []) := rfl
theorem i_X8_ahead_7 : tab t_X8_ahead 7 = some (.iload_n 1, 1, 1, 0, 0, 0, 0, 0, 0, 0, []) := rfl
theorem i_X8_ahead_8 : tab t_X8_ahead 8 = some (.invokevirtual 72, 3, 1, 0, 0, 0, 59, 7, 0, 0, []) := rfl
theorem i_X8_ahead_11 : tab t_X8_ahead 11 = some (.ifCond .eq 26, 3, 37, 0, 0, 0, 0, 0, 0, 0, []) := rfl
theorem i_X8_ahead_14 : tab t_X8_ahead 14 = some (.aload_n 0, 1, 0, 0, 0, 0, 0, 0, 0, 0, []) := rfl
theorem i_X8_ahead_15 : tab t_X8_ahead 15 = some (.getfield 10, 3, 2, 0, 0, 8, 0, 0, 0, 0, []) := rfl
theorem i_X8_ahead_18 : tab t_X8_ahead 18 = some (.getfield 93, 3, 2, 0, 0, 7, 1, 0, 0, 0, []) := rfl
theorem i_X8_ahead_21 : tab t_X8_ahead 21 = some (.iload_n 2, 1, 2, 0, 0, 0, 0, 0, 0, 0, []) := rfl
theorem i_X8_ahead_22 : tab t_X8_ahead 22 = some (.invokevirtual 72, 3, 1, 0, 0, 0, 59, 7, 0, 0, []) := rfl
theorem i_X8_ahead_25 : tab t_X8_ahead 25 = some (.ifCond .eq 12, 3, 37, 0, 0, 0, 0, 0, 0, 0, []) := rfl
theorem i_X8_ahead_28 : tab t_X8_ahead 28 = some (.iload_n 1, 1, 1, 0, 0, 0, 0, 0, 0, 0, []) := rfl
theorem i_X8_ahead_29 : tab t_X8_ahead 29 = some (.iload_n 2, 1, 2, 0, 0, 0, 0, 0, 0, 0, []) := rfl
theorem i_X8_ahead_30 : tab t_X8_ahead 30 = some (.if_icmp .eq 7, 3, 37, 0, 0, 0, 0, 0, 0, 0, []) := rfl
theorem i_X8_ahead_33 : tab t_X8_ahead 33 = some (.iconst 1, 1, 0, 1, 0, 0, 0, 0, 0, 0, []) := rfl
theorem i_X8_ahead_34 : tab t_X8_ahead 34 = some (.goto 4, 3, 38, 0, 0, 0, 0, 0, 0, 0, []) := rfl
theorem i_X8_ahead_37 : tab t_X8_ahead 37 = some (.iconst 0, 1, 0, 0, 0, 0, 0, 0, 0, 0, []) := rfl
theorem i_X8_ahead_38 : tab t_X8_ahead 38 = some (.istore 6, 2, 6, 0, 0, 0, 0, 0, 0, 0, []) := rfl
theorem i_X8_ahead_40 : tab t_X8_ahead 40 = some (.iload 6, 2, 6, 0, 0, 0, 0, 0, 0, 0, []) := rfl
theorem i_X8_ahead_42 : tab t_X8_ahead 42 = some (.ifCond .eq 22, 3, 64, 0, 0, 0, 0, 0, 0, 0, []) := rfl
theorem i_X8_ahead_45 : tab t_X8_ahead 45 = some (.aload_n 0, 1, 0, 0, 0, 0, 0, 0, 0, 0, []) := rfl
theorem i_X8_ahead_46 : tab t_X8_ahead 46 = some (.iload_n 3, 1, 3, 0, 0, 0, 0, 0, 0, 0, []) := rfl
theorem i_X8_ahead_47 : tab t_X8_ahead 47 = some (.iload 4, 2, 4, 0, 0, 0, 0, 0, 0, 0, []) := rfl
theorem i_X8_ahead_49 : tab t_X8_ahead 49 = some (.invokevirtual 102, 3, 2, 0, 0, 0, 114, 9, 0, 0, []) := rfl
theorem i_X8_ahead_52 : tab t_X8_ahead 52 = some (.ifCond .eq 12, 3, 64, 0, 0, 0, 0, 0, 0, 0, []) := rfl
theorem i_X8_ahead_55 : tab t_X8_ahead 55 = some (.iload 5, 2, 5, 0, 0, 0, 0, 0, 0, 0, []) := rfl
theorem i_X8_ahead_57 : tab t_X8_ahead 57 = some (.iconst 2, 1, 0, 2, 0, 0, 0, 0, 0, 0, []) := rfl
theorem i_X8_ahead_58 : tab t_X8_ahead 58 = some (.invokestatic 78, 3, 2, 0, 0, 0, 109, 0, 0, 0, []) := rfl
theorem i_X8_ahead_61 : tab t_X8_ahead 61 = some (.ifCond .ne 6, 3, 67, 0, 0, 0, 0, 0, 0, 0, []) := rfl
theorem i_X8_ahead_64 : tab t_X8_ahead 64 = some (.bipush (-2), 2, 0, -2, 0, 0, 0, 0, 0, 0, []) := rfl
theorem i_X8_ahead_66 : tab t_X8_ahead 66 = some (.ireturn, 1, 0, 0, 0, 0, 0, 0, 0, 0, []) := rfl
theorem i_X8_ahead_67 : tab t_X8_ahead 67 = some (.aload_n 0, 1, 0, 0, 0, 0, 0, 0, 0, 0, []) := rfl
theorem i_X8_ahead_68 : tab t_X8_ahead 68 = some (.iload_n 3, 1, 3, 0, 0, 0, 0, 0, 0, 0, []) := rfl
theorem i_X8_ahead_69 : tab t_X8_ahead 69 = some (.invokevirtual 150, 3, 1, 0, 0, 0, 116, 9, 0, 0, []) := rfl
theorem i_X8_ahead_72 : tab t_X8_ahead 72 = some (.astore 7, 2, 7, 0, 0, 0, 0, 0, 0, 0, []) := rfl
theorem i_X8_ahead_74 : tab t_X8_ahead 74 = some (.aload 7, 2, 7, 0, 0, 0, 0, 0, 0, 0, []) := rfl
theorem i_X8_ahead_76 : tab t_X8_ahead 76 = some (.ifnonnull 6, 3, 82, 0, 0, 0, 0, 0, 0, 0, []) := rfl
theorem i_X8_ahead_79 : tab t_X8_ahead 79 = some (.bipush (-2), 2, 0, -2, 0, 0, 0, 0, 0, 0, []) := rfl
theorem i_X8_ahead_81 : tab t_X8_ahead 81 = some (.ireturn, 1, 0, 0, 0, 0, 0, 0, 0, 0, []) := rfl
theorem i_X8_ahead_82 : tab t_X8_ahead 82 = some (.aload_n 0, 1, 0, 0, 0, 0, 0, 0, 0, 0, []) := rfl
theorem i_X8_ahead_83 : tab t_X8_ahead 83 = some (.getfield 47, 3, 2, 0, 0, 8, 7, 0, 0, 0, []) := rfl
theorem i_X8_ahead_86 : tab t_X8_ahead 86 = some (.aload_n 0, 1, 0, 0, 0, 0, 0, 0, 0, 0, []) := rfl
theorem i_X8_ahead_87 : tab t_X8_ahead 87 = some (.getfield 10, 3, 2, 0, 0, 8, 0, 0, 0, 0, []) := rfl
theorem i_X8_ahead_90 : tab t_X8_ahead 90 = some (.iload_n 3, 1, 3, 0, 0, 0, 0, 0, 0, 0, []) := rfl
theorem i_X8_ahead_91 : tab t_X8_ahead 91 = some (.iload 4, 2, 4, 0, 0, 0, 0, 0, 0, 0, []) := rfl
theorem i_X8_ahead_93 : tab t_X8_ahead 93 = some (.invokevirtual 105, 3, 3, 0, 0, 0, 1, 1, 0, 0, []) := rfl
theorem i_X8_ahead_96 : tab t_X8_ahead 96 = some (.aload_n 0, 1, 0, 0, 0, 0, 0, 0, 0, 0, []) := rfl
theorem i_X8_ahead_97 : tab t_X8_ahead 97 = some (.getfield 47, 3, 2, 0, 0, 8, 7, 0, 0, 0, []) := rfl
theorem i_X8_ahead_100 : tab t_X8_ahead 100 = some (.iload_n 1, 1, 1, 0, 0, 0, 0, 0, 0, 0, []) := rfl
theorem i_X8_ahead_101 : tab t_X8_ahead 101 = some (.invokevirtual 154, 3, 1, 0, 0, 0, 7, 1, 0, 0, []) := rfl
theorem i_X8_ahead_104 : tab t_X8_ahead 104 = some (.istore 8, 2, 8, 0, 0, 0, 0, 0, 0, 0, []) := rfl
theorem i_X8_ahead_106 : tab t_X8_ahead 106 = some (.aload_n 0, 1, 0, 0, 0, 0, 0, 0, 0, 0, []) := rfl
theorem i_X8_ahead_107 : tab t_X8_ahead 107 = some (.getfield 47, 3, 2, 0, 0, 8, 7, 0, 0, 0, []) := rfl
theorem i_X8_ahead_110 : tab t_X8_ahead 110 = some (.iload_n 2, 1, 2, 0, 0, 0, 0, 0, 0, 0, []) := rfl
theorem i_X8_ahead_111 : tab t_X8_ahead 111 = some (.invokevirtual 154, 3, 1, 0, 0, 0, 7, 1, 0, 0, []) := rfl
theorem i_X8_ahead_114 : tab t_X8_ahead 114 = some (.istore 9, 2, 9, 0, 0, 0, 0, 0, 0, 0, []) := rfl
theorem i_X8_ahead_116 : tab t_X8_ahead 116 = some (.aload_n 0, 1, 0, 0, 0, 0, 0, 0, 0, 0, []) := rfl
theorem i_X8_ahead_117 : tab t_X8_ahead 117 = some (.getfield 54, 3, 2, 0, 0, 8, 8, 0, 0, 0, []) := rfl
theorem i_X8_ahead_120 : tab t_X8_ahead 120 = some (.aload_n 0, 1, 0, 0, 0, 0, 0, 0, 0, 0, []) := rfl
theorem i_X8_ahead_121 : tab t_X8_ahead 121 = some (.getfield 47, 3, 2, 0, 0, 8, 7, 0, 0, 0, []) := rfl
theorem i_X8_ahead_124 : tab t_X8_ahead 124 = some (.aload 7, 2, 7, 0, 0, 0, 0, 0, 0, 0, []) := rfl
theorem i_X8_ahead_126 : tab t_X8_ahead 126 = some (.iload 8, 2, 8, 0, 0, 0, 0, 0, 0, 0, []) := rfl
theorem i_X8_ahead_128 : tab t_X8_ahead 128 = some (.invokevirtual 157, 3, 3, 0, 0, 0, 51, 6, 0, 0, []) := rfl
theorem i_X8_ahead_131 : tab t_X8_ahead 131 = some (.aload_n 0, 1, 0, 0, 0, 0, 0, 0, 0, 0, []) := rfl
theorem i_X8_ahead_132 : tab t_X8_ahead 132 = some (.getfield 54, 3, 2, 0, 0, 8, 8, 0, 0, 0, []) := rfl
theorem i_X8_ahead_135 : tab t_X8_ahead 135 = some (.aload_n 0, 1, 0, 0, 0, 0, 0, 0, 0, 0, []) := rfl
theorem i_X8_ahead_136 : tab t_X8_ahead 136 = some (.getfield 47, 3, 2, 0, 0, 8, 7, 0, 0, 0, []) := rfl
theorem i_X8_ahead_139 : tab t_X8_ahead 139 = some (.aload 7, 2, 7, 0, 0, 0, 0, 0, 0, 0, []) := rfl
theorem i_X8_ahead_141 : tab t_X8_ahead 141 = some (.iload 9, 2, 9, 0, 0, 0, 0, 0, 0, 0, []) := rfl
theorem i_X8_ahead_143 : tab t_X8_ahead 143 = some (.invokevirtual 157, 3, 3, 0, 0, 0, 51, 6, 0, 0, []) := rfl
theorem i_X8_ahead_146 : tab t_X8_ahead 146 = some (.iload 5, 2, 5, 0, 0, 0, 0, 0, 0, 0, []) := rfl
theorem i_X8_ahead_148 : tab t_X8_ahead 148 = some (.iconst 1, 1, 0, 1, 0, 0, 0, 0, 0, 0, []) := rfl
theorem i_X8_ahead_149 : tab t_X8_ahead 149 = some (.if_icmp .ne 15, 3, 164, 0, 0, 0, 0, 0, 0, 0, []) := rfl
theorem i_X8_ahead_152 : tab t_X8_ahead 152 = some (.aload_n 0, 1, 0, 0, 0, 0, 0, 0, 0, 0, []) := rfl
theorem i_X8_ahead_153 : tab t_X8_ahead 153 = some (.getfield 54, 3, 2, 0, 0, 8, 8, 0, 0, 0, []) := rfl
theorem i_X8_ahead_156 : tab t_X8_ahead 156 = some (.iload 8, 2, 8, 0, 0, 0, 0, 0, 0, 0, []) := rfl
theorem i_X8_ahead_158 : tab t_X8_ahead 158 = some (.iload 9, 2, 9, 0, 0, 0, 0, 0, 0, 0, []) := rfl
theorem i_X8_ahead_160 : tab t_X8_ahead 160 = some (.invokevirtual 161, 3, 2, 0, 0, 0, 53, 6, 0, 0, []) := rfl
theorem i_X8_ahead_163 : tab t_X8_ahead 163 = some (.ireturn, 1, 0, 0, 0, 0, 0, 0, 0, 0, []) := rfl
theorem i_X8_ahead_164 : tab t_X8_ahead 164 = some (.aload_n 0, 1, 0, 0, 0, 0, 0, 0, 0, 0, []) := rfl
theorem i_X8_ahead_165 : tab t_X8_ahead 165 = some (.getfield 54, 3, 2, 0, 0, 8, 8, 0, 0, 0, []) := rfl
theorem i_X8_ahead_168 : tab t_X8_ahead 168 = some (.iload 8, 2, 8, 0, 0, 0, 0, 0, 0, 0, []) := rfl
theorem i_X8_ahead_170 : tab t_X8_ahead 170 = some (.iload 9, 2, 9, 0, 0, 0, 0, 0, 0, 0, []) := rfl
theorem i_X8_ahead_172 : tab t_X8_ahead 172 = some (.invokevirtual 164, 3, 2, 0, 0, 0, 54, 6, 0, 0, []) := rfl
theorem i_X8_ahead_175 : tab t_X8_ahead 175 = some (.ifCond .eq 7, 3, 182, 0, 0, 0, 0, 0, 0, 0, []) := rfl
theorem i_X8_ahead_178 : tab t_X8_ahead 178 = some (.iload_n 1, 1, 1, 0, 0, 0, 0, 0, 0, 0, []) := rfl
theorem i_X8_ahead_179 : tab t_X8_ahead 179 = some (.goto 4, 3, 183, 0, 0, 0, 0, 0, 0, 0, []) := rfl
theorem i_X8_ahead_182 : tab t_X8_ahead 182 = some (.iload_n 2, 1, 2, 0, 0, 0, 0, 0, 0, 0, []) := rfl
theorem i_X8_ahead_183 : tab t_X8_ahead 183 = some (.ireturn, 1, 0, 0, 0, 0, 0, 0, 0, 0, []) := rfl
def t_X8_message : List (Nat × rw_) := [(0, (.iload_n 1, 1, 1, 0, 0, 0, 0, 0, 0, 0, [])), (1, (.ifCond .eq 17, 3, 18, 0, 0, 0, 0, 0, 0, 0, [])), (4, (.aload_n 0, 1, 0, 0, 0, 0, 0, 0, 0, 0, [])), (5, (.getfield 10, 3, 2, 0, 0, 8, 0, 0, 0, 0, [])), (8, (.getfield 113, 3, 2, 0, 0, 7, 3, 0, 0, 0, [])), (11, (.iload_n 2, 1, 2, 0, 0, 0, 0, 0, 0, 0, [])), (12, (.invokevirtual 72, 3, 1, 0, 0, 0, 59, 7, 0, 0, [])), (15, (.goto 14, 3, 29, 0, 0, 0, 0, 0, 0, 0, [])), (18, (.aload_n 0, 1, 0, 0, 0, 0, 0, 0, 0, 0, [])), (19, (.getfield 10, 3, 2, 0, 0, 8, 0, 0, 0, 0, [])), (22, (.getfield 93, 3, 2, 0, 0, 7, 1, 0, 0, 0, [])), (25, (.iload_n 2, 1, 2, 0, 0, 0, 0, 0, 0, 0, [])), (26, (.invokevirtual 72, 3, 1, 0, 0, 0, 59, 7, 0, 0, [])), (29, (.istore 5, 2, 5, 0, 0, 0, 0, 0, 0, 0, [])), (31, (.iload 5, 2, 5, 0, 0, 0, 0, 0, 0, 0, [])), (33, (.ifCond .eq 31, 3, 64, 0, 0, 0, 0, 0, 0, 0, [])), (36, (.aload_n 0, 1, 0, 0, 0, 0, 0, 0, 0, 0, [])), (37, (.getfield 10, 3, 2, 0, 0, 8, 0, 0, 0, 0, [])), (40, (.getfield 93, 3, 2, 0, 0, 7, 1, 0, 0, 0, [])), (43, (.iload_n 3, 1, 3, 0, 0, 0, 0, 0, 0, 0, [])), (44, (.invokevirtual 72, 3, 1, 0, 0, 0, 59, 7, 0, 0, [])), (47, (.ifCond .eq 17, 3, 64, 0, 0, 0, 0, 0, 0, 0, [])), (50, (.iload 4, 2, 4, 0, 0, 0, 0, 0, 0, 0, [])), (52, (.iconst (-1), 1, 0, -1, 0, 0, 0, 0, 0, 0, [])), (53, (.if_icmp .eq 13, 3, 66, 0, 0, 0, 0, 0, 0, 0, [])), (56, (.iload 4, 2, 4, 0, 0, 0, 0, 0, 0, 0, [])), (58, (.invokestatic 96, 3, 1, 0, 0, 0, 110, 0, 0, 0, [])), (61, (.ifCond .ne 5, 3, 66, 0, 0, 0, 0, 0, 0, 0, [])), (64, (.iconst (-1), 1, 0, -1, 0, 0, 0, 0, 0, 0, [])), (65, (.ireturn, 1, 0, 0, 0, 0, 0, 0, 0, 0, [])), (66, (.aload_n 0, 1, 0, 0, 0, 0, 0, 0, 0, 0, [])), (67, (.getfield 10, 3, 2, 0, 0, 8, 0, 0, 0, 0, [])), (70, (.getfield 167, 3, 2, 0, 0, 7, 5, 0, 0, 0, [])), (73, (.invokevirtual 85, 3, 0, 0, 0, 0, 62, 7, 0, 0, [])), (76, (.istore 6, 2, 6, 0, 0, 0, 0, 0, 0, 0, [])), (78, (.aload_n 0, 1, 0, 0, 0, 0, 0, 0, 0, 0, [])), (79, (.getfield 10, 3, 2, 0, 0, 8, 0, 0, 0, 0, [])), (82, (.getfield 167, 3, 2, 0, 0, 7, 5, 0, 0, 0, [])), (85, (.iload 6, 2, 6, 0, 0, 0, 0, 0, 0, 0, [])), (87, (.iconst 0, 1, 0, 0, 0, 0, 0, 0, 0, 0, [])), (88, (.iload_n 1, 1, 1, 0, 0, 0, 0, 0, 0, 0, [])), (89, (.ifCond .eq 7, 3, 96, 0, 0, 0, 0, 0, 0, 0, [])), (92, (.iconst 1, 1, 0, 1, 0, 0, 0, 0, 0, 0, [])), (93, (.goto 4, 3, 97, 0, 0, 0, 0, 0, 0, 0, [])), (96, (.iconst 0, 1, 0, 0, 0, 0, 0, 0, 0, 0, [])), (97, (.invokevirtual 89, 3, 3, 0, 0, 0, 61, 7, 0, 0, [])), (100, (.aload_n 0, 1, 0, 0, 0, 0, 0, 0, 0, 0, [])), (101, (.getfield 10, 3, 2, 0, 0, 8, 0, 0, 0, 0, [])), (104, (.getfield 167, 3, 2, 0, 0, 7, 5, 0, 0, 0, [])), (107, (.iload 6, 2, 6, 0, 0, 0, 0, 0, 0, 0, [])), (109, (.iconst 1, 1, 0, 1, 0, 0, 0, 0, 0, 0, [])), (110, (.iload_n 2, 1, 2, 0, 0, 0, 0, 0, 0, 0, [])), (111, (.invokevirtual 89, 3, 3, 0, 0, 0, 61, 7, 0, 0, [])), (114, (.aload_n 0, 1, 0, 0, 0, 0, 0, 0, 0, 0, [])), (115, (.getfield 10, 3, 2, 0, 0, 8, 0, 0, 0, 0, [])), (118, (.getfield 167, 3, 2, 0, 0, 7, 5, 0, 0, 0, [])), (121, (.iload 6, 2, 6, 0, 0, 0, 0, 0, 0, 0, [])), (123, (.iconst 2, 1, 0, 2, 0, 0, 0, 0, 0, 0, [])), (124, (.iload_n 3, 1, 3, 0, 0, 0, 0, 0, 0, 0, [])), (125, (.invokevirtual 89, 3, 3, 0, 0, 0, 61, 7, 0, 0, [])), (128, (.aload_n 0, 1, 0, 0, 0, 0, 0, 0, 0, 0, [])), (129, (.getfield 10, 3, 2, 0, 0, 8, 0, 0, 0, 0, [])), (132, (.getfield 167, 3, 2, 0, 0, 7, 5, 0, 0, 0, [])), (135, (.iload 6, 2, 6, 0, 0, 0, 0, 0, 0, 0, [])), (137, (.iconst 3, 1, 0, 3, 0, 0, 0, 0, 0, 0, [])), (138, (.iload 4, 2, 4, 0, 0, 0, 0, 0, 0, 0, [])), (140, (.invokevirtual 89, 3, 3, 0, 0, 0, 61, 7, 0, 0, [])), (143, (.iload 6, 2, 6, 0, 0, 0, 0, 0, 0, 0, [])), (145, (.ireturn, 1, 0, 0, 0, 0, 0, 0, 0, 0, []))]
set_option maxRecDepth 100000 in
theorem ok_X8_message : tb_ok ctX8 m_X8_message t_X8_message = true := by decide +kernel
theorem i_X8_message_0 : tab t_X8_message 0 = some (.iload_n 1, 1, 1, 0, 0, 0, 0, 0, 0, 0, []) := rfl
theorem i_X8_message_1 : tab t_X8_message 1 = some (.ifCond .eq 17, 3, 18, 0, 0, 0, 0, 0, 0, 0, []) := rfl
theorem i_X8_message_4 : tab t_X8_message 4 = some (.aload_n 0, 1, 0, 0, 0, 0, 0, 0, 0, 0, []) := rfl
theorem i_X8_message_5 : tab t_X8_message 5 = some (.getfield 10, 3, 2, 0, 0, 8, 0, 0, 0, 0, []) := rfl
theorem i_X8_message_8 : tab t_X8_message 8 = some (.getfield 113, 3, 2, 0, 0, 7, 3, 0, 0, 0, []) := rfl
theorem i_X8_message_11 : tab t_X8_message 11 = some (.iload_n 2, 1, 2, 0, 0, 0, 0, 0, 0, 0, []) := rfl
theorem i_X8_message_12 : tab t_X8_message 12 = some (.invokevirtual 72, 3, 1, 0, 0, 0, 59, 7, 0, 0, []) := rfl
theorem i_X8_message_15 : tab t_X8_message 15 = some (.goto 14, 3, 29, 0, 0, 0, 0, 0, 0, 0, []) := rfl
theorem i_X8_message_18 : tab t_X8_message 18 = some (.aload_n 0, 1, 0, 0, 0, 0, 0, 0, 0, 0, []) := rfl
theorem i_X8_message_19 : tab t_X8_message 19 = some (.getfield 10, 3, 2, 0, 0, 8, 0, 0, 0, 0, []) := rfl
theorem i_X8_message_22 : tab t_X8_message 22 = some (.getfield 93, 3, 2, 0, 0, 7, 1, 0, 0, 0, []) := rfl
theorem i_X8_message_25 : tab t_X8_message 25 = some (.iload_n 2, 1, 2, 0, 0, 0, 0, 0, 0, 0, []) := rfl
theorem i_X8_message_26 : tab t_X8_message 26 = some (.invokevirtual 72, 3, 1, 0, 0, 0, 59, 7, 0, 0, []) := rfl
theorem i_X8_message_29 : tab t_X8_message 29 = some (.istore 5, 2, 5, 0, 0, 0, 0, 0, 0, 0, []) := rfl
theorem i_X8_message_31 : tab t_X8_message 31 = some (.iload 5, 2, 5, 0, 0, 0, 0, 0, 0, 0, []) := rfl
theorem i_X8_message_33 : tab t_X8_message 33 = some (.ifCond .eq 31, 3, 64, 0, 0, 0, 0, 0, 0, 0, []) := rfl
theorem i_X8_message_36 : tab t_X8_message 36 = some (.aload_n 0, 1, 0, 0, 0, 0, 0, 0, 0, 0, []) := rfl
theorem i_X8_message_37 : tab t_X8_message 37 = some (.getfield 10, 3, 2, 0, 0, 8, 0, 0, 0, 0, []) := rfl
theorem i_X8_message_40 : tab t_X8_message 40 = some (.getfield 93, 3, 2, 0, 0, 7, 1, 0, 0, 0, []) := rfl
theorem i_X8_message_43 : tab t_X8_message 43 = some (.iload_n 3, 1, 3, 0, 0, 0, 0, 0, 0, 0, []) := rfl
theorem i_X8_message_44 : tab t_X8_message 44 = some (.invokevirtual 72, 3, 1, 0, 0, 0, 59, 7, 0, 0, []) := rfl
theorem i_X8_message_47 : tab t_X8_message 47 = some (.ifCond .eq 17, 3, 64, 0, 0, 0, 0, 0, 0, 0, []) := rfl
theorem i_X8_message_50 : tab t_X8_message 50 = some (.iload 4, 2, 4, 0, 0, 0, 0, 0, 0, 0, []) := rfl
theorem i_X8_message_52 : tab t_X8_message 52 = some (.iconst (-1), 1, 0, -1, 0, 0, 0, 0, 0, 0, []) := rfl
theorem i_X8_message_53 : tab t_X8_message 53 = some (.if_icmp .eq 13, 3, 66, 0, 0, 0, 0, 0, 0, 0, []) := rfl
theorem i_X8_message_56 : tab t_X8_message 56 = some (.iload 4, 2, 4, 0, 0, 0, 0, 0, 0, 0, []) := rfl
theorem i_X8_message_58 : tab t_X8_message 58 = some (.invokestatic 96, 3, 1, 0, 0, 0, 110, 0, 0, 0, []) := rfl
theorem i_X8_message_61 : tab t_X8_message 61 = some (.ifCond .ne 5, 3, 66, 0, 0, 0, 0, 0, 0, 0, []) := rfl
theorem i_X8_message_64 : tab t_X8_message 64 = some (.iconst (-1), 1, 0, -1, 0, 0, 0, 0, 0, 0, []) := rfl
theorem i_X8_message_65 : tab t_X8_message 65 = some (.ireturn, 1, 0, 0, 0, 0, 0, 0, 0, 0, []) := rfl
theorem i_X8_message_66 : tab t_X8_message 66 = some (.aload_n 0, 1, 0, 0, 0, 0, 0, 0, 0, 0, []) := rfl
theorem i_X8_message_67 : tab t_X8_message 67 = some (.getfield 10, 3, 2, 0, 0, 8, 0, 0, 0, 0, []) := rfl
theorem i_X8_message_70 : tab t_X8_message 70 = some (.getfield 167, 3, 2, 0, 0, 7, 5, 0, 0, 0, []) := rfl
theorem i_X8_message_73 : tab t_X8_message 73 = some (.invokevirtual 85, 3, 0, 0, 0, 0, 62, 7, 0, 0, []) := rfl
theorem i_X8_message_76 : tab t_X8_message 76 = some (.istore 6, 2, 6, 0, 0, 0, 0, 0, 0, 0, []) := rfl
theorem i_X8_message_78 : tab t_X8_message 78 = some (.aload_n 0, 1, 0, 0, 0, 0, 0, 0, 0, 0, []) := rfl
theorem i_X8_message_79 : tab t_X8_message 79 = some (.getfield 10, 3, 2, 0, 0, 8, 0, 0, 0, 0, []) := rfl
theorem i_X8_message_82 : tab t_X8_message 82 = some (.getfield 167, 3, 2, 0, 0, 7, 5, 0, 0, 0, []) := rfl
theorem i_X8_message_85 : tab t_X8_message 85 = some (.iload 6, 2, 6, 0, 0, 0, 0, 0, 0, 0, []) := rfl
theorem i_X8_message_87 : tab t_X8_message 87 = some (.iconst 0, 1, 0, 0, 0, 0, 0, 0, 0, 0, []) := rfl
theorem i_X8_message_88 : tab t_X8_message 88 = some (.iload_n 1, 1, 1, 0, 0, 0, 0, 0, 0, 0, []) := rfl
theorem i_X8_message_89 : tab t_X8_message 89 = some (.ifCond .eq 7, 3, 96, 0, 0, 0, 0, 0, 0, 0, []) := rfl
theorem i_X8_message_92 : tab t_X8_message 92 = some (.iconst 1, 1, 0, 1, 0, 0, 0, 0, 0, 0, []) := rfl
theorem i_X8_message_93 : tab t_X8_message 93 = some (.goto 4, 3, 97, 0, 0, 0, 0, 0, 0, 0, []) := rfl
theorem i_X8_message_96 : tab t_X8_message 96 = some (.iconst 0, 1, 0, 0, 0, 0, 0, 0, 0, 0, []) := rfl
theorem i_X8_message_97 : tab t_X8_message 97 = some (.invokevirtual 89, 3, 3, 0, 0, 0, 61, 7, 0, 0, []) := rfl
theorem i_X8_message_100 : tab t_X8_message 100 = some (.aload_n 0, 1, 0, 0, 0, 0, 0, 0, 0, 0, []) := rfl
theorem i_X8_message_101 : tab t_X8_message 101 = some (.getfield 10, 3, 2, 0, 0, 8, 0, 0, 0, 0, []) := rfl
theorem i_X8_message_104 : tab t_X8_message 104 = some (.getfield 167, 3, 2, 0, 0, 7, 5, 0, 0, 0, []) := rfl
theorem i_X8_message_107 : tab t_X8_message 107 = some (.iload 6, 2, 6, 0, 0, 0, 0, 0, 0, 0, []) := rfl
theorem i_X8_message_109 : tab t_X8_message 109 = some (.iconst 1, 1, 0, 1, 0, 0, 0, 0, 0, 0, []) := rfl
theorem i_X8_message_110 : tab t_X8_message 110 = some (.iload_n 2, 1, 2, 0, 0, 0, 0, 0, 0, 0, []) := rfl
theorem i_X8_message_111 : tab t_X8_message 111 = some (.invokevirtual 89, 3, 3, 0, 0, 0, 61, 7, 0, 0, []) := rfl
theorem i_X8_message_114 : tab t_X8_message 114 = some (.aload_n 0, 1, 0, 0, 0, 0, 0, 0, 0, 0, []) := rfl
theorem i_X8_message_115 : tab t_X8_message 115 = some (.getfield 10, 3, 2, 0, 0, 8, 0, 0, 0, 0, []) := rfl
theorem i_X8_message_118 : tab t_X8_message 118 = some (.getfield 167, 3, 2, 0, 0, 7, 5, 0, 0, 0, []) := rfl
theorem i_X8_message_121 : tab t_X8_message 121 = some (.iload 6, 2, 6, 0, 0, 0, 0, 0, 0, 0, []) := rfl
theorem i_X8_message_123 : tab t_X8_message 123 = some (.iconst 2, 1, 0, 2, 0, 0, 0, 0, 0, 0, []) := rfl
theorem i_X8_message_124 : tab t_X8_message 124 = some (.iload_n 3, 1, 3, 0, 0, 0, 0, 0, 0, 0, []) := rfl
theorem i_X8_message_125 : tab t_X8_message 125 = some (.invokevirtual 89, 3, 3, 0, 0, 0, 61, 7, 0, 0, []) := rfl
theorem i_X8_message_128 : tab t_X8_message 128 = some (.aload_n 0, 1, 0, 0, 0, 0, 0, 0, 0, 0, []) := rfl
theorem i_X8_message_129 : tab t_X8_message 129 = some (.getfield 10, 3, 2, 0, 0, 8, 0, 0, 0, 0, []) := rfl
theorem i_X8_message_132 : tab t_X8_message 132 = some (.getfield 167, 3, 2, 0, 0, 7, 5, 0, 0, 0, []) := rfl
theorem i_X8_message_135 : tab t_X8_message 135 = some (.iload 6, 2, 6, 0, 0, 0, 0, 0, 0, 0, []) := rfl
theorem i_X8_message_137 : tab t_X8_message 137 = some (.iconst 3, 1, 0, 3, 0, 0, 0, 0, 0, 0, []) := rfl
theorem i_X8_message_138 : tab t_X8_message 138 = some (.iload 4, 2, 4, 0, 0, 0, 0, 0, 0, 0, []) := rfl
theorem i_X8_message_140 : tab t_X8_message 140 = some (.invokevirtual 89, 3, 3, 0, 0, 0, 61, 7, 0, 0, []) := rfl
theorem i_X8_message_143 : tab t_X8_message 143 = some (.iload 6, 2, 6, 0, 0, 0, 0, 0, 0, 0, []) := rfl
theorem i_X8_message_145 : tab t_X8_message 145 = some (.ireturn, 1, 0, 0, 0, 0, 0, 0, 0, 0, []) := rfl
def t_X8_sight : List (Nat × rw_) := [(0, (.iload_n 1, 1, 1, 0, 0, 0, 0, 0, 0, 0, [])), (1, (.bipush 100, 2, 0, 100, 0, 0, 0, 0, 0, 0, [])), (3, (.invokestatic 78, 3, 2, 0, 0, 0, 109, 0, 0, 0, [])), (6, (.ifCond .ne 5, 3, 11, 0, 0, 0, 0, 0, 0, 0, [])), (9, (.iconst (-1), 1, 0, -1, 0, 0, 0, 0, 0, 0, [])), (10, (.ireturn, 1, 0, 0, 0, 0, 0, 0, 0, 0, [])), (11, (.aload_n 0, 1, 0, 0, 0, 0, 0, 0, 0, 0, [])), (12, (.getfield 10, 3, 2, 0, 0, 8, 0, 0, 0, 0, [])), (15, (.getfield 170, 3, 0, 0, 0, 7, 7, 0, 0, 0, [])), (18, (.istore_n 2, 1, 2, 0, 0, 0, 0, 0, 0, 0, [])), (19, (.aload_n 0, 1, 0, 0, 0, 0, 0, 0, 0, 0, [])), (20, (.getfield 10, 3, 2, 0, 0, 8, 0, 0, 0, 0, [])), (23, (.iload_n 1, 1, 1, 0, 0, 0, 0, 0, 0, 0, [])), (24, (.putfield 170, 3, 0, 0, 0, 7, 7, 0, 0, 0, [])), (27, (.iload_n 2, 1, 2, 0, 0, 0, 0, 0, 0, 0, [])), (28, (.ireturn, 1, 0, 0, 0, 0, 0, 0, 0, 0, []))]
set_option maxRecDepth 100000 in
theorem ok_X8_sight : tb_ok ctX8 m_X8_sight t_X8_sight = true := by decide +kernel
theorem i_X8_sight_0 : tab t_X8_sight 0 = some (.iload_n 1, 1, 1, 0, 0, 0, 0, 0, 0, 0, []) := rfl
theorem i_X8_sight_1 : tab t_X8_sight 1 = some (.bipush 100, 2, 0, 100, 0, 0, 0, 0, 0, 0, []) := rfl
theorem i_X8_sight_3 : tab t_X8_sight 3 = some (.invokestatic 78, 3, 2, 0, 0, 0, 109, 0, 0, 0, []) := rfl
theorem i_X8_sight_6 : tab t_X8_sight 6 = some (.ifCond .ne 5, 3, 11, 0, 0, 0, 0, 0, 0, 0, []) := rfl
theorem i_X8_sight_9 : tab t_X8_sight 9 = some (.iconst (-1), 1, 0, -1, 0, 0, 0, 0, 0, 0, []) := rfl
theorem i_X8_sight_10 : tab t_X8_sight 10 = some (.ireturn, 1, 0, 0, 0, 0, 0, 0, 0, 0, []) := rfl
theorem i_X8_sight_11 : tab t_X8_sight 11 = some (.aload_n 0, 1, 0, 0, 0, 0, 0, 0, 0, 0, []) := rfl
theorem i_X8_sight_12 : tab t_X8_sight 12 = some (.getfield 10, 3, 2, 0, 0, 8, 0, 0, 0, 0, []) := rfl
theorem i_X8_sight_15 : tab t_X8_sight 15 = some (.getfield 170, 3, 0, 0, 0, 7, 7, 0, 0, 0, []) := rfl
theorem i_X8_sight_18 : tab t_X8_sight 18 = some (.istore_n 2, 1, 2, 0, 0, 0, 0, 0, 0, 0, []) := rfl
theorem i_X8_sight_19 : tab t_X8_sight 19 = some (.aload_n 0, 1, 0, 0, 0, 0, 0, 0, 0, 0, []) := rfl
theorem i_X8_sight_20 : tab t_X8_sight 20 = some (.getfield 10, 3, 2, 0, 0, 8, 0, 0, 0, 0, []) := rfl
theorem i_X8_sight_23 : tab t_X8_sight 23 = some (.iload_n 1, 1, 1, 0, 0, 0, 0, 0, 0, 0, []) := rfl
theorem i_X8_sight_24 : tab t_X8_sight 24 = some (.putfield 170, 3, 0, 0, 0, 7, 7, 0, 0, 0, []) := rfl
theorem i_X8_sight_27 : tab t_X8_sight 27 = some (.iload_n 2, 1, 2, 0, 0, 0, 0, 0, 0, 0, []) := rfl
theorem i_X8_sight_28 : tab t_X8_sight 28 = some (.ireturn, 1, 0, 0, 0, 0, 0, 0, 0, 0, []) := rfl
def t_X8_knows : List (Nat × rw_) := [(0, (.aload_n 0, 1, 0, 0, 0, 0, 0, 0, 0, 0, [])), (1, (.getfield 10, 3, 2, 0, 0, 8, 0, 0, 0, 0, [])), (4, (.getfield 93, 3, 2, 0, 0, 7, 1, 0, 0, 0, [])), (7, (.iload_n 1, 1, 1, 0, 0, 0, 0, 0, 0, 0, [])), (8, (.invokevirtual 72, 3, 1, 0, 0, 0, 59, 7, 0, 0, [])), (11, (.ifCond .eq 11, 3, 22, 0, 0, 0, 0, 0, 0, 0, [])), (14, (.iload 4, 2, 4, 0, 0, 0, 0, 0, 0, 0, [])), (16, (.invokestatic 96, 3, 1, 0, 0, 0, 110, 0, 0, 0, [])), (19, (.ifCond .ne 5, 3, 24, 0, 0, 0, 0, 0, 0, 0, [])), (22, (.iconst (-1), 1, 0, -1, 0, 0, 0, 0, 0, 0, [])), (23, (.ireturn, 1, 0, 0, 0, 0, 0, 0, 0, 0, [])), (24, (.iload_n 2, 1, 2, 0, 0, 0, 0, 0, 0, 0, [])), (25, (.ifCond .eq 17, 3, 42, 0, 0, 0, 0, 0, 0, 0, [])), (28, (.aload_n 0, 1, 0, 0, 0, 0, 0, 0, 0, 0, [])), (29, (.getfield 10, 3, 2, 0, 0, 8, 0, 0, 0, 0, [])), (32, (.getfield 113, 3, 2, 0, 0, 7, 3, 0, 0, 0, [])), (35, (.iload_n 3, 1, 3, 0, 0, 0, 0, 0, 0, 0, [])), (36, (.invokevirtual 72, 3, 1, 0, 0, 0, 59, 7, 0, 0, [])), (39, (.goto 13, 3, 52, 0, 0, 0, 0, 0, 0, 0, [])), (42, (.aload_n 0, 1, 0, 0, 0, 0, 0, 0, 0, 0, [])), (43, (.getfield 10, 3, 2, 0, 0, 8, 0, 0, 0, 0, [])), (46, (.iload_n 3, 1, 3, 0, 0, 0, 0, 0, 0, 0, [])), (47, (.iload 4, 2, 4, 0, 0, 0, 0, 0, 0, 0, [])), (49, (.invokevirtual 173, 3, 2, 0, 0, 0, 66, 8, 0, 0, [])), (52, (.istore 5, 2, 5, 0, 0, 0, 0, 0, 0, 0, [])), (54, (.iload 5, 2, 5, 0, 0, 0, 0, 0, 0, 0, [])), (56, (.ifCond .ne 5, 3, 61, 0, 0, 0, 0, 0, 0, 0, [])), (59, (.iconst (-1), 1, 0, -1, 0, 0, 0, 0, 0, 0, [])), (60, (.ireturn, 1, 0, 0, 0, 0, 0, 0, 0, 0, [])), (61, (.aload_n 0, 1, 0, 0, 0, 0, 0, 0, 0, 0, [])), (62, (.getfield 61, 3, 2, 0, 0, 8, 9, 0, 0, 0, [])), (65, (.aload_n 0, 1, 0, 0, 0, 0, 0, 0, 0, 0, [])), (66, (.getfield 10, 3, 2, 0, 0, 8, 0, 0, 0, 0, [])), (69, (.iload 4, 2, 4, 0, 0, 0, 0, 0, 0, 0, [])), (71, (.iconst (-1), 1, 0, -1, 0, 0, 0, 0, 0, 0, [])), (72, (.invokevirtual 176, 3, 3, 0, 0, 0, 13, 2, 0, 0, [])), (75, (.iload_n 2, 1, 2, 0, 0, 0, 0, 0, 0, 0, [])), (76, (.ifCond .eq 15, 3, 91, 0, 0, 0, 0, 0, 0, 0, [])), (79, (.aload_n 0, 1, 0, 0, 0, 0, 0, 0, 0, 0, [])), (80, (.getfield 61, 3, 2, 0, 0, 8, 9, 0, 0, 0, [])), (83, (.iload_n 1, 1, 1, 0, 0, 0, 0, 0, 0, 0, [])), (84, (.iload_n 3, 1, 3, 0, 0, 0, 0, 0, 0, 0, [])), (85, (.invokevirtual 179, 3, 2, 0, 0, 0, 20, 2, 0, 0, [])), (88, (.goto 12, 3, 100, 0, 0, 0, 0, 0, 0, 0, [])), (91, (.aload_n 0, 1, 0, 0, 0, 0, 0, 0, 0, 0, [])), (92, (.getfield 61, 3, 2, 0, 0, 8, 9, 0, 0, 0, [])), (95, (.iload_n 1, 1, 1, 0, 0, 0, 0, 0, 0, 0, [])), (96, (.iload_n 3, 1, 3, 0, 0, 0, 0, 0, 0, 0, [])), (97, (.invokevirtual 182, 3, 2, 0, 0, 0, 19, 2, 0, 0, [])), (100, (.istore 6, 2, 6, 0, 0, 0, 0, 0, 0, 0, [])), (102, (.iload 6, 2, 6, 0, 0, 0, 0, 0, 0, 0, [])), (104, (.ifCond .eq 7, 3, 111, 0, 0, 0, 0, 0, 0, 0, [])), (107, (.iconst 1, 1, 0, 1, 0, 0, 0, 0, 0, 0, [])), (108, (.goto 4, 3, 112, 0, 0, 0, 0, 0, 0, 0, [])), (111, (.iconst 0, 1, 0, 0, 0, 0, 0, 0, 0, 0, [])), (112, (.ireturn, 1, 0, 0, 0, 0, 0, 0, 0, 0, []))]
set_option maxRecDepth 100000 in
theorem ok_X8_knows : tb_ok ctX8 m_X8_knows t_X8_knows = true := by decide +kernel
theorem i_X8_knows_0 : tab t_X8_knows 0 = some (.aload_n 0, 1, 0, 0, 0, 0, 0, 0, 0, 0, []) := rfl
theorem i_X8_knows_1 : tab t_X8_knows 1 = some (.getfield 10, 3, 2, 0, 0, 8, 0, 0, 0, 0, []) := rfl
theorem i_X8_knows_4 : tab t_X8_knows 4 = some (.getfield 93, 3, 2, 0, 0, 7, 1, 0, 0, 0, []) := rfl
theorem i_X8_knows_7 : tab t_X8_knows 7 = some (.iload_n 1, 1, 1, 0, 0, 0, 0, 0, 0, 0, []) := rfl
theorem i_X8_knows_8 : tab t_X8_knows 8 = some (.invokevirtual 72, 3, 1, 0, 0, 0, 59, 7, 0, 0, []) := rfl
theorem i_X8_knows_11 : tab t_X8_knows 11 = some (.ifCond .eq 11, 3, 22, 0, 0, 0, 0, 0, 0, 0, []) := rfl
theorem i_X8_knows_14 : tab t_X8_knows 14 = some (.iload 4, 2, 4, 0, 0, 0, 0, 0, 0, 0, []) := rfl
theorem i_X8_knows_16 : tab t_X8_knows 16 = some (.invokestatic 96, 3, 1, 0, 0, 0, 110, 0, 0, 0, []) := rfl
theorem i_X8_knows_19 : tab t_X8_knows 19 = some (.ifCond .ne 5, 3, 24, 0, 0, 0, 0, 0, 0, 0, []) := rfl
theorem i_X8_knows_22 : tab t_X8_knows 22 = some (.iconst (-1), 1, 0, -1, 0, 0, 0, 0, 0, 0, []) := rfl
theorem i_X8_knows_23 : tab t_X8_knows 23 = some (.ireturn, 1, 0, 0, 0, 0, 0, 0, 0, 0, []) := rfl
theorem i_X8_knows_24 : tab t_X8_knows 24 = some (.iload_n 2, 1, 2, 0, 0, 0, 0, 0, 0, 0, []) := rfl
theorem i_X8_knows_25 : tab t_X8_knows 25 = some (.ifCond .eq 17, 3, 42, 0, 0, 0, 0, 0, 0, 0, []) := rfl
theorem i_X8_knows_28 : tab t_X8_knows 28 = some (.aload_n 0, 1, 0, 0, 0, 0, 0, 0, 0, 0, []) := rfl
theorem i_X8_knows_29 : tab t_X8_knows 29 = some (.getfield 10, 3, 2, 0, 0, 8, 0, 0, 0, 0, []) := rfl
theorem i_X8_knows_32 : tab t_X8_knows 32 = some (.getfield 113, 3, 2, 0, 0, 7, 3, 0, 0, 0, []) := rfl
theorem i_X8_knows_35 : tab t_X8_knows 35 = some (.iload_n 3, 1, 3, 0, 0, 0, 0, 0, 0, 0, []) := rfl
theorem i_X8_knows_36 : tab t_X8_knows 36 = some (.invokevirtual 72, 3, 1, 0, 0, 0, 59, 7, 0, 0, []) := rfl
theorem i_X8_knows_39 : tab t_X8_knows 39 = some (.goto 13, 3, 52, 0, 0, 0, 0, 0, 0, 0, []) := rfl
theorem i_X8_knows_42 : tab t_X8_knows 42 = some (.aload_n 0, 1, 0, 0, 0, 0, 0, 0, 0, 0, []) := rfl
theorem i_X8_knows_43 : tab t_X8_knows 43 = some (.getfield 10, 3, 2, 0, 0, 8, 0, 0, 0, 0, []) := rfl
theorem i_X8_knows_46 : tab t_X8_knows 46 = some (.iload_n 3, 1, 3, 0, 0, 0, 0, 0, 0, 0, []) := rfl
theorem i_X8_knows_47 : tab t_X8_knows 47 = some (.iload 4, 2, 4, 0, 0, 0, 0, 0, 0, 0, []) := rfl
theorem i_X8_knows_49 : tab t_X8_knows 49 = some (.invokevirtual 173, 3, 2, 0, 0, 0, 66, 8, 0, 0, []) := rfl
theorem i_X8_knows_52 : tab t_X8_knows 52 = some (.istore 5, 2, 5, 0, 0, 0, 0, 0, 0, 0, []) := rfl
theorem i_X8_knows_54 : tab t_X8_knows 54 = some (.iload 5, 2, 5, 0, 0, 0, 0, 0, 0, 0, []) := rfl
theorem i_X8_knows_56 : tab t_X8_knows 56 = some (.ifCond .ne 5, 3, 61, 0, 0, 0, 0, 0, 0, 0, []) := rfl
theorem i_X8_knows_59 : tab t_X8_knows 59 = some (.iconst (-1), 1, 0, -1, 0, 0, 0, 0, 0, 0, []) := rfl
theorem i_X8_knows_60 : tab t_X8_knows 60 = some (.ireturn, 1, 0, 0, 0, 0, 0, 0, 0, 0, []) := rfl
theorem i_X8_knows_61 : tab t_X8_knows 61 = some (.aload_n 0, 1, 0, 0, 0, 0, 0, 0, 0, 0, []) := rfl
theorem i_X8_knows_62 : tab t_X8_knows 62 = some (.getfield 61, 3, 2, 0, 0, 8, 9, 0, 0, 0, []) := rfl
theorem i_X8_knows_65 : tab t_X8_knows 65 = some (.aload_n 0, 1, 0, 0, 0, 0, 0, 0, 0, 0, []) := rfl
theorem i_X8_knows_66 : tab t_X8_knows 66 = some (.getfield 10, 3, 2, 0, 0, 8, 0, 0, 0, 0, []) := rfl
theorem i_X8_knows_69 : tab t_X8_knows 69 = some (.iload 4, 2, 4, 0, 0, 0, 0, 0, 0, 0, []) := rfl
theorem i_X8_knows_71 : tab t_X8_knows 71 = some (.iconst (-1), 1, 0, -1, 0, 0, 0, 0, 0, 0, []) := rfl
theorem i_X8_knows_72 : tab t_X8_knows 72 = some (.invokevirtual 176, 3, 3, 0, 0, 0, 13, 2, 0, 0, []) := rfl
theorem i_X8_knows_75 : tab t_X8_knows 75 = some (.iload_n 2, 1, 2, 0, 0, 0, 0, 0, 0, 0, []) := rfl
theorem i_X8_knows_76 : tab t_X8_knows 76 = some (.ifCond .eq 15, 3, 91, 0, 0, 0, 0, 0, 0, 0, []) := rfl
theorem i_X8_knows_79 : tab t_X8_knows 79 = some (.aload_n 0, 1, 0, 0, 0, 0, 0, 0, 0, 0, []) := rfl
theorem i_X8_knows_80 : tab t_X8_knows 80 = some (.getfield 61, 3, 2, 0, 0, 8, 9, 0, 0, 0, []) := rfl
theorem i_X8_knows_83 : tab t_X8_knows 83 = some (.iload_n 1, 1, 1, 0, 0, 0, 0, 0, 0, 0, []) := rfl
theorem i_X8_knows_84 : tab t_X8_knows 84 = some (.iload_n 3, 1, 3, 0, 0, 0, 0, 0, 0, 0, []) := rfl
theorem i_X8_knows_85 : tab t_X8_knows 85 = some (.invokevirtual 179, 3, 2, 0, 0, 0, 20, 2, 0, 0, []) := rfl
theorem i_X8_knows_88 : tab t_X8_knows 88 = some (.goto 12, 3, 100, 0, 0, 0, 0, 0, 0, 0, []) := rfl
theorem i_X8_knows_91 : tab t_X8_knows 91 = some (.aload_n 0, 1, 0, 0, 0, 0, 0, 0, 0, 0, []) := rfl
theorem i_X8_knows_92 : tab t_X8_knows 92 = some (.getfield 61, 3, 2, 0, 0, 8, 9, 0, 0, 0, []) := rfl
theorem i_X8_knows_95 : tab t_X8_knows 95 = some (.iload_n 1, 1, 1, 0, 0, 0, 0, 0, 0, 0, []) := rfl
theorem i_X8_knows_96 : tab t_X8_knows 96 = some (.iload_n 3, 1, 3, 0, 0, 0, 0, 0, 0, 0, []) := rfl
theorem i_X8_knows_97 : tab t_X8_knows 97 = some (.invokevirtual 182, 3, 2, 0, 0, 0, 19, 2, 0, 0, []) := rfl
theorem i_X8_knows_100 : tab t_X8_knows 100 = some (.istore 6, 2, 6, 0, 0, 0, 0, 0, 0, 0, []) := rfl
theorem i_X8_knows_102 : tab t_X8_knows 102 = some (.iload 6, 2, 6, 0, 0, 0, 0, 0, 0, 0, []) := rfl
theorem i_X8_knows_104 : tab t_X8_knows 104 = some (.ifCond .eq 7, 3, 111, 0, 0, 0, 0, 0, 0, 0, []) := rfl
theorem i_X8_knows_107 : tab t_X8_knows 107 = some (.iconst 1, 1, 0, 1, 0, 0, 0, 0, 0, 0, []) := rfl
theorem i_X8_knows_108 : tab t_X8_knows 108 = some (.goto 4, 3, 112, 0, 0, 0, 0, 0, 0, 0, []) := rfl
theorem i_X8_knows_111 : tab t_X8_knows 111 = some (.iconst 0, 1, 0, 0, 0, 0, 0, 0, 0, 0, []) := rfl
theorem i_X8_knows_112 : tab t_X8_knows 112 = some (.ireturn, 1, 0, 0, 0, 0, 0, 0, 0, 0, []) := rfl
