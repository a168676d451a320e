/-! 11: tables of class 8, 1 -/
def t_X8_thinks : List (Nat × rw_) := [(0, (.aload_n 0, 1, 0, 0, 0, 0, 0, 0, 0, 0, [])), (1, (.getfield 10, 3, 2, 0, 0, 8, 0, 0, 0, 0, [])), (4, (.getfield 93, 3, 2, 0, 0, 7, 1, 0, 0, 0, [])), (7, (.iload_n 1, 1, 1, 0, 0, 0, 0, 0, 0, 0, [])), (8, (.invokevirtual 72, 3, 1, 0, 0, 0, 59, 7, 0, 0, [])), (11, (.ifCond .eq 12, 3, 23, 0, 0, 0, 0, 0, 0, 0, [])), (14, (.aload_n 0, 1, 0, 0, 0, 0, 0, 0, 0, 0, [])), (15, (.iload_n 2, 1, 2, 0, 0, 0, 0, 0, 0, 0, [])), (16, (.iload_n 3, 1, 3, 0, 0, 0, 0, 0, 0, 0, [])), (17, (.invokevirtual 102, 3, 2, 0, 0, 0, 114, 9, 0, 0, [])), (20, (.ifCond .ne 6, 3, 26, 0, 0, 0, 0, 0, 0, 0, [])), (23, (.bipush (-2), 2, 0, -2, 0, 0, 0, 0, 0, 0, [])), (25, (.ireturn, 1, 0, 0, 0, 0, 0, 0, 0, 0, [])), (26, (.aload_n 0, 1, 0, 0, 0, 0, 0, 0, 0, 0, [])), (27, (.iload_n 2, 1, 2, 0, 0, 0, 0, 0, 0, 0, [])), (28, (.iload_n 3, 1, 3, 0, 0, 0, 0, 0, 0, 0, [])), (29, (.invokevirtual 138, 3, 2, 0, 0, 0, 117, 9, 0, 0, [])), (32, (.pop, 1, 0, 0, 0, 0, 0, 0, 0, 0, [])), (33, (.aload_n 0, 1, 0, 0, 0, 0, 0, 0, 0, 0, [])), (34, (.iload_n 2, 1, 2, 0, 0, 0, 0, 0, 0, 0, [])), (35, (.iload_n 3, 1, 3, 0, 0, 0, 0, 0, 0, 0, [])), (36, (.iconst (-1), 1, 0, -1, 0, 0, 0, 0, 0, 0, [])), (37, (.invokevirtual 185, 3, 3, 0, 0, 0, 118, 9, 0, 0, [])), (40, (.aload_n 0, 1, 0, 0, 0, 0, 0, 0, 0, 0, [])), (41, (.getfield 54, 3, 2, 0, 0, 8, 8, 0, 0, 0, [])), (44, (.iconst 0, 1, 0, 0, 0, 0, 0, 0, 0, 0, [])), (45, (.aload_n 0, 1, 0, 0, 0, 0, 0, 0, 0, 0, [])), (46, (.getfield 61, 3, 2, 0, 0, 8, 9, 0, 0, 0, [])), (49, (.iload_n 1, 1, 1, 0, 0, 0, 0, 0, 0, 0, [])), (50, (.iconst 0, 1, 0, 0, 0, 0, 0, 0, 0, 0, [])), (51, (.invokevirtual 188, 3, 2, 0, 0, 0, 21, 2, 0, 0, [])), (54, (.aload_n 0, 1, 0, 0, 0, 0, 0, 0, 0, 0, [])), (55, (.getfield 61, 3, 2, 0, 0, 8, 9, 0, 0, 0, [])), (58, (.iload_n 1, 1, 1, 0, 0, 0, 0, 0, 0, 0, [])), (59, (.invokevirtual 191, 3, 1, 0, 0, 0, 22, 2, 0, 0, [])), (62, (.invokevirtual 194, 3, 3, 0, 0, 0, 55, 6, 0, 0, [])), (65, (.ireturn, 1, 0, 0, 0, 0, 0, 0, 0, 0, []))]
set_option maxRecDepth 100000 in
theorem ok_X8_thinks : tb_ok ctX8 m_X8_thinks t_X8_thinks = true := by decide +kernel
theorem i_X8_thinks_0 : tab t_X8_thinks 0 = some (.aload_n 0, 1, 0, 0, 0, 0, 0, 0, 0, 0, []) := rfl
theorem i_X8_thinks_1 : tab t_X8_thinks 1 = some (.getfield 10, 3, 2, 0, 0, 8, 0, 0, 0, 0, []) := rfl
theorem i_X8_thinks_4 : tab t_X8_thinks 4 = some (.getfield 93, 3, 2, 0, 0, 7, 1, 0, 0, 0, []) := rfl
theorem i_X8_thinks_7 : tab t_X8_thinks 7 = some (.iload_n 1, 1, 1, 0, 0, 0, 0, 0, 0, 0, []) := rfl
theorem i_X8_thinks_8 : tab t_X8_thinks 8 = some (.invokevirtual 72, 3, 1, 0, 0, 0, 59, 7, 0, 0, []) := rfl
theorem i_X8_thinks_11 : tab t_X8_thinks 11 = some (.ifCond .eq 12, 3, 23, 0, 0, 0, 0, 0, 0, 0, []) := rfl
theorem i_X8_thinks_14 : tab t_X8_thinks 14 = some (.aload_n 0, 1, 0, 0, 0, 0, 0, 0, 0, 0, []) := rfl
theorem i_X8_thinks_15 : tab t_X8_thinks 15 = some (.iload_n 2, 1, 2, 0, 0, 0, 0, 0, 0, 0, []) := rfl
theorem i_X8_thinks_16 : tab t_X8_thinks 16 = some (.iload_n 3, 1, 3, 0, 0, 0, 0, 0, 0, 0, []) := rfl
theorem i_X8_thinks_17 : tab t_X8_thinks 17 = some (.invokevirtual 102, 3, 2, 0, 0, 0, 114, 9, 0, 0, []) := rfl
theorem i_X8_thinks_20 : tab t_X8_thinks 20 = some (.ifCond .ne 6, 3, 26, 0, 0, 0, 0, 0, 0, 0, []) := rfl
theorem i_X8_thinks_23 : tab t_X8_thinks 23 = some (.bipush (-2), 2, 0, -2, 0, 0, 0, 0, 0, 0, []) := rfl
theorem i_X8_thinks_25 : tab t_X8_thinks 25 = some (.ireturn, 1, 0, 0, 0, 0, 0, 0, 0, 0, []) := rfl
theorem i_X8_thinks_26 : tab t_X8_thinks 26 = some (.aload_n 0, 1, 0, 0, 0, 0, 0, 0, 0, 0, []) := rfl
theorem i_X8_thinks_27 : tab t_X8_thinks 27 = some (.iload_n 2, 1, 2, 0, 0, 0, 0, 0, 0, 0, []) := rfl
theorem i_X8_thinks_28 : tab t_X8_thinks 28 = some (.iload_n 3, 1, 3, 0, 0, 0, 0, 0, 0, 0, []) := rfl
theorem i_X8_thinks_29 : tab t_X8_thinks 29 = some (.invokevirtual 138, 3, 2, 0, 0, 0, 117, 9, 0, 0, []) := rfl
theorem i_X8_thinks_32 : tab t_X8_thinks 32 = some (.pop, 1, 0, 0, 0, 0, 0, 0, 0, 0, []) := rfl
theorem i_X8_thinks_33 : tab t_X8_thinks 33 = some (.aload_n 0, 1, 0, 0, 0, 0, 0, 0, 0, 0, []) := rfl
theorem i_X8_thinks_34 : tab t_X8_thinks 34 = some (.iload_n 2, 1, 2, 0, 0, 0, 0, 0, 0, 0, []) := rfl
theorem i_X8_thinks_35 : tab t_X8_thinks 35 = some (.iload_n 3, 1, 3, 0, 0, 0, 0, 0, 0, 0, []) := rfl
theorem i_X8_thinks_36 : tab t_X8_thinks 36 = some (.iconst (-1), 1, 0, -1, 0, 0, 0, 0, 0, 0, []) := rfl
theorem i_X8_thinks_37 : tab t_X8_thinks 37 = some (.invokevirtual 185, 3, 3, 0, 0, 0, 118, 9, 0, 0, []) := rfl
theorem i_X8_thinks_40 : tab t_X8_thinks 40 = some (.aload_n 0, 1, 0, 0, 0, 0, 0, 0, 0, 0, []) := rfl
theorem i_X8_thinks_41 : tab t_X8_thinks 41 = some (.getfield 54, 3, 2, 0, 0, 8, 8, 0, 0, 0, []) := rfl
theorem i_X8_thinks_44 : tab t_X8_thinks 44 = some (.iconst 0, 1, 0, 0, 0, 0, 0, 0, 0, 0, []) := rfl
theorem i_X8_thinks_45 : tab t_X8_thinks 45 = some (.aload_n 0, 1, 0, 0, 0, 0, 0, 0, 0, 0, []) := rfl
theorem i_X8_thinks_46 : tab t_X8_thinks 46 = some (.getfield 61, 3, 2, 0, 0, 8, 9, 0, 0, 0, []) := rfl
theorem i_X8_thinks_49 : tab t_X8_thinks 49 = some (.iload_n 1, 1, 1, 0, 0, 0, 0, 0, 0, 0, []) := rfl
theorem i_X8_thinks_50 : tab t_X8_thinks 50 = some (.iconst 0, 1, 0, 0, 0, 0, 0, 0, 0, 0, []) := rfl
theorem i_X8_thinks_51 : tab t_X8_thinks 51 = some (.invokevirtual 188, 3, 2, 0, 0, 0, 21, 2, 0, 0, []) := rfl
theorem i_X8_thinks_54 : tab t_X8_thinks 54 = some (.aload_n 0, 1, 0, 0, 0, 0, 0, 0, 0, 0, []) := rfl
theorem i_X8_thinks_55 : tab t_X8_thinks 55 = some (.getfield 61, 3, 2, 0, 0, 8, 9, 0, 0, 0, []) := rfl
theorem i_X8_thinks_58 : tab t_X8_thinks 58 = some (.iload_n 1, 1, 1, 0, 0, 0, 0, 0, 0, 0, []) := rfl
theorem i_X8_thinks_59 : tab t_X8_thinks 59 = some (.invokevirtual 191, 3, 1, 0, 0, 0, 22, 2, 0, 0, []) := rfl
theorem i_X8_thinks_62 : tab t_X8_thinks 62 = some (.invokevirtual 194, 3, 3, 0, 0, 0, 55, 6, 0, 0, []) := rfl
theorem i_X8_thinks_65 : tab t_X8_thinks 65 = some (.ireturn, 1, 0, 0, 0, 0, 0, 0, 0, 0, []) := rfl
def t_X8_wrong : List (Nat × rw_) := [(0, (.aload_n 0, 1, 0, 0, 0, 0, 0, 0, 0, 0, [])), (1, (.iload_n 1, 1, 1, 0, 0, 0, 0, 0, 0, 0, [])), (2, (.iload_n 2, 1, 2, 0, 0, 0, 0, 0, 0, 0, [])), (3, (.invokevirtual 102, 3, 2, 0, 0, 0, 114, 9, 0, 0, [])), (6, (.ifCond .ne 5, 3, 11, 0, 0, 0, 0, 0, 0, 0, [])), (9, (.iconst (-1), 1, 0, -1, 0, 0, 0, 0, 0, 0, [])), (10, (.ireturn, 1, 0, 0, 0, 0, 0, 0, 0, 0, [])), (11, (.aload_n 0, 1, 0, 0, 0, 0, 0, 0, 0, 0, [])), (12, (.iload_n 1, 1, 1, 0, 0, 0, 0, 0, 0, 0, [])), (13, (.iload_n 2, 1, 2, 0, 0, 0, 0, 0, 0, 0, [])), (14, (.invokevirtual 138, 3, 2, 0, 0, 0, 117, 9, 0, 0, [])), (17, (.pop, 1, 0, 0, 0, 0, 0, 0, 0, 0, [])), (18, (.aload_n 0, 1, 0, 0, 0, 0, 0, 0, 0, 0, [])), (19, (.iload_n 1, 1, 1, 0, 0, 0, 0, 0, 0, 0, [])), (20, (.iload_n 2, 1, 2, 0, 0, 0, 0, 0, 0, 0, [])), (21, (.iconst (-1), 1, 0, -1, 0, 0, 0, 0, 0, 0, [])), (22, (.invokevirtual 185, 3, 3, 0, 0, 0, 118, 9, 0, 0, [])), (25, (.aload_n 0, 1, 0, 0, 0, 0, 0, 0, 0, 0, [])), (26, (.iconst 0, 1, 0, 0, 0, 0, 0, 0, 0, 0, [])), (27, (.invokevirtual 198, 3, 1, 0, 0, 0, 119, 9, 0, 0, [])), (30, (.ireturn, 1, 0, 0, 0, 0, 0, 0, 0, 0, []))]
set_option maxRecDepth 100000 in
theorem ok_X8_wrong : tb_ok ctX8 m_X8_wrong t_X8_wrong = true := by decide +kernel
theorem i_X8_wrong_0 : tab t_X8_wrong 0 = some (.aload_n 0, 1, 0, 0, 0, 0, 0, 0, 0, 0, []) := rfl
theorem i_X8_wrong_1 : tab t_X8_wrong 1 = some (.iload_n 1, 1, 1, 0, 0, 0, 0, 0, 0, 0, []) := rfl
theorem i_X8_wrong_2 : tab t_X8_wrong 2 = some (.iload_n 2, 1, 2, 0, 0, 0, 0, 0, 0, 0, []) := rfl
theorem i_X8_wrong_3 : tab t_X8_wrong 3 = some (.invokevirtual 102, 3, 2, 0, 0, 0, 114, 9, 0, 0, []) := rfl
theorem i_X8_wrong_6 : tab t_X8_wrong 6 = some (.ifCond .ne 5, 3, 11, 0, 0, 0, 0, 0, 0, 0, []) := rfl
theorem i_X8_wrong_9 : tab t_X8_wrong 9 = some (.iconst (-1), 1, 0, -1, 0, 0, 0, 0, 0, 0, []) := rfl
theorem i_X8_wrong_10 : tab t_X8_wrong 10 = some (.ireturn, 1, 0, 0, 0, 0, 0, 0, 0, 0, []) := rfl
theorem i_X8_wrong_11 : tab t_X8_wrong 11 = some (.aload_n 0, 1, 0, 0, 0, 0, 0, 0, 0, 0, []) := rfl
theorem i_X8_wrong_12 : tab t_X8_wrong 12 = some (.iload_n 1, 1, 1, 0, 0, 0, 0, 0, 0, 0, []) := rfl
theorem i_X8_wrong_13 : tab t_X8_wrong 13 = some (.iload_n 2, 1, 2, 0, 0, 0, 0, 0, 0, 0, []) := rfl
theorem i_X8_wrong_14 : tab t_X8_wrong 14 = some (.invokevirtual 138, 3, 2, 0, 0, 0, 117, 9, 0, 0, []) := rfl
theorem i_X8_wrong_17 : tab t_X8_wrong 17 = some (.pop, 1, 0, 0, 0, 0, 0, 0, 0, 0, []) := rfl
theorem i_X8_wrong_18 : tab t_X8_wrong 18 = some (.aload_n 0, 1, 0, 0, 0, 0, 0, 0, 0, 0, []) := rfl
theorem i_X8_wrong_19 : tab t_X8_wrong 19 = some (.iload_n 1, 1, 1, 0, 0, 0, 0, 0, 0, 0, []) := rfl
theorem i_X8_wrong_20 : tab t_X8_wrong 20 = some (.iload_n 2, 1, 2, 0, 0, 0, 0, 0, 0, 0, []) := rfl
theorem i_X8_wrong_21 : tab t_X8_wrong 21 = some (.iconst (-1), 1, 0, -1, 0, 0, 0, 0, 0, 0, []) := rfl
theorem i_X8_wrong_22 : tab t_X8_wrong 22 = some (.invokevirtual 185, 3, 3, 0, 0, 0, 118, 9, 0, 0, []) := rfl
theorem i_X8_wrong_25 : tab t_X8_wrong 25 = some (.aload_n 0, 1, 0, 0, 0, 0, 0, 0, 0, 0, []) := rfl
theorem i_X8_wrong_26 : tab t_X8_wrong 26 = some (.iconst 0, 1, 0, 0, 0, 0, 0, 0, 0, 0, []) := rfl
theorem i_X8_wrong_27 : tab t_X8_wrong 27 = some (.invokevirtual 198, 3, 1, 0, 0, 0, 119, 9, 0, 0, []) := rfl
theorem i_X8_wrong_30 : tab t_X8_wrong 30 = some (.ireturn, 1, 0, 0, 0, 0, 0, 0, 0, 0, []) := rfl
def t_X8_order : List (Nat × rw_) := [(0, (.iload 4, 2, 4, 0, 0, 0, 0, 0, 0, 0, [])), (2, (.invokestatic 96, 3, 1, 0, 0, 0, 110, 0, 0, 0, [])), (5, (.ifCond .eq 37, 3, 42, 0, 0, 0, 0, 0, 0, 0, [])), (8, (.iload 5, 2, 5, 0, 0, 0, 0, 0, 0, 0, [])), (10, (.invokestatic 96, 3, 1, 0, 0, 0, 110, 0, 0, 0, [])), (13, (.ifCond .eq 29, 3, 42, 0, 0, 0, 0, 0, 0, 0, [])), (16, (.iload 6, 2, 6, 0, 0, 0, 0, 0, 0, 0, [])), (18, (.invokestatic 96, 3, 1, 0, 0, 0, 110, 0, 0, 0, [])), (21, (.ifCond .eq 21, 3, 42, 0, 0, 0, 0, 0, 0, 0, [])), (24, (.iload 5, 2, 5, 0, 0, 0, 0, 0, 0, 0, [])), (26, (.iload 4, 2, 4, 0, 0, 0, 0, 0, 0, 0, [])), (28, (.if_icmp .lt 14, 3, 42, 0, 0, 0, 0, 0, 0, 0, [])), (31, (.iload 6, 2, 6, 0, 0, 0, 0, 0, 0, 0, [])), (33, (.iload 4, 2, 4, 0, 0, 0, 0, 0, 0, 0, [])), (35, (.if_icmp .le 7, 3, 42, 0, 0, 0, 0, 0, 0, 0, [])), (38, (.iconst 1, 1, 0, 1, 0, 0, 0, 0, 0, 0, [])), (39, (.goto 4, 3, 43, 0, 0, 0, 0, 0, 0, 0, [])), (42, (.iconst 0, 1, 0, 0, 0, 0, 0, 0, 0, 0, [])), (43, (.istore 7, 2, 7, 0, 0, 0, 0, 0, 0, 0, [])), (45, (.iload 7, 2, 7, 0, 0, 0, 0, 0, 0, 0, [])), (47, (.ifCond .eq 40, 3, 87, 0, 0, 0, 0, 0, 0, 0, [])), (50, (.iload_n 3, 1, 3, 0, 0, 0, 0, 0, 0, 0, [])), (51, (.bipush 10, 2, 0, 10, 0, 0, 0, 0, 0, 0, [])), (53, (.invokestatic 78, 3, 2, 0, 0, 0, 109, 0, 0, 0, [])), (56, (.ifCond .eq 31, 3, 87, 0, 0, 0, 0, 0, 0, 0, [])), (59, (.aload_n 0, 1, 0, 0, 0, 0, 0, 0, 0, 0, [])), (60, (.getfield 10, 3, 2, 0, 0, 8, 0, 0, 0, 0, [])), (63, (.getfield 93, 3, 2, 0, 0, 7, 1, 0, 0, 0, [])), (66, (.iload_n 1, 1, 1, 0, 0, 0, 0, 0, 0, 0, [])), (67, (.invokevirtual 72, 3, 1, 0, 0, 0, 59, 7, 0, 0, [])), (70, (.ifCond .eq 17, 3, 87, 0, 0, 0, 0, 0, 0, 0, [])), (73, (.aload_n 0, 1, 0, 0, 0, 0, 0, 0, 0, 0, [])), (74, (.getfield 10, 3, 2, 0, 0, 8, 0, 0, 0, 0, [])), (77, (.getfield 68, 3, 2, 0, 0, 7, 0, 0, 0, 0, [])), (80, (.iload_n 2, 1, 2, 0, 0, 0, 0, 0, 0, 0, [])), (81, (.invokevirtual 72, 3, 1, 0, 0, 0, 59, 7, 0, 0, [])), (84, (.ifCond .ne 5, 3, 89, 0, 0, 0, 0, 0, 0, 0, [])), (87, (.iconst (-1), 1, 0, -1, 0, 0, 0, 0, 0, 0, [])), (88, (.ireturn, 1, 0, 0, 0, 0, 0, 0, 0, 0, [])), (89, (.aload_n 0, 1, 0, 0, 0, 0, 0, 0, 0, 0, [])), (90, (.getfield 10, 3, 2, 0, 0, 8, 0, 0, 0, 0, [])), (93, (.getfield 201, 3, 2, 0, 0, 7, 6, 0, 0, 0, [])), (96, (.invokevirtual 85, 3, 0, 0, 0, 0, 62, 7, 0, 0, [])), (99, (.istore 8, 2, 8, 0, 0, 0, 0, 0, 0, 0, [])), (101, (.aload_n 0, 1, 0, 0, 0, 0, 0, 0, 0, 0, [])), (102, (.getfield 10, 3, 2, 0, 0, 8, 0, 0, 0, 0, [])), (105, (.getfield 201, 3, 2, 0, 0, 7, 6, 0, 0, 0, [])), (108, (.iload 8, 2, 8, 0, 0, 0, 0, 0, 0, 0, [])), (110, (.iconst 0, 1, 0, 0, 0, 0, 0, 0, 0, 0, [])), (111, (.iload_n 1, 1, 1, 0, 0, 0, 0, 0, 0, 0, [])), (112, (.invokevirtual 89, 3, 3, 0, 0, 0, 61, 7, 0, 0, [])), (115, (.aload_n 0, 1, 0, 0, 0, 0, 0, 0, 0, 0, [])), (116, (.getfield 10, 3, 2, 0, 0, 8, 0, 0, 0, 0, [])), (119, (.getfield 201, 3, 2, 0, 0, 7, 6, 0, 0, 0, [])), (122, (.iload 8, 2, 8, 0, 0, 0, 0, 0, 0, 0, [])), (124, (.iconst 1, 1, 0, 1, 0, 0, 0, 0, 0, 0, [])), (125, (.iload_n 2, 1, 2, 0, 0, 0, 0, 0, 0, 0, [])), (126, (.invokevirtual 89, 3, 3, 0, 0, 0, 61, 7, 0, 0, [])), (129, (.aload_n 0, 1, 0, 0, 0, 0, 0, 0, 0, 0, [])), (130, (.getfield 10, 3, 2, 0, 0, 8, 0, 0, 0, 0, [])), (133, (.getfield 201, 3, 2, 0, 0, 7, 6, 0, 0, 0, [])), (136, (.iload 8, 2, 8, 0, 0, 0, 0, 0, 0, 0, [])), (138, (.iconst 2, 1, 0, 2, 0, 0, 0, 0, 0, 0, [])), (139, (.iload_n 3, 1, 3, 0, 0, 0, 0, 0, 0, 0, [])), (140, (.invokevirtual 89, 3, 3, 0, 0, 0, 61, 7, 0, 0, [])), (143, (.aload_n 0, 1, 0, 0, 0, 0, 0, 0, 0, 0, [])), (144, (.getfield 10, 3, 2, 0, 0, 8, 0, 0, 0, 0, [])), (147, (.getfield 201, 3, 2, 0, 0, 7, 6, 0, 0, 0, [])), (150, (.iload 8, 2, 8, 0, 0, 0, 0, 0, 0, 0, [])), (152, (.iconst 3, 1, 0, 3, 0, 0, 0, 0, 0, 0, [])), (153, (.iload 4, 2, 4, 0, 0, 0, 0, 0, 0, 0, [])), (155, (.invokevirtual 89, 3, 3, 0, 0, 0, 61, 7, 0, 0, [])), (158, (.aload_n 0, 1, 0, 0, 0, 0, 0, 0, 0, 0, [])), (159, (.getfield 10, 3, 2, 0, 0, 8, 0, 0, 0, 0, [])), (162, (.getfield 201, 3, 2, 0, 0, 7, 6, 0, 0, 0, [])), (165, (.iload 8, 2, 8, 0, 0, 0, 0, 0, 0, 0, [])), (167, (.iconst 4, 1, 0, 4, 0, 0, 0, 0, 0, 0, [])), (168, (.iload 5, 2, 5, 0, 0, 0, 0, 0, 0, 0, [])), (170, (.invokevirtual 89, 3, 3, 0, 0, 0, 61, 7, 0, 0, [])), (173, (.aload_n 0, 1, 0, 0, 0, 0, 0, 0, 0, 0, [])), (174, (.getfield 10, 3, 2, 0, 0, 8, 0, 0, 0, 0, [])), (177, (.getfield 201, 3, 2, 0, 0, 7, 6, 0, 0, 0, [])), (180, (.iload 8, 2, 8, 0, 0, 0, 0, 0, 0, 0, [])), (182, (.iconst 5, 1, 0, 5, 0, 0, 0, 0, 0, 0, [])), (183, (.iload 6, 2, 6, 0, 0, 0, 0, 0, 0, 0, [])), (185, (.invokevirtual 89, 3, 3, 0, 0, 0, 61, 7, 0, 0, [])), (188, (.iload 8, 2, 8, 0, 0, 0, 0, 0, 0, 0, [])), (190, (.ireturn, 1, 0, 0, 0, 0, 0, 0, 0, 0, []))]
set_option maxRecDepth 100000 in
theorem ok_X8_order : tb_ok ctX8 m_X8_order t_X8_order = true := by decide +kernel
theorem i_X8_order_0 : tab t_X8_order 0 = some (.iload 4, 2, 4, 0, 0, 0, 0, 0, 0, 0, []) := rfl
theorem i_X8_order_2 : tab t_X8_order 2 = some (.invokestatic 96, 3, 1, 0, 0, 0, 110, 0, 0, 0, []) := rfl
theorem i_X8_order_5 : tab t_X8_order 5 = some (.ifCond .eq 37, 3, 42, 0, 0, 0, 0, 0, 0, 0, []) := rfl
theorem i_X8_order_8 : tab t_X8_order 8 = some (.iload 5, 2, 5, 0, 0, 0, 0, 0, 0, 0, []) := rfl
theorem i_X8_order_10 : tab t_X8_order 10 = some (.invokestatic 96, 3, 1, 0, 0, 0, 110, 0, 0, 0, []) := rfl
theorem i_X8_order_13 : tab t_X8_order 13 = some (.ifCond .eq 29, 3, 42, 0, 0, 0, 0, 0, 0, 0, []) := rfl
theorem i_X8_order_16 : tab t_X8_order 16 = some (.iload 6, 2, 6, 0, 0, 0, 0, 0, 0, 0, []) := rfl
theorem i_X8_order_18 : tab t_X8_order 18 = some (.invokestatic 96, 3, 1, 0, 0, 0, 110, 0, 0, 0, []) := rfl
theorem i_X8_order_21 : tab t_X8_order 21 = some (.ifCond .eq 21, 3, 42, 0, 0, 0, 0, 0, 0, 0, []) := rfl
theorem i_X8_order_24 : tab t_X8_order 24 = some (.iload 5, 2, 5, 0, 0, 0, 0, 0, 0, 0, []) := rfl
theorem i_X8_order_26 : tab t_X8_order 26 = some (.iload 4, 2, 4, 0, 0, 0, 0, 0, 0, 0, []) := rfl
theorem i_X8_order_28 : tab t_X8_order 28 = some (.if_icmp .lt 14, 3, 42, 0, 0, 0, 0, 0, 0, 0, []) := rfl
theorem i_X8_order_31 : tab t_X8_order 31 = some (.iload 6, 2, 6, 0, 0, 0, 0, 0, 0, 0, []) := rfl
theorem i_X8_order_33 : tab t_X8_order 33 = some (.iload 4, 2, 4, 0, 0, 0, 0, 0, 0, 0, []) := rfl
theorem i_X8_order_35 : tab t_X8_order 35 = some (.if_icmp .le 7, 3, 42, 0, 0, 0, 0, 0, 0, 0, []) := rfl
theorem i_X8_order_38 : tab t_X8_order 38 = some (.iconst 1, 1, 0, 1, 0, 0, 0, 0, 0, 0, []) := rfl
theorem i_X8_order_39 : tab t_X8_order 39 = some (.goto 4, 3, 43, 0, 0, 0, 0, 0, 0, 0, []) := rfl
theorem i_X8_order_42 : tab t_X8_order 42 = some (.iconst 0, 1, 0, 0, 0, 0, 0, 0, 0, 0, []) := rfl
theorem i_X8_order_43 : tab t_X8_order 43 = some (.istore 7, 2, 7, 0, 0, 0, 0, 0, 0, 0, []) := rfl
theorem i_X8_order_45 : tab t_X8_order 45 = some (.iload 7, 2, 7, 0, 0, 0, 0, 0, 0, 0, []) := rfl
theorem i_X8_order_47 : tab t_X8_order 47 = some (.ifCond .eq 40, 3, 87, 0, 0, 0, 0, 0, 0, 0, []) := rfl
theorem i_X8_order_50 : tab t_X8_order 50 = some (.iload_n 3, 1, 3, 0, 0, 0, 0, 0, 0, 0, []) := rfl
theorem i_X8_order_51 : tab t_X8_order 51 = some (.bipush 10, 2, 0, 10, 0, 0, 0, 0, 0, 0, []) := rfl
theorem i_X8_order_53 : tab t_X8_order 53 = some (.invokestatic 78, 3, 2, 0, 0, 0, 109, 0, 0, 0, []) := rfl
theorem i_X8_order_56 : tab t_X8_order 56 = some (.ifCond .eq 31, 3, 87, 0, 0, 0, 0, 0, 0, 0, []) := rfl
theorem i_X8_order_59 : tab t_X8_order 59 = some (.aload_n 0, 1, 0, 0, 0, 0, 0, 0, 0, 0, []) := rfl
theorem i_X8_order_60 : tab t_X8_order 60 = some (.getfield 10, 3, 2, 0, 0, 8, 0, 0, 0, 0, []) := rfl
theorem i_X8_order_63 : tab t_X8_order 63 = some (.getfield 93, 3, 2, 0, 0, 7, 1, 0, 0, 0, []) := rfl
theorem i_X8_order_66 : tab t_X8_order 66 = some (.iload_n 1, 1, 1, 0, 0, 0, 0, 0, 0, 0, []) := rfl
theorem i_X8_order_67 : tab t_X8_order 67 = some (.invokevirtual 72, 3, 1, 0, 0, 0, 59, 7, 0, 0, []) := rfl
theorem i_X8_order_70 : tab t_X8_order 70 = some (.ifCond .eq 17, 3, 87, 0, 0, 0, 0, 0, 0, 0, []) := rfl
theorem i_X8_order_73 : tab t_X8_order 73 = some (.aload_n 0, 1, 0, 0, 0, 0, 0, 0, 0, 0, []) := rfl
theorem i_X8_order_74 : tab t_X8_order 74 = some (.getfield 10, 3, 2, 0, 0, 8, 0, 0, 0, 0, []) := rfl
theorem i_X8_order_77 : tab t_X8_order 77 = some (.getfield 68, 3, 2, 0, 0, 7, 0, 0, 0, 0, []) := rfl
theorem i_X8_order_80 : tab t_X8_order 80 = some (.iload_n 2, 1, 2, 0, 0, 0, 0, 0, 0, 0, []) := rfl
theorem i_X8_order_81 : tab t_X8_order 81 = some (.invokevirtual 72, 3, 1, 0, 0, 0, 59, 7, 0, 0, []) := rfl
theorem i_X8_order_84 : tab t_X8_order 84 = some (.ifCond .ne 5, 3, 89, 0, 0, 0, 0, 0, 0, 0, []) := rfl
theorem i_X8_order_87 : tab t_X8_order 87 = some (.iconst (-1), 1, 0, -1, 0, 0, 0, 0, 0, 0, []) := rfl
theorem i_X8_order_88 : tab t_X8_order 88 = some (.ireturn, 1, 0, 0, 0, 0, 0, 0, 0, 0, []) := rfl
theorem i_X8_order_89 : tab t_X8_order 89 = some (.aload_n 0, 1, 0, 0, 0, 0, 0, 0, 0, 0, []) := rfl
theorem i_X8_order_90 : tab t_X8_order 90 = some (.getfield 10, 3, 2, 0, 0, 8, 0, 0, 0, 0, []) := rfl
theorem i_X8_order_93 : tab t_X8_order 93 = some (.getfield 201, 3, 2, 0, 0, 7, 6, 0, 0, 0, []) := rfl
theorem i_X8_order_96 : tab t_X8_order 96 = some (.invokevirtual 85, 3, 0, 0, 0, 0, 62, 7, 0, 0, []) := rfl
theorem i_X8_order_99 : tab t_X8_order 99 = some (.istore 8, 2, 8, 0, 0, 0, 0, 0, 0, 0, []) := rfl
theorem i_X8_order_101 : tab t_X8_order 101 = some (.aload_n 0, 1, 0, 0, 0, 0, 0, 0, 0, 0, []) := rfl
theorem i_X8_order_102 : tab t_X8_order 102 = some (.getfield 10, 3, 2, 0, 0, 8, 0, 0, 0, 0, []) := rfl
theorem i_X8_order_105 : tab t_X8_order 105 = some (.getfield 201, 3, 2, 0, 0, 7, 6, 0, 0, 0, []) := rfl
theorem i_X8_order_108 : tab t_X8_order 108 = some (.iload 8, 2, 8, 0, 0, 0, 0, 0, 0, 0, []) := rfl
theorem i_X8_order_110 : tab t_X8_order 110 = some (.iconst 0, 1, 0, 0, 0, 0, 0, 0, 0, 0, []) := rfl
theorem i_X8_order_111 : tab t_X8_order 111 = some (.iload_n 1, 1, 1, 0, 0, 0, 0, 0, 0, 0, []) := rfl
theorem i_X8_order_112 : tab t_X8_order 112 = some (.invokevirtual 89, 3, 3, 0, 0, 0, 61, 7, 0, 0, []) := rfl
theorem i_X8_order_115 : tab t_X8_order 115 = some (.aload_n 0, 1, 0, 0, 0, 0, 0, 0, 0, 0, []) := rfl
theorem i_X8_order_116 : tab t_X8_order 116 = some (.getfield 10, 3, 2, 0, 0, 8, 0, 0, 0, 0, []) := rfl
theorem i_X8_order_119 : tab t_X8_order 119 = some (.getfield 201, 3, 2, 0, 0, 7, 6, 0, 0, 0, []) := rfl
theorem i_X8_order_122 : tab t_X8_order 122 = some (.iload 8, 2, 8, 0, 0, 0, 0, 0, 0, 0, []) := rfl
theorem i_X8_order_124 : tab t_X8_order 124 = some (.iconst 1, 1, 0, 1, 0, 0, 0, 0, 0, 0, []) := rfl
theorem i_X8_order_125 : tab t_X8_order 125 = some (.iload_n 2, 1, 2, 0, 0, 0, 0, 0, 0, 0, []) := rfl
theorem i_X8_order_126 : tab t_X8_order 126 = some (.invokevirtual 89, 3, 3, 0, 0, 0, 61, 7, 0, 0, []) := rfl
theorem i_X8_order_129 : tab t_X8_order 129 = some (.aload_n 0, 1, 0, 0, 0, 0, 0, 0, 0, 0, []) := rfl
theorem i_X8_order_130 : tab t_X8_order 130 = some (.getfield 10, 3, 2, 0, 0, 8, 0, 0, 0, 0, []) := rfl
theorem i_X8_order_133 : tab t_X8_order 133 = some (.getfield 201, 3, 2, 0, 0, 7, 6, 0, 0, 0, []) := rfl
theorem i_X8_order_136 : tab t_X8_order 136 = some (.iload 8, 2, 8, 0, 0, 0, 0, 0, 0, 0, []) := rfl
theorem i_X8_order_138 : tab t_X8_order 138 = some (.iconst 2, 1, 0, 2, 0, 0, 0, 0, 0, 0, []) := rfl
theorem i_X8_order_139 : tab t_X8_order 139 = some (.iload_n 3, 1, 3, 0, 0, 0, 0, 0, 0, 0, []) := rfl
theorem i_X8_order_140 : tab t_X8_order 140 = some (.invokevirtual 89, 3, 3, 0, 0, 0, 61, 7, 0, 0, []) := rfl
theorem i_X8_order_143 : tab t_X8_order 143 = some (.aload_n 0, 1, 0, 0, 0, 0, 0, 0, 0, 0, []) := rfl
theorem i_X8_order_144 : tab t_X8_order 144 = some (.getfield 10, 3, 2, 0, 0, 8, 0, 0, 0, 0, []) := rfl
theorem i_X8_order_147 : tab t_X8_order 147 = some (.getfield 201, 3, 2, 0, 0, 7, 6, 0, 0, 0, []) := rfl
theorem i_X8_order_150 : tab t_X8_order 150 = some (.iload 8, 2, 8, 0, 0, 0, 0, 0, 0, 0, []) := rfl
theorem i_X8_order_152 : tab t_X8_order 152 = some (.iconst 3, 1, 0, 3, 0, 0, 0, 0, 0, 0, []) := rfl
theorem i_X8_order_153 : tab t_X8_order 153 = some (.iload 4, 2, 4, 0, 0, 0, 0, 0, 0, 0, []) := rfl
theorem i_X8_order_155 : tab t_X8_order 155 = some (.invokevirtual 89, 3, 3, 0, 0, 0, 61, 7, 0, 0, []) := rfl
theorem i_X8_order_158 : tab t_X8_order 158 = some (.aload_n 0, 1, 0, 0, 0, 0, 0, 0, 0, 0, []) := rfl
theorem i_X8_order_159 : tab t_X8_order 159 = some (.getfield 10, 3, 2, 0, 0, 8, 0, 0, 0, 0, []) := rfl
theorem i_X8_order_162 : tab t_X8_order 162 = some (.getfield 201, 3, 2, 0, 0, 7, 6, 0, 0, 0, []) := rfl
theorem i_X8_order_165 : tab t_X8_order 165 = some (.iload 8, 2, 8, 0, 0, 0, 0, 0, 0, 0, []) := rfl
theorem i_X8_order_167 : tab t_X8_order 167 = some (.iconst 4, 1, 0, 4, 0, 0, 0, 0, 0, 0, []) := rfl
theorem i_X8_order_168 : tab t_X8_order 168 = some (.iload 5, 2, 5, 0, 0, 0, 0, 0, 0, 0, []) := rfl
theorem i_X8_order_170 : tab t_X8_order 170 = some (.invokevirtual 89, 3, 3, 0, 0, 0, 61, 7, 0, 0, []) := rfl
theorem i_X8_order_173 : tab t_X8_order 173 = some (.aload_n 0, 1, 0, 0, 0, 0, 0, 0, 0, 0, []) := rfl
theorem i_X8_order_174 : tab t_X8_order 174 = some (.getfield 10, 3, 2, 0, 0, 8, 0, 0, 0, 0, []) := rfl
theorem i_X8_order_177 : tab t_X8_order 177 = some (.getfield 201, 3, 2, 0, 0, 7, 6, 0, 0, 0, []) := rfl
theorem i_X8_order_180 : tab t_X8_order 180 = some (.iload 8, 2, 8, 0, 0, 0, 0, 0, 0, 0, []) := rfl
theorem i_X8_order_182 : tab t_X8_order 182 = some (.iconst 5, 1, 0, 5, 0, 0, 0, 0, 0, 0, []) := rfl
theorem i_X8_order_183 : tab t_X8_order 183 = some (.iload 6, 2, 6, 0, 0, 0, 0, 0, 0, 0, []) := rfl
theorem i_X8_order_185 : tab t_X8_order 185 = some (.invokevirtual 89, 3, 3, 0, 0, 0, 61, 7, 0, 0, []) := rfl
theorem i_X8_order_188 : tab t_X8_order 188 = some (.iload 8, 2, 8, 0, 0, 0, 0, 0, 0, 0, []) := rfl
theorem i_X8_order_190 : tab t_X8_order 190 = some (.ireturn, 1, 0, 0, 0, 0, 0, 0, 0, 0, []) := rfl
def t_X8_seat : List (Nat × rw_) := [(0, (.aload_n 0, 1, 0, 0, 0, 0, 0, 0, 0, 0, [])), (1, (.getfield 10, 3, 2, 0, 0, 8, 0, 0, 0, 0, [])), (4, (.getfield 201, 3, 2, 0, 0, 7, 6, 0, 0, 0, [])), (7, (.iload_n 1, 1, 1, 0, 0, 0, 0, 0, 0, 0, [])), (8, (.invokevirtual 72, 3, 1, 0, 0, 0, 59, 7, 0, 0, [])), (11, (.ifCond .eq 11, 3, 22, 0, 0, 0, 0, 0, 0, 0, [])), (14, (.aload_n 0, 1, 0, 0, 0, 0, 0, 0, 0, 0, [])), (15, (.iload_n 1, 1, 1, 0, 0, 0, 0, 0, 0, 0, [])), (16, (.invokevirtual 204, 3, 1, 0, 0, 0, 122, 9, 0, 0, [])), (19, (.goto 5, 3, 24, 0, 0, 0, 0, 0, 0, 0, [])), (22, (.bipush (-2), 2, 0, -2, 0, 0, 0, 0, 0, 0, [])), (24, (.ireturn, 1, 0, 0, 0, 0, 0, 0, 0, 0, []))]
set_option maxRecDepth 100000 in
theorem ok_X8_seat : tb_ok ctX8 m_X8_seat t_X8_seat = true := by decide +kernel
theorem i_X8_seat_0 : tab t_X8_seat 0 = some (.aload_n 0, 1, 0, 0, 0, 0, 0, 0, 0, 0, []) := rfl
theorem i_X8_seat_1 : tab t_X8_seat 1 = some (.getfield 10, 3, 2, 0, 0, 8, 0, 0, 0, 0, []) := rfl
theorem i_X8_seat_4 : tab t_X8_seat 4 = some (.getfield 201, 3, 2, 0, 0, 7, 6, 0, 0, 0, []) := rfl
theorem i_X8_seat_7 : tab t_X8_seat 7 = some (.iload_n 1, 1, 1, 0, 0, 0, 0, 0, 0, 0, []) := rfl
theorem i_X8_seat_8 : tab t_X8_seat 8 = some (.invokevirtual 72, 3, 1, 0, 0, 0, 59, 7, 0, 0, []) := rfl
theorem i_X8_seat_11 : tab t_X8_seat 11 = some (.ifCond .eq 11, 3, 22, 0, 0, 0, 0, 0, 0, 0, []) := rfl
theorem i_X8_seat_14 : tab t_X8_seat 14 = some (.aload_n 0, 1, 0, 0, 0, 0, 0, 0, 0, 0, []) := rfl
theorem i_X8_seat_15 : tab t_X8_seat 15 = some (.iload_n 1, 1, 1, 0, 0, 0, 0, 0, 0, 0, []) := rfl
theorem i_X8_seat_16 : tab t_X8_seat 16 = some (.invokevirtual 204, 3, 1, 0, 0, 0, 122, 9, 0, 0, []) := rfl
theorem i_X8_seat_19 : tab t_X8_seat 19 = some (.goto 5, 3, 24, 0, 0, 0, 0, 0, 0, 0, []) := rfl
theorem i_X8_seat_22 : tab t_X8_seat 22 = some (.bipush (-2), 2, 0, -2, 0, 0, 0, 0, 0, 0, []) := rfl
theorem i_X8_seat_24 : tab t_X8_seat 24 = some (.ireturn, 1, 0, 0, 0, 0, 0, 0, 0, 0, []) := rfl
def t_X8_force : List (Nat × rw_) := [(0, (.aload_n 0, 1, 0, 0, 0, 0, 0, 0, 0, 0, [])), (1, (.getfield 10, 3, 2, 0, 0, 8, 0, 0, 0, 0, [])), (4, (.getfield 201, 3, 2, 0, 0, 7, 6, 0, 0, 0, [])), (7, (.iload_n 1, 1, 1, 0, 0, 0, 0, 0, 0, 0, [])), (8, (.invokevirtual 72, 3, 1, 0, 0, 0, 59, 7, 0, 0, [])), (11, (.ifCond .eq 10, 3, 21, 0, 0, 0, 0, 0, 0, 0, [])), (14, (.iload_n 2, 1, 2, 0, 0, 0, 0, 0, 0, 0, [])), (15, (.invokestatic 96, 3, 1, 0, 0, 0, 110, 0, 0, 0, [])), (18, (.ifCond .ne 5, 3, 23, 0, 0, 0, 0, 0, 0, 0, [])), (21, (.iconst (-1), 1, 0, -1, 0, 0, 0, 0, 0, 0, [])), (22, (.ireturn, 1, 0, 0, 0, 0, 0, 0, 0, 0, [])), (23, (.aload_n 0, 1, 0, 0, 0, 0, 0, 0, 0, 0, [])), (24, (.iload_n 1, 1, 1, 0, 0, 0, 0, 0, 0, 0, [])), (25, (.iload_n 2, 1, 2, 0, 0, 0, 0, 0, 0, 0, [])), (26, (.invokevirtual 207, 3, 2, 0, 0, 0, 123, 9, 0, 0, [])), (29, (.ifCond .eq 16, 3, 45, 0, 0, 0, 0, 0, 0, 0, [])), (32, (.aload_n 0, 1, 0, 0, 0, 0, 0, 0, 0, 0, [])), (33, (.iload_n 1, 1, 1, 0, 0, 0, 0, 0, 0, 0, [])), (34, (.invokevirtual 204, 3, 1, 0, 0, 0, 122, 9, 0, 0, [])), (37, (.iconst (-1), 1, 0, -1, 0, 0, 0, 0, 0, 0, [])), (38, (.if_icmp .eq 7, 3, 45, 0, 0, 0, 0, 0, 0, 0, [])), (41, (.iconst 1, 1, 0, 1, 0, 0, 0, 0, 0, 0, [])), (42, (.goto 4, 3, 46, 0, 0, 0, 0, 0, 0, 0, [])), (45, (.iconst 0, 1, 0, 0, 0, 0, 0, 0, 0, 0, [])), (46, (.ireturn, 1, 0, 0, 0, 0, 0, 0, 0, 0, []))]
set_option maxRecDepth 100000 in
theorem ok_X8_force : tb_ok ctX8 m_X8_force t_X8_force = true := by decide +kernel
theorem i_X8_force_0 : tab t_X8_force 0 = some (.aload_n 0, 1, 0, 0, 0, 0, 0, 0, 0, 0, []) := rfl
theorem i_X8_force_1 : tab t_X8_force 1 = some (.getfield 10, 3, 2, 0, 0, 8, 0, 0, 0, 0, []) := rfl
theorem i_X8_force_4 : tab t_X8_force 4 = some (.getfield 201, 3, 2, 0, 0, 7, 6, 0, 0, 0, []) := rfl
theorem i_X8_force_7 : tab t_X8_force 7 = some (.iload_n 1, 1, 1, 0, 0, 0, 0, 0, 0, 0, []) := rfl
theorem i_X8_force_8 : tab t_X8_force 8 = some (.invokevirtual 72, 3, 1, 0, 0, 0, 59, 7, 0, 0, []) := rfl
theorem i_X8_force_11 : tab t_X8_force 11 = some (.ifCond .eq 10, 3, 21, 0, 0, 0, 0, 0, 0, 0, []) := rfl
theorem i_X8_force_14 : tab t_X8_force 14 = some (.iload_n 2, 1, 2, 0, 0, 0, 0, 0, 0, 0, []) := rfl
theorem i_X8_force_15 : tab t_X8_force 15 = some (.invokestatic 96, 3, 1, 0, 0, 0, 110, 0, 0, 0, []) := rfl
theorem i_X8_force_18 : tab t_X8_force 18 = some (.ifCond .ne 5, 3, 23, 0, 0, 0, 0, 0, 0, 0, []) := rfl
theorem i_X8_force_21 : tab t_X8_force 21 = some (.iconst (-1), 1, 0, -1, 0, 0, 0, 0, 0, 0, []) := rfl
theorem i_X8_force_22 : tab t_X8_force 22 = some (.ireturn, 1, 0, 0, 0, 0, 0, 0, 0, 0, []) := rfl
theorem i_X8_force_23 : tab t_X8_force 23 = some (.aload_n 0, 1, 0, 0, 0, 0, 0, 0, 0, 0, []) := rfl
theorem i_X8_force_24 : tab t_X8_force 24 = some (.iload_n 1, 1, 1, 0, 0, 0, 0, 0, 0, 0, []) := rfl
theorem i_X8_force_25 : tab t_X8_force 25 = some (.iload_n 2, 1, 2, 0, 0, 0, 0, 0, 0, 0, []) := rfl
theorem i_X8_force_26 : tab t_X8_force 26 = some (.invokevirtual 207, 3, 2, 0, 0, 0, 123, 9, 0, 0, []) := rfl
theorem i_X8_force_29 : tab t_X8_force 29 = some (.ifCond .eq 16, 3, 45, 0, 0, 0, 0, 0, 0, 0, []) := rfl
theorem i_X8_force_32 : tab t_X8_force 32 = some (.aload_n 0, 1, 0, 0, 0, 0, 0, 0, 0, 0, []) := rfl
theorem i_X8_force_33 : tab t_X8_force 33 = some (.iload_n 1, 1, 1, 0, 0, 0, 0, 0, 0, 0, []) := rfl
theorem i_X8_force_34 : tab t_X8_force 34 = some (.invokevirtual 204, 3, 1, 0, 0, 0, 122, 9, 0, 0, []) := rfl
theorem i_X8_force_37 : tab t_X8_force 37 = some (.iconst (-1), 1, 0, -1, 0, 0, 0, 0, 0, 0, []) := rfl
theorem i_X8_force_38 : tab t_X8_force 38 = some (.if_icmp .eq 7, 3, 45, 0, 0, 0, 0, 0, 0, 0, []) := rfl
theorem i_X8_force_41 : tab t_X8_force 41 = some (.iconst 1, 1, 0, 1, 0, 0, 0, 0, 0, 0, []) := rfl
theorem i_X8_force_42 : tab t_X8_force 42 = some (.goto 4, 3, 46, 0, 0, 0, 0, 0, 0, 0, []) := rfl
theorem i_X8_force_45 : tab t_X8_force 45 = some (.iconst 0, 1, 0, 0, 0, 0, 0, 0, 0, 0, []) := rfl
theorem i_X8_force_46 : tab t_X8_force 46 = some (.ireturn, 1, 0, 0, 0, 0, 0, 0, 0, 0, []) := rfl
def t_X8_bound : List (Nat × rw_) := [(0, (.aload_n 0, 1, 0, 0, 0, 0, 0, 0, 0, 0, [])), (1, (.iload_n 1, 1, 1, 0, 0, 0, 0, 0, 0, 0, [])), (2, (.iload_n 2, 1, 2, 0, 0, 0, 0, 0, 0, 0, [])), (3, (.invokevirtual 102, 3, 2, 0, 0, 0, 114, 9, 0, 0, [])), (6, (.ifCond .eq 12, 3, 18, 0, 0, 0, 0, 0, 0, 0, [])), (9, (.aload_n 0, 1, 0, 0, 0, 0, 0, 0, 0, 0, [])), (10, (.iload_n 1, 1, 1, 0, 0, 0, 0, 0, 0, 0, [])), (11, (.iload_n 2, 1, 2, 0, 0, 0, 0, 0, 0, 0, [])), (12, (.invokevirtual 210, 3, 2, 0, 0, 0, 124, 9, 0, 0, [])), (15, (.goto 5, 3, 20, 0, 0, 0, 0, 0, 0, 0, [])), (18, (.bipush (-2), 2, 0, -2, 0, 0, 0, 0, 0, 0, [])), (20, (.ireturn, 1, 0, 0, 0, 0, 0, 0, 0, 0, []))]
set_option maxRecDepth 100000 in
theorem ok_X8_bound : tb_ok ctX8 m_X8_bound t_X8_bound = true := by decide +kernel
theorem i_X8_bound_0 : tab t_X8_bound 0 = some (.aload_n 0, 1, 0, 0, 0, 0, 0, 0, 0, 0, []) := rfl
theorem i_X8_bound_1 : tab t_X8_bound 1 = some (.iload_n 1, 1, 1, 0, 0, 0, 0, 0, 0, 0, []) := rfl
theorem i_X8_bound_2 : tab t_X8_bound 2 = some (.iload_n 2, 1, 2, 0, 0, 0, 0, 0, 0, 0, []) := rfl
theorem i_X8_bound_3 : tab t_X8_bound 3 = some (.invokevirtual 102, 3, 2, 0, 0, 0, 114, 9, 0, 0, []) := rfl
theorem i_X8_bound_6 : tab t_X8_bound 6 = some (.ifCond .eq 12, 3, 18, 0, 0, 0, 0, 0, 0, 0, []) := rfl
theorem i_X8_bound_9 : tab t_X8_bound 9 = some (.aload_n 0, 1, 0, 0, 0, 0, 0, 0, 0, 0, []) := rfl
theorem i_X8_bound_10 : tab t_X8_bound 10 = some (.iload_n 1, 1, 1, 0, 0, 0, 0, 0, 0, 0, []) := rfl
theorem i_X8_bound_11 : tab t_X8_bound 11 = some (.iload_n 2, 1, 2, 0, 0, 0, 0, 0, 0, 0, []) := rfl
theorem i_X8_bound_12 : tab t_X8_bound 12 = some (.invokevirtual 210, 3, 2, 0, 0, 0, 124, 9, 0, 0, []) := rfl
theorem i_X8_bound_15 : tab t_X8_bound 15 = some (.goto 5, 3, 20, 0, 0, 0, 0, 0, 0, 0, []) := rfl
theorem i_X8_bound_18 : tab t_X8_bound 18 = some (.bipush (-2), 2, 0, -2, 0, 0, 0, 0, 0, 0, []) := rfl
theorem i_X8_bound_20 : tab t_X8_bound 20 = some (.ireturn, 1, 0, 0, 0, 0, 0, 0, 0, 0, []) := rfl
def t_X8_cross : List (Nat × rw_) := [(0, (.aload_n 0, 1, 0, 0, 0, 0, 0, 0, 0, 0, [])), (1, (.iload_n 1, 1, 1, 0, 0, 0, 0, 0, 0, 0, [])), (2, (.iload_n 2, 1, 2, 0, 0, 0, 0, 0, 0, 0, [])), (3, (.invokevirtual 102, 3, 2, 0, 0, 0, 114, 9, 0, 0, [])), (6, (.ifCond .ne 5, 3, 11, 0, 0, 0, 0, 0, 0, 0, [])), (9, (.iconst (-1), 1, 0, -1, 0, 0, 0, 0, 0, 0, [])), (10, (.ireturn, 1, 0, 0, 0, 0, 0, 0, 0, 0, [])), (11, (.aload_n 0, 1, 0, 0, 0, 0, 0, 0, 0, 0, [])), (12, (.getfield 65, 3, 2, 0, 0, 8, 10, 0, 0, 0, [])), (15, (.iconst 0, 1, 0, 0, 0, 0, 0, 0, 0, 0, [])), (16, (.invokestatic 213, 3, 2, 0, 0, 0, 241, 0, 0, 0, [])), (19, (.iconst 0, 1, 0, 0, 0, 0, 0, 0, 0, 0, [])), (20, (.istore_n 3, 1, 3, 0, 0, 0, 0, 0, 0, 0, [])), (21, (.iconst 0, 1, 0, 0, 0, 0, 0, 0, 0, 0, [])), (22, (.istore 4, 2, 4, 0, 0, 0, 0, 0, 0, 0, [])), (24, (.iconst 0, 1, 0, 0, 0, 0, 0, 0, 0, 0, [])), (25, (.istore 5, 2, 5, 0, 0, 0, 0, 0, 0, 0, [])), (27, (.iload 5, 2, 5, 0, 0, 0, 0, 0, 0, 0, [])), (29, (.aload_n 0, 1, 0, 0, 0, 0, 0, 0, 0, 0, [])), (30, (.getfield 10, 3, 2, 0, 0, 8, 0, 0, 0, 0, [])), (33, (.getfield 201, 3, 2, 0, 0, 7, 6, 0, 0, 0, [])), (36, (.getfield 219, 3, 0, 0, 0, 6, 3, 0, 0, 0, [])), (39, (.if_icmp .ge 111, 3, 150, 0, 0, 0, 0, 0, 0, 0, [])), (42, (.aload_n 0, 1, 0, 0, 0, 0, 0, 0, 0, 0, [])), (43, (.getfield 10, 3, 2, 0, 0, 8, 0, 0, 0, 0, [])), (46, (.getfield 201, 3, 2, 0, 0, 7, 6, 0, 0, 0, [])), (49, (.iload 5, 2, 5, 0, 0, 0, 0, 0, 0, 0, [])), (51, (.iconst 2, 1, 0, 2, 0, 0, 0, 0, 0, 0, [])), (52, (.invokevirtual 126, 3, 2, 0, 0, 0, 60, 7, 0, 0, [])), (55, (.istore 6, 2, 6, 0, 0, 0, 0, 0, 0, 0, [])), (57, (.aload_n 0, 1, 0, 0, 0, 0, 0, 0, 0, 0, [])), (58, (.getfield 10, 3, 2, 0, 0, 8, 0, 0, 0, 0, [])), (61, (.getfield 201, 3, 2, 0, 0, 7, 6, 0, 0, 0, [])), (64, (.iload 5, 2, 5, 0, 0, 0, 0, 0, 0, 0, [])), (66, (.iconst 1, 1, 0, 1, 0, 0, 0, 0, 0, 0, [])), (67, (.invokevirtual 126, 3, 2, 0, 0, 0, 60, 7, 0, 0, [])), (70, (.iload_n 1, 1, 1, 0, 0, 0, 0, 0, 0, 0, [])), (71, (.if_icmp .ne 17, 3, 88, 0, 0, 0, 0, 0, 0, 0, [])), (74, (.aload_n 0, 1, 0, 0, 0, 0, 0, 0, 0, 0, [])), (75, (.iload 5, 2, 5, 0, 0, 0, 0, 0, 0, 0, [])), (77, (.iload_n 2, 1, 2, 0, 0, 0, 0, 0, 0, 0, [])), (78, (.invokevirtual 207, 3, 2, 0, 0, 0, 123, 9, 0, 0, [])), (81, (.ifCond .eq 7, 3, 88, 0, 0, 0, 0, 0, 0, 0, [])), (84, (.iconst 1, 1, 0, 1, 0, 0, 0, 0, 0, 0, [])), (85, (.goto 4, 3, 89, 0, 0, 0, 0, 0, 0, 0, [])), (88, (.iconst 0, 1, 0, 0, 0, 0, 0, 0, 0, 0, [])), (89, (.istore 7, 2, 7, 0, 0, 0, 0, 0, 0, 0, [])), (91, (.iload 7, 2, 7, 0, 0, 0, 0, 0, 0, 0, [])), (93, (.ifCond .eq 51, 3, 144, 0, 0, 0, 0, 0, 0, 0, [])), (96, (.iload 6, 2, 6, 0, 0, 0, 0, 0, 0, 0, [])), (98, (.bipush 10, 2, 0, 10, 0, 0, 0, 0, 0, 0, [])), (100, (.invokestatic 78, 3, 2, 0, 0, 0, 109, 0, 0, 0, [])), (103, (.ifCond .eq 41, 3, 144, 0, 0, 0, 0, 0, 0, 0, [])), (106, (.aload_n 0, 1, 0, 0, 0, 0, 0, 0, 0, 0, [])), (107, (.iload 5, 2, 5, 0, 0, 0, 0, 0, 0, 0, [])), (109, (.invokevirtual 204, 3, 1, 0, 0, 0, 122, 9, 0, 0, [])), (112, (.iconst (-1), 1, 0, -1, 0, 0, 0, 0, 0, 0, [])), (113, (.if_icmp .eq 31, 3, 144, 0, 0, 0, 0, 0, 0, 0, [])), (116, (.iload 4, 2, 4, 0, 0, 0, 0, 0, 0, 0, [])), (118, (.iload_n 3, 1, 3, 0, 0, 0, 0, 0, 0, 0, [])), (119, (.aload_n 0, 1, 0, 0, 0, 0, 0, 0, 0, 0, [])), (120, (.getfield 65, 3, 2, 0, 0, 8, 10, 0, 0, 0, [])), (123, (.iload 6, 2, 6, 0, 0, 0, 0, 0, 0, 0, [])), (125, (.iaload, 1, 0, 0, 0, 0, 0, 0, 0, 0, [])), (126, (.isub, 1, 0, 0, 0, 0, 0, 0, 0, 0, [])), (127, (.iadd, 1, 0, 0, 0, 0, 0, 0, 0, 0, [])), (128, (.istore 4, 2, 4, 0, 0, 0, 0, 0, 0, 0, [])), (130, (.aload_n 0, 1, 0, 0, 0, 0, 0, 0, 0, 0, [])), (131, (.getfield 65, 3, 2, 0, 0, 8, 10, 0, 0, 0, [])), (134, (.iload 6, 2, 6, 0, 0, 0, 0, 0, 0, 0, [])), (136, (.dup2, 1, 0, 0, 0, 0, 0, 0, 0, 0, [])), (137, (.iaload, 1, 0, 0, 0, 0, 0, 0, 0, 0, [])), (138, (.iconst 1, 1, 0, 1, 0, 0, 0, 0, 0, 0, [])), (139, (.iadd, 1, 0, 0, 0, 0, 0, 0, 0, 0, [])), (140, (.iastore, 1, 0, 0, 0, 0, 0, 0, 0, 0, [])), (141, (.iinc 3 1, 3, 3, 1, 0, 0, 0, 0, 0, 0, [])), (144, (.iinc 5 1, 3, 5, 1, 0, 0, 0, 0, 0, 0, [])), (147, (.goto (-120), 3, 27, 0, 0, 0, 0, 0, 0, 0, [])), (150, (.iload 4, 2, 4, 0, 0, 0, 0, 0, 0, 0, [])), (152, (.ireturn, 1, 0, 0, 0, 0, 0, 0, 0, 0, []))]
set_option maxRecDepth 100000 in
theorem ok_X8_cross : tb_ok ctX8 m_X8_cross t_X8_cross = true := by decide +kernel
theorem i_X8_cross_0 : tab t_X8_cross 0 = some (.aload_n 0, 1, 0, 0, 0, 0, 0, 0, 0, 0, []) := rfl
theorem i_X8_cross_1 : tab t_X8_cross 1 = some (.iload_n 1, 1, 1, 0, 0, 0, 0, 0, 0, 0, []) := rfl
theorem i_X8_cross_2 : tab t_X8_cross 2 = some (.iload_n 2, 1, 2, 0, 0, 0, 0, 0, 0, 0, []) := rfl
theorem i_X8_cross_3 : tab t_X8_cross 3 = some (.invokevirtual 102, 3, 2, 0, 0, 0, 114, 9, 0, 0, []) := rfl
theorem i_X8_cross_6 : tab t_X8_cross 6 = some (.ifCond .ne 5, 3, 11, 0, 0, 0, 0, 0, 0, 0, []) := rfl
theorem i_X8_cross_9 : tab t_X8_cross 9 = some (.iconst (-1), 1, 0, -1, 0, 0, 0, 0, 0, 0, []) := rfl
theorem i_X8_cross_10 : tab t_X8_cross 10 = some (.ireturn, 1, 0, 0, 0, 0, 0, 0, 0, 0, []) := rfl
theorem i_X8_cross_11 : tab t_X8_cross 11 = some (.aload_n 0, 1, 0, 0, 0, 0, 0, 0, 0, 0, []) := rfl
theorem i_X8_cross_12 : tab t_X8_cross 12 = some (.getfield 65, 3, 2, 0, 0, 8, 10, 0, 0, 0, []) := rfl
theorem i_X8_cross_15 : tab t_X8_cross 15 = some (.iconst 0, 1, 0, 0, 0, 0, 0, 0, 0, 0, []) := rfl
theorem i_X8_cross_16 : tab t_X8_cross 16 = some (.invokestatic 213, 3, 2, 0, 0, 0, 241, 0, 0, 0, []) := rfl
theorem i_X8_cross_19 : tab t_X8_cross 19 = some (.iconst 0, 1, 0, 0, 0, 0, 0, 0, 0, 0, []) := rfl
theorem i_X8_cross_20 : tab t_X8_cross 20 = some (.istore_n 3, 1, 3, 0, 0, 0, 0, 0, 0, 0, []) := rfl
theorem i_X8_cross_21 : tab t_X8_cross 21 = some (.iconst 0, 1, 0, 0, 0, 0, 0, 0, 0, 0, []) := rfl
theorem i_X8_cross_22 : tab t_X8_cross 22 = some (.istore 4, 2, 4, 0, 0, 0, 0, 0, 0, 0, []) := rfl
theorem i_X8_cross_24 : tab t_X8_cross 24 = some (.iconst 0, 1, 0, 0, 0, 0, 0, 0, 0, 0, []) := rfl
theorem i_X8_cross_25 : tab t_X8_cross 25 = some (.istore 5, 2, 5, 0, 0, 0, 0, 0, 0, 0, []) := rfl
theorem i_X8_cross_27 : tab t_X8_cross 27 = some (.iload 5, 2, 5, 0, 0, 0, 0, 0, 0, 0, []) := rfl
theorem i_X8_cross_29 : tab t_X8_cross 29 = some (.aload_n 0, 1, 0, 0, 0, 0, 0, 0, 0, 0, []) := rfl
theorem i_X8_cross_30 : tab t_X8_cross 30 = some (.getfield 10, 3, 2, 0, 0, 8, 0, 0, 0, 0, []) := rfl
theorem i_X8_cross_33 : tab t_X8_cross 33 = some (.getfield 201, 3, 2, 0, 0, 7, 6, 0, 0, 0, []) := rfl
theorem i_X8_cross_36 : tab t_X8_cross 36 = some (.getfield 219, 3, 0, 0, 0, 6, 3, 0, 0, 0, []) := rfl
theorem i_X8_cross_39 : tab t_X8_cross 39 = some (.if_icmp .ge 111, 3, 150, 0, 0, 0, 0, 0, 0, 0, []) := rfl
theorem i_X8_cross_42 : tab t_X8_cross 42 = some (.aload_n 0, 1, 0, 0, 0, 0, 0, 0, 0, 0, []) := rfl
theorem i_X8_cross_43 : tab t_X8_cross 43 = some (.getfield 10, 3, 2, 0, 0, 8, 0, 0, 0, 0, []) := rfl
theorem i_X8_cross_46 : tab t_X8_cross 46 = some (.getfield 201, 3, 2, 0, 0, 7, 6, 0, 0, 0, []) := rfl
theorem i_X8_cross_49 : tab t_X8_cross 49 = some (.iload 5, 2, 5, 0, 0, 0, 0, 0, 0, 0, []) := rfl
theorem i_X8_cross_51 : tab t_X8_cross 51 = some (.iconst 2, 1, 0, 2, 0, 0, 0, 0, 0, 0, []) := rfl
theorem i_X8_cross_52 : tab t_X8_cross 52 = some (.invokevirtual 126, 3, 2, 0, 0, 0, 60, 7, 0, 0, []) := rfl
theorem i_X8_cross_55 : tab t_X8_cross 55 = some (.istore 6, 2, 6, 0, 0, 0, 0, 0, 0, 0, []) := rfl
theorem i_X8_cross_57 : tab t_X8_cross 57 = some (.aload_n 0, 1, 0, 0, 0, 0, 0, 0, 0, 0, []) := rfl
theorem i_X8_cross_58 : tab t_X8_cross 58 = some (.getfield 10, 3, 2, 0, 0, 8, 0, 0, 0, 0, []) := rfl
theorem i_X8_cross_61 : tab t_X8_cross 61 = some (.getfield 201, 3, 2, 0, 0, 7, 6, 0, 0, 0, []) := rfl
theorem i_X8_cross_64 : tab t_X8_cross 64 = some (.iload 5, 2, 5, 0, 0, 0, 0, 0, 0, 0, []) := rfl
theorem i_X8_cross_66 : tab t_X8_cross 66 = some (.iconst 1, 1, 0, 1, 0, 0, 0, 0, 0, 0, []) := rfl
theorem i_X8_cross_67 : tab t_X8_cross 67 = some (.invokevirtual 126, 3, 2, 0, 0, 0, 60, 7, 0, 0, []) := rfl
theorem i_X8_cross_70 : tab t_X8_cross 70 = some (.iload_n 1, 1, 1, 0, 0, 0, 0, 0, 0, 0, []) := rfl
theorem i_X8_cross_71 : tab t_X8_cross 71 = some (.if_icmp .ne 17, 3, 88, 0, 0, 0, 0, 0, 0, 0, []) := rfl
theorem i_X8_cross_74 : tab t_X8_cross 74 = some (.aload_n 0, 1, 0, 0, 0, 0, 0, 0, 0, 0, []) := rfl
theorem i_X8_cross_75 : tab t_X8_cross 75 = some (.iload 5, 2, 5, 0, 0, 0, 0, 0, 0, 0, []) := rfl
theorem i_X8_cross_77 : tab t_X8_cross 77 = some (.iload_n 2, 1, 2, 0, 0, 0, 0, 0, 0, 0, []) := rfl
theorem i_X8_cross_78 : tab t_X8_cross 78 = some (.invokevirtual 207, 3, 2, 0, 0, 0, 123, 9, 0, 0, []) := rfl
theorem i_X8_cross_81 : tab t_X8_cross 81 = some (.ifCond .eq 7, 3, 88, 0, 0, 0, 0, 0, 0, 0, []) := rfl
theorem i_X8_cross_84 : tab t_X8_cross 84 = some (.iconst 1, 1, 0, 1, 0, 0, 0, 0, 0, 0, []) := rfl
theorem i_X8_cross_85 : tab t_X8_cross 85 = some (.goto 4, 3, 89, 0, 0, 0, 0, 0, 0, 0, []) := rfl
theorem i_X8_cross_88 : tab t_X8_cross 88 = some (.iconst 0, 1, 0, 0, 0, 0, 0, 0, 0, 0, []) := rfl
theorem i_X8_cross_89 : tab t_X8_cross 89 = some (.istore 7, 2, 7, 0, 0, 0, 0, 0, 0, 0, []) := rfl
theorem i_X8_cross_91 : tab t_X8_cross 91 = some (.iload 7, 2, 7, 0, 0, 0, 0, 0, 0, 0, []) := rfl
theorem i_X8_cross_93 : tab t_X8_cross 93 = some (.ifCond .eq 51, 3, 144, 0, 0, 0, 0, 0, 0, 0, []) := rfl
theorem i_X8_cross_96 : tab t_X8_cross 96 = some (.iload 6, 2, 6, 0, 0, 0, 0, 0, 0, 0, []) := rfl
theorem i_X8_cross_98 : tab t_X8_cross 98 = some (.bipush 10, 2, 0, 10, 0, 0, 0, 0, 0, 0, []) := rfl
theorem i_X8_cross_100 : tab t_X8_cross 100 = some (.invokestatic 78, 3, 2, 0, 0, 0, 109, 0, 0, 0, []) := rfl
theorem i_X8_cross_103 : tab t_X8_cross 103 = some (.ifCond .eq 41, 3, 144, 0, 0, 0, 0, 0, 0, 0, []) := rfl
theorem i_X8_cross_106 : tab t_X8_cross 106 = some (.aload_n 0, 1, 0, 0, 0, 0, 0, 0, 0, 0, []) := rfl
theorem i_X8_cross_107 : tab t_X8_cross 107 = some (.iload 5, 2, 5, 0, 0, 0, 0, 0, 0, 0, []) := rfl
theorem i_X8_cross_109 : tab t_X8_cross 109 = some (.invokevirtual 204, 3, 1, 0, 0, 0, 122, 9, 0, 0, []) := rfl
theorem i_X8_cross_112 : tab t_X8_cross 112 = some (.iconst (-1), 1, 0, -1, 0, 0, 0, 0, 0, 0, []) := rfl
theorem i_X8_cross_113 : tab t_X8_cross 113 = some (.if_icmp .eq 31, 3, 144, 0, 0, 0, 0, 0, 0, 0, []) := rfl
theorem i_X8_cross_116 : tab t_X8_cross 116 = some (.iload 4, 2, 4, 0, 0, 0, 0, 0, 0, 0, []) := rfl
theorem i_X8_cross_118 : tab t_X8_cross 118 = some (.iload_n 3, 1, 3, 0, 0, 0, 0, 0, 0, 0, []) := rfl
theorem i_X8_cross_119 : tab t_X8_cross 119 = some (.aload_n 0, 1, 0, 0, 0, 0, 0, 0, 0, 0, []) := rfl
theorem i_X8_cross_120 : tab t_X8_cross 120 = some (.getfield 65, 3, 2, 0, 0, 8, 10, 0, 0, 0, []) := rfl
theorem i_X8_cross_123 : tab t_X8_cross 123 = some (.iload 6, 2, 6, 0, 0, 0, 0, 0, 0, 0, []) := rfl
theorem i_X8_cross_125 : tab t_X8_cross 125 = some (.iaload, 1, 0, 0, 0, 0, 0, 0, 0, 0, []) := rfl
theorem i_X8_cross_126 : tab t_X8_cross 126 = some (.isub, 1, 0, 0, 0, 0, 0, 0, 0, 0, []) := rfl
theorem i_X8_cross_127 : tab t_X8_cross 127 = some (.iadd, 1, 0, 0, 0, 0, 0, 0, 0, 0, []) := rfl
theorem i_X8_cross_128 : tab t_X8_cross 128 = some (.istore 4, 2, 4, 0, 0, 0, 0, 0, 0, 0, []) := rfl
theorem i_X8_cross_130 : tab t_X8_cross 130 = some (.aload_n 0, 1, 0, 0, 0, 0, 0, 0, 0, 0, []) := rfl
theorem i_X8_cross_131 : tab t_X8_cross 131 = some (.getfield 65, 3, 2, 0, 0, 8, 10, 0, 0, 0, []) := rfl
theorem i_X8_cross_134 : tab t_X8_cross 134 = some (.iload 6, 2, 6, 0, 0, 0, 0, 0, 0, 0, []) := rfl
theorem i_X8_cross_136 : tab t_X8_cross 136 = some (.dup2, 1, 0, 0, 0, 0, 0, 0, 0, 0, []) := rfl
theorem i_X8_cross_137 : tab t_X8_cross 137 = some (.iaload, 1, 0, 0, 0, 0, 0, 0, 0, 0, []) := rfl
theorem i_X8_cross_138 : tab t_X8_cross 138 = some (.iconst 1, 1, 0, 1, 0, 0, 0, 0, 0, 0, []) := rfl
theorem i_X8_cross_139 : tab t_X8_cross 139 = some (.iadd, 1, 0, 0, 0, 0, 0, 0, 0, 0, []) := rfl
theorem i_X8_cross_140 : tab t_X8_cross 140 = some (.iastore, 1, 0, 0, 0, 0, 0, 0, 0, 0, []) := rfl
theorem i_X8_cross_141 : tab t_X8_cross 141 = some (.iinc 3 1, 3, 3, 1, 0, 0, 0, 0, 0, 0, []) := rfl
theorem i_X8_cross_144 : tab t_X8_cross 144 = some (.iinc 5 1, 3, 5, 1, 0, 0, 0, 0, 0, 0, []) := rfl
theorem i_X8_cross_147 : tab t_X8_cross 147 = some (.goto (-120), 3, 27, 0, 0, 0, 0, 0, 0, 0, []) := rfl
theorem i_X8_cross_150 : tab t_X8_cross 150 = some (.iload 4, 2, 4, 0, 0, 0, 0, 0, 0, 0, []) := rfl
theorem i_X8_cross_152 : tab t_X8_cross 152 = some (.ireturn, 1, 0, 0, 0, 0, 0, 0, 0, 0, []) := rfl
def t_X8_answers : List (Nat × rw_) := [(0, (.aload_n 0, 1, 0, 0, 0, 0, 0, 0, 0, 0, [])), (1, (.iload_n 1, 1, 1, 0, 0, 0, 0, 0, 0, 0, [])), (2, (.iload_n 2, 1, 2, 0, 0, 0, 0, 0, 0, 0, [])), (3, (.invokevirtual 102, 3, 2, 0, 0, 0, 114, 9, 0, 0, [])), (6, (.ifCond .eq 12, 3, 18, 0, 0, 0, 0, 0, 0, 0, [])), (9, (.iload_n 3, 1, 3, 0, 0, 0, 0, 0, 0, 0, [])), (10, (.bipush 10, 2, 0, 10, 0, 0, 0, 0, 0, 0, [])), (12, (.invokestatic 78, 3, 2, 0, 0, 0, 109, 0, 0, 0, [])), (15, (.ifCond .ne 6, 3, 21, 0, 0, 0, 0, 0, 0, 0, [])), (18, (.bipush (-2), 2, 0, -2, 0, 0, 0, 0, 0, 0, [])), (20, (.ireturn, 1, 0, 0, 0, 0, 0, 0, 0, 0, [])), (21, (.aload_n 0, 1, 0, 0, 0, 0, 0, 0, 0, 0, [])), (22, (.iload_n 1, 1, 1, 0, 0, 0, 0, 0, 0, 0, [])), (23, (.iload_n 2, 1, 2, 0, 0, 0, 0, 0, 0, 0, [])), (24, (.invokevirtual 210, 3, 2, 0, 0, 0, 124, 9, 0, 0, [])), (27, (.istore 4, 2, 4, 0, 0, 0, 0, 0, 0, 0, [])), (29, (.iload 4, 2, 4, 0, 0, 0, 0, 0, 0, 0, [])), (31, (.iconst (-1), 1, 0, -1, 0, 0, 0, 0, 0, 0, [])), (32, (.if_icmp .eq 34, 3, 66, 0, 0, 0, 0, 0, 0, 0, [])), (35, (.aload_n 0, 1, 0, 0, 0, 0, 0, 0, 0, 0, [])), (36, (.getfield 10, 3, 2, 0, 0, 8, 0, 0, 0, 0, [])), (39, (.getfield 201, 3, 2, 0, 0, 7, 6, 0, 0, 0, [])), (42, (.iload 4, 2, 4, 0, 0, 0, 0, 0, 0, 0, [])), (44, (.iconst 2, 1, 0, 2, 0, 0, 0, 0, 0, 0, [])), (45, (.invokevirtual 126, 3, 2, 0, 0, 0, 60, 7, 0, 0, [])), (48, (.iload_n 3, 1, 3, 0, 0, 0, 0, 0, 0, 0, [])), (49, (.if_icmp .ne 17, 3, 66, 0, 0, 0, 0, 0, 0, 0, [])), (52, (.aload_n 0, 1, 0, 0, 0, 0, 0, 0, 0, 0, [])), (53, (.getfield 10, 3, 2, 0, 0, 8, 0, 0, 0, 0, [])), (56, (.getfield 201, 3, 2, 0, 0, 7, 6, 0, 0, 0, [])), (59, (.iload 4, 2, 4, 0, 0, 0, 0, 0, 0, 0, [])), (61, (.iconst 0, 1, 0, 0, 0, 0, 0, 0, 0, 0, [])), (62, (.invokevirtual 126, 3, 2, 0, 0, 0, 60, 7, 0, 0, [])), (65, (.ireturn, 1, 0, 0, 0, 0, 0, 0, 0, 0, [])), (66, (.aload_n 0, 1, 0, 0, 0, 0, 0, 0, 0, 0, [])), (67, (.iload_n 1, 1, 1, 0, 0, 0, 0, 0, 0, 0, [])), (68, (.iload_n 2, 1, 2, 0, 0, 0, 0, 0, 0, 0, [])), (69, (.invokevirtual 138, 3, 2, 0, 0, 0, 117, 9, 0, 0, [])), (72, (.ireturn, 1, 0, 0, 0, 0, 0, 0, 0, 0, []))]
set_option maxRecDepth 100000 in
theorem ok_X8_answers : tb_ok ctX8 m_X8_answers t_X8_answers = true := by decide +kernel
theorem i_X8_answers_0 : tab t_X8_answers 0 = some (.aload_n 0, 1, 0, 0, 0, 0, 0, 0, 0, 0, []) := rfl
theorem i_X8_answers_1 : tab t_X8_answers 1 = some (.iload_n 1, 1, 1, 0, 0, 0, 0, 0, 0, 0, []) := rfl
theorem i_X8_answers_2 : tab t_X8_answers 2 = some (.iload_n 2, 1, 2, 0, 0, 0, 0, 0, 0, 0, []) := rfl
theorem i_X8_answers_3 : tab t_X8_answers 3 = some (.invokevirtual 102, 3, 2, 0, 0, 0, 114, 9, 0, 0, []) := rfl
theorem i_X8_answers_6 : tab t_X8_answers 6 = some (.ifCond .eq 12, 3, 18, 0, 0, 0, 0, 0, 0, 0, []) := rfl
theorem i_X8_answers_9 : tab t_X8_answers 9 = some (.iload_n 3, 1, 3, 0, 0, 0, 0, 0, 0, 0, []) := rfl
theorem i_X8_answers_10 : tab t_X8_answers 10 = some (.bipush 10, 2, 0, 10, 0, 0, 0, 0, 0, 0, []) := rfl
theorem i_X8_answers_12 : tab t_X8_answers 12 = some (.invokestatic 78, 3, 2, 0, 0, 0, 109, 0, 0, 0, []) := rfl
theorem i_X8_answers_15 : tab t_X8_answers 15 = some (.ifCond .ne 6, 3, 21, 0, 0, 0, 0, 0, 0, 0, []) := rfl
theorem i_X8_answers_18 : tab t_X8_answers 18 = some (.bipush (-2), 2, 0, -2, 0, 0, 0, 0, 0, 0, []) := rfl
theorem i_X8_answers_20 : tab t_X8_answers 20 = some (.ireturn, 1, 0, 0, 0, 0, 0, 0, 0, 0, []) := rfl
theorem i_X8_answers_21 : tab t_X8_answers 21 = some (.aload_n 0, 1, 0, 0, 0, 0, 0, 0, 0, 0, []) := rfl
theorem i_X8_answers_22 : tab t_X8_answers 22 = some (.iload_n 1, 1, 1, 0, 0, 0, 0, 0, 0, 0, []) := rfl
theorem i_X8_answers_23 : tab t_X8_answers 23 = some (.iload_n 2, 1, 2, 0, 0, 0, 0, 0, 0, 0, []) := rfl
theorem i_X8_answers_24 : tab t_X8_answers 24 = some (.invokevirtual 210, 3, 2, 0, 0, 0, 124, 9, 0, 0, []) := rfl
theorem i_X8_answers_27 : tab t_X8_answers 27 = some (.istore 4, 2, 4, 0, 0, 0, 0, 0, 0, 0, []) := rfl
theorem i_X8_answers_29 : tab t_X8_answers 29 = some (.iload 4, 2, 4, 0, 0, 0, 0, 0, 0, 0, []) := rfl
theorem i_X8_answers_31 : tab t_X8_answers 31 = some (.iconst (-1), 1, 0, -1, 0, 0, 0, 0, 0, 0, []) := rfl
theorem i_X8_answers_32 : tab t_X8_answers 32 = some (.if_icmp .eq 34, 3, 66, 0, 0, 0, 0, 0, 0, 0, []) := rfl
theorem i_X8_answers_35 : tab t_X8_answers 35 = some (.aload_n 0, 1, 0, 0, 0, 0, 0, 0, 0, 0, []) := rfl
theorem i_X8_answers_36 : tab t_X8_answers 36 = some (.getfield 10, 3, 2, 0, 0, 8, 0, 0, 0, 0, []) := rfl
theorem i_X8_answers_39 : tab t_X8_answers 39 = some (.getfield 201, 3, 2, 0, 0, 7, 6, 0, 0, 0, []) := rfl
theorem i_X8_answers_42 : tab t_X8_answers 42 = some (.iload 4, 2, 4, 0, 0, 0, 0, 0, 0, 0, []) := rfl
theorem i_X8_answers_44 : tab t_X8_answers 44 = some (.iconst 2, 1, 0, 2, 0, 0, 0, 0, 0, 0, []) := rfl
theorem i_X8_answers_45 : tab t_X8_answers 45 = some (.invokevirtual 126, 3, 2, 0, 0, 0, 60, 7, 0, 0, []) := rfl
theorem i_X8_answers_48 : tab t_X8_answers 48 = some (.iload_n 3, 1, 3, 0, 0, 0, 0, 0, 0, 0, []) := rfl
theorem i_X8_answers_49 : tab t_X8_answers 49 = some (.if_icmp .ne 17, 3, 66, 0, 0, 0, 0, 0, 0, 0, []) := rfl
theorem i_X8_answers_52 : tab t_X8_answers 52 = some (.aload_n 0, 1, 0, 0, 0, 0, 0, 0, 0, 0, []) := rfl
theorem i_X8_answers_53 : tab t_X8_answers 53 = some (.getfield 10, 3, 2, 0, 0, 8, 0, 0, 0, 0, []) := rfl
theorem i_X8_answers_56 : tab t_X8_answers 56 = some (.getfield 201, 3, 2, 0, 0, 7, 6, 0, 0, 0, []) := rfl
theorem i_X8_answers_59 : tab t_X8_answers 59 = some (.iload 4, 2, 4, 0, 0, 0, 0, 0, 0, 0, []) := rfl
theorem i_X8_answers_61 : tab t_X8_answers 61 = some (.iconst 0, 1, 0, 0, 0, 0, 0, 0, 0, 0, []) := rfl
theorem i_X8_answers_62 : tab t_X8_answers 62 = some (.invokevirtual 126, 3, 2, 0, 0, 0, 60, 7, 0, 0, []) := rfl
theorem i_X8_answers_65 : tab t_X8_answers 65 = some (.ireturn, 1, 0, 0, 0, 0, 0, 0, 0, 0, []) := rfl
theorem i_X8_answers_66 : tab t_X8_answers 66 = some (.aload_n 0, 1, 0, 0, 0, 0, 0, 0, 0, 0, []) := rfl
theorem i_X8_answers_67 : tab t_X8_answers 67 = some (.iload_n 1, 1, 1, 0, 0, 0, 0, 0, 0, 0, []) := rfl
theorem i_X8_answers_68 : tab t_X8_answers 68 = some (.iload_n 2, 1, 2, 0, 0, 0, 0, 0, 0, 0, []) := rfl
theorem i_X8_answers_69 : tab t_X8_answers 69 = some (.invokevirtual 138, 3, 2, 0, 0, 0, 117, 9, 0, 0, []) := rfl
theorem i_X8_answers_72 : tab t_X8_answers 72 = some (.ireturn, 1, 0, 0, 0, 0, 0, 0, 0, 0, []) := rfl
def t_X8_gaps : List (Nat × rw_) := [(0, (.aload_n 0, 1, 0, 0, 0, 0, 0, 0, 0, 0, [])), (1, (.getfield 10, 3, 2, 0, 0, 8, 0, 0, 0, 0, [])), (4, (.getfield 68, 3, 2, 0, 0, 7, 0, 0, 0, 0, [])), (7, (.iload_n 1, 1, 1, 0, 0, 0, 0, 0, 0, 0, [])), (8, (.invokevirtual 72, 3, 1, 0, 0, 0, 59, 7, 0, 0, [])), (11, (.ifCond .eq 20, 3, 31, 0, 0, 0, 0, 0, 0, 0, [])), (14, (.iload_n 2, 1, 2, 0, 0, 0, 0, 0, 0, 0, [])), (15, (.iload_n 3, 1, 3, 0, 0, 0, 0, 0, 0, 0, [])), (16, (.invokestatic 222, 3, 2, 0, 0, 0, 113, 0, 0, 0, [])), (19, (.ifCond .eq 12, 3, 31, 0, 0, 0, 0, 0, 0, 0, [])), (22, (.iload 4, 2, 4, 0, 0, 0, 0, 0, 0, 0, [])), (24, (.iconst 4, 1, 0, 4, 0, 0, 0, 0, 0, 0, [])), (25, (.invokestatic 78, 3, 2, 0, 0, 0, 109, 0, 0, 0, [])), (28, (.ifCond .ne 6, 3, 34, 0, 0, 0, 0, 0, 0, 0, [])), (31, (.bipush (-2), 2, 0, -2, 0, 0, 0, 0, 0, 0, [])), (33, (.ireturn, 1, 0, 0, 0, 0, 0, 0, 0, 0, [])), (34, (.iconst 0, 1, 0, 0, 0, 0, 0, 0, 0, 0, [])), (35, (.istore 5, 2, 5, 0, 0, 0, 0, 0, 0, 0, [])), (37, (.iconst 0, 1, 0, 0, 0, 0, 0, 0, 0, 0, [])), (38, (.istore 6, 2, 6, 0, 0, 0, 0, 0, 0, 0, [])), (40, (.iconst 0, 1, 0, 0, 0, 0, 0, 0, 0, 0, [])), (41, (.istore 7, 2, 7, 0, 0, 0, 0, 0, 0, 0, [])), (43, (.iconst (-1), 1, 0, -1, 0, 0, 0, 0, 0, 0, [])), (44, (.istore 8, 2, 8, 0, 0, 0, 0, 0, 0, 0, [])), (46, (.iconst 0, 1, 0, 0, 0, 0, 0, 0, 0, 0, [])), (47, (.istore 9, 2, 9, 0, 0, 0, 0, 0, 0, 0, [])), (49, (.iconst (-1), 1, 0, -1, 0, 0, 0, 0, 0, 0, [])), (50, (.istore 10, 2, 10, 0, 0, 0, 0, 0, 0, 0, [])), (52, (.iload_n 2, 1, 2, 0, 0, 0, 0, 0, 0, 0, [])), (53, (.istore 11, 2, 11, 0, 0, 0, 0, 0, 0, 0, [])), (55, (.iload 11, 2, 11, 0, 0, 0, 0, 0, 0, 0, [])), (57, (.iload_n 3, 1, 3, 0, 0, 0, 0, 0, 0, 0, [])), (58, (.if_icmp .gt 117, 3, 175, 0, 0, 0, 0, 0, 0, 0, [])), (61, (.aload_n 0, 1, 0, 0, 0, 0, 0, 0, 0, 0, [])), (62, (.iload_n 1, 1, 1, 0, 0, 0, 0, 0, 0, 0, [])), (63, (.iload 11, 2, 11, 0, 0, 0, 0, 0, 0, 0, [])), (65, (.invokevirtual 138, 3, 2, 0, 0, 0, 117, 9, 0, 0, [])), (68, (.istore 12, 2, 12, 0, 0, 0, 0, 0, 0, 0, [])), (70, (.iload 12, 2, 12, 0, 0, 0, 0, 0, 0, 0, [])), (72, (.iconst (-1), 1, 0, -1, 0, 0, 0, 0, 0, 0, [])), (73, (.if_icmp .ne 7, 3, 80, 0, 0, 0, 0, 0, 0, 0, [])), (76, (.iconst 1, 1, 0, 1, 0, 0, 0, 0, 0, 0, [])), (77, (.goto 4, 3, 81, 0, 0, 0, 0, 0, 0, 0, [])), (80, (.iconst 0, 1, 0, 0, 0, 0, 0, 0, 0, 0, [])), (81, (.istore 13, 2, 13, 0, 0, 0, 0, 0, 0, 0, [])), (83, (.iload 5, 2, 5, 0, 0, 0, 0, 0, 0, 0, [])), (85, (.iload 13, 2, 13, 0, 0, 0, 0, 0, 0, 0, [])), (87, (.ifCond .eq 7, 3, 94, 0, 0, 0, 0, 0, 0, 0, [])), (90, (.iconst 1, 1, 0, 1, 0, 0, 0, 0, 0, 0, [])), (91, (.goto 4, 3, 95, 0, 0, 0, 0, 0, 0, 0, [])), (94, (.iconst 0, 1, 0, 0, 0, 0, 0, 0, 0, 0, [])), (95, (.iadd, 1, 0, 0, 0, 0, 0, 0, 0, 0, [])), (96, (.istore 5, 2, 5, 0, 0, 0, 0, 0, 0, 0, [])), (98, (.iload 13, 2, 13, 0, 0, 0, 0, 0, 0, 0, [])), (100, (.ifCond .eq 10, 3, 110, 0, 0, 0, 0, 0, 0, 0, [])), (103, (.iload 6, 2, 6, 0, 0, 0, 0, 0, 0, 0, [])), (105, (.iconst 1, 1, 0, 1, 0, 0, 0, 0, 0, 0, [])), (106, (.iadd, 1, 0, 0, 0, 0, 0, 0, 0, 0, [])), (107, (.goto 4, 3, 111, 0, 0, 0, 0, 0, 0, 0, [])), (110, (.iconst 0, 1, 0, 0, 0, 0, 0, 0, 0, 0, [])), (111, (.istore 6, 2, 6, 0, 0, 0, 0, 0, 0, 0, [])), (113, (.iload 7, 2, 7, 0, 0, 0, 0, 0, 0, 0, [])), (115, (.iload 6, 2, 6, 0, 0, 0, 0, 0, 0, 0, [])), (117, (.invokestatic 225, 3, 0, 0, 0, 7, 0, 0, 0, 0, [])), (120, (.istore 7, 2, 7, 0, 0, 0, 0, 0, 0, 0, [])), (122, (.iload 13, 2, 13, 0, 0, 0, 0, 0, 0, 0, [])), (124, (.ifCond .eq 14, 3, 138, 0, 0, 0, 0, 0, 0, 0, [])), (127, (.iload 8, 2, 8, 0, 0, 0, 0, 0, 0, 0, [])), (129, (.iconst (-1), 1, 0, -1, 0, 0, 0, 0, 0, 0, [])), (130, (.if_icmp .ne 8, 3, 138, 0, 0, 0, 0, 0, 0, 0, [])), (133, (.iload 11, 2, 11, 0, 0, 0, 0, 0, 0, 0, [])), (135, (.goto 5, 3, 140, 0, 0, 0, 0, 0, 0, 0, [])), (138, (.iload 8, 2, 8, 0, 0, 0, 0, 0, 0, 0, [])), (140, (.istore 8, 2, 8, 0, 0, 0, 0, 0, 0, 0, [])), (142, (.iload 9, 2, 9, 0, 0, 0, 0, 0, 0, 0, [])), (144, (.iload 11, 2, 11, 0, 0, 0, 0, 0, 0, 0, [])), (146, (.iload_n 2, 1, 2, 0, 0, 0, 0, 0, 0, 0, [])), (147, (.if_icmp .le 14, 3, 161, 0, 0, 0, 0, 0, 0, 0, [])), (150, (.iload 12, 2, 12, 0, 0, 0, 0, 0, 0, 0, [])), (152, (.iload 10, 2, 10, 0, 0, 0, 0, 0, 0, 0, [])), (154, (.if_icmp .eq 7, 3, 161, 0, 0, 0, 0, 0, 0, 0, [])), (157, (.iconst 1, 1, 0, 1, 0, 0, 0, 0, 0, 0, [])), (158, (.goto 4, 3, 162, 0, 0, 0, 0, 0, 0, 0, [])), (161, (.iconst 0, 1, 0, 0, 0, 0, 0, 0, 0, 0, [])), (162, (.iadd, 1, 0, 0, 0, 0, 0, 0, 0, 0, [])), (163, (.istore 9, 2, 9, 0, 0, 0, 0, 0, 0, 0, [])), (165, (.iload 12, 2, 12, 0, 0, 0, 0, 0, 0, 0, [])), (167, (.istore 10, 2, 10, 0, 0, 0, 0, 0, 0, 0, [])), (169, (.iinc 11 1, 3, 11, 1, 0, 0, 0, 0, 0, 0, [])), (172, (.goto (-117), 3, 55, 0, 0, 0, 0, 0, 0, 0, [])), (175, (.iload 4, 2, 4, 0, 0, 0, 0, 0, 0, 0, [])), (177, (.tableswitch 36 0 2 #[27, 30, 33], 27, 213, 0, 0, 0, 0, 0, 0, 0, [(0, 204), (1, 207), (2, 210)])), (204, (.iload 5, 2, 5, 0, 0, 0, 0, 0, 0, 0, [])), (206, (.ireturn, 1, 0, 0, 0, 0, 0, 0, 0, 0, [])), (207, (.iload 7, 2, 7, 0, 0, 0, 0, 0, 0, 0, [])), (209, (.ireturn, 1, 0, 0, 0, 0, 0, 0, 0, 0, [])), (210, (.iload 8, 2, 8, 0, 0, 0, 0, 0, 0, 0, [])), (212, (.ireturn, 1, 0, 0, 0, 0, 0, 0, 0, 0, [])), (213, (.iload 9, 2, 9, 0, 0, 0, 0, 0, 0, 0, [])), (215, (.ireturn, 1, 0, 0, 0, 0, 0, 0, 0, 0, []))]
set_option maxRecDepth 100000 in
theorem ok_X8_gaps : tb_ok ctX8 m_X8_gaps t_X8_gaps = true := by decide +kernel
theorem i_X8_gaps_0 : tab t_X8_gaps 0 = some (.aload_n 0, 1, 0, 0, 0, 0, 0, 0, 0, 0, []) := rfl
theorem i_X8_gaps_1 : tab t_X8_gaps 1 = some (.getfield 10, 3, 2, 0, 0, 8, 0, 0, 0, 0, []) := rfl
theorem i_X8_gaps_4 : tab t_X8_gaps 4 = some (.getfield 68, 3, 2, 0, 0, 7, 0, 0, 0, 0, []) := rfl
theorem i_X8_gaps_7 : tab t_X8_gaps 7 = some (.iload_n 1, 1, 1, 0, 0, 0, 0, 0, 0, 0, []) := rfl
theorem i_X8_gaps_8 : tab t_X8_gaps 8 = some (.invokevirtual 72, 3, 1, 0, 0, 0, 59, 7, 0, 0, []) := rfl
theorem i_X8_gaps_11 : tab t_X8_gaps 11 = some (.ifCond .eq 20, 3, 31, 0, 0, 0, 0, 0, 0, 0, []) := rfl
theorem i_X8_gaps_14 : tab t_X8_gaps 14 = some (.iload_n 2, 1, 2, 0, 0, 0, 0, 0, 0, 0, []) := rfl
theorem i_X8_gaps_15 : tab t_X8_gaps 15 = some (.iload_n 3, 1, 3, 0, 0, 0, 0, 0, 0, 0, []) := rfl
theorem i_X8_gaps_16 : tab t_X8_gaps 16 = some (.invokestatic 222, 3, 2, 0, 0, 0, 113, 0, 0, 0, []) := rfl
theorem i_X8_gaps_19 : tab t_X8_gaps 19 = some (.ifCond .eq 12, 3, 31, 0, 0, 0, 0, 0, 0, 0, []) := rfl
theorem i_X8_gaps_22 : tab t_X8_gaps 22 = some (.iload 4, 2, 4, 0, 0, 0, 0, 0, 0, 0, []) := rfl
theorem i_X8_gaps_24 : tab t_X8_gaps 24 = some (.iconst 4, 1, 0, 4, 0, 0, 0, 0, 0, 0, []) := rfl
theorem i_X8_gaps_25 : tab t_X8_gaps 25 = some (.invokestatic 78, 3, 2, 0, 0, 0, 109, 0, 0, 0, []) := rfl
theorem i_X8_gaps_28 : tab t_X8_gaps 28 = some (.ifCond .ne 6, 3, 34, 0, 0, 0, 0, 0, 0, 0, []) := rfl
theorem i_X8_gaps_31 : tab t_X8_gaps 31 = some (.bipush (-2), 2, 0, -2, 0, 0, 0, 0, 0, 0, []) := rfl
theorem i_X8_gaps_33 : tab t_X8_gaps 33 = some (.ireturn, 1, 0, 0, 0, 0, 0, 0, 0, 0, []) := rfl
theorem i_X8_gaps_34 : tab t_X8_gaps 34 = some (.iconst 0, 1, 0, 0, 0, 0, 0, 0, 0, 0, []) := rfl
theorem i_X8_gaps_35 : tab t_X8_gaps 35 = some (.istore 5, 2, 5, 0, 0, 0, 0, 0, 0, 0, []) := rfl
theorem i_X8_gaps_37 : tab t_X8_gaps 37 = some (.iconst 0, 1, 0, 0, 0, 0, 0, 0, 0, 0, []) := rfl
theorem i_X8_gaps_38 : tab t_X8_gaps 38 = some (.istore 6, 2, 6, 0, 0, 0, 0, 0, 0, 0, []) := rfl
theorem i_X8_gaps_40 : tab t_X8_gaps 40 = some (.iconst 0, 1, 0, 0, 0, 0, 0, 0, 0, 0, []) := rfl
theorem i_X8_gaps_41 : tab t_X8_gaps 41 = some (.istore 7, 2, 7, 0, 0, 0, 0, 0, 0, 0, []) := rfl
theorem i_X8_gaps_43 : tab t_X8_gaps 43 = some (.iconst (-1), 1, 0, -1, 0, 0, 0, 0, 0, 0, []) := rfl
theorem i_X8_gaps_44 : tab t_X8_gaps 44 = some (.istore 8, 2, 8, 0, 0, 0, 0, 0, 0, 0, []) := rfl
theorem i_X8_gaps_46 : tab t_X8_gaps 46 = some (.iconst 0, 1, 0, 0, 0, 0, 0, 0, 0, 0, []) := rfl
theorem i_X8_gaps_47 : tab t_X8_gaps 47 = some (.istore 9, 2, 9, 0, 0, 0, 0, 0, 0, 0, []) := rfl
theorem i_X8_gaps_49 : tab t_X8_gaps 49 = some (.iconst (-1), 1, 0, -1, 0, 0, 0, 0, 0, 0, []) := rfl
theorem i_X8_gaps_50 : tab t_X8_gaps 50 = some (.istore 10, 2, 10, 0, 0, 0, 0, 0, 0, 0, []) := rfl
theorem i_X8_gaps_52 : tab t_X8_gaps 52 = some (.iload_n 2, 1, 2, 0, 0, 0, 0, 0, 0, 0, []) := rfl
theorem i_X8_gaps_53 : tab t_X8_gaps 53 = some (.istore 11, 2, 11, 0, 0, 0, 0, 0, 0, 0, []) := rfl
theorem i_X8_gaps_55 : tab t_X8_gaps 55 = some (.iload 11, 2, 11, 0, 0, 0, 0, 0, 0, 0, []) := rfl
theorem i_X8_gaps_57 : tab t_X8_gaps 57 = some (.iload_n 3, 1, 3, 0, 0, 0, 0, 0, 0, 0, []) := rfl
theorem i_X8_gaps_58 : tab t_X8_gaps 58 = some (.if_icmp .gt 117, 3, 175, 0, 0, 0, 0, 0, 0, 0, []) := rfl
theorem i_X8_gaps_61 : tab t_X8_gaps 61 = some (.aload_n 0, 1, 0, 0, 0, 0, 0, 0, 0, 0, []) := rfl
theorem i_X8_gaps_62 : tab t_X8_gaps 62 = some (.iload_n 1, 1, 1, 0, 0, 0, 0, 0, 0, 0, []) := rfl
theorem i_X8_gaps_63 : tab t_X8_gaps 63 = some (.iload 11, 2, 11, 0, 0, 0, 0, 0, 0, 0, []) := rfl
theorem i_X8_gaps_65 : tab t_X8_gaps 65 = some (.invokevirtual 138, 3, 2, 0, 0, 0, 117, 9, 0, 0, []) := rfl
theorem i_X8_gaps_68 : tab t_X8_gaps 68 = some (.istore 12, 2, 12, 0, 0, 0, 0, 0, 0, 0, []) := rfl
theorem i_X8_gaps_70 : tab t_X8_gaps 70 = some (.iload 12, 2, 12, 0, 0, 0, 0, 0, 0, 0, []) := rfl
theorem i_X8_gaps_72 : tab t_X8_gaps 72 = some (.iconst (-1), 1, 0, -1, 0, 0, 0, 0, 0, 0, []) := rfl
theorem i_X8_gaps_73 : tab t_X8_gaps 73 = some (.if_icmp .ne 7, 3, 80, 0, 0, 0, 0, 0, 0, 0, []) := rfl
theorem i_X8_gaps_76 : tab t_X8_gaps 76 = some (.iconst 1, 1, 0, 1, 0, 0, 0, 0, 0, 0, []) := rfl
theorem i_X8_gaps_77 : tab t_X8_gaps 77 = some (.goto 4, 3, 81, 0, 0, 0, 0, 0, 0, 0, []) := rfl
theorem i_X8_gaps_80 : tab t_X8_gaps 80 = some (.iconst 0, 1, 0, 0, 0, 0, 0, 0, 0, 0, []) := rfl
theorem i_X8_gaps_81 : tab t_X8_gaps 81 = some (.istore 13, 2, 13, 0, 0, 0, 0, 0, 0, 0, []) := rfl
theorem i_X8_gaps_83 : tab t_X8_gaps 83 = some (.iload 5, 2, 5, 0, 0, 0, 0, 0, 0, 0, []) := rfl
theorem i_X8_gaps_85 : tab t_X8_gaps 85 = some (.iload 13, 2, 13, 0, 0, 0, 0, 0, 0, 0, []) := rfl
theorem i_X8_gaps_87 : tab t_X8_gaps 87 = some (.ifCond .eq 7, 3, 94, 0, 0, 0, 0, 0, 0, 0, []) := rfl
theorem i_X8_gaps_90 : tab t_X8_gaps 90 = some (.iconst 1, 1, 0, 1, 0, 0, 0, 0, 0, 0, []) := rfl
theorem i_X8_gaps_91 : tab t_X8_gaps 91 = some (.goto 4, 3, 95, 0, 0, 0, 0, 0, 0, 0, []) := rfl
theorem i_X8_gaps_94 : tab t_X8_gaps 94 = some (.iconst 0, 1, 0, 0, 0, 0, 0, 0, 0, 0, []) := rfl
theorem i_X8_gaps_95 : tab t_X8_gaps 95 = some (.iadd, 1, 0, 0, 0, 0, 0, 0, 0, 0, []) := rfl
theorem i_X8_gaps_96 : tab t_X8_gaps 96 = some (.istore 5, 2, 5, 0, 0, 0, 0, 0, 0, 0, []) := rfl
theorem i_X8_gaps_98 : tab t_X8_gaps 98 = some (.iload 13, 2, 13, 0, 0, 0, 0, 0, 0, 0, []) := rfl
theorem i_X8_gaps_100 : tab t_X8_gaps 100 = some (.ifCond .eq 10, 3, 110, 0, 0, 0, 0, 0, 0, 0, []) := rfl
theorem i_X8_gaps_103 : tab t_X8_gaps 103 = some (.iload 6, 2, 6, 0, 0, 0, 0, 0, 0, 0, []) := rfl
theorem i_X8_gaps_105 : tab t_X8_gaps 105 = some (.iconst 1, 1, 0, 1, 0, 0, 0, 0, 0, 0, []) := rfl
theorem i_X8_gaps_106 : tab t_X8_gaps 106 = some (.iadd, 1, 0, 0, 0, 0, 0, 0, 0, 0, []) := rfl
theorem i_X8_gaps_107 : tab t_X8_gaps 107 = some (.goto 4, 3, 111, 0, 0, 0, 0, 0, 0, 0, []) := rfl
theorem i_X8_gaps_110 : tab t_X8_gaps 110 = some (.iconst 0, 1, 0, 0, 0, 0, 0, 0, 0, 0, []) := rfl
theorem i_X8_gaps_111 : tab t_X8_gaps 111 = some (.istore 6, 2, 6, 0, 0, 0, 0, 0, 0, 0, []) := rfl
theorem i_X8_gaps_113 : tab t_X8_gaps 113 = some (.iload 7, 2, 7, 0, 0, 0, 0, 0, 0, 0, []) := rfl
theorem i_X8_gaps_115 : tab t_X8_gaps 115 = some (.iload 6, 2, 6, 0, 0, 0, 0, 0, 0, 0, []) := rfl
theorem i_X8_gaps_117 : tab t_X8_gaps 117 = some (.invokestatic 225, 3, 0, 0, 0, 7, 0, 0, 0, 0, []) := rfl
theorem i_X8_gaps_120 : tab t_X8_gaps 120 = some (.istore 7, 2, 7, 0, 0, 0, 0, 0, 0, 0, []) := rfl
theorem i_X8_gaps_122 : tab t_X8_gaps 122 = some (.iload 13, 2, 13, 0, 0, 0, 0, 0, 0, 0, []) := rfl
theorem i_X8_gaps_124 : tab t_X8_gaps 124 = some (.ifCond .eq 14, 3, 138, 0, 0, 0, 0, 0, 0, 0, []) := rfl
theorem i_X8_gaps_127 : tab t_X8_gaps 127 = some (.iload 8, 2, 8, 0, 0, 0, 0, 0, 0, 0, []) := rfl
theorem i_X8_gaps_129 : tab t_X8_gaps 129 = some (.iconst (-1), 1, 0, -1, 0, 0, 0, 0, 0, 0, []) := rfl
theorem i_X8_gaps_130 : tab t_X8_gaps 130 = some (.if_icmp .ne 8, 3, 138, 0, 0, 0, 0, 0, 0, 0, []) := rfl
theorem i_X8_gaps_133 : tab t_X8_gaps 133 = some (.iload 11, 2, 11, 0, 0, 0, 0, 0, 0, 0, []) := rfl
theorem i_X8_gaps_135 : tab t_X8_gaps 135 = some (.goto 5, 3, 140, 0, 0, 0, 0, 0, 0, 0, []) := rfl
theorem i_X8_gaps_138 : tab t_X8_gaps 138 = some (.iload 8, 2, 8, 0, 0, 0, 0, 0, 0, 0, []) := rfl
theorem i_X8_gaps_140 : tab t_X8_gaps 140 = some (.istore 8, 2, 8, 0, 0, 0, 0, 0, 0, 0, []) := rfl
theorem i_X8_gaps_142 : tab t_X8_gaps 142 = some (.iload 9, 2, 9, 0, 0, 0, 0, 0, 0, 0, []) := rfl
theorem i_X8_gaps_144 : tab t_X8_gaps 144 = some (.iload 11, 2, 11, 0, 0, 0, 0, 0, 0, 0, []) := rfl
theorem i_X8_gaps_146 : tab t_X8_gaps 146 = some (.iload_n 2, 1, 2, 0, 0, 0, 0, 0, 0, 0, []) := rfl
theorem i_X8_gaps_147 : tab t_X8_gaps 147 = some (.if_icmp .le 14, 3, 161, 0, 0, 0, 0, 0, 0, 0, []) := rfl
theorem i_X8_gaps_150 : tab t_X8_gaps 150 = some (.iload 12, 2, 12, 0, 0, 0, 0, 0, 0, 0, []) := rfl
theorem i_X8_gaps_152 : tab t_X8_gaps 152 = some (.iload 10, 2, 10, 0, 0, 0, 0, 0, 0, 0, []) := rfl
theorem i_X8_gaps_154 : tab t_X8_gaps 154 = some (.if_icmp .eq 7, 3, 161, 0, 0, 0, 0, 0, 0, 0, []) := rfl
theorem i_X8_gaps_157 : tab t_X8_gaps 157 = some (.iconst 1, 1, 0, 1, 0, 0, 0, 0, 0, 0, []) := rfl
theorem i_X8_gaps_158 : tab t_X8_gaps 158 = some (.goto 4, 3, 162, 0, 0, 0, 0, 0, 0, 0, []) := rfl
theorem i_X8_gaps_161 : tab t_X8_gaps 161 = some (.iconst 0, 1, 0, 0, 0, 0, 0, 0, 0, 0, []) := rfl
theorem i_X8_gaps_162 : tab t_X8_gaps 162 = some (.iadd, 1, 0, 0, 0, 0, 0, 0, 0, 0, []) := rfl
theorem i_X8_gaps_163 : tab t_X8_gaps 163 = some (.istore 9, 2, 9, 0, 0, 0, 0, 0, 0, 0, []) := rfl
theorem i_X8_gaps_165 : tab t_X8_gaps 165 = some (.iload 12, 2, 12, 0, 0, 0, 0, 0, 0, 0, []) := rfl
theorem i_X8_gaps_167 : tab t_X8_gaps 167 = some (.istore 10, 2, 10, 0, 0, 0, 0, 0, 0, 0, []) := rfl
theorem i_X8_gaps_169 : tab t_X8_gaps 169 = some (.iinc 11 1, 3, 11, 1, 0, 0, 0, 0, 0, 0, []) := rfl
theorem i_X8_gaps_172 : tab t_X8_gaps 172 = some (.goto (-117), 3, 55, 0, 0, 0, 0, 0, 0, 0, []) := rfl
theorem i_X8_gaps_175 : tab t_X8_gaps 175 = some (.iload 4, 2, 4, 0, 0, 0, 0, 0, 0, 0, []) := rfl
theorem i_X8_gaps_177 : tab t_X8_gaps 177 = some (.tableswitch 36 0 2 #[27, 30, 33], 27, 213, 0, 0, 0, 0, 0, 0, 0, [(0, 204), (1, 207), (2, 210)]) := rfl
theorem i_X8_gaps_204 : tab t_X8_gaps 204 = some (.iload 5, 2, 5, 0, 0, 0, 0, 0, 0, 0, []) := rfl
theorem i_X8_gaps_206 : tab t_X8_gaps 206 = some (.ireturn, 1, 0, 0, 0, 0, 0, 0, 0, 0, []) := rfl
theorem i_X8_gaps_207 : tab t_X8_gaps 207 = some (.iload 7, 2, 7, 0, 0, 0, 0, 0, 0, 0, []) := rfl
theorem i_X8_gaps_209 : tab t_X8_gaps 209 = some (.ireturn, 1, 0, 0, 0, 0, 0, 0, 0, 0, []) := rfl
theorem i_X8_gaps_210 : tab t_X8_gaps 210 = some (.iload 8, 2, 8, 0, 0, 0, 0, 0, 0, 0, []) := rfl
theorem i_X8_gaps_212 : tab t_X8_gaps 212 = some (.ireturn, 1, 0, 0, 0, 0, 0, 0, 0, 0, []) := rfl
theorem i_X8_gaps_213 : tab t_X8_gaps 213 = some (.iload 9, 2, 9, 0, 0, 0, 0, 0, 0, 0, []) := rfl
theorem i_X8_gaps_215 : tab t_X8_gaps 215 = some (.ireturn, 1, 0, 0, 0, 0, 0, 0, 0, 0, []) := rfl
def t_X8_doubt : List (Nat × rw_) := [(0, (.aload_n 0, 1, 0, 0, 0, 0, 0, 0, 0, 0, [])), (1, (.iload_n 1, 1, 1, 0, 0, 0, 0, 0, 0, 0, [])), (2, (.iload_n 2, 1, 2, 0, 0, 0, 0, 0, 0, 0, [])), (3, (.invokevirtual 102, 3, 2, 0, 0, 0, 114, 9, 0, 0, [])), (6, (.ifCond .eq 11, 3, 17, 0, 0, 0, 0, 0, 0, 0, [])), (9, (.iload_n 3, 1, 3, 0, 0, 0, 0, 0, 0, 0, [])), (10, (.iconst 2, 1, 0, 2, 0, 0, 0, 0, 0, 0, [])), (11, (.invokestatic 78, 3, 2, 0, 0, 0, 109, 0, 0, 0, [])), (14, (.ifCond .ne 6, 3, 20, 0, 0, 0, 0, 0, 0, 0, [])), (17, (.bipush (-2), 2, 0, -2, 0, 0, 0, 0, 0, 0, [])), (19, (.ireturn, 1, 0, 0, 0, 0, 0, 0, 0, 0, [])), (20, (.aload_n 0, 1, 0, 0, 0, 0, 0, 0, 0, 0, [])), (21, (.iload_n 1, 1, 1, 0, 0, 0, 0, 0, 0, 0, [])), (22, (.iload_n 2, 1, 2, 0, 0, 0, 0, 0, 0, 0, [])), (23, (.invokevirtual 138, 3, 2, 0, 0, 0, 117, 9, 0, 0, [])), (26, (.pop, 1, 0, 0, 0, 0, 0, 0, 0, 0, [])), (27, (.aload_n 0, 1, 0, 0, 0, 0, 0, 0, 0, 0, [])), (28, (.iload_n 1, 1, 1, 0, 0, 0, 0, 0, 0, 0, [])), (29, (.iload_n 2, 1, 2, 0, 0, 0, 0, 0, 0, 0, [])), (30, (.iconst (-1), 1, 0, -1, 0, 0, 0, 0, 0, 0, [])), (31, (.invokevirtual 185, 3, 3, 0, 0, 0, 118, 9, 0, 0, [])), (34, (.aload_n 0, 1, 0, 0, 0, 0, 0, 0, 0, 0, [])), (35, (.invokevirtual 230, 3, 0, 0, 0, 0, 121, 9, 0, 0, [])), (38, (.istore 4, 2, 4, 0, 0, 0, 0, 0, 0, 0, [])), (40, (.iload_n 3, 1, 3, 0, 0, 0, 0, 0, 0, 0, [])), (41, (.ifCond .ne 8, 3, 49, 0, 0, 0, 0, 0, 0, 0, [])), (44, (.iload 4, 2, 4, 0, 0, 0, 0, 0, 0, 0, [])), (46, (.goto 9, 3, 55, 0, 0, 0, 0, 0, 0, 0, [])), (49, (.aload_n 0, 1, 0, 0, 0, 0, 0, 0, 0, 0, [])), (50, (.iload 4, 2, 4, 0, 0, 0, 0, 0, 0, 0, [])), (52, (.invokevirtual 233, 3, 1, 0, 0, 0, 120, 9, 0, 0, [])), (55, (.ireturn, 1, 0, 0, 0, 0, 0, 0, 0, 0, []))]
set_option maxRecDepth 100000 in
theorem ok_X8_doubt : tb_ok ctX8 m_X8_doubt t_X8_doubt = true := by decide +kernel
theorem i_X8_doubt_0 : tab t_X8_doubt 0 = some (.aload_n 0, 1, 0, 0, 0, 0, 0, 0, 0, 0, []) := rfl
theorem i_X8_doubt_1 : tab t_X8_doubt 1 = some (.iload_n 1, 1, 1, 0, 0, 0, 0, 0, 0, 0, []) := rfl
theorem i_X8_doubt_2 : tab t_X8_doubt 2 = some (.iload_n 2, 1, 2, 0, 0, 0, 0, 0, 0, 0, []) := rfl
theorem i_X8_doubt_3 : tab t_X8_doubt 3 = some (.invokevirtual 102, 3, 2, 0, 0, 0, 114, 9, 0, 0, []) := rfl
theorem i_X8_doubt_6 : tab t_X8_doubt 6 = some (.ifCond .eq 11, 3, 17, 0, 0, 0, 0, 0, 0, 0, []) := rfl
theorem i_X8_doubt_9 : tab t_X8_doubt 9 = some (.iload_n 3, 1, 3, 0, 0, 0, 0, 0, 0, 0, []) := rfl
theorem i_X8_doubt_10 : tab t_X8_doubt 10 = some (.iconst 2, 1, 0, 2, 0, 0, 0, 0, 0, 0, []) := rfl
theorem i_X8_doubt_11 : tab t_X8_doubt 11 = some (.invokestatic 78, 3, 2, 0, 0, 0, 109, 0, 0, 0, []) := rfl
theorem i_X8_doubt_14 : tab t_X8_doubt 14 = some (.ifCond .ne 6, 3, 20, 0, 0, 0, 0, 0, 0, 0, []) := rfl
theorem i_X8_doubt_17 : tab t_X8_doubt 17 = some (.bipush (-2), 2, 0, -2, 0, 0, 0, 0, 0, 0, []) := rfl
theorem i_X8_doubt_19 : tab t_X8_doubt 19 = some (.ireturn, 1, 0, 0, 0, 0, 0, 0, 0, 0, []) := rfl
theorem i_X8_doubt_20 : tab t_X8_doubt 20 = some (.aload_n 0, 1, 0, 0, 0, 0, 0, 0, 0, 0, []) := rfl
theorem i_X8_doubt_21 : tab t_X8_doubt 21 = some (.iload_n 1, 1, 1, 0, 0, 0, 0, 0, 0, 0, []) := rfl
theorem i_X8_doubt_22 : tab t_X8_doubt 22 = some (.iload_n 2, 1, 2, 0, 0, 0, 0, 0, 0, 0, []) := rfl
theorem i_X8_doubt_23 : tab t_X8_doubt 23 = some (.invokevirtual 138, 3, 2, 0, 0, 0, 117, 9, 0, 0, []) := rfl
theorem i_X8_doubt_26 : tab t_X8_doubt 26 = some (.pop, 1, 0, 0, 0, 0, 0, 0, 0, 0, []) := rfl
theorem i_X8_doubt_27 : tab t_X8_doubt 27 = some (.aload_n 0, 1, 0, 0, 0, 0, 0, 0, 0, 0, []) := rfl
theorem i_X8_doubt_28 : tab t_X8_doubt 28 = some (.iload_n 1, 1, 1, 0, 0, 0, 0, 0, 0, 0, []) := rfl
theorem i_X8_doubt_29 : tab t_X8_doubt 29 = some (.iload_n 2, 1, 2, 0, 0, 0, 0, 0, 0, 0, []) := rfl
theorem i_X8_doubt_30 : tab t_X8_doubt 30 = some (.iconst (-1), 1, 0, -1, 0, 0, 0, 0, 0, 0, []) := rfl
theorem i_X8_doubt_31 : tab t_X8_doubt 31 = some (.invokevirtual 185, 3, 3, 0, 0, 0, 118, 9, 0, 0, []) := rfl
theorem i_X8_doubt_34 : tab t_X8_doubt 34 = some (.aload_n 0, 1, 0, 0, 0, 0, 0, 0, 0, 0, []) := rfl
theorem i_X8_doubt_35 : tab t_X8_doubt 35 = some (.invokevirtual 230, 3, 0, 0, 0, 0, 121, 9, 0, 0, []) := rfl
theorem i_X8_doubt_38 : tab t_X8_doubt 38 = some (.istore 4, 2, 4, 0, 0, 0, 0, 0, 0, 0, []) := rfl
theorem i_X8_doubt_40 : tab t_X8_doubt 40 = some (.iload_n 3, 1, 3, 0, 0, 0, 0, 0, 0, 0, []) := rfl
theorem i_X8_doubt_41 : tab t_X8_doubt 41 = some (.ifCond .ne 8, 3, 49, 0, 0, 0, 0, 0, 0, 0, []) := rfl
theorem i_X8_doubt_44 : tab t_X8_doubt 44 = some (.iload 4, 2, 4, 0, 0, 0, 0, 0, 0, 0, []) := rfl
theorem i_X8_doubt_46 : tab t_X8_doubt 46 = some (.goto 9, 3, 55, 0, 0, 0, 0, 0, 0, 0, []) := rfl
theorem i_X8_doubt_49 : tab t_X8_doubt 49 = some (.aload_n 0, 1, 0, 0, 0, 0, 0, 0, 0, 0, []) := rfl
theorem i_X8_doubt_50 : tab t_X8_doubt 50 = some (.iload 4, 2, 4, 0, 0, 0, 0, 0, 0, 0, []) := rfl
theorem i_X8_doubt_52 : tab t_X8_doubt 52 = some (.invokevirtual 233, 3, 1, 0, 0, 0, 120, 9, 0, 0, []) := rfl
theorem i_X8_doubt_55 : tab t_X8_doubt 55 = some (.ireturn, 1, 0, 0, 0, 0, 0, 0, 0, 0, []) := rfl
def t_X8_brief : List (Nat × rw_) := [(0, (.aload_n 0, 1, 0, 0, 0, 0, 0, 0, 0, 0, [])), (1, (.iload_n 1, 1, 1, 0, 0, 0, 0, 0, 0, 0, [])), (2, (.iload_n 2, 1, 2, 0, 0, 0, 0, 0, 0, 0, [])), (3, (.invokevirtual 102, 3, 2, 0, 0, 0, 114, 9, 0, 0, [])), (6, (.ifCond .eq 23, 3, 29, 0, 0, 0, 0, 0, 0, 0, [])), (9, (.iload_n 3, 1, 3, 0, 0, 0, 0, 0, 0, 0, [])), (10, (.iconst 1, 1, 0, 1, 0, 0, 0, 0, 0, 0, [])), (11, (.if_icmp .lt 18, 3, 29, 0, 0, 0, 0, 0, 0, 0, [])), (14, (.iload_n 3, 1, 3, 0, 0, 0, 0, 0, 0, 0, [])), (15, (.bipush 8, 2, 0, 8, 0, 0, 0, 0, 0, 0, [])), (17, (.if_icmp .gt 12, 3, 29, 0, 0, 0, 0, 0, 0, 0, [])), (20, (.iload 4, 2, 4, 0, 0, 0, 0, 0, 0, 0, [])), (22, (.iload_n 3, 1, 3, 0, 0, 0, 0, 0, 0, 0, [])), (23, (.invokestatic 78, 3, 2, 0, 0, 0, 109, 0, 0, 0, [])), (26, (.ifCond .ne 5, 3, 31, 0, 0, 0, 0, 0, 0, 0, [])), (29, (.iconst (-1), 1, 0, -1, 0, 0, 0, 0, 0, 0, [])), (30, (.ireturn, 1, 0, 0, 0, 0, 0, 0, 0, 0, [])), (31, (.aload_n 0, 1, 0, 0, 0, 0, 0, 0, 0, 0, [])), (32, (.iload_n 1, 1, 1, 0, 0, 0, 0, 0, 0, 0, [])), (33, (.iload_n 2, 1, 2, 0, 0, 0, 0, 0, 0, 0, [])), (34, (.invokevirtual 138, 3, 2, 0, 0, 0, 117, 9, 0, 0, [])), (37, (.pop, 1, 0, 0, 0, 0, 0, 0, 0, 0, [])), (38, (.aload_n 0, 1, 0, 0, 0, 0, 0, 0, 0, 0, [])), (39, (.getfield 54, 3, 2, 0, 0, 8, 8, 0, 0, 0, [])), (42, (.aload_n 0, 1, 0, 0, 0, 0, 0, 0, 0, 0, [])), (43, (.getfield 47, 3, 2, 0, 0, 8, 7, 0, 0, 0, [])), (46, (.getfield 141, 3, 0, 0, 0, 0, 5, 0, 0, 0, [])), (49, (.aload_n 0, 1, 0, 0, 0, 0, 0, 0, 0, 0, [])), (50, (.getfield 47, 3, 2, 0, 0, 8, 7, 0, 0, 0, [])), (53, (.getfield 144, 3, 0, 0, 0, 0, 4, 0, 0, 0, [])), (56, (.invokevirtual 147, 3, 2, 0, 0, 0, 56, 6, 0, 0, [])), (59, (.invokestatic 236, 3, 1, 0, 0, 0, 227, 0, 0, 0, [])), (62, (.iload_n 3, 1, 3, 0, 0, 0, 0, 0, 0, 0, [])), (63, (.if_icmp .ge 6, 3, 69, 0, 0, 0, 0, 0, 0, 0, [])), (66, (.bipush (-2), 2, 0, -2, 0, 0, 0, 0, 0, 0, [])), (68, (.ireturn, 1, 0, 0, 0, 0, 0, 0, 0, 0, [])), (69, (.aload_n 0, 1, 0, 0, 0, 0, 0, 0, 0, 0, [])), (70, (.getfield 54, 3, 2, 0, 0, 8, 8, 0, 0, 0, [])), (73, (.iload 4, 2, 4, 0, 0, 0, 0, 0, 0, 0, [])), (75, (.aload_n 0, 1, 0, 0, 0, 0, 0, 0, 0, 0, [])), (76, (.getfield 47, 3, 2, 0, 0, 8, 7, 0, 0, 0, [])), (79, (.getfield 141, 3, 0, 0, 0, 0, 5, 0, 0, 0, [])), (82, (.aload_n 0, 1, 0, 0, 0, 0, 0, 0, 0, 0, [])), (83, (.getfield 47, 3, 2, 0, 0, 8, 7, 0, 0, 0, [])), (86, (.getfield 144, 3, 0, 0, 0, 0, 4, 0, 0, 0, [])), (89, (.invokevirtual 194, 3, 3, 0, 0, 0, 55, 6, 0, 0, [])), (92, (.ireturn, 1, 0, 0, 0, 0, 0, 0, 0, 0, []))]
set_option maxRecDepth 100000 in
theorem ok_X8_brief : tb_ok ctX8 m_X8_brief t_X8_brief = true := by decide +kernel
theorem i_X8_brief_0 : tab t_X8_brief 0 = some (.aload_n 0, 1, 0, 0, 0, 0, 0, 0, 0, 0, []) := rfl
theorem i_X8_brief_1 : tab t_X8_brief 1 = some (.iload_n 1, 1, 1, 0, 0, 0, 0, 0, 0, 0, []) := rfl
theorem i_X8_brief_2 : tab t_X8_brief 2 = some (.iload_n 2, 1, 2, 0, 0, 0, 0, 0, 0, 0, []) := rfl
theorem i_X8_brief_3 : tab t_X8_brief 3 = some (.invokevirtual 102, 3, 2, 0, 0, 0, 114, 9, 0, 0, []) := rfl
theorem i_X8_brief_6 : tab t_X8_brief 6 = some (.ifCond .eq 23, 3, 29, 0, 0, 0, 0, 0, 0, 0, []) := rfl
theorem i_X8_brief_9 : tab t_X8_brief 9 = some (.iload_n 3, 1, 3, 0, 0, 0, 0, 0, 0, 0, []) := rfl
theorem i_X8_brief_10 : tab t_X8_brief 10 = some (.iconst 1, 1, 0, 1, 0, 0, 0, 0, 0, 0, []) := rfl
theorem i_X8_brief_11 : tab t_X8_brief 11 = some (.if_icmp .lt 18, 3, 29, 0, 0, 0, 0, 0, 0, 0, []) := rfl
theorem i_X8_brief_14 : tab t_X8_brief 14 = some (.iload_n 3, 1, 3, 0, 0, 0, 0, 0, 0, 0, []) := rfl
theorem i_X8_brief_15 : tab t_X8_brief 15 = some (.bipush 8, 2, 0, 8, 0, 0, 0, 0, 0, 0, []) := rfl
theorem i_X8_brief_17 : tab t_X8_brief 17 = some (.if_icmp .gt 12, 3, 29, 0, 0, 0, 0, 0, 0, 0, []) := rfl
theorem i_X8_brief_20 : tab t_X8_brief 20 = some (.iload 4, 2, 4, 0, 0, 0, 0, 0, 0, 0, []) := rfl
theorem i_X8_brief_22 : tab t_X8_brief 22 = some (.iload_n 3, 1, 3, 0, 0, 0, 0, 0, 0, 0, []) := rfl
theorem i_X8_brief_23 : tab t_X8_brief 23 = some (.invokestatic 78, 3, 2, 0, 0, 0, 109, 0, 0, 0, []) := rfl
theorem i_X8_brief_26 : tab t_X8_brief 26 = some (.ifCond .ne 5, 3, 31, 0, 0, 0, 0, 0, 0, 0, []) := rfl
theorem i_X8_brief_29 : tab t_X8_brief 29 = some (.iconst (-1), 1, 0, -1, 0, 0, 0, 0, 0, 0, []) := rfl
theorem i_X8_brief_30 : tab t_X8_brief 30 = some (.ireturn, 1, 0, 0, 0, 0, 0, 0, 0, 0, []) := rfl
theorem i_X8_brief_31 : tab t_X8_brief 31 = some (.aload_n 0, 1, 0, 0, 0, 0, 0, 0, 0, 0, []) := rfl
theorem i_X8_brief_32 : tab t_X8_brief 32 = some (.iload_n 1, 1, 1, 0, 0, 0, 0, 0, 0, 0, []) := rfl
theorem i_X8_brief_33 : tab t_X8_brief 33 = some (.iload_n 2, 1, 2, 0, 0, 0, 0, 0, 0, 0, []) := rfl
theorem i_X8_brief_34 : tab t_X8_brief 34 = some (.invokevirtual 138, 3, 2, 0, 0, 0, 117, 9, 0, 0, []) := rfl
theorem i_X8_brief_37 : tab t_X8_brief 37 = some (.pop, 1, 0, 0, 0, 0, 0, 0, 0, 0, []) := rfl
theorem i_X8_brief_38 : tab t_X8_brief 38 = some (.aload_n 0, 1, 0, 0, 0, 0, 0, 0, 0, 0, []) := rfl
theorem i_X8_brief_39 : tab t_X8_brief 39 = some (.getfield 54, 3, 2, 0, 0, 8, 8, 0, 0, 0, []) := rfl
theorem i_X8_brief_42 : tab t_X8_brief 42 = some (.aload_n 0, 1, 0, 0, 0, 0, 0, 0, 0, 0, []) := rfl
theorem i_X8_brief_43 : tab t_X8_brief 43 = some (.getfield 47, 3, 2, 0, 0, 8, 7, 0, 0, 0, []) := rfl
theorem i_X8_brief_46 : tab t_X8_brief 46 = some (.getfield 141, 3, 0, 0, 0, 0, 5, 0, 0, 0, []) := rfl
theorem i_X8_brief_49 : tab t_X8_brief 49 = some (.aload_n 0, 1, 0, 0, 0, 0, 0, 0, 0, 0, []) := rfl
theorem i_X8_brief_50 : tab t_X8_brief 50 = some (.getfield 47, 3, 2, 0, 0, 8, 7, 0, 0, 0, []) := rfl
theorem i_X8_brief_53 : tab t_X8_brief 53 = some (.getfield 144, 3, 0, 0, 0, 0, 4, 0, 0, 0, []) := rfl
theorem i_X8_brief_56 : tab t_X8_brief 56 = some (.invokevirtual 147, 3, 2, 0, 0, 0, 56, 6, 0, 0, []) := rfl
theorem i_X8_brief_59 : tab t_X8_brief 59 = some (.invokestatic 236, 3, 1, 0, 0, 0, 227, 0, 0, 0, []) := rfl
theorem i_X8_brief_62 : tab t_X8_brief 62 = some (.iload_n 3, 1, 3, 0, 0, 0, 0, 0, 0, 0, []) := rfl
theorem i_X8_brief_63 : tab t_X8_brief 63 = some (.if_icmp .ge 6, 3, 69, 0, 0, 0, 0, 0, 0, 0, []) := rfl
theorem i_X8_brief_66 : tab t_X8_brief 66 = some (.bipush (-2), 2, 0, -2, 0, 0, 0, 0, 0, 0, []) := rfl
theorem i_X8_brief_68 : tab t_X8_brief 68 = some (.ireturn, 1, 0, 0, 0, 0, 0, 0, 0, 0, []) := rfl
theorem i_X8_brief_69 : tab t_X8_brief 69 = some (.aload_n 0, 1, 0, 0, 0, 0, 0, 0, 0, 0, []) := rfl
theorem i_X8_brief_70 : tab t_X8_brief 70 = some (.getfield 54, 3, 2, 0, 0, 8, 8, 0, 0, 0, []) := rfl
theorem i_X8_brief_73 : tab t_X8_brief 73 = some (.iload 4, 2, 4, 0, 0, 0, 0, 0, 0, 0, []) := rfl
theorem i_X8_brief_75 : tab t_X8_brief 75 = some (.aload_n 0, 1, 0, 0, 0, 0, 0, 0, 0, 0, []) := rfl
theorem i_X8_brief_76 : tab t_X8_brief 76 = some (.getfield 47, 3, 2, 0, 0, 8, 7, 0, 0, 0, []) := rfl
theorem i_X8_brief_79 : tab t_X8_brief 79 = some (.getfield 141, 3, 0, 0, 0, 0, 5, 0, 0, 0, []) := rfl
theorem i_X8_brief_82 : tab t_X8_brief 82 = some (.aload_n 0, 1, 0, 0, 0, 0, 0, 0, 0, 0, []) := rfl
theorem i_X8_brief_83 : tab t_X8_brief 83 = some (.getfield 47, 3, 2, 0, 0, 8, 7, 0, 0, 0, []) := rfl
theorem i_X8_brief_86 : tab t_X8_brief 86 = some (.getfield 144, 3, 0, 0, 0, 0, 4, 0, 0, 0, []) := rfl
theorem i_X8_brief_89 : tab t_X8_brief 89 = some (.invokevirtual 194, 3, 3, 0, 0, 0, 55, 6, 0, 0, []) := rfl
theorem i_X8_brief_92 : tab t_X8_brief 92 = some (.ireturn, 1, 0, 0, 0, 0, 0, 0, 0, 0, []) := rfl
def t_X8_fights : List (Nat × rw_) := [(0, (.iload_n 3, 1, 3, 0, 0, 0, 0, 0, 0, 0, [])), (1, (.ifCond .lt 41, 3, 42, 0, 0, 0, 0, 0, 0, 0, [])), (4, (.iload 4, 2, 4, 0, 0, 0, 0, 0, 0, 0, [])), (6, (.ifCond .lt 36, 3, 42, 0, 0, 0, 0, 0, 0, 0, [])), (9, (.iload 4, 2, 4, 0, 0, 0, 0, 0, 0, 0, [])), (11, (.bipush 100, 2, 0, 100, 0, 0, 0, 0, 0, 0, [])), (13, (.if_icmp .gt 29, 3, 42, 0, 0, 0, 0, 0, 0, 0, [])), (16, (.iload 5, 2, 5, 0, 0, 0, 0, 0, 0, 0, [])), (18, (.iconst 1, 1, 0, 1, 0, 0, 0, 0, 0, 0, [])), (19, (.if_icmp .lt 23, 3, 42, 0, 0, 0, 0, 0, 0, 0, [])), (22, (.iload 5, 2, 5, 0, 0, 0, 0, 0, 0, 0, [])), (24, (.bipush 50, 2, 0, 50, 0, 0, 0, 0, 0, 0, [])), (26, (.if_icmp .gt 16, 3, 42, 0, 0, 0, 0, 0, 0, 0, [])), (29, (.iload 6, 2, 6, 0, 0, 0, 0, 0, 0, 0, [])), (31, (.iconst 2, 1, 0, 2, 0, 0, 0, 0, 0, 0, [])), (32, (.invokestatic 78, 3, 2, 0, 0, 0, 109, 0, 0, 0, [])), (35, (.ifCond .eq 7, 3, 42, 0, 0, 0, 0, 0, 0, 0, [])), (38, (.iconst 1, 1, 0, 1, 0, 0, 0, 0, 0, 0, [])), (39, (.goto 4, 3, 43, 0, 0, 0, 0, 0, 0, 0, [])), (42, (.iconst 0, 1, 0, 0, 0, 0, 0, 0, 0, 0, [])), (43, (.istore 7, 2, 7, 0, 0, 0, 0, 0, 0, 0, [])), (45, (.iload 7, 2, 7, 0, 0, 0, 0, 0, 0, 0, [])), (47, (.ifCond .eq 12, 3, 59, 0, 0, 0, 0, 0, 0, 0, [])), (50, (.aload_n 0, 1, 0, 0, 0, 0, 0, 0, 0, 0, [])), (51, (.iload_n 1, 1, 1, 0, 0, 0, 0, 0, 0, 0, [])), (52, (.iload_n 2, 1, 2, 0, 0, 0, 0, 0, 0, 0, [])), (53, (.invokevirtual 102, 3, 2, 0, 0, 0, 114, 9, 0, 0, [])), (56, (.ifCond .ne 5, 3, 61, 0, 0, 0, 0, 0, 0, 0, [])), (59, (.iconst (-1), 1, 0, -1, 0, 0, 0, 0, 0, 0, [])), (60, (.ireturn, 1, 0, 0, 0, 0, 0, 0, 0, 0, [])), (61, (.aload_n 0, 1, 0, 0, 0, 0, 0, 0, 0, 0, [])), (62, (.iload_n 1, 1, 1, 0, 0, 0, 0, 0, 0, 0, [])), (63, (.iload_n 2, 1, 2, 0, 0, 0, 0, 0, 0, 0, [])), (64, (.invokevirtual 138, 3, 2, 0, 0, 0, 117, 9, 0, 0, [])), (67, (.pop, 1, 0, 0, 0, 0, 0, 0, 0, 0, [])), (68, (.aload_n 0, 1, 0, 0, 0, 0, 0, 0, 0, 0, [])), (69, (.iload_n 1, 1, 1, 0, 0, 0, 0, 0, 0, 0, [])), (70, (.iload_n 2, 1, 2, 0, 0, 0, 0, 0, 0, 0, [])), (71, (.iconst (-1), 1, 0, -1, 0, 0, 0, 0, 0, 0, [])), (72, (.invokevirtual 185, 3, 3, 0, 0, 0, 118, 9, 0, 0, [])), (75, (.iload_n 3, 1, 3, 0, 0, 0, 0, 0, 0, 0, [])), (76, (.i2l, 1, 0, 0, 0, 0, 0, 0, 0, 0, [])), (77, (.lstore 8, 2, 8, 0, 0, 0, 0, 0, 0, 0, [])), (79, (.iconst 0, 1, 0, 0, 0, 0, 0, 0, 0, 0, [])), (80, (.istore 10, 2, 10, 0, 0, 0, 0, 0, 0, 0, [])), (82, (.iconst 0, 1, 0, 0, 0, 0, 0, 0, 0, 0, [])), (83, (.istore 11, 2, 11, 0, 0, 0, 0, 0, 0, 0, [])), (85, (.iload 11, 2, 11, 0, 0, 0, 0, 0, 0, 0, [])), (87, (.iload 5, 2, 5, 0, 0, 0, 0, 0, 0, 0, [])), (89, (.if_icmp .ge 170, 3, 259, 0, 0, 0, 0, 0, 0, 0, [])), (92, (.iconst 0, 1, 0, 0, 0, 0, 0, 0, 0, 0, [])), (93, (.istore 12, 2, 12, 0, 0, 0, 0, 0, 0, 0, [])), (95, (.iconst 0, 1, 0, 0, 0, 0, 0, 0, 0, 0, [])), (96, (.istore 13, 2, 13, 0, 0, 0, 0, 0, 0, 0, [])), (98, (.iload 13, 2, 13, 0, 0, 0, 0, 0, 0, 0, [])), (100, (.aload_n 0, 1, 0, 0, 0, 0, 0, 0, 0, 0, [])), (101, (.getfield 10, 3, 2, 0, 0, 8, 0, 0, 0, 0, [])), (104, (.getfield 93, 3, 2, 0, 0, 7, 1, 0, 0, 0, [])), (107, (.getfield 219, 3, 0, 0, 0, 6, 3, 0, 0, 0, [])), (110, (.if_icmp .ge 70, 3, 180, 0, 0, 0, 0, 0, 0, 0, [])), (113, (.aload_n 0, 1, 0, 0, 0, 0, 0, 0, 0, 0, [])), (114, (.getfield 47, 3, 2, 0, 0, 8, 7, 0, 0, 0, [])), (117, (.getfield 141, 3, 0, 0, 0, 0, 5, 0, 0, 0, [])), (120, (.iload 13, 2, 13, 0, 0, 0, 0, 0, 0, 0, [])), (122, (.invokestatic 241, 3, 2, 0, 0, 0, 112, 0, 0, 0, [])), (125, (.ifCond .ne 49, 3, 174, 0, 0, 0, 0, 0, 0, 0, [])), (128, (.lload 8, 2, 8, 0, 0, 0, 0, 0, 0, 0, [])), (130, (.ldc2_w 244, 3, 0, 0, 1103515245, 0, 0, 0, 0, 0, [])), (133, (.lmul, 1, 0, 0, 0, 0, 0, 0, 0, 0, [])), (134, (.ldc2_w 246, 3, 0, 0, 12345, 0, 0, 0, 0, 0, [])), (137, (.ladd, 1, 0, 0, 0, 0, 0, 0, 0, 0, [])), (138, (.ldc2_w 248, 3, 0, 0, 2147483648, 0, 0, 0, 0, 0, [])), (141, (.lrem, 1, 0, 0, 0, 0, 0, 0, 0, 0, [])), (142, (.lstore 8, 2, 8, 0, 0, 0, 0, 0, 0, 0, [])), (144, (.iload 12, 2, 12, 0, 0, 0, 0, 0, 0, 0, [])), (146, (.lload 8, 2, 8, 0, 0, 0, 0, 0, 0, 0, [])), (148, (.ldc2_w 250, 3, 0, 0, 65536, 0, 0, 0, 0, 0, [])), (151, (.ldiv, 1, 0, 0, 0, 0, 0, 0, 0, 0, [])), (152, (.ldc2_w 252, 3, 0, 0, 100, 0, 0, 0, 0, 0, [])), (155, (.lrem, 1, 0, 0, 0, 0, 0, 0, 0, 0, [])), (156, (.iload 4, 2, 4, 0, 0, 0, 0, 0, 0, 0, [])), (158, (.i2l, 1, 0, 0, 0, 0, 0, 0, 0, 0, [])), (159, (.lcmp, 1, 0, 0, 0, 0, 0, 0, 0, 0, [])), (160, (.ifCond .ge 10, 3, 170, 0, 0, 0, 0, 0, 0, 0, [])), (163, (.iconst 1, 1, 0, 1, 0, 0, 0, 0, 0, 0, [])), (164, (.iload 13, 2, 13, 0, 0, 0, 0, 0, 0, 0, [])), (166, (.ishl, 1, 0, 0, 0, 0, 0, 0, 0, 0, [])), (167, (.goto 4, 3, 171, 0, 0, 0, 0, 0, 0, 0, [])), (170, (.iconst 0, 1, 0, 0, 0, 0, 0, 0, 0, 0, [])), (171, (.ior, 1, 0, 0, 0, 0, 0, 0, 0, 0, [])), (172, (.istore 12, 2, 12, 0, 0, 0, 0, 0, 0, 0, [])), (174, (.iinc 13 1, 3, 13, 1, 0, 0, 0, 0, 0, 0, [])), (177, (.goto (-79), 3, 98, 0, 0, 0, 0, 0, 0, 0, [])), (180, (.iload 6, 2, 6, 0, 0, 0, 0, 0, 0, 0, [])), (182, (.ifCond .ne 40, 3, 222, 0, 0, 0, 0, 0, 0, 0, [])), (185, (.aload_n 0, 1, 0, 0, 0, 0, 0, 0, 0, 0, [])), (186, (.getfield 54, 3, 2, 0, 0, 8, 8, 0, 0, 0, [])), (189, (.iconst 0, 1, 0, 0, 0, 0, 0, 0, 0, 0, [])), (190, (.aload_n 0, 1, 0, 0, 0, 0, 0, 0, 0, 0, [])), (191, (.getfield 47, 3, 2, 0, 0, 8, 7, 0, 0, 0, [])), (194, (.getfield 141, 3, 0, 0, 0, 0, 5, 0, 0, 0, [])), (197, (.iload 12, 2, 12, 0, 0, 0, 0, 0, 0, 0, [])), (199, (.ior, 1, 0, 0, 0, 0, 0, 0, 0, 0, [])), (200, (.aload_n 0, 1, 0, 0, 0, 0, 0, 0, 0, 0, [])), (201, (.getfield 47, 3, 2, 0, 0, 8, 7, 0, 0, 0, [])), (204, (.getfield 144, 3, 0, 0, 0, 0, 4, 0, 0, 0, [])), (207, (.invokevirtual 194, 3, 3, 0, 0, 0, 55, 6, 0, 0, [])), (210, (.iconst (-1), 1, 0, -1, 0, 0, 0, 0, 0, 0, [])), (211, (.if_icmp .ne 7, 3, 218, 0, 0, 0, 0, 0, 0, 0, [])), (214, (.iconst 1, 1, 0, 1, 0, 0, 0, 0, 0, 0, [])), (215, (.goto 21, 3, 236, 0, 0, 0, 0, 0, 0, 0, [])), (218, (.iconst 0, 1, 0, 0, 0, 0, 0, 0, 0, 0, [])), (219, (.goto 17, 3, 236, 0, 0, 0, 0, 0, 0, 0, [])), (222, (.aload_n 0, 1, 0, 0, 0, 0, 0, 0, 0, 0, [])), (223, (.iload 12, 2, 12, 0, 0, 0, 0, 0, 0, 0, [])), (225, (.invokevirtual 198, 3, 1, 0, 0, 0, 119, 9, 0, 0, [])), (228, (.ifCond .eq 7, 3, 235, 0, 0, 0, 0, 0, 0, 0, [])), (231, (.iconst 1, 1, 0, 1, 0, 0, 0, 0, 0, 0, [])), (232, (.goto 4, 3, 236, 0, 0, 0, 0, 0, 0, 0, [])), (235, (.iconst 0, 1, 0, 0, 0, 0, 0, 0, 0, 0, [])), (236, (.istore 13, 2, 13, 0, 0, 0, 0, 0, 0, 0, [])), (238, (.iload 10, 2, 10, 0, 0, 0, 0, 0, 0, 0, [])), (240, (.iload 13, 2, 13, 0, 0, 0, 0, 0, 0, 0, [])), (242, (.ifCond .eq 7, 3, 249, 0, 0, 0, 0, 0, 0, 0, [])), (245, (.iconst 1, 1, 0, 1, 0, 0, 0, 0, 0, 0, [])), (246, (.goto 4, 3, 250, 0, 0, 0, 0, 0, 0, 0, [])), (249, (.iconst 0, 1, 0, 0, 0, 0, 0, 0, 0, 0, [])), (250, (.iadd, 1, 0, 0, 0, 0, 0, 0, 0, 0, [])), (251, (.istore 10, 2, 10, 0, 0, 0, 0, 0, 0, 0, [])), (253, (.iinc 11 1, 3, 11, 1, 0, 0, 0, 0, 0, 0, [])), (256, (.goto (-171), 3, 85, 0, 0, 0, 0, 0, 0, 0, [])), (259, (.iload 10, 2, 10, 0, 0, 0, 0, 0, 0, 0, [])), (261, (.ireturn, 1, 0, 0, 0, 0, 0, 0, 0, 0, []))]
set_option maxRecDepth 100000 in
theorem ok_X8_fights : tb_ok ctX8 m_X8_fights t_X8_fights = true := by decide +kernel
theorem i_X8_fights_0 : tab t_X8_fights 0 = some (.iload_n 3, 1, 3, 0, 0, 0, 0, 0, 0, 0, []) := rfl
theorem i_X8_fights_1 : tab t_X8_fights 1 = some (.ifCond .lt 41, 3, 42, 0, 0, 0, 0, 0, 0, 0, []) := rfl
theorem i_X8_fights_4 : tab t_X8_fights 4 = some (.iload 4, 2, 4, 0, 0, 0, 0, 0, 0, 0, []) := rfl
theorem i_X8_fights_6 : tab t_X8_fights 6 = some (.ifCond .lt 36, 3, 42, 0, 0, 0, 0, 0, 0, 0, []) := rfl
theorem i_X8_fights_9 : tab t_X8_fights 9 = some (.iload 4, 2, 4, 0, 0, 0, 0, 0, 0, 0, []) := rfl
theorem i_X8_fights_11 : tab t_X8_fights 11 = some (.bipush 100, 2, 0, 100, 0, 0, 0, 0, 0, 0, []) := rfl
theorem i_X8_fights_13 : tab t_X8_fights 13 = some (.if_icmp .gt 29, 3, 42, 0, 0, 0, 0, 0, 0, 0, []) := rfl
theorem i_X8_fights_16 : tab t_X8_fights 16 = some (.iload 5, 2, 5, 0, 0, 0, 0, 0, 0, 0, []) := rfl
theorem i_X8_fights_18 : tab t_X8_fights 18 = some (.iconst 1, 1, 0, 1, 0, 0, 0, 0, 0, 0, []) := rfl
theorem i_X8_fights_19 : tab t_X8_fights 19 = some (.if_icmp .lt 23, 3, 42, 0, 0, 0, 0, 0, 0, 0, []) := rfl
theorem i_X8_fights_22 : tab t_X8_fights 22 = some (.iload 5, 2, 5, 0, 0, 0, 0, 0, 0, 0, []) := rfl
theorem i_X8_fights_24 : tab t_X8_fights 24 = some (.bipush 50, 2, 0, 50, 0, 0, 0, 0, 0, 0, []) := rfl
theorem i_X8_fights_26 : tab t_X8_fights 26 = some (.if_icmp .gt 16, 3, 42, 0, 0, 0, 0, 0, 0, 0, []) := rfl
theorem i_X8_fights_29 : tab t_X8_fights 29 = some (.iload 6, 2, 6, 0, 0, 0, 0, 0, 0, 0, []) := rfl
theorem i_X8_fights_31 : tab t_X8_fights 31 = some (.iconst 2, 1, 0, 2, 0, 0, 0, 0, 0, 0, []) := rfl
theorem i_X8_fights_32 : tab t_X8_fights 32 = some (.invokestatic 78, 3, 2, 0, 0, 0, 109, 0, 0, 0, []) := rfl
theorem i_X8_fights_35 : tab t_X8_fights 35 = some (.ifCond .eq 7, 3, 42, 0, 0, 0, 0, 0, 0, 0, []) := rfl
theorem i_X8_fights_38 : tab t_X8_fights 38 = some (.iconst 1, 1, 0, 1, 0, 0, 0, 0, 0, 0, []) := rfl
theorem i_X8_fights_39 : tab t_X8_fights 39 = some (.goto 4, 3, 43, 0, 0, 0, 0, 0, 0, 0, []) := rfl
theorem i_X8_fights_42 : tab t_X8_fights 42 = some (.iconst 0, 1, 0, 0, 0, 0, 0, 0, 0, 0, []) := rfl
theorem i_X8_fights_43 : tab t_X8_fights 43 = some (.istore 7, 2, 7, 0, 0, 0, 0, 0, 0, 0, []) := rfl
theorem i_X8_fights_45 : tab t_X8_fights 45 = some (.iload 7, 2, 7, 0, 0, 0, 0, 0, 0, 0, []) := rfl
theorem i_X8_fights_47 : tab t_X8_fights 47 = some (.ifCond .eq 12, 3, 59, 0, 0, 0, 0, 0, 0, 0, []) := rfl
theorem i_X8_fights_50 : tab t_X8_fights 50 = some (.aload_n 0, 1, 0, 0, 0, 0, 0, 0, 0, 0, []) := rfl
theorem i_X8_fights_51 : tab t_X8_fights 51 = some (.iload_n 1, 1, 1, 0, 0, 0, 0, 0, 0, 0, []) := rfl
theorem i_X8_fights_52 : tab t_X8_fights 52 = some (.iload_n 2, 1, 2, 0, 0, 0, 0, 0, 0, 0, []) := rfl
theorem i_X8_fights_53 : tab t_X8_fights 53 = some (.invokevirtual 102, 3, 2, 0, 0, 0, 114, 9, 0, 0, []) := rfl
theorem i_X8_fights_56 : tab t_X8_fights 56 = some (.ifCond .ne 5, 3, 61, 0, 0, 0, 0, 0, 0, 0, []) := rfl
theorem i_X8_fights_59 : tab t_X8_fights 59 = some (.iconst (-1), 1, 0, -1, 0, 0, 0, 0, 0, 0, []) := rfl
theorem i_X8_fights_60 : tab t_X8_fights 60 = some (.ireturn, 1, 0, 0, 0, 0, 0, 0, 0, 0, []) := rfl
theorem i_X8_fights_61 : tab t_X8_fights 61 = some (.aload_n 0, 1, 0, 0, 0, 0, 0, 0, 0, 0, []) := rfl
theorem i_X8_fights_62 : tab t_X8_fights 62 = some (.iload_n 1, 1, 1, 0, 0, 0, 0, 0, 0, 0, []) := rfl
theorem i_X8_fights_63 : tab t_X8_fights 63 = some (.iload_n 2, 1, 2, 0, 0, 0, 0, 0, 0, 0, []) := rfl
theorem i_X8_fights_64 : tab t_X8_fights 64 = some (.invokevirtual 138, 3, 2, 0, 0, 0, 117, 9, 0, 0, []) := rfl
theorem i_X8_fights_67 : tab t_X8_fights 67 = some (.pop, 1, 0, 0, 0, 0, 0, 0, 0, 0, []) := rfl
theorem i_X8_fights_68 : tab t_X8_fights 68 = some (.aload_n 0, 1, 0, 0, 0, 0, 0, 0, 0, 0, []) := rfl
theorem i_X8_fights_69 : tab t_X8_fights 69 = some (.iload_n 1, 1, 1, 0, 0, 0, 0, 0, 0, 0, []) := rfl
theorem i_X8_fights_70 : tab t_X8_fights 70 = some (.iload_n 2, 1, 2, 0, 0, 0, 0, 0, 0, 0, []) := rfl
theorem i_X8_fights_71 : tab t_X8_fights 71 = some (.iconst (-1), 1, 0, -1, 0, 0, 0, 0, 0, 0, []) := rfl
theorem i_X8_fights_72 : tab t_X8_fights 72 = some (.invokevirtual 185, 3, 3, 0, 0, 0, 118, 9, 0, 0, []) := rfl
theorem i_X8_fights_75 : tab t_X8_fights 75 = some (.iload_n 3, 1, 3, 0, 0, 0, 0, 0, 0, 0, []) := rfl
theorem i_X8_fights_76 : tab t_X8_fights 76 = some (.i2l, 1, 0, 0, 0, 0, 0, 0, 0, 0, []) := rfl
theorem i_X8_fights_77 : tab t_X8_fights 77 = some (.lstore 8, 2, 8, 0, 0, 0, 0, 0, 0, 0, []) := rfl
theorem i_X8_fights_79 : tab t_X8_fights 79 = some (.iconst 0, 1, 0, 0, 0, 0, 0, 0, 0, 0, []) := rfl
theorem i_X8_fights_80 : tab t_X8_fights 80 = some (.istore 10, 2, 10, 0, 0, 0, 0, 0, 0, 0, []) := rfl
theorem i_X8_fights_82 : tab t_X8_fights 82 = some (.iconst 0, 1, 0, 0, 0, 0, 0, 0, 0, 0, []) := rfl
theorem i_X8_fights_83 : tab t_X8_fights 83 = some (.istore 11, 2, 11, 0, 0, 0, 0, 0, 0, 0, []) := rfl
theorem i_X8_fights_85 : tab t_X8_fights 85 = some (.iload 11, 2, 11, 0, 0, 0, 0, 0, 0, 0, []) := rfl
theorem i_X8_fights_87 : tab t_X8_fights 87 = some (.iload 5, 2, 5, 0, 0, 0, 0, 0, 0, 0, []) := rfl
theorem i_X8_fights_89 : tab t_X8_fights 89 = some (.if_icmp .ge 170, 3, 259, 0, 0, 0, 0, 0, 0, 0, []) := rfl
theorem i_X8_fights_92 : tab t_X8_fights 92 = some (.iconst 0, 1, 0, 0, 0, 0, 0, 0, 0, 0, []) := rfl
theorem i_X8_fights_93 : tab t_X8_fights 93 = some (.istore 12, 2, 12, 0, 0, 0, 0, 0, 0, 0, []) := rfl
theorem i_X8_fights_95 : tab t_X8_fights 95 = some (.iconst 0, 1, 0, 0, 0, 0, 0, 0, 0, 0, []) := rfl
theorem i_X8_fights_96 : tab t_X8_fights 96 = some (.istore 13, 2, 13, 0, 0, 0, 0, 0, 0, 0, []) := rfl
theorem i_X8_fights_98 : tab t_X8_fights 98 = some (.iload 13, 2, 13, 0, 0, 0, 0, 0, 0, 0, []) := rfl
theorem i_X8_fights_100 : tab t_X8_fights 100 = some (.aload_n 0, 1, 0, 0, 0, 0, 0, 0, 0, 0, []) := rfl
theorem i_X8_fights_101 : tab t_X8_fights 101 = some (.getfield 10, 3, 2, 0, 0, 8, 0, 0, 0, 0, []) := rfl
theorem i_X8_fights_104 : tab t_X8_fights 104 = some (.getfield 93, 3, 2, 0, 0, 7, 1, 0, 0, 0, []) := rfl
theorem i_X8_fights_107 : tab t_X8_fights 107 = some (.getfield 219, 3, 0, 0, 0, 6, 3, 0, 0, 0, []) := rfl
theorem i_X8_fights_110 : tab t_X8_fights 110 = some (.if_icmp .ge 70, 3, 180, 0, 0, 0, 0, 0, 0, 0, []) := rfl
theorem i_X8_fights_113 : tab t_X8_fights 113 = some (.aload_n 0, 1, 0, 0, 0, 0, 0, 0, 0, 0, []) := rfl
theorem i_X8_fights_114 : tab t_X8_fights 114 = some (.getfield 47, 3, 2, 0, 0, 8, 7, 0, 0, 0, []) := rfl
theorem i_X8_fights_117 : tab t_X8_fights 117 = some (.getfield 141, 3, 0, 0, 0, 0, 5, 0, 0, 0, []) := rfl
theorem i_X8_fights_120 : tab t_X8_fights 120 = some (.iload 13, 2, 13, 0, 0, 0, 0, 0, 0, 0, []) := rfl
theorem i_X8_fights_122 : tab t_X8_fights 122 = some (.invokestatic 241, 3, 2, 0, 0, 0, 112, 0, 0, 0, []) := rfl
theorem i_X8_fights_125 : tab t_X8_fights 125 = some (.ifCond .ne 49, 3, 174, 0, 0, 0, 0, 0, 0, 0, []) := rfl
theorem i_X8_fights_128 : tab t_X8_fights 128 = some (.lload 8, 2, 8, 0, 0, 0, 0, 0, 0, 0, []) := rfl
theorem i_X8_fights_130 : tab t_X8_fights 130 = some (.ldc2_w 244, 3, 0, 0, 1103515245, 0, 0, 0, 0, 0, []) := rfl
theorem i_X8_fights_133 : tab t_X8_fights 133 = some (.lmul, 1, 0, 0, 0, 0, 0, 0, 0, 0, []) := rfl
theorem i_X8_fights_134 : tab t_X8_fights 134 = some (.ldc2_w 246, 3, 0, 0, 12345, 0, 0, 0, 0, 0, []) := rfl
theorem i_X8_fights_137 : tab t_X8_fights 137 = some (.ladd, 1, 0, 0, 0, 0, 0, 0, 0, 0, []) := rfl
theorem i_X8_fights_138 : tab t_X8_fights 138 = some (.ldc2_w 248, 3, 0, 0, 2147483648, 0, 0, 0, 0, 0, []) := rfl
theorem i_X8_fights_141 : tab t_X8_fights 141 = some (.lrem, 1, 0, 0, 0, 0, 0, 0, 0, 0, []) := rfl
theorem i_X8_fights_142 : tab t_X8_fights 142 = some (.lstore 8, 2, 8, 0, 0, 0, 0, 0, 0, 0, []) := rfl
theorem i_X8_fights_144 : tab t_X8_fights 144 = some (.iload 12, 2, 12, 0, 0, 0, 0, 0, 0, 0, []) := rfl
theorem i_X8_fights_146 : tab t_X8_fights 146 = some (.lload 8, 2, 8, 0, 0, 0, 0, 0, 0, 0, []) := rfl
theorem i_X8_fights_148 : tab t_X8_fights 148 = some (.ldc2_w 250, 3, 0, 0, 65536, 0, 0, 0, 0, 0, []) := rfl
theorem i_X8_fights_151 : tab t_X8_fights 151 = some (.ldiv, 1, 0, 0, 0, 0, 0, 0, 0, 0, []) := rfl
theorem i_X8_fights_152 : tab t_X8_fights 152 = some (.ldc2_w 252, 3, 0, 0, 100, 0, 0, 0, 0, 0, []) := rfl
theorem i_X8_fights_155 : tab t_X8_fights 155 = some (.lrem, 1, 0, 0, 0, 0, 0, 0, 0, 0, []) := rfl
theorem i_X8_fights_156 : tab t_X8_fights 156 = some (.iload 4, 2, 4, 0, 0, 0, 0, 0, 0, 0, []) := rfl
theorem i_X8_fights_158 : tab t_X8_fights 158 = some (.i2l, 1, 0, 0, 0, 0, 0, 0, 0, 0, []) := rfl
theorem i_X8_fights_159 : tab t_X8_fights 159 = some (.lcmp, 1, 0, 0, 0, 0, 0, 0, 0, 0, []) := rfl
theorem i_X8_fights_160 : tab t_X8_fights 160 = some (.ifCond .ge 10, 3, 170, 0, 0, 0, 0, 0, 0, 0, []) := rfl
theorem i_X8_fights_163 : tab t_X8_fights 163 = some (.iconst 1, 1, 0, 1, 0, 0, 0, 0, 0, 0, []) := rfl
theorem i_X8_fights_164 : tab t_X8_fights 164 = some (.iload 13, 2, 13, 0, 0, 0, 0, 0, 0, 0, []) := rfl
theorem i_X8_fights_166 : tab t_X8_fights 166 = some (.ishl, 1, 0, 0, 0, 0, 0, 0, 0, 0, []) := rfl
theorem i_X8_fights_167 : tab t_X8_fights 167 = some (.goto 4, 3, 171, 0, 0, 0, 0, 0, 0, 0, []) := rfl
theorem i_X8_fights_170 : tab t_X8_fights 170 = some (.iconst 0, 1, 0, 0, 0, 0, 0, 0, 0, 0, []) := rfl
theorem i_X8_fights_171 : tab t_X8_fights 171 = some (.ior, 1, 0, 0, 0, 0, 0, 0, 0, 0, []) := rfl
theorem i_X8_fights_172 : tab t_X8_fights 172 = some (.istore 12, 2, 12, 0, 0, 0, 0, 0, 0, 0, []) := rfl
theorem i_X8_fights_174 : tab t_X8_fights 174 = some (.iinc 13 1, 3, 13, 1, 0, 0, 0, 0, 0, 0, []) := rfl
theorem i_X8_fights_177 : tab t_X8_fights 177 = some (.goto (-79), 3, 98, 0, 0, 0, 0, 0, 0, 0, []) := rfl
theorem i_X8_fights_180 : tab t_X8_fights 180 = some (.iload 6, 2, 6, 0, 0, 0, 0, 0, 0, 0, []) := rfl
theorem i_X8_fights_182 : tab t_X8_fights 182 = some (.ifCond .ne 40, 3, 222, 0, 0, 0, 0, 0, 0, 0, []) := rfl
theorem i_X8_fights_185 : tab t_X8_fights 185 = some (.aload_n 0, 1, 0, 0, 0, 0, 0, 0, 0, 0, []) := rfl
theorem i_X8_fights_186 : tab t_X8_fights 186 = some (.getfield 54, 3, 2, 0, 0, 8, 8, 0, 0, 0, []) := rfl
theorem i_X8_fights_189 : tab t_X8_fights 189 = some (.iconst 0, 1, 0, 0, 0, 0, 0, 0, 0, 0, []) := rfl
theorem i_X8_fights_190 : tab t_X8_fights 190 = some (.aload_n 0, 1, 0, 0, 0, 0, 0, 0, 0, 0, []) := rfl
theorem i_X8_fights_191 : tab t_X8_fights 191 = some (.getfield 47, 3, 2, 0, 0, 8, 7, 0, 0, 0, []) := rfl
theorem i_X8_fights_194 : tab t_X8_fights 194 = some (.getfield 141, 3, 0, 0, 0, 0, 5, 0, 0, 0, []) := rfl
theorem i_X8_fights_197 : tab t_X8_fights 197 = some (.iload 12, 2, 12, 0, 0, 0, 0, 0, 0, 0, []) := rfl
theorem i_X8_fights_199 : tab t_X8_fights 199 = some (.ior, 1, 0, 0, 0, 0, 0, 0, 0, 0, []) := rfl
theorem i_X8_fights_200 : tab t_X8_fights 200 = some (.aload_n 0, 1, 0, 0, 0, 0, 0, 0, 0, 0, []) := rfl
theorem i_X8_fights_201 : tab t_X8_fights 201 = some (.getfield 47, 3, 2, 0, 0, 8, 7, 0, 0, 0, []) := rfl
theorem i_X8_fights_204 : tab t_X8_fights 204 = some (.getfield 144, 3, 0, 0, 0, 0, 4, 0, 0, 0, []) := rfl
theorem i_X8_fights_207 : tab t_X8_fights 207 = some (.invokevirtual 194, 3, 3, 0, 0, 0, 55, 6, 0, 0, []) := rfl
theorem i_X8_fights_210 : tab t_X8_fights 210 = some (.iconst (-1), 1, 0, -1, 0, 0, 0, 0, 0, 0, []) := rfl
theorem i_X8_fights_211 : tab t_X8_fights 211 = some (.if_icmp .ne 7, 3, 218, 0, 0, 0, 0, 0, 0, 0, []) := rfl
theorem i_X8_fights_214 : tab t_X8_fights 214 = some (.iconst 1, 1, 0, 1, 0, 0, 0, 0, 0, 0, []) := rfl
theorem i_X8_fights_215 : tab t_X8_fights 215 = some (.goto 21, 3, 236, 0, 0, 0, 0, 0, 0, 0, []) := rfl
theorem i_X8_fights_218 : tab t_X8_fights 218 = some (.iconst 0, 1, 0, 0, 0, 0, 0, 0, 0, 0, []) := rfl
theorem i_X8_fights_219 : tab t_X8_fights 219 = some (.goto 17, 3, 236, 0, 0, 0, 0, 0, 0, 0, []) := rfl
theorem i_X8_fights_222 : tab t_X8_fights 222 = some (.aload_n 0, 1, 0, 0, 0, 0, 0, 0, 0, 0, []) := rfl
theorem i_X8_fights_223 : tab t_X8_fights 223 = some (.iload 12, 2, 12, 0, 0, 0, 0, 0, 0, 0, []) := rfl
theorem i_X8_fights_225 : tab t_X8_fights 225 = some (.invokevirtual 198, 3, 1, 0, 0, 0, 119, 9, 0, 0, []) := rfl
theorem i_X8_fights_228 : tab t_X8_fights 228 = some (.ifCond .eq 7, 3, 235, 0, 0, 0, 0, 0, 0, 0, []) := rfl
theorem i_X8_fights_231 : tab t_X8_fights 231 = some (.iconst 1, 1, 0, 1, 0, 0, 0, 0, 0, 0, []) := rfl
theorem i_X8_fights_232 : tab t_X8_fights 232 = some (.goto 4, 3, 236, 0, 0, 0, 0, 0, 0, 0, []) := rfl
theorem i_X8_fights_235 : tab t_X8_fights 235 = some (.iconst 0, 1, 0, 0, 0, 0, 0, 0, 0, 0, []) := rfl
theorem i_X8_fights_236 : tab t_X8_fights 236 = some (.istore 13, 2, 13, 0, 0, 0, 0, 0, 0, 0, []) := rfl
theorem i_X8_fights_238 : tab t_X8_fights 238 = some (.iload 10, 2, 10, 0, 0, 0, 0, 0, 0, 0, []) := rfl
theorem i_X8_fights_240 : tab t_X8_fights 240 = some (.iload 13, 2, 13, 0, 0, 0, 0, 0, 0, 0, []) := rfl
theorem i_X8_fights_242 : tab t_X8_fights 242 = some (.ifCond .eq 7, 3, 249, 0, 0, 0, 0, 0, 0, 0, []) := rfl
theorem i_X8_fights_245 : tab t_X8_fights 245 = some (.iconst 1, 1, 0, 1, 0, 0, 0, 0, 0, 0, []) := rfl
theorem i_X8_fights_246 : tab t_X8_fights 246 = some (.goto 4, 3, 250, 0, 0, 0, 0, 0, 0, 0, []) := rfl
theorem i_X8_fights_249 : tab t_X8_fights 249 = some (.iconst 0, 1, 0, 0, 0, 0, 0, 0, 0, 0, []) := rfl
theorem i_X8_fights_250 : tab t_X8_fights 250 = some (.iadd, 1, 0, 0, 0, 0, 0, 0, 0, 0, []) := rfl
theorem i_X8_fights_251 : tab t_X8_fights 251 = some (.istore 10, 2, 10, 0, 0, 0, 0, 0, 0, 0, []) := rfl
theorem i_X8_fights_253 : tab t_X8_fights 253 = some (.iinc 11 1, 3, 11, 1, 0, 0, 0, 0, 0, 0, []) := rfl
theorem i_X8_fights_256 : tab t_X8_fights 256 = some (.goto (-171), 3, 85, 0, 0, 0, 0, 0, 0, 0, []) := rfl
theorem i_X8_fights_259 : tab t_X8_fights 259 = some (.iload 10, 2, 10, 0, 0, 0, 0, 0, 0, 0, []) := rfl
theorem i_X8_fights_261 : tab t_X8_fights 261 = some (.ireturn, 1, 0, 0, 0, 0, 0, 0, 0, 0, []) := rfl
def t_X8_allied : List (Nat × rw_) := [(0, (.aload_n 0, 1, 0, 0, 0, 0, 0, 0, 0, 0, [])), (1, (.getfield 10, 3, 2, 0, 0, 8, 0, 0, 0, 0, [])), (4, (.getfield 68, 3, 2, 0, 0, 7, 0, 0, 0, 0, [])), (7, (.iload_n 1, 1, 1, 0, 0, 0, 0, 0, 0, 0, [])), (8, (.invokevirtual 72, 3, 1, 0, 0, 0, 59, 7, 0, 0, [])), (11, (.ifCond .eq 26, 3, 37, 0, 0, 0, 0, 0, 0, 0, [])), (14, (.aload_n 0, 1, 0, 0, 0, 0, 0, 0, 0, 0, [])), (15, (.getfield 10, 3, 2, 0, 0, 8, 0, 0, 0, 0, [])), (18, (.getfield 68, 3, 2, 0, 0, 7, 0, 0, 0, 0, [])), (21, (.iload_n 2, 1, 2, 0, 0, 0, 0, 0, 0, 0, [])), (22, (.invokevirtual 72, 3, 1, 0, 0, 0, 59, 7, 0, 0, [])), (25, (.ifCond .eq 12, 3, 37, 0, 0, 0, 0, 0, 0, 0, [])), (28, (.iload_n 1, 1, 1, 0, 0, 0, 0, 0, 0, 0, [])), (29, (.iload_n 2, 1, 2, 0, 0, 0, 0, 0, 0, 0, [])), (30, (.if_icmp .eq 7, 3, 37, 0, 0, 0, 0, 0, 0, 0, [])), (33, (.iconst 1, 1, 0, 1, 0, 0, 0, 0, 0, 0, [])), (34, (.goto 4, 3, 38, 0, 0, 0, 0, 0, 0, 0, [])), (37, (.iconst 0, 1, 0, 0, 0, 0, 0, 0, 0, 0, [])), (38, (.istore 5, 2, 5, 0, 0, 0, 0, 0, 0, 0, [])), (40, (.iload 5, 2, 5, 0, 0, 0, 0, 0, 0, 0, [])), (42, (.ifCond .eq 22, 3, 64, 0, 0, 0, 0, 0, 0, 0, [])), (45, (.iload_n 3, 1, 3, 0, 0, 0, 0, 0, 0, 0, [])), (46, (.aload_n 0, 1, 0, 0, 0, 0, 0, 0, 0, 0, [])), (47, (.getfield 26, 3, 0, 0, 0, 8, 3, 0, 0, 0, [])), (50, (.invokestatic 78, 3, 2, 0, 0, 0, 109, 0, 0, 0, [])), (53, (.ifCond .eq 11, 3, 64, 0, 0, 0, 0, 0, 0, 0, [])), (56, (.iload 4, 2, 4, 0, 0, 0, 0, 0, 0, 0, [])), (58, (.invokestatic 96, 3, 1, 0, 0, 0, 110, 0, 0, 0, [])), (61, (.ifCond .ne 6, 3, 67, 0, 0, 0, 0, 0, 0, 0, [])), (64, (.bipush (-2), 2, 0, -2, 0, 0, 0, 0, 0, 0, [])), (66, (.ireturn, 1, 0, 0, 0, 0, 0, 0, 0, 0, [])), (67, (.aload_n 0, 1, 0, 0, 0, 0, 0, 0, 0, 0, [])), (68, (.iload_n 1, 1, 1, 0, 0, 0, 0, 0, 0, 0, [])), (69, (.iload 4, 2, 4, 0, 0, 0, 0, 0, 0, 0, [])), (71, (.invokevirtual 138, 3, 2, 0, 0, 0, 117, 9, 0, 0, [])), (74, (.istore 6, 2, 6, 0, 0, 0, 0, 0, 0, 0, [])), (76, (.aload_n 0, 1, 0, 0, 0, 0, 0, 0, 0, 0, [])), (77, (.iload_n 2, 1, 2, 0, 0, 0, 0, 0, 0, 0, [])), (78, (.iload 4, 2, 4, 0, 0, 0, 0, 0, 0, 0, [])), (80, (.invokevirtual 138, 3, 2, 0, 0, 0, 117, 9, 0, 0, [])), (83, (.istore 7, 2, 7, 0, 0, 0, 0, 0, 0, 0, [])), (85, (.iload 6, 2, 6, 0, 0, 0, 0, 0, 0, 0, [])), (87, (.iconst (-1), 1, 0, -1, 0, 0, 0, 0, 0, 0, [])), (88, (.if_icmp .eq 10, 3, 98, 0, 0, 0, 0, 0, 0, 0, [])), (91, (.iload 6, 2, 6, 0, 0, 0, 0, 0, 0, 0, [])), (93, (.iload 7, 2, 7, 0, 0, 0, 0, 0, 0, 0, [])), (95, (.if_icmp .ne 6, 3, 101, 0, 0, 0, 0, 0, 0, 0, [])), (98, (.iload 7, 2, 7, 0, 0, 0, 0, 0, 0, 0, [])), (100, (.ireturn, 1, 0, 0, 0, 0, 0, 0, 0, 0, [])), (101, (.iload 7, 2, 7, 0, 0, 0, 0, 0, 0, 0, [])), (103, (.iconst (-1), 1, 0, -1, 0, 0, 0, 0, 0, 0, [])), (104, (.if_icmp .ne 6, 3, 110, 0, 0, 0, 0, 0, 0, 0, [])), (107, (.iload 6, 2, 6, 0, 0, 0, 0, 0, 0, 0, [])), (109, (.ireturn, 1, 0, 0, 0, 0, 0, 0, 0, 0, [])), (110, (.aload_n 0, 1, 0, 0, 0, 0, 0, 0, 0, 0, [])), (111, (.getfield 47, 3, 2, 0, 0, 8, 7, 0, 0, 0, [])), (114, (.aload_n 0, 1, 0, 0, 0, 0, 0, 0, 0, 0, [])), (115, (.getfield 10, 3, 2, 0, 0, 8, 0, 0, 0, 0, [])), (118, (.iload_n 1, 1, 1, 0, 0, 0, 0, 0, 0, 0, [])), (119, (.iload 4, 2, 4, 0, 0, 0, 0, 0, 0, 0, [])), (121, (.invokevirtual 105, 3, 3, 0, 0, 0, 1, 1, 0, 0, [])), (124, (.aload_n 0, 1, 0, 0, 0, 0, 0, 0, 0, 0, [])), (125, (.getfield 47, 3, 2, 0, 0, 8, 7, 0, 0, 0, [])), (128, (.iload 6, 2, 6, 0, 0, 0, 0, 0, 0, 0, [])), (130, (.invokevirtual 154, 3, 1, 0, 0, 0, 7, 1, 0, 0, [])), (133, (.istore 8, 2, 8, 0, 0, 0, 0, 0, 0, 0, [])), (135, (.aload_n 0, 1, 0, 0, 0, 0, 0, 0, 0, 0, [])), (136, (.getfield 54, 3, 2, 0, 0, 8, 8, 0, 0, 0, [])), (139, (.aload_n 0, 1, 0, 0, 0, 0, 0, 0, 0, 0, [])), (140, (.getfield 47, 3, 2, 0, 0, 8, 7, 0, 0, 0, [])), (143, (.aload_n 0, 1, 0, 0, 0, 0, 0, 0, 0, 0, [])), (144, (.getfield 22, 3, 2, 0, 0, 8, 2, 0, 0, 0, [])), (147, (.iload_n 3, 1, 3, 0, 0, 0, 0, 0, 0, 0, [])), (148, (.aaload, 1, 0, 0, 0, 0, 0, 0, 0, 0, [])), (149, (.iload 8, 2, 8, 0, 0, 0, 0, 0, 0, 0, [])), (151, (.invokevirtual 157, 3, 3, 0, 0, 0, 51, 6, 0, 0, [])), (154, (.aload_n 0, 1, 0, 0, 0, 0, 0, 0, 0, 0, [])), (155, (.getfield 47, 3, 2, 0, 0, 8, 7, 0, 0, 0, [])), (158, (.aload_n 0, 1, 0, 0, 0, 0, 0, 0, 0, 0, [])), (159, (.getfield 10, 3, 2, 0, 0, 8, 0, 0, 0, 0, [])), (162, (.iload_n 2, 1, 2, 0, 0, 0, 0, 0, 0, 0, [])), (163, (.iload 4, 2, 4, 0, 0, 0, 0, 0, 0, 0, [])), (165, (.invokevirtual 105, 3, 3, 0, 0, 0, 1, 1, 0, 0, [])), (168, (.aload_n 0, 1, 0, 0, 0, 0, 0, 0, 0, 0, [])), (169, (.getfield 47, 3, 2, 0, 0, 8, 7, 0, 0, 0, [])), (172, (.iload 7, 2, 7, 0, 0, 0, 0, 0, 0, 0, [])), (174, (.invokevirtual 154, 3, 1, 0, 0, 0, 7, 1, 0, 0, [])), (177, (.istore 9, 2, 9, 0, 0, 0, 0, 0, 0, 0, [])), (179, (.aload_n 0, 1, 0, 0, 0, 0, 0, 0, 0, 0, [])), (180, (.getfield 54, 3, 2, 0, 0, 8, 8, 0, 0, 0, [])), (183, (.aload_n 0, 1, 0, 0, 0, 0, 0, 0, 0, 0, [])), (184, (.getfield 47, 3, 2, 0, 0, 8, 7, 0, 0, 0, [])), (187, (.aload_n 0, 1, 0, 0, 0, 0, 0, 0, 0, 0, [])), (188, (.getfield 22, 3, 2, 0, 0, 8, 2, 0, 0, 0, [])), (191, (.iload_n 3, 1, 3, 0, 0, 0, 0, 0, 0, 0, [])), (192, (.aaload, 1, 0, 0, 0, 0, 0, 0, 0, 0, [])), (193, (.iload 9, 2, 9, 0, 0, 0, 0, 0, 0, 0, [])), (195, (.invokevirtual 157, 3, 3, 0, 0, 0, 51, 6, 0, 0, [])), (198, (.aload_n 0, 1, 0, 0, 0, 0, 0, 0, 0, 0, [])), (199, (.getfield 54, 3, 2, 0, 0, 8, 8, 0, 0, 0, [])), (202, (.iload 8, 2, 8, 0, 0, 0, 0, 0, 0, 0, [])), (204, (.iload 9, 2, 9, 0, 0, 0, 0, 0, 0, 0, [])), (206, (.invokevirtual 164, 3, 2, 0, 0, 0, 54, 6, 0, 0, [])), (209, (.ifCond .eq 8, 3, 217, 0, 0, 0, 0, 0, 0, 0, [])), (212, (.iload 6, 2, 6, 0, 0, 0, 0, 0, 0, 0, [])), (214, (.goto 5, 3, 219, 0, 0, 0, 0, 0, 0, 0, [])), (217, (.iload 7, 2, 7, 0, 0, 0, 0, 0, 0, 0, [])), (219, (.ireturn, 1, 0, 0, 0, 0, 0, 0, 0, 0, []))]
set_option maxRecDepth 100000 in
theorem ok_X8_allied : tb_ok ctX8 m_X8_allied t_X8_allied = true := by decide +kernel
theorem i_X8_allied_0 : tab t_X8_allied 0 = some (.aload_n 0, 1, 0, 0, 0, 0, 0, 0, 0, 0, []) := rfl
theorem i_X8_allied_1 : tab t_X8_allied 1 = some (.getfield 10, 3, 2, 0, 0, 8, 0, 0, 0, 0, []) := rfl
theorem i_X8_allied_4 : tab t_X8_allied 4 = some (.getfield 68, 3, 2, 0, 0, 7, 0, 0, 0, 0, []) := rfl
theorem i_X8_allied_7 : tab t_X8_allied 7 = some (.iload_n 1, 1, 1, 0, 0, 0, 0, 0, 0, 0, []) := rfl
theorem i_X8_allied_8 : tab t_X8_allied 8 = some (.invokevirtual 72, 3, 1, 0, 0, 0, 59, 7, 0, 0, []) := rfl
theorem i_X8_allied_11 : tab t_X8_allied 11 = some (.ifCond .eq 26, 3, 37, 0, 0, 0, 0, 0, 0, 0, []) := rfl
theorem i_X8_allied_14 : tab t_X8_allied 14 = some (.aload_n 0, 1, 0, 0, 0, 0, 0, 0, 0, 0, []) := rfl
theorem i_X8_allied_15 : tab t_X8_allied 15 = some (.getfield 10, 3, 2, 0, 0, 8, 0, 0, 0, 0, []) := rfl
theorem i_X8_allied_18 : tab t_X8_allied 18 = some (.getfield 68, 3, 2, 0, 0, 7, 0, 0, 0, 0, []) := rfl
theorem i_X8_allied_21 : tab t_X8_allied 21 = some (.iload_n 2, 1, 2, 0, 0, 0, 0, 0, 0, 0, []) := rfl
theorem i_X8_allied_22 : tab t_X8_allied 22 = some (.invokevirtual 72, 3, 1, 0, 0, 0, 59, 7, 0, 0, []) := rfl
theorem i_X8_allied_25 : tab t_X8_allied 25 = some (.ifCond .eq 12, 3, 37, 0, 0, 0, 0, 0, 0, 0, []) := rfl
theorem i_X8_allied_28 : tab t_X8_allied 28 = some (.iload_n 1, 1, 1, 0, 0, 0, 0, 0, 0, 0, []) := rfl
theorem i_X8_allied_29 : tab t_X8_allied 29 = some (.iload_n 2, 1, 2, 0, 0, 0, 0, 0, 0, 0, []) := rfl
theorem i_X8_allied_30 : tab t_X8_allied 30 = some (.if_icmp .eq 7, 3, 37, 0, 0, 0, 0, 0, 0, 0, []) := rfl
theorem i_X8_allied_33 : tab t_X8_allied 33 = some (.iconst 1, 1, 0, 1, 0, 0, 0, 0, 0, 0, []) := rfl
theorem i_X8_allied_34 : tab t_X8_allied 34 = some (.goto 4, 3, 38, 0, 0, 0, 0, 0, 0, 0, []) := rfl
theorem i_X8_allied_37 : tab t_X8_allied 37 = some (.iconst 0, 1, 0, 0, 0, 0, 0, 0, 0, 0, []) := rfl
theorem i_X8_allied_38 : tab t_X8_allied 38 = some (.istore 5, 2, 5, 0, 0, 0, 0, 0, 0, 0, []) := rfl
theorem i_X8_allied_40 : tab t_X8_allied 40 = some (.iload 5, 2, 5, 0, 0, 0, 0, 0, 0, 0, []) := rfl
theorem i_X8_allied_42 : tab t_X8_allied 42 = some (.ifCond .eq 22, 3, 64, 0, 0, 0, 0, 0, 0, 0, []) := rfl
theorem i_X8_allied_45 : tab t_X8_allied 45 = some (.iload_n 3, 1, 3, 0, 0, 0, 0, 0, 0, 0, []) := rfl
theorem i_X8_allied_46 : tab t_X8_allied 46 = some (.aload_n 0, 1, 0, 0, 0, 0, 0, 0, 0, 0, []) := rfl
theorem i_X8_allied_47 : tab t_X8_allied 47 = some (.getfield 26, 3, 0, 0, 0, 8, 3, 0, 0, 0, []) := rfl
theorem i_X8_allied_50 : tab t_X8_allied 50 = some (.invokestatic 78, 3, 2, 0, 0, 0, 109, 0, 0, 0, []) := rfl
theorem i_X8_allied_53 : tab t_X8_allied 53 = some (.ifCond .eq 11, 3, 64, 0, 0, 0, 0, 0, 0, 0, []) := rfl
theorem i_X8_allied_56 : tab t_X8_allied 56 = some (.iload 4, 2, 4, 0, 0, 0, 0, 0, 0, 0, []) := rfl
theorem i_X8_allied_58 : tab t_X8_allied 58 = some (.invokestatic 96, 3, 1, 0, 0, 0, 110, 0, 0, 0, []) := rfl
theorem i_X8_allied_61 : tab t_X8_allied 61 = some (.ifCond .ne 6, 3, 67, 0, 0, 0, 0, 0, 0, 0, []) := rfl
theorem i_X8_allied_64 : tab t_X8_allied 64 = some (.bipush (-2), 2, 0, -2, 0, 0, 0, 0, 0, 0, []) := rfl
theorem i_X8_allied_66 : tab t_X8_allied 66 = some (.ireturn, 1, 0, 0, 0, 0, 0, 0, 0, 0, []) := rfl
theorem i_X8_allied_67 : tab t_X8_allied 67 = some (.aload_n 0, 1, 0, 0, 0, 0, 0, 0, 0, 0, []) := rfl
theorem i_X8_allied_68 : tab t_X8_allied 68 = some (.iload_n 1, 1, 1, 0, 0, 0, 0, 0, 0, 0, []) := rfl
theorem i_X8_allied_69 : tab t_X8_allied 69 = some (.iload 4, 2, 4, 0, 0, 0, 0, 0, 0, 0, []) := rfl
theorem i_X8_allied_71 : tab t_X8_allied 71 = some (.invokevirtual 138, 3, 2, 0, 0, 0, 117, 9, 0, 0, []) := rfl
theorem i_X8_allied_74 : tab t_X8_allied 74 = some (.istore 6, 2, 6, 0, 0, 0, 0, 0, 0, 0, []) := rfl
theorem i_X8_allied_76 : tab t_X8_allied 76 = some (.aload_n 0, 1, 0, 0, 0, 0, 0, 0, 0, 0, []) := rfl
theorem i_X8_allied_77 : tab t_X8_allied 77 = some (.iload_n 2, 1, 2, 0, 0, 0, 0, 0, 0, 0, []) := rfl
theorem i_X8_allied_78 : tab t_X8_allied 78 = some (.iload 4, 2, 4, 0, 0, 0, 0, 0, 0, 0, []) := rfl
theorem i_X8_allied_80 : tab t_X8_allied 80 = some (.invokevirtual 138, 3, 2, 0, 0, 0, 117, 9, 0, 0, []) := rfl
theorem i_X8_allied_83 : tab t_X8_allied 83 = some (.istore 7, 2, 7, 0, 0, 0, 0, 0, 0, 0, []) := rfl
theorem i_X8_allied_85 : tab t_X8_allied 85 = some (.iload 6, 2, 6, 0, 0, 0, 0, 0, 0, 0, []) := rfl
theorem i_X8_allied_87 : tab t_X8_allied 87 = some (.iconst (-1), 1, 0, -1, 0, 0, 0, 0, 0, 0, []) := rfl
theorem i_X8_allied_88 : tab t_X8_allied 88 = some (.if_icmp .eq 10, 3, 98, 0, 0, 0, 0, 0, 0, 0, []) := rfl
theorem i_X8_allied_91 : tab t_X8_allied 91 = some (.iload 6, 2, 6, 0, 0, 0, 0, 0, 0, 0, []) := rfl
theorem i_X8_allied_93 : tab t_X8_allied 93 = some (.iload 7, 2, 7, 0, 0, 0, 0, 0, 0, 0, []) := rfl
theorem i_X8_allied_95 : tab t_X8_allied 95 = some (.if_icmp .ne 6, 3, 101, 0, 0, 0, 0, 0, 0, 0, []) := rfl
theorem i_X8_allied_98 : tab t_X8_allied 98 = some (.iload 7, 2, 7, 0, 0, 0, 0, 0, 0, 0, []) := rfl
theorem i_X8_allied_100 : tab t_X8_allied 100 = some (.ireturn, 1, 0, 0, 0, 0, 0, 0, 0, 0, []) := rfl
theorem i_X8_allied_101 : tab t_X8_allied 101 = some (.iload 7, 2, 7, 0, 0, 0, 0, 0, 0, 0, []) := rfl
theorem i_X8_allied_103 : tab t_X8_allied 103 = some (.iconst (-1), 1, 0, -1, 0, 0, 0, 0, 0, 0, []) := rfl
theorem i_X8_allied_104 : tab t_X8_allied 104 = some (.if_icmp .ne 6, 3, 110, 0, 0, 0, 0, 0, 0, 0, []) := rfl
theorem i_X8_allied_107 : tab t_X8_allied 107 = some (.iload 6, 2, 6, 0, 0, 0, 0, 0, 0, 0, []) := rfl
theorem i_X8_allied_109 : tab t_X8_allied 109 = some (.ireturn, 1, 0, 0, 0, 0, 0, 0, 0, 0, []) := rfl
theorem i_X8_allied_110 : tab t_X8_allied 110 = some (.aload_n 0, 1, 0, 0, 0, 0, 0, 0, 0, 0, []) := rfl
theorem i_X8_allied_111 : tab t_X8_allied 111 = some (.getfield 47, 3, 2, 0, 0, 8, 7, 0, 0, 0, []) := rfl
theorem i_X8_allied_114 : tab t_X8_allied 114 = some (.aload_n 0, 1, 0, 0, 0, 0, 0, 0, 0, 0, []) := rfl
theorem i_X8_allied_115 : tab t_X8_allied 115 = some (.getfield 10, 3, 2, 0, 0, 8, 0, 0, 0, 0, []) := rfl
theorem i_X8_allied_118 : tab t_X8_allied 118 = some (.iload_n 1, 1, 1, 0, 0, 0, 0, 0, 0, 0, []) := rfl
theorem i_X8_allied_119 : tab t_X8_allied 119 = some (.iload 4, 2, 4, 0, 0, 0, 0, 0, 0, 0, []) := rfl
theorem i_X8_allied_121 : tab t_X8_allied 121 = some (.invokevirtual 105, 3, 3, 0, 0, 0, 1, 1, 0, 0, []) := rfl
theorem i_X8_allied_124 : tab t_X8_allied 124 = some (.aload_n 0, 1, 0, 0, 0, 0, 0, 0, 0, 0, []) := rfl
theorem i_X8_allied_125 : tab t_X8_allied 125 = some (.getfield 47, 3, 2, 0, 0, 8, 7, 0, 0, 0, []) := rfl
theorem i_X8_allied_128 : tab t_X8_allied 128 = some (.iload 6, 2, 6, 0, 0, 0, 0, 0, 0, 0, []) := rfl
theorem i_X8_allied_130 : tab t_X8_allied 130 = some (.invokevirtual 154, 3, 1, 0, 0, 0, 7, 1, 0, 0, []) := rfl
theorem i_X8_allied_133 : tab t_X8_allied 133 = some (.istore 8, 2, 8, 0, 0, 0, 0, 0, 0, 0, []) := rfl
theorem i_X8_allied_135 : tab t_X8_allied 135 = some (.aload_n 0, 1, 0, 0, 0, 0, 0, 0, 0, 0, []) := rfl
theorem i_X8_allied_136 : tab t_X8_allied 136 = some (.getfield 54, 3, 2, 0, 0, 8, 8, 0, 0, 0, []) := rfl
theorem i_X8_allied_139 : tab t_X8_allied 139 = some (.aload_n 0, 1, 0, 0, 0, 0, 0, 0, 0, 0, []) := rfl
theorem i_X8_allied_140 : tab t_X8_allied 140 = some (.getfield 47, 3, 2, 0, 0, 8, 7, 0, 0, 0, []) := rfl
theorem i_X8_allied_143 : tab t_X8_allied 143 = some (.aload_n 0, 1, 0, 0, 0, 0, 0, 0, 0, 0, []) := rfl
theorem i_X8_allied_144 : tab t_X8_allied 144 = some (.getfield 22, 3, 2, 0, 0, 8, 2, 0, 0, 0, []) := rfl
theorem i_X8_allied_147 : tab t_X8_allied 147 = some (.iload_n 3, 1, 3, 0, 0, 0, 0, 0, 0, 0, []) := rfl
theorem i_X8_allied_148 : tab t_X8_allied 148 = some (.aaload, 1, 0, 0, 0, 0, 0, 0, 0, 0, []) := rfl
theorem i_X8_allied_149 : tab t_X8_allied 149 = some (.iload 8, 2, 8, 0, 0, 0, 0, 0, 0, 0, []) := rfl
theorem i_X8_allied_151 : tab t_X8_allied 151 = some (.invokevirtual 157, 3, 3, 0, 0, 0, 51, 6, 0, 0, []) := rfl
theorem i_X8_allied_154 : tab t_X8_allied 154 = some (.aload_n 0, 1, 0, 0, 0, 0, 0, 0, 0, 0, []) := rfl
theorem i_X8_allied_155 : tab t_X8_allied 155 = some (.getfield 47, 3, 2, 0, 0, 8, 7, 0, 0, 0, []) := rfl
theorem i_X8_allied_158 : tab t_X8_allied 158 = some (.aload_n 0, 1, 0, 0, 0, 0, 0, 0, 0, 0, []) := rfl
theorem i_X8_allied_159 : tab t_X8_allied 159 = some (.getfield 10, 3, 2, 0, 0, 8, 0, 0, 0, 0, []) := rfl
theorem i_X8_allied_162 : tab t_X8_allied 162 = some (.iload_n 2, 1, 2, 0, 0, 0, 0, 0, 0, 0, []) := rfl
theorem i_X8_allied_163 : tab t_X8_allied 163 = some (.iload 4, 2, 4, 0, 0, 0, 0, 0, 0, 0, []) := rfl
theorem i_X8_allied_165 : tab t_X8_allied 165 = some (.invokevirtual 105, 3, 3, 0, 0, 0, 1, 1, 0, 0, []) := rfl
theorem i_X8_allied_168 : tab t_X8_allied 168 = some (.aload_n 0, 1, 0, 0, 0, 0, 0, 0, 0, 0, []) := rfl
theorem i_X8_allied_169 : tab t_X8_allied 169 = some (.getfield 47, 3, 2, 0, 0, 8, 7, 0, 0, 0, []) := rfl
theorem i_X8_allied_172 : tab t_X8_allied 172 = some (.iload 7, 2, 7, 0, 0, 0, 0, 0, 0, 0, []) := rfl
theorem i_X8_allied_174 : tab t_X8_allied 174 = some (.invokevirtual 154, 3, 1, 0, 0, 0, 7, 1, 0, 0, []) := rfl
theorem i_X8_allied_177 : tab t_X8_allied 177 = some (.istore 9, 2, 9, 0, 0, 0, 0, 0, 0, 0, []) := rfl
theorem i_X8_allied_179 : tab t_X8_allied 179 = some (.aload_n 0, 1, 0, 0, 0, 0, 0, 0, 0, 0, []) := rfl
theorem i_X8_allied_180 : tab t_X8_allied 180 = some (.getfield 54, 3, 2, 0, 0, 8, 8, 0, 0, 0, []) := rfl
theorem i_X8_allied_183 : tab t_X8_allied 183 = some (.aload_n 0, 1, 0, 0, 0, 0, 0, 0, 0, 0, []) := rfl
theorem i_X8_allied_184 : tab t_X8_allied 184 = some (.getfield 47, 3, 2, 0, 0, 8, 7, 0, 0, 0, []) := rfl
theorem i_X8_allied_187 : tab t_X8_allied 187 = some (.aload_n 0, 1, 0, 0, 0, 0, 0, 0, 0, 0, []) := rfl
theorem i_X8_allied_188 : tab t_X8_allied 188 = some (.getfield 22, 3, 2, 0, 0, 8, 2, 0, 0, 0, []) := rfl
theorem i_X8_allied_191 : tab t_X8_allied 191 = some (.iload_n 3, 1, 3, 0, 0, 0, 0, 0, 0, 0, []) := rfl
theorem i_X8_allied_192 : tab t_X8_allied 192 = some (.aaload, 1, 0, 0, 0, 0, 0, 0, 0, 0, []) := rfl
theorem i_X8_allied_193 : tab t_X8_allied 193 = some (.iload 9, 2, 9, 0, 0, 0, 0, 0, 0, 0, []) := rfl
theorem i_X8_allied_195 : tab t_X8_allied 195 = some (.invokevirtual 157, 3, 3, 0, 0, 0, 51, 6, 0, 0, []) := rfl
theorem i_X8_allied_198 : tab t_X8_allied 198 = some (.aload_n 0, 1, 0, 0, 0, 0, 0, 0, 0, 0, []) := rfl
theorem i_X8_allied_199 : tab t_X8_allied 199 = some (.getfield 54, 3, 2, 0, 0, 8, 8, 0, 0, 0, []) := rfl
theorem i_X8_allied_202 : tab t_X8_allied 202 = some (.iload 8, 2, 8, 0, 0, 0, 0, 0, 0, 0, []) := rfl
theorem i_X8_allied_204 : tab t_X8_allied 204 = some (.iload 9, 2, 9, 0, 0, 0, 0, 0, 0, 0, []) := rfl
theorem i_X8_allied_206 : tab t_X8_allied 206 = some (.invokevirtual 164, 3, 2, 0, 0, 0, 54, 6, 0, 0, []) := rfl
theorem i_X8_allied_209 : tab t_X8_allied 209 = some (.ifCond .eq 8, 3, 217, 0, 0, 0, 0, 0, 0, 0, []) := rfl
theorem i_X8_allied_212 : tab t_X8_allied 212 = some (.iload 6, 2, 6, 0, 0, 0, 0, 0, 0, 0, []) := rfl
theorem i_X8_allied_214 : tab t_X8_allied 214 = some (.goto 5, 3, 219, 0, 0, 0, 0, 0, 0, 0, []) := rfl
theorem i_X8_allied_217 : tab t_X8_allied 217 = some (.iload 7, 2, 7, 0, 0, 0, 0, 0, 0, 0, []) := rfl
theorem i_X8_allied_219 : tab t_X8_allied 219 = some (.ireturn, 1, 0, 0, 0, 0, 0, 0, 0, 0, []) := rfl
def t_X8_mended : List (Nat × rw_) := [(0, (.aload_n 0, 1, 0, 0, 0, 0, 0, 0, 0, 0, [])), (1, (.iload_n 1, 1, 1, 0, 0, 0, 0, 0, 0, 0, [])), (2, (.iload_n 2, 1, 2, 0, 0, 0, 0, 0, 0, 0, [])), (3, (.invokevirtual 102, 3, 2, 0, 0, 0, 114, 9, 0, 0, [])), (6, (.ifCond .eq 11, 3, 17, 0, 0, 0, 0, 0, 0, 0, [])), (9, (.iload_n 3, 1, 3, 0, 0, 0, 0, 0, 0, 0, [])), (10, (.iconst 2, 1, 0, 2, 0, 0, 0, 0, 0, 0, [])), (11, (.invokestatic 78, 3, 2, 0, 0, 0, 109, 0, 0, 0, [])), (14, (.ifCond .ne 6, 3, 20, 0, 0, 0, 0, 0, 0, 0, [])), (17, (.bipush (-2), 2, 0, -2, 0, 0, 0, 0, 0, 0, [])), (19, (.ireturn, 1, 0, 0, 0, 0, 0, 0, 0, 0, [])), (20, (.aload_n 0, 1, 0, 0, 0, 0, 0, 0, 0, 0, [])), (21, (.getfield 47, 3, 2, 0, 0, 8, 7, 0, 0, 0, [])), (24, (.aload_n 0, 1, 0, 0, 0, 0, 0, 0, 0, 0, [])), (25, (.getfield 10, 3, 2, 0, 0, 8, 0, 0, 0, 0, [])), (28, (.iload_n 1, 1, 1, 0, 0, 0, 0, 0, 0, 0, [])), (29, (.iload_n 2, 1, 2, 0, 0, 0, 0, 0, 0, 0, [])), (30, (.invokevirtual 105, 3, 3, 0, 0, 0, 1, 1, 0, 0, [])), (33, (.aload_n 0, 1, 0, 0, 0, 0, 0, 0, 0, 0, [])), (34, (.iload_n 1, 1, 1, 0, 0, 0, 0, 0, 0, 0, [])), (35, (.iload_n 2, 1, 2, 0, 0, 0, 0, 0, 0, 0, [])), (36, (.iconst (-1), 1, 0, -1, 0, 0, 0, 0, 0, 0, [])), (37, (.invokevirtual 185, 3, 3, 0, 0, 0, 118, 9, 0, 0, [])), (40, (.iconst (-1), 1, 0, -1, 0, 0, 0, 0, 0, 0, [])), (41, (.istore 4, 2, 4, 0, 0, 0, 0, 0, 0, 0, [])), (43, (.iconst 0, 1, 0, 0, 0, 0, 0, 0, 0, 0, [])), (44, (.istore 5, 2, 5, 0, 0, 0, 0, 0, 0, 0, [])), (46, (.iconst 0, 1, 0, 0, 0, 0, 0, 0, 0, 0, [])), (47, (.istore 6, 2, 6, 0, 0, 0, 0, 0, 0, 0, [])), (49, (.iload 6, 2, 6, 0, 0, 0, 0, 0, 0, 0, [])), (51, (.aload_n 0, 1, 0, 0, 0, 0, 0, 0, 0, 0, [])), (52, (.getfield 26, 3, 0, 0, 0, 8, 3, 0, 0, 0, [])), (55, (.if_icmp .ge 58, 3, 113, 0, 0, 0, 0, 0, 0, 0, [])), (58, (.aload_n 0, 1, 0, 0, 0, 0, 0, 0, 0, 0, [])), (59, (.getfield 54, 3, 2, 0, 0, 8, 8, 0, 0, 0, [])), (62, (.aload_n 0, 1, 0, 0, 0, 0, 0, 0, 0, 0, [])), (63, (.getfield 47, 3, 2, 0, 0, 8, 7, 0, 0, 0, [])), (66, (.aload_n 0, 1, 0, 0, 0, 0, 0, 0, 0, 0, [])), (67, (.getfield 22, 3, 2, 0, 0, 8, 2, 0, 0, 0, [])), (70, (.iload 6, 2, 6, 0, 0, 0, 0, 0, 0, 0, [])), (72, (.aaload, 1, 0, 0, 0, 0, 0, 0, 0, 0, [])), (73, (.invokevirtual 254, 3, 2, 0, 0, 0, 50, 6, 0, 0, [])), (76, (.aload_n 0, 1, 0, 0, 0, 0, 0, 0, 0, 0, [])), (77, (.aload_n 0, 1, 0, 0, 0, 0, 0, 0, 0, 0, [])), (78, (.invokevirtual 230, 3, 0, 0, 0, 0, 121, 9, 0, 0, [])), (81, (.invokevirtual 233, 3, 1, 0, 0, 0, 120, 9, 0, 0, [])), (84, (.istore 7, 2, 7, 0, 0, 0, 0, 0, 0, 0, [])), (86, (.iload 4, 2, 4, 0, 0, 0, 0, 0, 0, 0, [])), (88, (.iconst (-1), 1, 0, -1, 0, 0, 0, 0, 0, 0, [])), (89, (.if_icmp .eq 10, 3, 99, 0, 0, 0, 0, 0, 0, 0, [])), (92, (.iload 7, 2, 7, 0, 0, 0, 0, 0, 0, 0, [])), (94, (.iload 5, 2, 5, 0, 0, 0, 0, 0, 0, 0, [])), (96, (.if_icmp .ge 11, 3, 107, 0, 0, 0, 0, 0, 0, 0, [])), (99, (.iload 6, 2, 6, 0, 0, 0, 0, 0, 0, 0, [])), (101, (.istore 4, 2, 4, 0, 0, 0, 0, 0, 0, 0, [])), (103, (.iload 7, 2, 7, 0, 0, 0, 0, 0, 0, 0, [])), (105, (.istore 5, 2, 5, 0, 0, 0, 0, 0, 0, 0, [])), (107, (.iinc 6 1, 3, 6, 1, 0, 0, 0, 0, 0, 0, [])), (110, (.goto (-61), 3, 49, 0, 0, 0, 0, 0, 0, 0, [])), (113, (.iload_n 3, 1, 3, 0, 0, 0, 0, 0, 0, 0, [])), (114, (.ifCond .ne 8, 3, 122, 0, 0, 0, 0, 0, 0, 0, [])), (117, (.iload 4, 2, 4, 0, 0, 0, 0, 0, 0, 0, [])), (119, (.goto 5, 3, 124, 0, 0, 0, 0, 0, 0, 0, [])), (122, (.iload 5, 2, 5, 0, 0, 0, 0, 0, 0, 0, [])), (124, (.ireturn, 1, 0, 0, 0, 0, 0, 0, 0, 0, []))]
set_option maxRecDepth 100000 in
theorem ok_X8_mended : tb_ok ctX8 m_X8_mended t_X8_mended = true := by decide +kernel
theorem i_X8_mended_0 : tab t_X8_mended 0 = some (.aload_n 0, 1, 0, 0, 0, 0, 0, 0, 0, 0, []) := rfl
theorem i_X8_mended_1 : tab t_X8_mended 1 = some (.iload_n 1, 1, 1, 0, 0, 0, 0, 0, 0, 0, []) := rfl
theorem i_X8_mended_2 : tab t_X8_mended 2 = some (.iload_n 2, 1, 2, 0, 0, 0, 0, 0, 0, 0, []) := rfl
theorem i_X8_mended_3 : tab t_X8_mended 3 = some (.invokevirtual 102, 3, 2, 0, 0, 0, 114, 9, 0, 0, []) := rfl
theorem i_X8_mended_6 : tab t_X8_mended 6 = some (.ifCond .eq 11, 3, 17, 0, 0, 0, 0, 0, 0, 0, []) := rfl
theorem i_X8_mended_9 : tab t_X8_mended 9 = some (.iload_n 3, 1, 3, 0, 0, 0, 0, 0, 0, 0, []) := rfl
theorem i_X8_mended_10 : tab t_X8_mended 10 = some (.iconst 2, 1, 0, 2, 0, 0, 0, 0, 0, 0, []) := rfl
theorem i_X8_mended_11 : tab t_X8_mended 11 = some (.invokestatic 78, 3, 2, 0, 0, 0, 109, 0, 0, 0, []) := rfl
theorem i_X8_mended_14 : tab t_X8_mended 14 = some (.ifCond .ne 6, 3, 20, 0, 0, 0, 0, 0, 0, 0, []) := rfl
theorem i_X8_mended_17 : tab t_X8_mended 17 = some (.bipush (-2), 2, 0, -2, 0, 0, 0, 0, 0, 0, []) := rfl
theorem i_X8_mended_19 : tab t_X8_mended 19 = some (.ireturn, 1, 0, 0, 0, 0, 0, 0, 0, 0, []) := rfl
theorem i_X8_mended_20 : tab t_X8_mended 20 = some (.aload_n 0, 1, 0, 0, 0, 0, 0, 0, 0, 0, []) := rfl
theorem i_X8_mended_21 : tab t_X8_mended 21 = some (.getfield 47, 3, 2, 0, 0, 8, 7, 0, 0, 0, []) := rfl
theorem i_X8_mended_24 : tab t_X8_mended 24 = some (.aload_n 0, 1, 0, 0, 0, 0, 0, 0, 0, 0, []) := rfl
theorem i_X8_mended_25 : tab t_X8_mended 25 = some (.getfield 10, 3, 2, 0, 0, 8, 0, 0, 0, 0, []) := rfl
theorem i_X8_mended_28 : tab t_X8_mended 28 = some (.iload_n 1, 1, 1, 0, 0, 0, 0, 0, 0, 0, []) := rfl
theorem i_X8_mended_29 : tab t_X8_mended 29 = some (.iload_n 2, 1, 2, 0, 0, 0, 0, 0, 0, 0, []) := rfl
theorem i_X8_mended_30 : tab t_X8_mended 30 = some (.invokevirtual 105, 3, 3, 0, 0, 0, 1, 1, 0, 0, []) := rfl
theorem i_X8_mended_33 : tab t_X8_mended 33 = some (.aload_n 0, 1, 0, 0, 0, 0, 0, 0, 0, 0, []) := rfl
theorem i_X8_mended_34 : tab t_X8_mended 34 = some (.iload_n 1, 1, 1, 0, 0, 0, 0, 0, 0, 0, []) := rfl
theorem i_X8_mended_35 : tab t_X8_mended 35 = some (.iload_n 2, 1, 2, 0, 0, 0, 0, 0, 0, 0, []) := rfl
theorem i_X8_mended_36 : tab t_X8_mended 36 = some (.iconst (-1), 1, 0, -1, 0, 0, 0, 0, 0, 0, []) := rfl
theorem i_X8_mended_37 : tab t_X8_mended 37 = some (.invokevirtual 185, 3, 3, 0, 0, 0, 118, 9, 0, 0, []) := rfl
theorem i_X8_mended_40 : tab t_X8_mended 40 = some (.iconst (-1), 1, 0, -1, 0, 0, 0, 0, 0, 0, []) := rfl
theorem i_X8_mended_41 : tab t_X8_mended 41 = some (.istore 4, 2, 4, 0, 0, 0, 0, 0, 0, 0, []) := rfl
theorem i_X8_mended_43 : tab t_X8_mended 43 = some (.iconst 0, 1, 0, 0, 0, 0, 0, 0, 0, 0, []) := rfl
theorem i_X8_mended_44 : tab t_X8_mended 44 = some (.istore 5, 2, 5, 0, 0, 0, 0, 0, 0, 0, []) := rfl
theorem i_X8_mended_46 : tab t_X8_mended 46 = some (.iconst 0, 1, 0, 0, 0, 0, 0, 0, 0, 0, []) := rfl
theorem i_X8_mended_47 : tab t_X8_mended 47 = some (.istore 6, 2, 6, 0, 0, 0, 0, 0, 0, 0, []) := rfl
theorem i_X8_mended_49 : tab t_X8_mended 49 = some (.iload 6, 2, 6, 0, 0, 0, 0, 0, 0, 0, []) := rfl
theorem i_X8_mended_51 : tab t_X8_mended 51 = some (.aload_n 0, 1, 0, 0, 0, 0, 0, 0, 0, 0, []) := rfl
theorem i_X8_mended_52 : tab t_X8_mended 52 = some (.getfield 26, 3, 0, 0, 0, 8, 3, 0, 0, 0, []) := rfl
theorem i_X8_mended_55 : tab t_X8_mended 55 = some (.if_icmp .ge 58, 3, 113, 0, 0, 0, 0, 0, 0, 0, []) := rfl
theorem i_X8_mended_58 : tab t_X8_mended 58 = some (.aload_n 0, 1, 0, 0, 0, 0, 0, 0, 0, 0, []) := rfl
theorem i_X8_mended_59 : tab t_X8_mended 59 = some (.getfield 54, 3, 2, 0, 0, 8, 8, 0, 0, 0, []) := rfl
theorem i_X8_mended_62 : tab t_X8_mended 62 = some (.aload_n 0, 1, 0, 0, 0, 0, 0, 0, 0, 0, []) := rfl
theorem i_X8_mended_63 : tab t_X8_mended 63 = some (.getfield 47, 3, 2, 0, 0, 8, 7, 0, 0, 0, []) := rfl
theorem i_X8_mended_66 : tab t_X8_mended 66 = some (.aload_n 0, 1, 0, 0, 0, 0, 0, 0, 0, 0, []) := rfl
theorem i_X8_mended_67 : tab t_X8_mended 67 = some (.getfield 22, 3, 2, 0, 0, 8, 2, 0, 0, 0, []) := rfl
theorem i_X8_mended_70 : tab t_X8_mended 70 = some (.iload 6, 2, 6, 0, 0, 0, 0, 0, 0, 0, []) := rfl
theorem i_X8_mended_72 : tab t_X8_mended 72 = some (.aaload, 1, 0, 0, 0, 0, 0, 0, 0, 0, []) := rfl
theorem i_X8_mended_73 : tab t_X8_mended 73 = some (.invokevirtual 254, 3, 2, 0, 0, 0, 50, 6, 0, 0, []) := rfl
theorem i_X8_mended_76 : tab t_X8_mended 76 = some (.aload_n 0, 1, 0, 0, 0, 0, 0, 0, 0, 0, []) := rfl
theorem i_X8_mended_77 : tab t_X8_mended 77 = some (.aload_n 0, 1, 0, 0, 0, 0, 0, 0, 0, 0, []) := rfl
theorem i_X8_mended_78 : tab t_X8_mended 78 = some (.invokevirtual 230, 3, 0, 0, 0, 0, 121, 9, 0, 0, []) := rfl
theorem i_X8_mended_81 : tab t_X8_mended 81 = some (.invokevirtual 233, 3, 1, 0, 0, 0, 120, 9, 0, 0, []) := rfl
theorem i_X8_mended_84 : tab t_X8_mended 84 = some (.istore 7, 2, 7, 0, 0, 0, 0, 0, 0, 0, []) := rfl
theorem i_X8_mended_86 : tab t_X8_mended 86 = some (.iload 4, 2, 4, 0, 0, 0, 0, 0, 0, 0, []) := rfl
theorem i_X8_mended_88 : tab t_X8_mended 88 = some (.iconst (-1), 1, 0, -1, 0, 0, 0, 0, 0, 0, []) := rfl
theorem i_X8_mended_89 : tab t_X8_mended 89 = some (.if_icmp .eq 10, 3, 99, 0, 0, 0, 0, 0, 0, 0, []) := rfl
theorem i_X8_mended_92 : tab t_X8_mended 92 = some (.iload 7, 2, 7, 0, 0, 0, 0, 0, 0, 0, []) := rfl
theorem i_X8_mended_94 : tab t_X8_mended 94 = some (.iload 5, 2, 5, 0, 0, 0, 0, 0, 0, 0, []) := rfl
theorem i_X8_mended_96 : tab t_X8_mended 96 = some (.if_icmp .ge 11, 3, 107, 0, 0, 0, 0, 0, 0, 0, []) := rfl
theorem i_X8_mended_99 : tab t_X8_mended 99 = some (.iload 6, 2, 6, 0, 0, 0, 0, 0, 0, 0, []) := rfl
theorem i_X8_mended_101 : tab t_X8_mended 101 = some (.istore 4, 2, 4, 0, 0, 0, 0, 0, 0, 0, []) := rfl
theorem i_X8_mended_103 : tab t_X8_mended 103 = some (.iload 7, 2, 7, 0, 0, 0, 0, 0, 0, 0, []) := rfl
theorem i_X8_mended_105 : tab t_X8_mended 105 = some (.istore 5, 2, 5, 0, 0, 0, 0, 0, 0, 0, []) := rfl
theorem i_X8_mended_107 : tab t_X8_mended 107 = some (.iinc 6 1, 3, 6, 1, 0, 0, 0, 0, 0, 0, []) := rfl
theorem i_X8_mended_110 : tab t_X8_mended 110 = some (.goto (-61), 3, 49, 0, 0, 0, 0, 0, 0, 0, []) := rfl
theorem i_X8_mended_113 : tab t_X8_mended 113 = some (.iload_n 3, 1, 3, 0, 0, 0, 0, 0, 0, 0, []) := rfl
theorem i_X8_mended_114 : tab t_X8_mended 114 = some (.ifCond .ne 8, 3, 122, 0, 0, 0, 0, 0, 0, 0, []) := rfl
theorem i_X8_mended_117 : tab t_X8_mended 117 = some (.iload 4, 2, 4, 0, 0, 0, 0, 0, 0, 0, []) := rfl
theorem i_X8_mended_119 : tab t_X8_mended 119 = some (.goto 5, 3, 124, 0, 0, 0, 0, 0, 0, 0, []) := rfl
theorem i_X8_mended_122 : tab t_X8_mended 122 = some (.iload 5, 2, 5, 0, 0, 0, 0, 0, 0, 0, []) := rfl
theorem i_X8_mended_124 : tab t_X8_mended 124 = some (.ireturn, 1, 0, 0, 0, 0, 0, 0, 0, 0, []) := rfl
def t_X8_judge : List (Nat × rw_) := [(0, (.iload 4, 2, 4, 0, 0, 0, 0, 0, 0, 0, [])), (2, (.iconst (-1), 1, 0, -1, 0, 0, 0, 0, 0, 0, [])), (3, (.if_icmp .eq 18, 3, 21, 0, 0, 0, 0, 0, 0, 0, [])), (6, (.aload_n 0, 1, 0, 0, 0, 0, 0, 0, 0, 0, [])), (7, (.getfield 10, 3, 2, 0, 0, 8, 0, 0, 0, 0, [])), (10, (.getfield 93, 3, 2, 0, 0, 7, 1, 0, 0, 0, [])), (13, (.iload 4, 2, 4, 0, 0, 0, 0, 0, 0, 0, [])), (15, (.invokevirtual 72, 3, 1, 0, 0, 0, 59, 7, 0, 0, [])), (18, (.ifCond .eq 7, 3, 25, 0, 0, 0, 0, 0, 0, 0, [])), (21, (.iconst 1, 1, 0, 1, 0, 0, 0, 0, 0, 0, [])), (22, (.goto 4, 3, 26, 0, 0, 0, 0, 0, 0, 0, [])), (25, (.iconst 0, 1, 0, 0, 0, 0, 0, 0, 0, 0, [])), (26, (.istore 5, 2, 5, 0, 0, 0, 0, 0, 0, 0, [])), (28, (.aload_n 0, 1, 0, 0, 0, 0, 0, 0, 0, 0, [])), (29, (.getfield 10, 3, 2, 0, 0, 8, 0, 0, 0, 0, [])), (32, (.getfield 68, 3, 2, 0, 0, 7, 0, 0, 0, 0, [])), (35, (.iload_n 1, 1, 1, 0, 0, 0, 0, 0, 0, 0, [])), (36, (.invokevirtual 72, 3, 1, 0, 0, 0, 59, 7, 0, 0, [])), (39, (.ifCond .eq 16, 3, 55, 0, 0, 0, 0, 0, 0, 0, [])), (42, (.iload_n 2, 1, 2, 0, 0, 0, 0, 0, 0, 0, [])), (43, (.iload_n 3, 1, 3, 0, 0, 0, 0, 0, 0, 0, [])), (44, (.invokestatic 222, 3, 2, 0, 0, 0, 113, 0, 0, 0, [])), (47, (.ifCond .eq 8, 3, 55, 0, 0, 0, 0, 0, 0, 0, [])), (50, (.iload 5, 2, 5, 0, 0, 0, 0, 0, 0, 0, [])), (52, (.ifCond .ne 6, 3, 58, 0, 0, 0, 0, 0, 0, 0, [])), (55, (.bipush (-2), 2, 0, -2, 0, 0, 0, 0, 0, 0, [])), (57, (.ireturn, 1, 0, 0, 0, 0, 0, 0, 0, 0, [])), (58, (.iload_n 2, 1, 2, 0, 0, 0, 0, 0, 0, 0, [])), (59, (.istore 6, 2, 6, 0, 0, 0, 0, 0, 0, 0, [])), (61, (.iload 6, 2, 6, 0, 0, 0, 0, 0, 0, 0, [])), (63, (.iload_n 3, 1, 3, 0, 0, 0, 0, 0, 0, 0, [])), (64, (.if_icmp .gt 24, 3, 88, 0, 0, 0, 0, 0, 0, 0, [])), (67, (.aload_n 0, 1, 0, 0, 0, 0, 0, 0, 0, 0, [])), (68, (.iload_n 1, 1, 1, 0, 0, 0, 0, 0, 0, 0, [])), (69, (.iload 6, 2, 6, 0, 0, 0, 0, 0, 0, 0, [])), (71, (.invokevirtual 138, 3, 2, 0, 0, 0, 117, 9, 0, 0, [])), (74, (.iload 4, 2, 4, 0, 0, 0, 0, 0, 0, 0, [])), (76, (.if_icmp .eq 6, 3, 82, 0, 0, 0, 0, 0, 0, 0, [])), (79, (.iload 6, 2, 6, 0, 0, 0, 0, 0, 0, 0, [])), (81, (.ireturn, 1, 0, 0, 0, 0, 0, 0, 0, 0, [])), (82, (.iinc 6 1, 3, 6, 1, 0, 0, 0, 0, 0, 0, [])), (85, (.goto (-24), 3, 61, 0, 0, 0, 0, 0, 0, 0, [])), (88, (.iconst (-1), 1, 0, -1, 0, 0, 0, 0, 0, 0, [])), (89, (.ireturn, 1, 0, 0, 0, 0, 0, 0, 0, 0, []))]
set_option maxRecDepth 100000 in
theorem ok_X8_judge : tb_ok ctX8 m_X8_judge t_X8_judge = true := by decide +kernel
theorem i_X8_judge_0 : tab t_X8_judge 0 = some (.iload 4, 2, 4, 0, 0, 0, 0, 0, 0, 0, []) := rfl
theorem i_X8_judge_2 : tab t_X8_judge 2 = some (.iconst (-1), 1, 0, -1, 0, 0, 0, 0, 0, 0, []) := rfl
theorem i_X8_judge_3 : tab t_X8_judge 3 = some (.if_icmp .eq 18, 3, 21, 0, 0, 0, 0, 0, 0, 0, []) := rfl
theorem i_X8_judge_6 : tab t_X8_judge 6 = some (.aload_n 0, 1, 0, 0, 0, 0, 0, 0, 0, 0, []) := rfl
theorem i_X8_judge_7 : tab t_X8_judge 7 = some (.getfield 10, 3, 2, 0, 0, 8, 0, 0, 0, 0, []) := rfl
theorem i_X8_judge_10 : tab t_X8_judge 10 = some (.getfield 93, 3, 2, 0, 0, 7, 1, 0, 0, 0, []) := rfl
theorem i_X8_judge_13 : tab t_X8_judge 13 = some (.iload 4, 2, 4, 0, 0, 0, 0, 0, 0, 0, []) := rfl
theorem i_X8_judge_15 : tab t_X8_judge 15 = some (.invokevirtual 72, 3, 1, 0, 0, 0, 59, 7, 0, 0, []) := rfl
theorem i_X8_judge_18 : tab t_X8_judge 18 = some (.ifCond .eq 7, 3, 25, 0, 0, 0, 0, 0, 0, 0, []) := rfl
theorem i_X8_judge_21 : tab t_X8_judge 21 = some (.iconst 1, 1, 0, 1, 0, 0, 0, 0, 0, 0, []) := rfl
theorem i_X8_judge_22 : tab t_X8_judge 22 = some (.goto 4, 3, 26, 0, 0, 0, 0, 0, 0, 0, []) := rfl
theorem i_X8_judge_25 : tab t_X8_judge 25 = some (.iconst 0, 1, 0, 0, 0, 0, 0, 0, 0, 0, []) := rfl
theorem i_X8_judge_26 : tab t_X8_judge 26 = some (.istore 5, 2, 5, 0, 0, 0, 0, 0, 0, 0, []) := rfl
theorem i_X8_judge_28 : tab t_X8_judge 28 = some (.aload_n 0, 1, 0, 0, 0, 0, 0, 0, 0, 0, []) := rfl
theorem i_X8_judge_29 : tab t_X8_judge 29 = some (.getfield 10, 3, 2, 0, 0, 8, 0, 0, 0, 0, []) := rfl
theorem i_X8_judge_32 : tab t_X8_judge 32 = some (.getfield 68, 3, 2, 0, 0, 7, 0, 0, 0, 0, []) := rfl
theorem i_X8_judge_35 : tab t_X8_judge 35 = some (.iload_n 1, 1, 1, 0, 0, 0, 0, 0, 0, 0, []) := rfl
theorem i_X8_judge_36 : tab t_X8_judge 36 = some (.invokevirtual 72, 3, 1, 0, 0, 0, 59, 7, 0, 0, []) := rfl
theorem i_X8_judge_39 : tab t_X8_judge 39 = some (.ifCond .eq 16, 3, 55, 0, 0, 0, 0, 0, 0, 0, []) := rfl
theorem i_X8_judge_42 : tab t_X8_judge 42 = some (.iload_n 2, 1, 2, 0, 0, 0, 0, 0, 0, 0, []) := rfl
theorem i_X8_judge_43 : tab t_X8_judge 43 = some (.iload_n 3, 1, 3, 0, 0, 0, 0, 0, 0, 0, []) := rfl
theorem i_X8_judge_44 : tab t_X8_judge 44 = some (.invokestatic 222, 3, 2, 0, 0, 0, 113, 0, 0, 0, []) := rfl
theorem i_X8_judge_47 : tab t_X8_judge 47 = some (.ifCond .eq 8, 3, 55, 0, 0, 0, 0, 0, 0, 0, []) := rfl
theorem i_X8_judge_50 : tab t_X8_judge 50 = some (.iload 5, 2, 5, 0, 0, 0, 0, 0, 0, 0, []) := rfl
theorem i_X8_judge_52 : tab t_X8_judge 52 = some (.ifCond .ne 6, 3, 58, 0, 0, 0, 0, 0, 0, 0, []) := rfl
theorem i_X8_judge_55 : tab t_X8_judge 55 = some (.bipush (-2), 2, 0, -2, 0, 0, 0, 0, 0, 0, []) := rfl
theorem i_X8_judge_57 : tab t_X8_judge 57 = some (.ireturn, 1, 0, 0, 0, 0, 0, 0, 0, 0, []) := rfl
theorem i_X8_judge_58 : tab t_X8_judge 58 = some (.iload_n 2, 1, 2, 0, 0, 0, 0, 0, 0, 0, []) := rfl
theorem i_X8_judge_59 : tab t_X8_judge 59 = some (.istore 6, 2, 6, 0, 0, 0, 0, 0, 0, 0, []) := rfl
theorem i_X8_judge_61 : tab t_X8_judge 61 = some (.iload 6, 2, 6, 0, 0, 0, 0, 0, 0, 0, []) := rfl
theorem i_X8_judge_63 : tab t_X8_judge 63 = some (.iload_n 3, 1, 3, 0, 0, 0, 0, 0, 0, 0, []) := rfl
theorem i_X8_judge_64 : tab t_X8_judge 64 = some (.if_icmp .gt 24, 3, 88, 0, 0, 0, 0, 0, 0, 0, []) := rfl
theorem i_X8_judge_67 : tab t_X8_judge 67 = some (.aload_n 0, 1, 0, 0, 0, 0, 0, 0, 0, 0, []) := rfl
theorem i_X8_judge_68 : tab t_X8_judge 68 = some (.iload_n 1, 1, 1, 0, 0, 0, 0, 0, 0, 0, []) := rfl
theorem i_X8_judge_69 : tab t_X8_judge 69 = some (.iload 6, 2, 6, 0, 0, 0, 0, 0, 0, 0, []) := rfl
theorem i_X8_judge_71 : tab t_X8_judge 71 = some (.invokevirtual 138, 3, 2, 0, 0, 0, 117, 9, 0, 0, []) := rfl
theorem i_X8_judge_74 : tab t_X8_judge 74 = some (.iload 4, 2, 4, 0, 0, 0, 0, 0, 0, 0, []) := rfl
theorem i_X8_judge_76 : tab t_X8_judge 76 = some (.if_icmp .eq 6, 3, 82, 0, 0, 0, 0, 0, 0, 0, []) := rfl
theorem i_X8_judge_79 : tab t_X8_judge 79 = some (.iload 6, 2, 6, 0, 0, 0, 0, 0, 0, 0, []) := rfl
theorem i_X8_judge_81 : tab t_X8_judge 81 = some (.ireturn, 1, 0, 0, 0, 0, 0, 0, 0, 0, []) := rfl
theorem i_X8_judge_82 : tab t_X8_judge 82 = some (.iinc 6 1, 3, 6, 1, 0, 0, 0, 0, 0, 0, []) := rfl
theorem i_X8_judge_85 : tab t_X8_judge 85 = some (.goto (-24), 3, 61, 0, 0, 0, 0, 0, 0, 0, []) := rfl
theorem i_X8_judge_88 : tab t_X8_judge 88 = some (.iconst (-1), 1, 0, -1, 0, 0, 0, 0, 0, 0, []) := rfl
theorem i_X8_judge_89 : tab t_X8_judge 89 = some (.ireturn, 1, 0, 0, 0, 0, 0, 0, 0, 0, []) := rfl
def t_X8_hangs : List (Nat × rw_) := [(0, (.aload_n 0, 1, 0, 0, 0, 0, 0, 0, 0, 0, [])), (1, (.getfield 10, 3, 2, 0, 0, 8, 0, 0, 0, 0, [])), (4, (.getfield 167, 3, 2, 0, 0, 7, 5, 0, 0, 0, [])), (7, (.iload_n 1, 1, 1, 0, 0, 0, 0, 0, 0, 0, [])), (8, (.invokevirtual 72, 3, 1, 0, 0, 0, 59, 7, 0, 0, [])), (11, (.ifCond .eq 12, 3, 23, 0, 0, 0, 0, 0, 0, 0, [])), (14, (.aload_n 0, 1, 0, 0, 0, 0, 0, 0, 0, 0, [])), (15, (.iload_n 2, 1, 2, 0, 0, 0, 0, 0, 0, 0, [])), (16, (.iload_n 3, 1, 3, 0, 0, 0, 0, 0, 0, 0, [])), (17, (.invokevirtual 102, 3, 2, 0, 0, 0, 114, 9, 0, 0, [])), (20, (.ifCond .ne 7, 3, 27, 0, 0, 0, 0, 0, 0, 0, [])), (23, (.sipush (-1000), 3, 0, -1000, 0, 0, 0, 0, 0, 0, [])), (26, (.ireturn, 1, 0, 0, 0, 0, 0, 0, 0, 0, [])), (27, (.aload_n 0, 1, 0, 0, 0, 0, 0, 0, 0, 0, [])), (28, (.iload_n 2, 1, 2, 0, 0, 0, 0, 0, 0, 0, [])), (29, (.iload_n 3, 1, 3, 0, 0, 0, 0, 0, 0, 0, [])), (30, (.invokevirtual 138, 3, 2, 0, 0, 0, 117, 9, 0, 0, [])), (33, (.pop, 1, 0, 0, 0, 0, 0, 0, 0, 0, [])), (34, (.aload_n 0, 1, 0, 0, 0, 0, 0, 0, 0, 0, [])), (35, (.iload_n 2, 1, 2, 0, 0, 0, 0, 0, 0, 0, [])), (36, (.iload_n 3, 1, 3, 0, 0, 0, 0, 0, 0, 0, [])), (37, (.iconst (-1), 1, 0, -1, 0, 0, 0, 0, 0, 0, [])), (38, (.invokevirtual 185, 3, 3, 0, 0, 0, 118, 9, 0, 0, [])), (41, (.aload_n 0, 1, 0, 0, 0, 0, 0, 0, 0, 0, [])), (42, (.iconst 0, 1, 0, 0, 0, 0, 0, 0, 0, 0, [])), (43, (.invokevirtual 198, 3, 1, 0, 0, 0, 119, 9, 0, 0, [])), (46, (.invokestatic 236, 3, 1, 0, 0, 0, 227, 0, 0, 0, [])), (49, (.istore 4, 2, 4, 0, 0, 0, 0, 0, 0, 0, [])), (51, (.aload_n 0, 1, 0, 0, 0, 0, 0, 0, 0, 0, [])), (52, (.iload_n 2, 1, 2, 0, 0, 0, 0, 0, 0, 0, [])), (53, (.iload_n 3, 1, 3, 0, 0, 0, 0, 0, 0, 0, [])), (54, (.iload_n 1, 1, 1, 0, 0, 0, 0, 0, 0, 0, [])), (55, (.invokevirtual 185, 3, 3, 0, 0, 0, 118, 9, 0, 0, [])), (58, (.aload_n 0, 1, 0, 0, 0, 0, 0, 0, 0, 0, [])), (59, (.iconst 0, 1, 0, 0, 0, 0, 0, 0, 0, 0, [])), (60, (.invokevirtual 198, 3, 1, 0, 0, 0, 119, 9, 0, 0, [])), (63, (.invokestatic 236, 3, 1, 0, 0, 0, 227, 0, 0, 0, [])), (66, (.iload 4, 2, 4, 0, 0, 0, 0, 0, 0, 0, [])), (68, (.isub, 1, 0, 0, 0, 0, 0, 0, 0, 0, [])), (69, (.ireturn, 1, 0, 0, 0, 0, 0, 0, 0, 0, []))]
set_option maxRecDepth 100000 in
theorem ok_X8_hangs : tb_ok ctX8 m_X8_hangs t_X8_hangs = true := by decide +kernel
theorem i_X8_hangs_0 : tab t_X8_hangs 0 = some (.aload_n 0, 1, 0, 0, 0, 0, 0, 0, 0, 0, []) := rfl
theorem i_X8_hangs_1 : tab t_X8_hangs 1 = some (.getfield 10, 3, 2, 0, 0, 8, 0, 0, 0, 0, []) := rfl
theorem i_X8_hangs_4 : tab t_X8_hangs 4 = some (.getfield 167, 3, 2, 0, 0, 7, 5, 0, 0, 0, []) := rfl
theorem i_X8_hangs_7 : tab t_X8_hangs 7 = some (.iload_n 1, 1, 1, 0, 0, 0, 0, 0, 0, 0, []) := rfl
theorem i_X8_hangs_8 : tab t_X8_hangs 8 = some (.invokevirtual 72, 3, 1, 0, 0, 0, 59, 7, 0, 0, []) := rfl
theorem i_X8_hangs_11 : tab t_X8_hangs 11 = some (.ifCond .eq 12, 3, 23, 0, 0, 0, 0, 0, 0, 0, []) := rfl
theorem i_X8_hangs_14 : tab t_X8_hangs 14 = some (.aload_n 0, 1, 0, 0, 0, 0, 0, 0, 0, 0, []) := rfl
theorem i_X8_hangs_15 : tab t_X8_hangs 15 = some (.iload_n 2, 1, 2, 0, 0, 0, 0, 0, 0, 0, []) := rfl
theorem i_X8_hangs_16 : tab t_X8_hangs 16 = some (.iload_n 3, 1, 3, 0, 0, 0, 0, 0, 0, 0, []) := rfl
theorem i_X8_hangs_17 : tab t_X8_hangs 17 = some (.invokevirtual 102, 3, 2, 0, 0, 0, 114, 9, 0, 0, []) := rfl
theorem i_X8_hangs_20 : tab t_X8_hangs 20 = some (.ifCond .ne 7, 3, 27, 0, 0, 0, 0, 0, 0, 0, []) := rfl
theorem i_X8_hangs_23 : tab t_X8_hangs 23 = some (.sipush (-1000), 3, 0, -1000, 0, 0, 0, 0, 0, 0, []) := rfl
theorem i_X8_hangs_26 : tab t_X8_hangs 26 = some (.ireturn, 1, 0, 0, 0, 0, 0, 0, 0, 0, []) := rfl
theorem i_X8_hangs_27 : tab t_X8_hangs 27 = some (.aload_n 0, 1, 0, 0, 0, 0, 0, 0, 0, 0, []) := rfl
theorem i_X8_hangs_28 : tab t_X8_hangs 28 = some (.iload_n 2, 1, 2, 0, 0, 0, 0, 0, 0, 0, []) := rfl
theorem i_X8_hangs_29 : tab t_X8_hangs 29 = some (.iload_n 3, 1, 3, 0, 0, 0, 0, 0, 0, 0, []) := rfl
theorem i_X8_hangs_30 : tab t_X8_hangs 30 = some (.invokevirtual 138, 3, 2, 0, 0, 0, 117, 9, 0, 0, []) := rfl
theorem i_X8_hangs_33 : tab t_X8_hangs 33 = some (.pop, 1, 0, 0, 0, 0, 0, 0, 0, 0, []) := rfl
theorem i_X8_hangs_34 : tab t_X8_hangs 34 = some (.aload_n 0, 1, 0, 0, 0, 0, 0, 0, 0, 0, []) := rfl
theorem i_X8_hangs_35 : tab t_X8_hangs 35 = some (.iload_n 2, 1, 2, 0, 0, 0, 0, 0, 0, 0, []) := rfl
theorem i_X8_hangs_36 : tab t_X8_hangs 36 = some (.iload_n 3, 1, 3, 0, 0, 0, 0, 0, 0, 0, []) := rfl
theorem i_X8_hangs_37 : tab t_X8_hangs 37 = some (.iconst (-1), 1, 0, -1, 0, 0, 0, 0, 0, 0, []) := rfl
theorem i_X8_hangs_38 : tab t_X8_hangs 38 = some (.invokevirtual 185, 3, 3, 0, 0, 0, 118, 9, 0, 0, []) := rfl
theorem i_X8_hangs_41 : tab t_X8_hangs 41 = some (.aload_n 0, 1, 0, 0, 0, 0, 0, 0, 0, 0, []) := rfl
theorem i_X8_hangs_42 : tab t_X8_hangs 42 = some (.iconst 0, 1, 0, 0, 0, 0, 0, 0, 0, 0, []) := rfl
theorem i_X8_hangs_43 : tab t_X8_hangs 43 = some (.invokevirtual 198, 3, 1, 0, 0, 0, 119, 9, 0, 0, []) := rfl
theorem i_X8_hangs_46 : tab t_X8_hangs 46 = some (.invokestatic 236, 3, 1, 0, 0, 0, 227, 0, 0, 0, []) := rfl
theorem i_X8_hangs_49 : tab t_X8_hangs 49 = some (.istore 4, 2, 4, 0, 0, 0, 0, 0, 0, 0, []) := rfl
theorem i_X8_hangs_51 : tab t_X8_hangs 51 = some (.aload_n 0, 1, 0, 0, 0, 0, 0, 0, 0, 0, []) := rfl
theorem i_X8_hangs_52 : tab t_X8_hangs 52 = some (.iload_n 2, 1, 2, 0, 0, 0, 0, 0, 0, 0, []) := rfl
theorem i_X8_hangs_53 : tab t_X8_hangs 53 = some (.iload_n 3, 1, 3, 0, 0, 0, 0, 0, 0, 0, []) := rfl
theorem i_X8_hangs_54 : tab t_X8_hangs 54 = some (.iload_n 1, 1, 1, 0, 0, 0, 0, 0, 0, 0, []) := rfl
theorem i_X8_hangs_55 : tab t_X8_hangs 55 = some (.invokevirtual 185, 3, 3, 0, 0, 0, 118, 9, 0, 0, []) := rfl
theorem i_X8_hangs_58 : tab t_X8_hangs 58 = some (.aload_n 0, 1, 0, 0, 0, 0, 0, 0, 0, 0, []) := rfl
theorem i_X8_hangs_59 : tab t_X8_hangs 59 = some (.iconst 0, 1, 0, 0, 0, 0, 0, 0, 0, 0, []) := rfl
theorem i_X8_hangs_60 : tab t_X8_hangs 60 = some (.invokevirtual 198, 3, 1, 0, 0, 0, 119, 9, 0, 0, []) := rfl
theorem i_X8_hangs_63 : tab t_X8_hangs 63 = some (.invokestatic 236, 3, 1, 0, 0, 0, 227, 0, 0, 0, []) := rfl
theorem i_X8_hangs_66 : tab t_X8_hangs 66 = some (.iload 4, 2, 4, 0, 0, 0, 0, 0, 0, 0, []) := rfl
theorem i_X8_hangs_68 : tab t_X8_hangs 68 = some (.isub, 1, 0, 0, 0, 0, 0, 0, 0, 0, []) := rfl
theorem i_X8_hangs_69 : tab t_X8_hangs 69 = some (.ireturn, 1, 0, 0, 0, 0, 0, 0, 0, 0, []) := rfl
def t_X8_mark : List (Nat × rw_) := [(0, (.iload_n 1, 1, 1, 0, 0, 0, 0, 0, 0, 0, [])), (1, (.iconst 4, 1, 0, 4, 0, 0, 0, 0, 0, 0, [])), (2, (.invokestatic 78, 3, 2, 0, 0, 0, 109, 0, 0, 0, [])), (5, (.ifCond .ne 5, 3, 10, 0, 0, 0, 0, 0, 0, 0, [])), (8, (.iconst (-1), 1, 0, -1, 0, 0, 0, 0, 0, 0, [])), (9, (.ireturn, 1, 0, 0, 0, 0, 0, 0, 0, 0, [])), (10, (.aload_n 0, 1, 0, 0, 0, 0, 0, 0, 0, 0, [])), (11, (.getfield 16, 3, 2, 0, 0, 8, 1, 0, 0, 0, [])), (14, (.iload_n 1, 1, 1, 0, 0, 0, 0, 0, 0, 0, [])), (15, (.aaload, 1, 0, 0, 0, 0, 0, 0, 0, 0, [])), (16, (.ifnonnull 16, 3, 32, 0, 0, 0, 0, 0, 0, 0, [])), (19, (.aload_n 0, 1, 0, 0, 0, 0, 0, 0, 0, 0, [])), (20, (.getfield 16, 3, 2, 0, 0, 8, 1, 0, 0, 0, [])), (23, (.iload_n 1, 1, 1, 0, 0, 0, 0, 0, 0, 0, [])), (24, (.new 7, 3, 0, 0, 0, 7, 8, 0, 0, 0, [])), (27, (.dup, 1, 0, 0, 0, 0, 0, 0, 0, 0, [])), (28, (.invokespecial 9, 3, 0, 0, 0, 0, 64, 0, 14, 5700, [])), (31, (.aastore, 1, 0, 0, 0, 0, 0, 0, 0, 0, [])), (32, (.aload_n 0, 1, 0, 0, 0, 0, 0, 0, 0, 0, [])), (33, (.getfield 16, 3, 2, 0, 0, 8, 1, 0, 0, 0, [])), (36, (.iload_n 1, 1, 1, 0, 0, 0, 0, 0, 0, 0, [])), (37, (.aaload, 1, 0, 0, 0, 0, 0, 0, 0, 0, [])), (38, (.aload_n 0, 1, 0, 0, 0, 0, 0, 0, 0, 0, [])), (39, (.getfield 10, 3, 2, 0, 0, 8, 0, 0, 0, 0, [])), (42, (.invokevirtual 258, 3, 1, 0, 0, 0, 65, 8, 0, 0, [])), (45, (.aload_n 0, 1, 0, 0, 0, 0, 0, 0, 0, 0, [])), (46, (.getfield 10, 3, 2, 0, 0, 8, 0, 0, 0, 0, [])), (49, (.getfield 93, 3, 2, 0, 0, 7, 1, 0, 0, 0, [])), (52, (.getfield 219, 3, 0, 0, 0, 6, 3, 0, 0, 0, [])), (55, (.ireturn, 1, 0, 0, 0, 0, 0, 0, 0, 0, []))]
set_option maxRecDepth 100000 in
theorem ok_X8_mark : tb_ok ctX8 m_X8_mark t_X8_mark = true := by decide +kernel
theorem i_X8_mark_0 : tab t_X8_mark 0 = some (.iload_n 1, 1, 1, 0, 0, 0, 0, 0, 0, 0, []) := rfl
theorem i_X8_mark_1 : tab t_X8_mark 1 = some (.iconst 4, 1, 0, 4, 0, 0, 0, 0, 0, 0, []) := rfl
theorem i_X8_mark_2 : tab t_X8_mark 2 = some (.invokestatic 78, 3, 2, 0, 0, 0, 109, 0, 0, 0, []) := rfl
theorem i_X8_mark_5 : tab t_X8_mark 5 = some (.ifCond .ne 5, 3, 10, 0, 0, 0, 0, 0, 0, 0, []) := rfl
theorem i_X8_mark_8 : tab t_X8_mark 8 = some (.iconst (-1), 1, 0, -1, 0, 0, 0, 0, 0, 0, []) := rfl
theorem i_X8_mark_9 : tab t_X8_mark 9 = some (.ireturn, 1, 0, 0, 0, 0, 0, 0, 0, 0, []) := rfl
theorem i_X8_mark_10 : tab t_X8_mark 10 = some (.aload_n 0, 1, 0, 0, 0, 0, 0, 0, 0, 0, []) := rfl
theorem i_X8_mark_11 : tab t_X8_mark 11 = some (.getfield 16, 3, 2, 0, 0, 8, 1, 0, 0, 0, []) := rfl
theorem i_X8_mark_14 : tab t_X8_mark 14 = some (.iload_n 1, 1, 1, 0, 0, 0, 0, 0, 0, 0, []) := rfl
theorem i_X8_mark_15 : tab t_X8_mark 15 = some (.aaload, 1, 0, 0, 0, 0, 0, 0, 0, 0, []) := rfl
theorem i_X8_mark_16 : tab t_X8_mark 16 = some (.ifnonnull 16, 3, 32, 0, 0, 0, 0, 0, 0, 0, []) := rfl
theorem i_X8_mark_19 : tab t_X8_mark 19 = some (.aload_n 0, 1, 0, 0, 0, 0, 0, 0, 0, 0, []) := rfl
theorem i_X8_mark_20 : tab t_X8_mark 20 = some (.getfield 16, 3, 2, 0, 0, 8, 1, 0, 0, 0, []) := rfl
theorem i_X8_mark_23 : tab t_X8_mark 23 = some (.iload_n 1, 1, 1, 0, 0, 0, 0, 0, 0, 0, []) := rfl
theorem i_X8_mark_24 : tab t_X8_mark 24 = some (.new 7, 3, 0, 0, 0, 7, 8, 0, 0, 0, []) := rfl
theorem i_X8_mark_27 : tab t_X8_mark 27 = some (.dup, 1, 0, 0, 0, 0, 0, 0, 0, 0, []) := rfl
theorem i_X8_mark_28 : tab t_X8_mark 28 = some (.invokespecial 9, 3, 0, 0, 0, 0, 64, 0, 14, 5700, []) := rfl
theorem i_X8_mark_31 : tab t_X8_mark 31 = some (.aastore, 1, 0, 0, 0, 0, 0, 0, 0, 0, []) := rfl
theorem i_X8_mark_32 : tab t_X8_mark 32 = some (.aload_n 0, 1, 0, 0, 0, 0, 0, 0, 0, 0, []) := rfl
theorem i_X8_mark_33 : tab t_X8_mark 33 = some (.getfield 16, 3, 2, 0, 0, 8, 1, 0, 0, 0, []) := rfl
theorem i_X8_mark_36 : tab t_X8_mark 36 = some (.iload_n 1, 1, 1, 0, 0, 0, 0, 0, 0, 0, []) := rfl
theorem i_X8_mark_37 : tab t_X8_mark 37 = some (.aaload, 1, 0, 0, 0, 0, 0, 0, 0, 0, []) := rfl
theorem i_X8_mark_38 : tab t_X8_mark 38 = some (.aload_n 0, 1, 0, 0, 0, 0, 0, 0, 0, 0, []) := rfl
theorem i_X8_mark_39 : tab t_X8_mark 39 = some (.getfield 10, 3, 2, 0, 0, 8, 0, 0, 0, 0, []) := rfl
theorem i_X8_mark_42 : tab t_X8_mark 42 = some (.invokevirtual 258, 3, 1, 0, 0, 0, 65, 8, 0, 0, []) := rfl
theorem i_X8_mark_45 : tab t_X8_mark 45 = some (.aload_n 0, 1, 0, 0, 0, 0, 0, 0, 0, 0, []) := rfl
theorem i_X8_mark_46 : tab t_X8_mark 46 = some (.getfield 10, 3, 2, 0, 0, 8, 0, 0, 0, 0, []) := rfl
theorem i_X8_mark_49 : tab t_X8_mark 49 = some (.getfield 93, 3, 2, 0, 0, 7, 1, 0, 0, 0, []) := rfl
theorem i_X8_mark_52 : tab t_X8_mark 52 = some (.getfield 219, 3, 0, 0, 0, 6, 3, 0, 0, 0, []) := rfl
theorem i_X8_mark_55 : tab t_X8_mark 55 = some (.ireturn, 1, 0, 0, 0, 0, 0, 0, 0, 0, []) := rfl
def t_X8_back : List (Nat × rw_) := [(0, (.iload_n 1, 1, 1, 0, 0, 0, 0, 0, 0, 0, [])), (1, (.iconst 4, 1, 0, 4, 0, 0, 0, 0, 0, 0, [])), (2, (.invokestatic 78, 3, 2, 0, 0, 0, 109, 0, 0, 0, [])), (5, (.ifCond .eq 12, 3, 17, 0, 0, 0, 0, 0, 0, 0, [])), (8, (.aload_n 0, 1, 0, 0, 0, 0, 0, 0, 0, 0, [])), (9, (.getfield 16, 3, 2, 0, 0, 8, 1, 0, 0, 0, [])), (12, (.iload_n 1, 1, 1, 0, 0, 0, 0, 0, 0, 0, [])), (13, (.aaload, 1, 0, 0, 0, 0, 0, 0, 0, 0, [])), (14, (.ifnonnull 5, 3, 19, 0, 0, 0, 0, 0, 0, 0, [])), (17, (.iconst (-1), 1, 0, -1, 0, 0, 0, 0, 0, 0, [])), (18, (.ireturn, 1, 0, 0, 0, 0, 0, 0, 0, 0, [])), (19, (.aload_n 0, 1, 0, 0, 0, 0, 0, 0, 0, 0, [])), (20, (.getfield 10, 3, 2, 0, 0, 8, 0, 0, 0, 0, [])), (23, (.aload_n 0, 1, 0, 0, 0, 0, 0, 0, 0, 0, [])), (24, (.getfield 16, 3, 2, 0, 0, 8, 1, 0, 0, 0, [])), (27, (.iload_n 1, 1, 1, 0, 0, 0, 0, 0, 0, 0, [])), (28, (.aaload, 1, 0, 0, 0, 0, 0, 0, 0, 0, [])), (29, (.invokevirtual 258, 3, 1, 0, 0, 0, 65, 8, 0, 0, [])), (32, (.aload_n 0, 1, 0, 0, 0, 0, 0, 0, 0, 0, [])), (33, (.getfield 10, 3, 2, 0, 0, 8, 0, 0, 0, 0, [])), (36, (.getfield 93, 3, 2, 0, 0, 7, 1, 0, 0, 0, [])), (39, (.getfield 219, 3, 0, 0, 0, 6, 3, 0, 0, 0, [])), (42, (.ireturn, 1, 0, 0, 0, 0, 0, 0, 0, 0, []))]
set_option maxRecDepth 100000 in
theorem ok_X8_back : tb_ok ctX8 m_X8_back t_X8_back = true := by decide +kernel
theorem i_X8_back_0 : tab t_X8_back 0 = some (.iload_n 1, 1, 1, 0, 0, 0, 0, 0, 0, 0, []) := rfl
theorem i_X8_back_1 : tab t_X8_back 1 = some (.iconst 4, 1, 0, 4, 0, 0, 0, 0, 0, 0, []) := rfl
theorem i_X8_back_2 : tab t_X8_back 2 = some (.invokestatic 78, 3, 2, 0, 0, 0, 109, 0, 0, 0, []) := rfl
theorem i_X8_back_5 : tab t_X8_back 5 = some (.ifCond .eq 12, 3, 17, 0, 0, 0, 0, 0, 0, 0, []) := rfl
theorem i_X8_back_8 : tab t_X8_back 8 = some (.aload_n 0, 1, 0, 0, 0, 0, 0, 0, 0, 0, []) := rfl
theorem i_X8_back_9 : tab t_X8_back 9 = some (.getfield 16, 3, 2, 0, 0, 8, 1, 0, 0, 0, []) := rfl
theorem i_X8_back_12 : tab t_X8_back 12 = some (.iload_n 1, 1, 1, 0, 0, 0, 0, 0, 0, 0, []) := rfl
theorem i_X8_back_13 : tab t_X8_back 13 = some (.aaload, 1, 0, 0, 0, 0, 0, 0, 0, 0, []) := rfl
theorem i_X8_back_14 : tab t_X8_back 14 = some (.ifnonnull 5, 3, 19, 0, 0, 0, 0, 0, 0, 0, []) := rfl
theorem i_X8_back_17 : tab t_X8_back 17 = some (.iconst (-1), 1, 0, -1, 0, 0, 0, 0, 0, 0, []) := rfl
theorem i_X8_back_18 : tab t_X8_back 18 = some (.ireturn, 1, 0, 0, 0, 0, 0, 0, 0, 0, []) := rfl
theorem i_X8_back_19 : tab t_X8_back 19 = some (.aload_n 0, 1, 0, 0, 0, 0, 0, 0, 0, 0, []) := rfl
theorem i_X8_back_20 : tab t_X8_back 20 = some (.getfield 10, 3, 2, 0, 0, 8, 0, 0, 0, 0, []) := rfl
theorem i_X8_back_23 : tab t_X8_back 23 = some (.aload_n 0, 1, 0, 0, 0, 0, 0, 0, 0, 0, []) := rfl
theorem i_X8_back_24 : tab t_X8_back 24 = some (.getfield 16, 3, 2, 0, 0, 8, 1, 0, 0, 0, []) := rfl
theorem i_X8_back_27 : tab t_X8_back 27 = some (.iload_n 1, 1, 1, 0, 0, 0, 0, 0, 0, 0, []) := rfl
theorem i_X8_back_28 : tab t_X8_back 28 = some (.aaload, 1, 0, 0, 0, 0, 0, 0, 0, 0, []) := rfl
theorem i_X8_back_29 : tab t_X8_back 29 = some (.invokevirtual 258, 3, 1, 0, 0, 0, 65, 8, 0, 0, []) := rfl
theorem i_X8_back_32 : tab t_X8_back 32 = some (.aload_n 0, 1, 0, 0, 0, 0, 0, 0, 0, 0, []) := rfl
theorem i_X8_back_33 : tab t_X8_back 33 = some (.getfield 10, 3, 2, 0, 0, 8, 0, 0, 0, 0, []) := rfl
theorem i_X8_back_36 : tab t_X8_back 36 = some (.getfield 93, 3, 2, 0, 0, 7, 1, 0, 0, 0, []) := rfl
theorem i_X8_back_39 : tab t_X8_back 39 = some (.getfield 219, 3, 0, 0, 0, 6, 3, 0, 0, 0, []) := rfl
theorem i_X8_back_42 : tab t_X8_back 42 = some (.ireturn, 1, 0, 0, 0, 0, 0, 0, 0, 0, []) := rfl
