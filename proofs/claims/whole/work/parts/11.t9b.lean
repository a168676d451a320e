/-! 11: tables of class 9, 1 -/
def t_X9_sum : List (Nat × rw_) := [(0, (.aload_n 0, 1, 0, 0, 0, 0, 0, 0, 0, 0, [])), (1, (.invokevirtual 326, 3, 0, 0, 0, 0, 158, 10, 0, 0, [])), (4, (.aload_n 0, 1, 0, 0, 0, 0, 0, 0, 0, 0, [])), (5, (.invokevirtual 287, 3, 0, 0, 0, 0, 151, 10, 0, 0, [])), (8, (.aload_n 0, 1, 0, 0, 0, 0, 0, 0, 0, 0, [])), (9, (.getfield 264, 3, 0, 0, 0, 9, 31, 0, 0, 0, [])), (12, (.ifCond .ne 63, 3, 75, 0, 0, 0, 0, 0, 0, 0, [])), (15, (.aload_n 0, 1, 0, 0, 0, 0, 0, 0, 0, 0, [])), (16, (.invokevirtual 270, 3, 0, 0, 0, 0, 150, 10, 0, 0, [])), (19, (.bipush 43, 2, 0, 43, 0, 0, 0, 0, 0, 0, [])), (21, (.if_icmp .eq 12, 3, 33, 0, 0, 0, 0, 0, 0, 0, [])), (24, (.aload_n 0, 1, 0, 0, 0, 0, 0, 0, 0, 0, [])), (25, (.invokevirtual 270, 3, 0, 0, 0, 0, 150, 10, 0, 0, [])), (28, (.bipush 45, 2, 0, 45, 0, 0, 0, 0, 0, 0, [])), (30, (.if_icmp .ne 45, 3, 75, 0, 0, 0, 0, 0, 0, 0, [])), (33, (.aload_n 0, 1, 0, 0, 0, 0, 0, 0, 0, 0, [])), (34, (.invokevirtual 270, 3, 0, 0, 0, 0, 150, 10, 0, 0, [])), (37, (.bipush 43, 2, 0, 43, 0, 0, 0, 0, 0, 0, [])), (39, (.if_icmp .ne 7, 3, 46, 0, 0, 0, 0, 0, 0, 0, [])), (42, (.iconst 2, 1, 0, 2, 0, 0, 0, 0, 0, 0, [])), (43, (.goto 4, 3, 47, 0, 0, 0, 0, 0, 0, 0, [])), (46, (.iconst 3, 1, 0, 3, 0, 0, 0, 0, 0, 0, [])), (47, (.istore_n 1, 1, 1, 0, 0, 0, 0, 0, 0, 0, [])), (48, (.aload_n 0, 1, 0, 0, 0, 0, 0, 0, 0, 0, [])), (49, (.dup, 1, 0, 0, 0, 0, 0, 0, 0, 0, [])), (50, (.getfield 267, 3, 0, 0, 0, 9, 30, 0, 0, 0, [])), (53, (.iconst 1, 1, 0, 1, 0, 0, 0, 0, 0, 0, [])), (54, (.iadd, 1, 0, 0, 0, 0, 0, 0, 0, 0, [])), (55, (.putfield 267, 3, 0, 0, 0, 9, 30, 0, 0, 0, [])), (58, (.aload_n 0, 1, 0, 0, 0, 0, 0, 0, 0, 0, [])), (59, (.invokevirtual 326, 3, 0, 0, 0, 0, 158, 10, 0, 0, [])), (62, (.aload_n 0, 1, 0, 0, 0, 0, 0, 0, 0, 0, [])), (63, (.iload_n 1, 1, 1, 0, 0, 0, 0, 0, 0, 0, [])), (64, (.iconst 0, 1, 0, 0, 0, 0, 0, 0, 0, 0, [])), (65, (.invokevirtual 319, 3, 2, 0, 0, 0, 155, 10, 0, 0, [])), (68, (.aload_n 0, 1, 0, 0, 0, 0, 0, 0, 0, 0, [])), (69, (.invokevirtual 287, 3, 0, 0, 0, 0, 151, 10, 0, 0, [])), (72, (.goto (-64), 3, 8, 0, 0, 0, 0, 0, 0, 0, [])), (75, (.return_, 1, 0, 0, 0, 0, 0, 0, 0, 0, []))]
set_option maxRecDepth 100000 in
theorem ok_X9_sum : tb_ok ctX9 m_X9_sum t_X9_sum = true := by decide +kernel
theorem i_X9_sum_0 : tab t_X9_sum 0 = some (.aload_n 0, 1, 0, 0, 0, 0, 0, 0, 0, 0, []) := rfl
theorem i_X9_sum_1 : tab t_X9_sum 1 = some (.invokevirtual 326, 3, 0, 0, 0, 0, 158, 10, 0, 0, []) := rfl
theorem i_X9_sum_4 : tab t_X9_sum 4 = some (.aload_n 0, 1, 0, 0, 0, 0, 0, 0, 0, 0, []) := rfl
theorem i_X9_sum_5 : tab t_X9_sum 5 = some (.invokevirtual 287, 3, 0, 0, 0, 0, 151, 10, 0, 0, []) := rfl
theorem i_X9_sum_8 : tab t_X9_sum 8 = some (.aload_n 0, 1, 0, 0, 0, 0, 0, 0, 0, 0, []) := rfl
theorem i_X9_sum_9 : tab t_X9_sum 9 = some (.getfield 264, 3, 0, 0, 0, 9, 31, 0, 0, 0, []) := rfl
theorem i_X9_sum_12 : tab t_X9_sum 12 = some (.ifCond .ne 63, 3, 75, 0, 0, 0, 0, 0, 0, 0, []) := rfl
theorem i_X9_sum_15 : tab t_X9_sum 15 = some (.aload_n 0, 1, 0, 0, 0, 0, 0, 0, 0, 0, []) := rfl
theorem i_X9_sum_16 : tab t_X9_sum 16 = some (.invokevirtual 270, 3, 0, 0, 0, 0, 150, 10, 0, 0, []) := rfl
theorem i_X9_sum_19 : tab t_X9_sum 19 = some (.bipush 43, 2, 0, 43, 0, 0, 0, 0, 0, 0, []) := rfl
theorem i_X9_sum_21 : tab t_X9_sum 21 = some (.if_icmp .eq 12, 3, 33, 0, 0, 0, 0, 0, 0, 0, []) := rfl
theorem i_X9_sum_24 : tab t_X9_sum 24 = some (.aload_n 0, 1, 0, 0, 0, 0, 0, 0, 0, 0, []) := rfl
theorem i_X9_sum_25 : tab t_X9_sum 25 = some (.invokevirtual 270, 3, 0, 0, 0, 0, 150, 10, 0, 0, []) := rfl
theorem i_X9_sum_28 : tab t_X9_sum 28 = some (.bipush 45, 2, 0, 45, 0, 0, 0, 0, 0, 0, []) := rfl
theorem i_X9_sum_30 : tab t_X9_sum 30 = some (.if_icmp .ne 45, 3, 75, 0, 0, 0, 0, 0, 0, 0, []) := rfl
theorem i_X9_sum_33 : tab t_X9_sum 33 = some (.aload_n 0, 1, 0, 0, 0, 0, 0, 0, 0, 0, []) := rfl
theorem i_X9_sum_34 : tab t_X9_sum 34 = some (.invokevirtual 270, 3, 0, 0, 0, 0, 150, 10, 0, 0, []) := rfl
theorem i_X9_sum_37 : tab t_X9_sum 37 = some (.bipush 43, 2, 0, 43, 0, 0, 0, 0, 0, 0, []) := rfl
theorem i_X9_sum_39 : tab t_X9_sum 39 = some (.if_icmp .ne 7, 3, 46, 0, 0, 0, 0, 0, 0, 0, []) := rfl
theorem i_X9_sum_42 : tab t_X9_sum 42 = some (.iconst 2, 1, 0, 2, 0, 0, 0, 0, 0, 0, []) := rfl
theorem i_X9_sum_43 : tab t_X9_sum 43 = some (.goto 4, 3, 47, 0, 0, 0, 0, 0, 0, 0, []) := rfl
theorem i_X9_sum_46 : tab t_X9_sum 46 = some (.iconst 3, 1, 0, 3, 0, 0, 0, 0, 0, 0, []) := rfl
theorem i_X9_sum_47 : tab t_X9_sum 47 = some (.istore_n 1, 1, 1, 0, 0, 0, 0, 0, 0, 0, []) := rfl
theorem i_X9_sum_48 : tab t_X9_sum 48 = some (.aload_n 0, 1, 0, 0, 0, 0, 0, 0, 0, 0, []) := rfl
theorem i_X9_sum_49 : tab t_X9_sum 49 = some (.dup, 1, 0, 0, 0, 0, 0, 0, 0, 0, []) := rfl
theorem i_X9_sum_50 : tab t_X9_sum 50 = some (.getfield 267, 3, 0, 0, 0, 9, 30, 0, 0, 0, []) := rfl
theorem i_X9_sum_53 : tab t_X9_sum 53 = some (.iconst 1, 1, 0, 1, 0, 0, 0, 0, 0, 0, []) := rfl
theorem i_X9_sum_54 : tab t_X9_sum 54 = some (.iadd, 1, 0, 0, 0, 0, 0, 0, 0, 0, []) := rfl
theorem i_X9_sum_55 : tab t_X9_sum 55 = some (.putfield 267, 3, 0, 0, 0, 9, 30, 0, 0, 0, []) := rfl
theorem i_X9_sum_58 : tab t_X9_sum 58 = some (.aload_n 0, 1, 0, 0, 0, 0, 0, 0, 0, 0, []) := rfl
theorem i_X9_sum_59 : tab t_X9_sum 59 = some (.invokevirtual 326, 3, 0, 0, 0, 0, 158, 10, 0, 0, []) := rfl
theorem i_X9_sum_62 : tab t_X9_sum 62 = some (.aload_n 0, 1, 0, 0, 0, 0, 0, 0, 0, 0, []) := rfl
theorem i_X9_sum_63 : tab t_X9_sum 63 = some (.iload_n 1, 1, 1, 0, 0, 0, 0, 0, 0, 0, []) := rfl
theorem i_X9_sum_64 : tab t_X9_sum 64 = some (.iconst 0, 1, 0, 0, 0, 0, 0, 0, 0, 0, []) := rfl
theorem i_X9_sum_65 : tab t_X9_sum 65 = some (.invokevirtual 319, 3, 2, 0, 0, 0, 155, 10, 0, 0, []) := rfl
theorem i_X9_sum_68 : tab t_X9_sum 68 = some (.aload_n 0, 1, 0, 0, 0, 0, 0, 0, 0, 0, []) := rfl
theorem i_X9_sum_69 : tab t_X9_sum 69 = some (.invokevirtual 287, 3, 0, 0, 0, 0, 151, 10, 0, 0, []) := rfl
theorem i_X9_sum_72 : tab t_X9_sum 72 = some (.goto (-64), 3, 8, 0, 0, 0, 0, 0, 0, 0, []) := rfl
theorem i_X9_sum_75 : tab t_X9_sum 75 = some (.return_, 1, 0, 0, 0, 0, 0, 0, 0, 0, []) := rfl
def t_X9_compared : List (Nat × rw_) := [(0, (.aload_n 0, 1, 0, 0, 0, 0, 0, 0, 0, 0, [])), (1, (.invokevirtual 329, 3, 0, 0, 0, 0, 159, 10, 0, 0, [])), (4, (.aload_n 0, 1, 0, 0, 0, 0, 0, 0, 0, 0, [])), (5, (.invokevirtual 270, 3, 0, 0, 0, 0, 150, 10, 0, 0, [])), (8, (.istore_n 1, 1, 1, 0, 0, 0, 0, 0, 0, 0, [])), (9, (.iload_n 1, 1, 1, 0, 0, 0, 0, 0, 0, 0, [])), (10, (.bipush 60, 2, 0, 60, 0, 0, 0, 0, 0, 0, [])), (12, (.if_icmp .eq 25, 3, 37, 0, 0, 0, 0, 0, 0, 0, [])), (15, (.iload_n 1, 1, 1, 0, 0, 0, 0, 0, 0, 0, [])), (16, (.bipush 61, 2, 0, 61, 0, 0, 0, 0, 0, 0, [])), (18, (.if_icmp .eq 19, 3, 37, 0, 0, 0, 0, 0, 0, 0, [])), (21, (.iload_n 1, 1, 1, 0, 0, 0, 0, 0, 0, 0, [])), (22, (.bipush 62, 2, 0, 62, 0, 0, 0, 0, 0, 0, [])), (24, (.if_icmp .eq 13, 3, 37, 0, 0, 0, 0, 0, 0, 0, [])), (27, (.aload_n 0, 1, 0, 0, 0, 0, 0, 0, 0, 0, [])), (28, (.iconst 0, 1, 0, 0, 0, 0, 0, 0, 0, 0, [])), (29, (.aload_n 0, 1, 0, 0, 0, 0, 0, 0, 0, 0, [])), (30, (.getfield 267, 3, 0, 0, 0, 9, 30, 0, 0, 0, [])), (33, (.invokevirtual 303, 3, 2, 0, 0, 0, 149, 10, 0, 0, [])), (36, (.return_, 1, 0, 0, 0, 0, 0, 0, 0, 0, [])), (37, (.aload_n 0, 1, 0, 0, 0, 0, 0, 0, 0, 0, [])), (38, (.aload_n 0, 1, 0, 0, 0, 0, 0, 0, 0, 0, [])), (39, (.getfield 267, 3, 0, 0, 0, 9, 30, 0, 0, 0, [])), (42, (.invokevirtual 316, 3, 1, 0, 0, 0, 156, 10, 0, 0, [])), (45, (.aload_n 0, 1, 0, 0, 0, 0, 0, 0, 0, 0, [])), (46, (.dup, 1, 0, 0, 0, 0, 0, 0, 0, 0, [])), (47, (.getfield 267, 3, 0, 0, 0, 9, 30, 0, 0, 0, [])), (50, (.iconst 1, 1, 0, 1, 0, 0, 0, 0, 0, 0, [])), (51, (.iadd, 1, 0, 0, 0, 0, 0, 0, 0, 0, [])), (52, (.putfield 267, 3, 0, 0, 0, 9, 30, 0, 0, 0, [])), (55, (.iload_n 1, 1, 1, 0, 0, 0, 0, 0, 0, 0, [])), (56, (.bipush 61, 2, 0, 61, 0, 0, 0, 0, 0, 0, [])), (58, (.if_icmp .eq 16, 3, 74, 0, 0, 0, 0, 0, 0, 0, [])), (61, (.aload_n 0, 1, 0, 0, 0, 0, 0, 0, 0, 0, [])), (62, (.invokevirtual 270, 3, 0, 0, 0, 0, 150, 10, 0, 0, [])), (65, (.bipush 61, 2, 0, 61, 0, 0, 0, 0, 0, 0, [])), (67, (.if_icmp .ne 7, 3, 74, 0, 0, 0, 0, 0, 0, 0, [])), (70, (.iconst 1, 1, 0, 1, 0, 0, 0, 0, 0, 0, [])), (71, (.goto 4, 3, 75, 0, 0, 0, 0, 0, 0, 0, [])), (74, (.iconst 0, 1, 0, 0, 0, 0, 0, 0, 0, 0, [])), (75, (.istore_n 2, 1, 2, 0, 0, 0, 0, 0, 0, 0, [])), (76, (.aload_n 0, 1, 0, 0, 0, 0, 0, 0, 0, 0, [])), (77, (.dup, 1, 0, 0, 0, 0, 0, 0, 0, 0, [])), (78, (.getfield 267, 3, 0, 0, 0, 9, 30, 0, 0, 0, [])), (81, (.iload_n 2, 1, 2, 0, 0, 0, 0, 0, 0, 0, [])), (82, (.ifCond .eq 7, 3, 89, 0, 0, 0, 0, 0, 0, 0, [])), (85, (.iconst 1, 1, 0, 1, 0, 0, 0, 0, 0, 0, [])), (86, (.goto 4, 3, 90, 0, 0, 0, 0, 0, 0, 0, [])), (89, (.iconst 0, 1, 0, 0, 0, 0, 0, 0, 0, 0, [])), (90, (.iadd, 1, 0, 0, 0, 0, 0, 0, 0, 0, [])), (91, (.putfield 267, 3, 0, 0, 0, 9, 30, 0, 0, 0, [])), (94, (.aload_n 0, 1, 0, 0, 0, 0, 0, 0, 0, 0, [])), (95, (.invokevirtual 329, 3, 0, 0, 0, 0, 159, 10, 0, 0, [])), (98, (.aload_n 0, 1, 0, 0, 0, 0, 0, 0, 0, 0, [])), (99, (.iload_n 1, 1, 1, 0, 0, 0, 0, 0, 0, 0, [])), (100, (.bipush 61, 2, 0, 61, 0, 0, 0, 0, 0, 0, [])), (102, (.if_icmp .ne 8, 3, 110, 0, 0, 0, 0, 0, 0, 0, [])), (105, (.bipush 6, 2, 0, 6, 0, 0, 0, 0, 0, 0, [])), (107, (.goto 32, 3, 139, 0, 0, 0, 0, 0, 0, 0, [])), (110, (.iload_n 1, 1, 1, 0, 0, 0, 0, 0, 0, 0, [])), (111, (.bipush 60, 2, 0, 60, 0, 0, 0, 0, 0, 0, [])), (113, (.if_icmp .ne 15, 3, 128, 0, 0, 0, 0, 0, 0, 0, [])), (116, (.iload_n 2, 1, 2, 0, 0, 0, 0, 0, 0, 0, [])), (117, (.ifCond .eq 7, 3, 124, 0, 0, 0, 0, 0, 0, 0, [])), (120, (.iconst 5, 1, 0, 5, 0, 0, 0, 0, 0, 0, [])), (121, (.goto 18, 3, 139, 0, 0, 0, 0, 0, 0, 0, [])), (124, (.iconst 4, 1, 0, 4, 0, 0, 0, 0, 0, 0, [])), (125, (.goto 14, 3, 139, 0, 0, 0, 0, 0, 0, 0, [])), (128, (.iload_n 2, 1, 2, 0, 0, 0, 0, 0, 0, 0, [])), (129, (.ifCond .eq 8, 3, 137, 0, 0, 0, 0, 0, 0, 0, [])), (132, (.bipush 7, 2, 0, 7, 0, 0, 0, 0, 0, 0, [])), (134, (.goto 5, 3, 139, 0, 0, 0, 0, 0, 0, 0, [])), (137, (.bipush 8, 2, 0, 8, 0, 0, 0, 0, 0, 0, [])), (139, (.iconst 0, 1, 0, 0, 0, 0, 0, 0, 0, 0, [])), (140, (.invokevirtual 319, 3, 2, 0, 0, 0, 155, 10, 0, 0, [])), (143, (.return_, 1, 0, 0, 0, 0, 0, 0, 0, 0, []))]
set_option maxRecDepth 100000 in
theorem ok_X9_compared : tb_ok ctX9 m_X9_compared t_X9_compared = true := by decide +kernel
theorem i_X9_compared_0 : tab t_X9_compared 0 = some (.aload_n 0, 1, 0, 0, 0, 0, 0, 0, 0, 0, []) := rfl
theorem i_X9_compared_1 : tab t_X9_compared 1 = some (.invokevirtual 329, 3, 0, 0, 0, 0, 159, 10, 0, 0, []) := rfl
theorem i_X9_compared_4 : tab t_X9_compared 4 = some (.aload_n 0, 1, 0, 0, 0, 0, 0, 0, 0, 0, []) := rfl
theorem i_X9_compared_5 : tab t_X9_compared 5 = some (.invokevirtual 270, 3, 0, 0, 0, 0, 150, 10, 0, 0, []) := rfl
theorem i_X9_compared_8 : tab t_X9_compared 8 = some (.istore_n 1, 1, 1, 0, 0, 0, 0, 0, 0, 0, []) := rfl
theorem i_X9_compared_9 : tab t_X9_compared 9 = some (.iload_n 1, 1, 1, 0, 0, 0, 0, 0, 0, 0, []) := rfl
theorem i_X9_compared_10 : tab t_X9_compared 10 = some (.bipush 60, 2, 0, 60, 0, 0, 0, 0, 0, 0, []) := rfl
theorem i_X9_compared_12 : tab t_X9_compared 12 = some (.if_icmp .eq 25, 3, 37, 0, 0, 0, 0, 0, 0, 0, []) := rfl
theorem i_X9_compared_15 : tab t_X9_compared 15 = some (.iload_n 1, 1, 1, 0, 0, 0, 0, 0, 0, 0, []) := rfl
theorem i_X9_compared_16 : tab t_X9_compared 16 = some (.bipush 61, 2, 0, 61, 0, 0, 0, 0, 0, 0, []) := rfl
theorem i_X9_compared_18 : tab t_X9_compared 18 = some (.if_icmp .eq 19, 3, 37, 0, 0, 0, 0, 0, 0, 0, []) := rfl
theorem i_X9_compared_21 : tab t_X9_compared 21 = some (.iload_n 1, 1, 1, 0, 0, 0, 0, 0, 0, 0, []) := rfl
theorem i_X9_compared_22 : tab t_X9_compared 22 = some (.bipush 62, 2, 0, 62, 0, 0, 0, 0, 0, 0, []) := rfl
theorem i_X9_compared_24 : tab t_X9_compared 24 = some (.if_icmp .eq 13, 3, 37, 0, 0, 0, 0, 0, 0, 0, []) := rfl
theorem i_X9_compared_27 : tab t_X9_compared 27 = some (.aload_n 0, 1, 0, 0, 0, 0, 0, 0, 0, 0, []) := rfl
theorem i_X9_compared_28 : tab t_X9_compared 28 = some (.iconst 0, 1, 0, 0, 0, 0, 0, 0, 0, 0, []) := rfl
theorem i_X9_compared_29 : tab t_X9_compared 29 = some (.aload_n 0, 1, 0, 0, 0, 0, 0, 0, 0, 0, []) := rfl
theorem i_X9_compared_30 : tab t_X9_compared 30 = some (.getfield 267, 3, 0, 0, 0, 9, 30, 0, 0, 0, []) := rfl
theorem i_X9_compared_33 : tab t_X9_compared 33 = some (.invokevirtual 303, 3, 2, 0, 0, 0, 149, 10, 0, 0, []) := rfl
theorem i_X9_compared_36 : tab t_X9_compared 36 = some (.return_, 1, 0, 0, 0, 0, 0, 0, 0, 0, []) := rfl
theorem i_X9_compared_37 : tab t_X9_compared 37 = some (.aload_n 0, 1, 0, 0, 0, 0, 0, 0, 0, 0, []) := rfl
theorem i_X9_compared_38 : tab t_X9_compared 38 = some (.aload_n 0, 1, 0, 0, 0, 0, 0, 0, 0, 0, []) := rfl
theorem i_X9_compared_39 : tab t_X9_compared 39 = some (.getfield 267, 3, 0, 0, 0, 9, 30, 0, 0, 0, []) := rfl
theorem i_X9_compared_42 : tab t_X9_compared 42 = some (.invokevirtual 316, 3, 1, 0, 0, 0, 156, 10, 0, 0, []) := rfl
theorem i_X9_compared_45 : tab t_X9_compared 45 = some (.aload_n 0, 1, 0, 0, 0, 0, 0, 0, 0, 0, []) := rfl
theorem i_X9_compared_46 : tab t_X9_compared 46 = some (.dup, 1, 0, 0, 0, 0, 0, 0, 0, 0, []) := rfl
theorem i_X9_compared_47 : tab t_X9_compared 47 = some (.getfield 267, 3, 0, 0, 0, 9, 30, 0, 0, 0, []) := rfl
theorem i_X9_compared_50 : tab t_X9_compared 50 = some (.iconst 1, 1, 0, 1, 0, 0, 0, 0, 0, 0, []) := rfl
theorem i_X9_compared_51 : tab t_X9_compared 51 = some (.iadd, 1, 0, 0, 0, 0, 0, 0, 0, 0, []) := rfl
theorem i_X9_compared_52 : tab t_X9_compared 52 = some (.putfield 267, 3, 0, 0, 0, 9, 30, 0, 0, 0, []) := rfl
theorem i_X9_compared_55 : tab t_X9_compared 55 = some (.iload_n 1, 1, 1, 0, 0, 0, 0, 0, 0, 0, []) := rfl
theorem i_X9_compared_56 : tab t_X9_compared 56 = some (.bipush 61, 2, 0, 61, 0, 0, 0, 0, 0, 0, []) := rfl
theorem i_X9_compared_58 : tab t_X9_compared 58 = some (.if_icmp .eq 16, 3, 74, 0, 0, 0, 0, 0, 0, 0, []) := rfl
theorem i_X9_compared_61 : tab t_X9_compared 61 = some (.aload_n 0, 1, 0, 0, 0, 0, 0, 0, 0, 0, []) := rfl
theorem i_X9_compared_62 : tab t_X9_compared 62 = some (.invokevirtual 270, 3, 0, 0, 0, 0, 150, 10, 0, 0, []) := rfl
theorem i_X9_compared_65 : tab t_X9_compared 65 = some (.bipush 61, 2, 0, 61, 0, 0, 0, 0, 0, 0, []) := rfl
theorem i_X9_compared_67 : tab t_X9_compared 67 = some (.if_icmp .ne 7, 3, 74, 0, 0, 0, 0, 0, 0, 0, []) := rfl
theorem i_X9_compared_70 : tab t_X9_compared 70 = some (.iconst 1, 1, 0, 1, 0, 0, 0, 0, 0, 0, []) := rfl
theorem i_X9_compared_71 : tab t_X9_compared 71 = some (.goto 4, 3, 75, 0, 0, 0, 0, 0, 0, 0, []) := rfl
theorem i_X9_compared_74 : tab t_X9_compared 74 = some (.iconst 0, 1, 0, 0, 0, 0, 0, 0, 0, 0, []) := rfl
theorem i_X9_compared_75 : tab t_X9_compared 75 = some (.istore_n 2, 1, 2, 0, 0, 0, 0, 0, 0, 0, []) := rfl
theorem i_X9_compared_76 : tab t_X9_compared 76 = some (.aload_n 0, 1, 0, 0, 0, 0, 0, 0, 0, 0, []) := rfl
theorem i_X9_compared_77 : tab t_X9_compared 77 = some (.dup, 1, 0, 0, 0, 0, 0, 0, 0, 0, []) := rfl
theorem i_X9_compared_78 : tab t_X9_compared 78 = some (.getfield 267, 3, 0, 0, 0, 9, 30, 0, 0, 0, []) := rfl
theorem i_X9_compared_81 : tab t_X9_compared 81 = some (.iload_n 2, 1, 2, 0, 0, 0, 0, 0, 0, 0, []) := rfl
theorem i_X9_compared_82 : tab t_X9_compared 82 = some (.ifCond .eq 7, 3, 89, 0, 0, 0, 0, 0, 0, 0, []) := rfl
theorem i_X9_compared_85 : tab t_X9_compared 85 = some (.iconst 1, 1, 0, 1, 0, 0, 0, 0, 0, 0, []) := rfl
theorem i_X9_compared_86 : tab t_X9_compared 86 = some (.goto 4, 3, 90, 0, 0, 0, 0, 0, 0, 0, []) := rfl
theorem i_X9_compared_89 : tab t_X9_compared 89 = some (.iconst 0, 1, 0, 0, 0, 0, 0, 0, 0, 0, []) := rfl
theorem i_X9_compared_90 : tab t_X9_compared 90 = some (.iadd, 1, 0, 0, 0, 0, 0, 0, 0, 0, []) := rfl
theorem i_X9_compared_91 : tab t_X9_compared 91 = some (.putfield 267, 3, 0, 0, 0, 9, 30, 0, 0, 0, []) := rfl
theorem i_X9_compared_94 : tab t_X9_compared 94 = some (.aload_n 0, 1, 0, 0, 0, 0, 0, 0, 0, 0, []) := rfl
theorem i_X9_compared_95 : tab t_X9_compared 95 = some (.invokevirtual 329, 3, 0, 0, 0, 0, 159, 10, 0, 0, []) := rfl
theorem i_X9_compared_98 : tab t_X9_compared 98 = some (.aload_n 0, 1, 0, 0, 0, 0, 0, 0, 0, 0, []) := rfl
theorem i_X9_compared_99 : tab t_X9_compared 99 = some (.iload_n 1, 1, 1, 0, 0, 0, 0, 0, 0, 0, []) := rfl
theorem i_X9_compared_100 : tab t_X9_compared 100 = some (.bipush 61, 2, 0, 61, 0, 0, 0, 0, 0, 0, []) := rfl
theorem i_X9_compared_102 : tab t_X9_compared 102 = some (.if_icmp .ne 8, 3, 110, 0, 0, 0, 0, 0, 0, 0, []) := rfl
theorem i_X9_compared_105 : tab t_X9_compared 105 = some (.bipush 6, 2, 0, 6, 0, 0, 0, 0, 0, 0, []) := rfl
theorem i_X9_compared_107 : tab t_X9_compared 107 = some (.goto 32, 3, 139, 0, 0, 0, 0, 0, 0, 0, []) := rfl
theorem i_X9_compared_110 : tab t_X9_compared 110 = some (.iload_n 1, 1, 1, 0, 0, 0, 0, 0, 0, 0, []) := rfl
theorem i_X9_compared_111 : tab t_X9_compared 111 = some (.bipush 60, 2, 0, 60, 0, 0, 0, 0, 0, 0, []) := rfl
theorem i_X9_compared_113 : tab t_X9_compared 113 = some (.if_icmp .ne 15, 3, 128, 0, 0, 0, 0, 0, 0, 0, []) := rfl
theorem i_X9_compared_116 : tab t_X9_compared 116 = some (.iload_n 2, 1, 2, 0, 0, 0, 0, 0, 0, 0, []) := rfl
theorem i_X9_compared_117 : tab t_X9_compared 117 = some (.ifCond .eq 7, 3, 124, 0, 0, 0, 0, 0, 0, 0, []) := rfl
theorem i_X9_compared_120 : tab t_X9_compared 120 = some (.iconst 5, 1, 0, 5, 0, 0, 0, 0, 0, 0, []) := rfl
theorem i_X9_compared_121 : tab t_X9_compared 121 = some (.goto 18, 3, 139, 0, 0, 0, 0, 0, 0, 0, []) := rfl
theorem i_X9_compared_124 : tab t_X9_compared 124 = some (.iconst 4, 1, 0, 4, 0, 0, 0, 0, 0, 0, []) := rfl
theorem i_X9_compared_125 : tab t_X9_compared 125 = some (.goto 14, 3, 139, 0, 0, 0, 0, 0, 0, 0, []) := rfl
theorem i_X9_compared_128 : tab t_X9_compared 128 = some (.iload_n 2, 1, 2, 0, 0, 0, 0, 0, 0, 0, []) := rfl
theorem i_X9_compared_129 : tab t_X9_compared 129 = some (.ifCond .eq 8, 3, 137, 0, 0, 0, 0, 0, 0, 0, []) := rfl
theorem i_X9_compared_132 : tab t_X9_compared 132 = some (.bipush 7, 2, 0, 7, 0, 0, 0, 0, 0, 0, []) := rfl
theorem i_X9_compared_134 : tab t_X9_compared 134 = some (.goto 5, 3, 139, 0, 0, 0, 0, 0, 0, 0, []) := rfl
theorem i_X9_compared_137 : tab t_X9_compared 137 = some (.bipush 8, 2, 0, 8, 0, 0, 0, 0, 0, 0, []) := rfl
theorem i_X9_compared_139 : tab t_X9_compared 139 = some (.iconst 0, 1, 0, 0, 0, 0, 0, 0, 0, 0, []) := rfl
theorem i_X9_compared_140 : tab t_X9_compared 140 = some (.invokevirtual 319, 3, 2, 0, 0, 0, 155, 10, 0, 0, []) := rfl
theorem i_X9_compared_143 : tab t_X9_compared 143 = some (.return_, 1, 0, 0, 0, 0, 0, 0, 0, 0, []) := rfl
def t_X9_top : List (Nat × rw_) := [(0, (.aload_n 0, 1, 0, 0, 0, 0, 0, 0, 0, 0, [])), (1, (.getfield 332, 3, 0, 0, 0, 9, 36, 0, 0, 0, [])), (4, (.ifCond .ne 7, 3, 11, 0, 0, 0, 0, 0, 0, 0, [])), (7, (.iconst (-1), 1, 0, -1, 0, 0, 0, 0, 0, 0, [])), (8, (.goto 14, 3, 22, 0, 0, 0, 0, 0, 0, 0, [])), (11, (.aload_n 0, 1, 0, 0, 0, 0, 0, 0, 0, 0, [])), (12, (.getfield 102, 3, 2, 0, 0, 9, 45, 0, 0, 0, [])), (15, (.aload_n 0, 1, 0, 0, 0, 0, 0, 0, 0, 0, [])), (16, (.getfield 332, 3, 0, 0, 0, 9, 36, 0, 0, 0, [])), (19, (.iconst 1, 1, 0, 1, 0, 0, 0, 0, 0, 0, [])), (20, (.isub, 1, 0, 0, 0, 0, 0, 0, 0, 0, [])), (21, (.iaload, 1, 0, 0, 0, 0, 0, 0, 0, 0, [])), (22, (.ireturn, 1, 0, 0, 0, 0, 0, 0, 0, 0, []))]
set_option maxRecDepth 100000 in
theorem ok_X9_top : tb_ok ctX9 m_X9_top t_X9_top = true := by decide +kernel
theorem i_X9_top_0 : tab t_X9_top 0 = some (.aload_n 0, 1, 0, 0, 0, 0, 0, 0, 0, 0, []) := rfl
theorem i_X9_top_1 : tab t_X9_top 1 = some (.getfield 332, 3, 0, 0, 0, 9, 36, 0, 0, 0, []) := rfl
theorem i_X9_top_4 : tab t_X9_top 4 = some (.ifCond .ne 7, 3, 11, 0, 0, 0, 0, 0, 0, 0, []) := rfl
theorem i_X9_top_7 : tab t_X9_top 7 = some (.iconst (-1), 1, 0, -1, 0, 0, 0, 0, 0, 0, []) := rfl
theorem i_X9_top_8 : tab t_X9_top 8 = some (.goto 14, 3, 22, 0, 0, 0, 0, 0, 0, 0, []) := rfl
theorem i_X9_top_11 : tab t_X9_top 11 = some (.aload_n 0, 1, 0, 0, 0, 0, 0, 0, 0, 0, []) := rfl
theorem i_X9_top_12 : tab t_X9_top 12 = some (.getfield 102, 3, 2, 0, 0, 9, 45, 0, 0, 0, []) := rfl
theorem i_X9_top_15 : tab t_X9_top 15 = some (.aload_n 0, 1, 0, 0, 0, 0, 0, 0, 0, 0, []) := rfl
theorem i_X9_top_16 : tab t_X9_top 16 = some (.getfield 332, 3, 0, 0, 0, 9, 36, 0, 0, 0, []) := rfl
theorem i_X9_top_19 : tab t_X9_top 19 = some (.iconst 1, 1, 0, 1, 0, 0, 0, 0, 0, 0, []) := rfl
theorem i_X9_top_20 : tab t_X9_top 20 = some (.isub, 1, 0, 0, 0, 0, 0, 0, 0, 0, []) := rfl
theorem i_X9_top_21 : tab t_X9_top 21 = some (.iaload, 1, 0, 0, 0, 0, 0, 0, 0, 0, []) := rfl
theorem i_X9_top_22 : tab t_X9_top 22 = some (.ireturn, 1, 0, 0, 0, 0, 0, 0, 0, 0, []) := rfl
def t_X9_opens : List (Nat × rw_) := [(0, (.iload_n 1, 1, 1, 0, 0, 0, 0, 0, 0, 0, [])), (1, (.bipush 9, 2, 0, 9, 0, 0, 0, 0, 0, 0, [])), (3, (.if_icmp .eq 9, 3, 12, 0, 0, 0, 0, 0, 0, 0, [])), (6, (.iload_n 1, 1, 1, 0, 0, 0, 0, 0, 0, 0, [])), (7, (.bipush 12, 2, 0, 12, 0, 0, 0, 0, 0, 0, [])), (9, (.if_icmp .ne 31, 3, 40, 0, 0, 0, 0, 0, 0, 0, [])), (12, (.aload_n 0, 1, 0, 0, 0, 0, 0, 0, 0, 0, [])), (13, (.getfield 335, 3, 0, 0, 0, 9, 34, 0, 0, 0, [])), (16, (.bipush 10, 2, 0, 10, 0, 0, 0, 0, 0, 0, [])), (18, (.if_icmp .ne 12, 3, 30, 0, 0, 0, 0, 0, 0, 0, [])), (21, (.aload_n 0, 1, 0, 0, 0, 0, 0, 0, 0, 0, [])), (22, (.iconst 2, 1, 0, 2, 0, 0, 0, 0, 0, 0, [])), (23, (.aload_n 0, 1, 0, 0, 0, 0, 0, 0, 0, 0, [])), (24, (.getfield 267, 3, 0, 0, 0, 9, 30, 0, 0, 0, [])), (27, (.invokevirtual 303, 3, 2, 0, 0, 0, 149, 10, 0, 0, [])), (30, (.aload_n 0, 1, 0, 0, 0, 0, 0, 0, 0, 0, [])), (31, (.dup, 1, 0, 0, 0, 0, 0, 0, 0, 0, [])), (32, (.getfield 335, 3, 0, 0, 0, 9, 34, 0, 0, 0, [])), (35, (.iconst 1, 1, 0, 1, 0, 0, 0, 0, 0, 0, [])), (36, (.iadd, 1, 0, 0, 0, 0, 0, 0, 0, 0, [])), (37, (.putfield 335, 3, 0, 0, 0, 9, 34, 0, 0, 0, [])), (40, (.aload_n 0, 1, 0, 0, 0, 0, 0, 0, 0, 0, [])), (41, (.getfield 102, 3, 2, 0, 0, 9, 45, 0, 0, 0, [])), (44, (.aload_n 0, 1, 0, 0, 0, 0, 0, 0, 0, 0, [])), (45, (.getfield 332, 3, 0, 0, 0, 9, 36, 0, 0, 0, [])), (48, (.iload_n 1, 1, 1, 0, 0, 0, 0, 0, 0, 0, [])), (49, (.iastore, 1, 0, 0, 0, 0, 0, 0, 0, 0, [])), (50, (.aload_n 0, 1, 0, 0, 0, 0, 0, 0, 0, 0, [])), (51, (.dup, 1, 0, 0, 0, 0, 0, 0, 0, 0, [])), (52, (.getfield 332, 3, 0, 0, 0, 9, 36, 0, 0, 0, [])), (55, (.iconst 1, 1, 0, 1, 0, 0, 0, 0, 0, 0, [])), (56, (.iadd, 1, 0, 0, 0, 0, 0, 0, 0, 0, [])), (57, (.putfield 332, 3, 0, 0, 0, 9, 36, 0, 0, 0, [])), (60, (.return_, 1, 0, 0, 0, 0, 0, 0, 0, 0, []))]
set_option maxRecDepth 100000 in
theorem ok_X9_opens : tb_ok ctX9 m_X9_opens t_X9_opens = true := by decide +kernel
theorem i_X9_opens_0 : tab t_X9_opens 0 = some (.iload_n 1, 1, 1, 0, 0, 0, 0, 0, 0, 0, []) := rfl
theorem i_X9_opens_1 : tab t_X9_opens 1 = some (.bipush 9, 2, 0, 9, 0, 0, 0, 0, 0, 0, []) := rfl
theorem i_X9_opens_3 : tab t_X9_opens 3 = some (.if_icmp .eq 9, 3, 12, 0, 0, 0, 0, 0, 0, 0, []) := rfl
theorem i_X9_opens_6 : tab t_X9_opens 6 = some (.iload_n 1, 1, 1, 0, 0, 0, 0, 0, 0, 0, []) := rfl
theorem i_X9_opens_7 : tab t_X9_opens 7 = some (.bipush 12, 2, 0, 12, 0, 0, 0, 0, 0, 0, []) := rfl
theorem i_X9_opens_9 : tab t_X9_opens 9 = some (.if_icmp .ne 31, 3, 40, 0, 0, 0, 0, 0, 0, 0, []) := rfl
theorem i_X9_opens_12 : tab t_X9_opens 12 = some (.aload_n 0, 1, 0, 0, 0, 0, 0, 0, 0, 0, []) := rfl
theorem i_X9_opens_13 : tab t_X9_opens 13 = some (.getfield 335, 3, 0, 0, 0, 9, 34, 0, 0, 0, []) := rfl
theorem i_X9_opens_16 : tab t_X9_opens 16 = some (.bipush 10, 2, 0, 10, 0, 0, 0, 0, 0, 0, []) := rfl
theorem i_X9_opens_18 : tab t_X9_opens 18 = some (.if_icmp .ne 12, 3, 30, 0, 0, 0, 0, 0, 0, 0, []) := rfl
theorem i_X9_opens_21 : tab t_X9_opens 21 = some (.aload_n 0, 1, 0, 0, 0, 0, 0, 0, 0, 0, []) := rfl
theorem i_X9_opens_22 : tab t_X9_opens 22 = some (.iconst 2, 1, 0, 2, 0, 0, 0, 0, 0, 0, []) := rfl
theorem i_X9_opens_23 : tab t_X9_opens 23 = some (.aload_n 0, 1, 0, 0, 0, 0, 0, 0, 0, 0, []) := rfl
theorem i_X9_opens_24 : tab t_X9_opens 24 = some (.getfield 267, 3, 0, 0, 0, 9, 30, 0, 0, 0, []) := rfl
theorem i_X9_opens_27 : tab t_X9_opens 27 = some (.invokevirtual 303, 3, 2, 0, 0, 0, 149, 10, 0, 0, []) := rfl
theorem i_X9_opens_30 : tab t_X9_opens 30 = some (.aload_n 0, 1, 0, 0, 0, 0, 0, 0, 0, 0, []) := rfl
theorem i_X9_opens_31 : tab t_X9_opens 31 = some (.dup, 1, 0, 0, 0, 0, 0, 0, 0, 0, []) := rfl
theorem i_X9_opens_32 : tab t_X9_opens 32 = some (.getfield 335, 3, 0, 0, 0, 9, 34, 0, 0, 0, []) := rfl
theorem i_X9_opens_35 : tab t_X9_opens 35 = some (.iconst 1, 1, 0, 1, 0, 0, 0, 0, 0, 0, []) := rfl
theorem i_X9_opens_36 : tab t_X9_opens 36 = some (.iadd, 1, 0, 0, 0, 0, 0, 0, 0, 0, []) := rfl
theorem i_X9_opens_37 : tab t_X9_opens 37 = some (.putfield 335, 3, 0, 0, 0, 9, 34, 0, 0, 0, []) := rfl
theorem i_X9_opens_40 : tab t_X9_opens 40 = some (.aload_n 0, 1, 0, 0, 0, 0, 0, 0, 0, 0, []) := rfl
theorem i_X9_opens_41 : tab t_X9_opens 41 = some (.getfield 102, 3, 2, 0, 0, 9, 45, 0, 0, 0, []) := rfl
theorem i_X9_opens_44 : tab t_X9_opens 44 = some (.aload_n 0, 1, 0, 0, 0, 0, 0, 0, 0, 0, []) := rfl
theorem i_X9_opens_45 : tab t_X9_opens 45 = some (.getfield 332, 3, 0, 0, 0, 9, 36, 0, 0, 0, []) := rfl
theorem i_X9_opens_48 : tab t_X9_opens 48 = some (.iload_n 1, 1, 1, 0, 0, 0, 0, 0, 0, 0, []) := rfl
theorem i_X9_opens_49 : tab t_X9_opens 49 = some (.iastore, 1, 0, 0, 0, 0, 0, 0, 0, 0, []) := rfl
theorem i_X9_opens_50 : tab t_X9_opens 50 = some (.aload_n 0, 1, 0, 0, 0, 0, 0, 0, 0, 0, []) := rfl
theorem i_X9_opens_51 : tab t_X9_opens 51 = some (.dup, 1, 0, 0, 0, 0, 0, 0, 0, 0, []) := rfl
theorem i_X9_opens_52 : tab t_X9_opens 52 = some (.getfield 332, 3, 0, 0, 0, 9, 36, 0, 0, 0, []) := rfl
theorem i_X9_opens_55 : tab t_X9_opens 55 = some (.iconst 1, 1, 0, 1, 0, 0, 0, 0, 0, 0, []) := rfl
theorem i_X9_opens_56 : tab t_X9_opens 56 = some (.iadd, 1, 0, 0, 0, 0, 0, 0, 0, 0, []) := rfl
theorem i_X9_opens_57 : tab t_X9_opens 57 = some (.putfield 332, 3, 0, 0, 0, 9, 36, 0, 0, 0, []) := rfl
theorem i_X9_opens_60 : tab t_X9_opens 60 = some (.return_, 1, 0, 0, 0, 0, 0, 0, 0, 0, []) := rfl
def t_X9_answers : List (Nat × rw_) := [(0, (.aload_n 0, 1, 0, 0, 0, 0, 0, 0, 0, 0, [])), (1, (.invokevirtual 338, 3, 0, 0, 0, 0, 161, 10, 0, 0, [])), (4, (.iload_n 1, 1, 1, 0, 0, 0, 0, 0, 0, 0, [])), (5, (.if_icmp .ne 49, 3, 54, 0, 0, 0, 0, 0, 0, 0, [])), (8, (.aload_n 0, 1, 0, 0, 0, 0, 0, 0, 0, 0, [])), (9, (.getfield 264, 3, 0, 0, 0, 9, 31, 0, 0, 0, [])), (12, (.ifCond .ne 42, 3, 54, 0, 0, 0, 0, 0, 0, 0, [])), (15, (.aload_n 0, 1, 0, 0, 0, 0, 0, 0, 0, 0, [])), (16, (.iload_n 1, 1, 1, 0, 0, 0, 0, 0, 0, 0, [])), (17, (.iconst 0, 1, 0, 0, 0, 0, 0, 0, 0, 0, [])), (18, (.invokevirtual 319, 3, 2, 0, 0, 0, 155, 10, 0, 0, [])), (21, (.aload_n 0, 1, 0, 0, 0, 0, 0, 0, 0, 0, [])), (22, (.dup, 1, 0, 0, 0, 0, 0, 0, 0, 0, [])), (23, (.getfield 332, 3, 0, 0, 0, 9, 36, 0, 0, 0, [])), (26, (.iconst 1, 1, 0, 1, 0, 0, 0, 0, 0, 0, [])), (27, (.isub, 1, 0, 0, 0, 0, 0, 0, 0, 0, [])), (28, (.putfield 332, 3, 0, 0, 0, 9, 36, 0, 0, 0, [])), (31, (.aload_n 0, 1, 0, 0, 0, 0, 0, 0, 0, 0, [])), (32, (.dup, 1, 0, 0, 0, 0, 0, 0, 0, 0, [])), (33, (.getfield 335, 3, 0, 0, 0, 9, 34, 0, 0, 0, [])), (36, (.iload_n 1, 1, 1, 0, 0, 0, 0, 0, 0, 0, [])), (37, (.bipush 9, 2, 0, 9, 0, 0, 0, 0, 0, 0, [])), (39, (.if_icmp .ne 7, 3, 46, 0, 0, 0, 0, 0, 0, 0, [])), (42, (.iconst 1, 1, 0, 1, 0, 0, 0, 0, 0, 0, [])), (43, (.goto 4, 3, 47, 0, 0, 0, 0, 0, 0, 0, [])), (46, (.iconst 0, 1, 0, 0, 0, 0, 0, 0, 0, 0, [])), (47, (.isub, 1, 0, 0, 0, 0, 0, 0, 0, 0, [])), (48, (.putfield 335, 3, 0, 0, 0, 9, 34, 0, 0, 0, [])), (51, (.goto (-51), 3, 0, 0, 0, 0, 0, 0, 0, 0, [])), (54, (.return_, 1, 0, 0, 0, 0, 0, 0, 0, 0, []))]
set_option maxRecDepth 100000 in
theorem ok_X9_answers : tb_ok ctX9 m_X9_answers t_X9_answers = true := by decide +kernel
theorem i_X9_answers_0 : tab t_X9_answers 0 = some (.aload_n 0, 1, 0, 0, 0, 0, 0, 0, 0, 0, []) := rfl
theorem i_X9_answers_1 : tab t_X9_answers 1 = some (.invokevirtual 338, 3, 0, 0, 0, 0, 161, 10, 0, 0, []) := rfl
theorem i_X9_answers_4 : tab t_X9_answers 4 = some (.iload_n 1, 1, 1, 0, 0, 0, 0, 0, 0, 0, []) := rfl
theorem i_X9_answers_5 : tab t_X9_answers 5 = some (.if_icmp .ne 49, 3, 54, 0, 0, 0, 0, 0, 0, 0, []) := rfl
theorem i_X9_answers_8 : tab t_X9_answers 8 = some (.aload_n 0, 1, 0, 0, 0, 0, 0, 0, 0, 0, []) := rfl
theorem i_X9_answers_9 : tab t_X9_answers 9 = some (.getfield 264, 3, 0, 0, 0, 9, 31, 0, 0, 0, []) := rfl
theorem i_X9_answers_12 : tab t_X9_answers 12 = some (.ifCond .ne 42, 3, 54, 0, 0, 0, 0, 0, 0, 0, []) := rfl
theorem i_X9_answers_15 : tab t_X9_answers 15 = some (.aload_n 0, 1, 0, 0, 0, 0, 0, 0, 0, 0, []) := rfl
theorem i_X9_answers_16 : tab t_X9_answers 16 = some (.iload_n 1, 1, 1, 0, 0, 0, 0, 0, 0, 0, []) := rfl
theorem i_X9_answers_17 : tab t_X9_answers 17 = some (.iconst 0, 1, 0, 0, 0, 0, 0, 0, 0, 0, []) := rfl
theorem i_X9_answers_18 : tab t_X9_answers 18 = some (.invokevirtual 319, 3, 2, 0, 0, 0, 155, 10, 0, 0, []) := rfl
theorem i_X9_answers_21 : tab t_X9_answers 21 = some (.aload_n 0, 1, 0, 0, 0, 0, 0, 0, 0, 0, []) := rfl
theorem i_X9_answers_22 : tab t_X9_answers 22 = some (.dup, 1, 0, 0, 0, 0, 0, 0, 0, 0, []) := rfl
theorem i_X9_answers_23 : tab t_X9_answers 23 = some (.getfield 332, 3, 0, 0, 0, 9, 36, 0, 0, 0, []) := rfl
theorem i_X9_answers_26 : tab t_X9_answers 26 = some (.iconst 1, 1, 0, 1, 0, 0, 0, 0, 0, 0, []) := rfl
theorem i_X9_answers_27 : tab t_X9_answers 27 = some (.isub, 1, 0, 0, 0, 0, 0, 0, 0, 0, []) := rfl
theorem i_X9_answers_28 : tab t_X9_answers 28 = some (.putfield 332, 3, 0, 0, 0, 9, 36, 0, 0, 0, []) := rfl
theorem i_X9_answers_31 : tab t_X9_answers 31 = some (.aload_n 0, 1, 0, 0, 0, 0, 0, 0, 0, 0, []) := rfl
theorem i_X9_answers_32 : tab t_X9_answers 32 = some (.dup, 1, 0, 0, 0, 0, 0, 0, 0, 0, []) := rfl
theorem i_X9_answers_33 : tab t_X9_answers 33 = some (.getfield 335, 3, 0, 0, 0, 9, 34, 0, 0, 0, []) := rfl
theorem i_X9_answers_36 : tab t_X9_answers 36 = some (.iload_n 1, 1, 1, 0, 0, 0, 0, 0, 0, 0, []) := rfl
theorem i_X9_answers_37 : tab t_X9_answers 37 = some (.bipush 9, 2, 0, 9, 0, 0, 0, 0, 0, 0, []) := rfl
theorem i_X9_answers_39 : tab t_X9_answers 39 = some (.if_icmp .ne 7, 3, 46, 0, 0, 0, 0, 0, 0, 0, []) := rfl
theorem i_X9_answers_42 : tab t_X9_answers 42 = some (.iconst 1, 1, 0, 1, 0, 0, 0, 0, 0, 0, []) := rfl
theorem i_X9_answers_43 : tab t_X9_answers 43 = some (.goto 4, 3, 47, 0, 0, 0, 0, 0, 0, 0, []) := rfl
theorem i_X9_answers_46 : tab t_X9_answers 46 = some (.iconst 0, 1, 0, 0, 0, 0, 0, 0, 0, 0, []) := rfl
theorem i_X9_answers_47 : tab t_X9_answers 47 = some (.isub, 1, 0, 0, 0, 0, 0, 0, 0, 0, []) := rfl
theorem i_X9_answers_48 : tab t_X9_answers 48 = some (.putfield 335, 3, 0, 0, 0, 9, 34, 0, 0, 0, []) := rfl
theorem i_X9_answers_51 : tab t_X9_answers 51 = some (.goto (-51), 3, 0, 0, 0, 0, 0, 0, 0, 0, []) := rfl
theorem i_X9_answers_54 : tab t_X9_answers 54 = some (.return_, 1, 0, 0, 0, 0, 0, 0, 0, 0, []) := rfl
def t_X9_fact : List (Nat × rw_) := [(0, (.aload_n 0, 1, 0, 0, 0, 0, 0, 0, 0, 0, [])), (1, (.invokevirtual 287, 3, 0, 0, 0, 0, 151, 10, 0, 0, [])), (4, (.aload_n 0, 1, 0, 0, 0, 0, 0, 0, 0, 0, [])), (8, (.invokevirtual 290, 3, 1, 0, 0, 0, 153, 10, 0, 0, [])), (11, (.ifCond .eq 21, 3, 32, 0, 0, 0, 0, 0, 0, 0, [])), (14, (.aload_n 0, 1, 0, 0, 0, 0, 0, 0, 0, 0, [])), (15, (.bipush 9, 2, 0, 9, 0, 0, 0, 0, 0, 0, [])), (17, (.invokevirtual 343, 3, 1, 0, 0, 0, 162, 10, 0, 0, [])), (20, (.aload_n 0, 1, 0, 0, 0, 0, 0, 0, 0, 0, [])), (21, (.dup, 1, 0, 0, 0, 0, 0, 0, 0, 0, [])), (22, (.getfield 267, 3, 0, 0, 0, 9, 30, 0, 0, 0, [])), (25, (.iconst 3, 1, 0, 3, 0, 0, 0, 0, 0, 0, [])), (26, (.iadd, 1, 0, 0, 0, 0, 0, 0, 0, 0, [])), (27, (.putfield 267, 3, 0, 0, 0, 9, 30, 0, 0, 0, [])), (30, (.iconst 0, 1, 0, 0, 0, 0, 0, 0, 0, 0, [])), (31, (.ireturn, 1, 0, 0, 0, 1, 0, 0, 0, 0, [])), (32, (.aload_n 0, 1, 0, 0, 0, 0, 0, 0, 0, 0, [])), (33, (.invokevirtual 270, 3, 0, 0, 0, 0, 150, 10, 0, 0, [])), (36, (.bipush 91, 2, 0, 91, 0, 0, 0, 0, 0, 0, [])), (38, (.if_icmp .ne 21, 3, 59, 0, 0, 0, 0, 0, 0, 0, [])), (41, (.aload_n 0, 1, 0, 0, 0, 0, 0, 0, 0, 0, [])), (42, (.bipush 12, 2, 0, 12, 0, 0, 0, 0, 0, 0, [])), (44, (.invokevirtual 343, 3, 1, 0, 0, 0, 162, 10, 0, 0, [])), (47, (.aload_n 0, 1, 0, 0, 0, 0, 0, 0, 0, 0, [])), (48, (.dup, 1, 0, 0, 0, 0, 0, 0, 0, 0, [])), (49, (.getfield 267, 3, 0, 0, 0, 9, 30, 0, 0, 0, [])), (52, (.iconst 1, 1, 0, 1, 0, 0, 0, 0, 0, 0, [])), (53, (.iadd, 1, 0, 0, 0, 0, 0, 0, 0, 0, [])), (54, (.putfield 267, 3, 0, 0, 0, 9, 30, 0, 0, 0, [])), (57, (.iconst 0, 1, 0, 0, 0, 0, 0, 0, 0, 0, [])), (58, (.ireturn, 1, 0, 0, 0, 1, 0, 0, 0, 0, [])), (59, (.aload_n 0, 1, 0, 0, 0, 0, 0, 0, 0, 0, [])), (60, (.invokevirtual 346, 3, 0, 0, 0, 0, 160, 10, 0, 0, [])), (63, (.iconst 1, 1, 0, 1, 0, 0, 0, 0, 0, 0, [])), (64, (.ireturn, 1, 0, 0, 0, 1, 0, 0, 0, 0, []))]
set_option maxRecDepth 100000 in
theorem ok_X9_fact : tb_ok ctX9 m_X9_fact t_X9_fact = true := by decide +kernel
theorem i_X9_fact_0 : tab t_X9_fact 0 = some (.aload_n 0, 1, 0, 0, 0, 0, 0, 0, 0, 0, []) := rfl
theorem i_X9_fact_1 : tab t_X9_fact 1 = some (.invokevirtual 287, 3, 0, 0, 0, 0, 151, 10, 0, 0, []) := rfl
theorem i_X9_fact_4 : tab t_X9_fact 4 = some (.aload_n 0, 1, 0, 0, 0, 0, 0, 0, 0, 0, []) := rfl
theorem i_X9_fact_8 : tab t_X9_fact 8 = some (.invokevirtual 290, 3, 1, 0, 0, 0, 153, 10, 0, 0, []) := rfl
theorem i_X9_fact_11 : tab t_X9_fact 11 = some (.ifCond .eq 21, 3, 32, 0, 0, 0, 0, 0, 0, 0, []) := rfl
theorem i_X9_fact_14 : tab t_X9_fact 14 = some (.aload_n 0, 1, 0, 0, 0, 0, 0, 0, 0, 0, []) := rfl
theorem i_X9_fact_15 : tab t_X9_fact 15 = some (.bipush 9, 2, 0, 9, 0, 0, 0, 0, 0, 0, []) := rfl
theorem i_X9_fact_17 : tab t_X9_fact 17 = some (.invokevirtual 343, 3, 1, 0, 0, 0, 162, 10, 0, 0, []) := rfl
theorem i_X9_fact_20 : tab t_X9_fact 20 = some (.aload_n 0, 1, 0, 0, 0, 0, 0, 0, 0, 0, []) := rfl
theorem i_X9_fact_21 : tab t_X9_fact 21 = some (.dup, 1, 0, 0, 0, 0, 0, 0, 0, 0, []) := rfl
theorem i_X9_fact_22 : tab t_X9_fact 22 = some (.getfield 267, 3, 0, 0, 0, 9, 30, 0, 0, 0, []) := rfl
theorem i_X9_fact_25 : tab t_X9_fact 25 = some (.iconst 3, 1, 0, 3, 0, 0, 0, 0, 0, 0, []) := rfl
theorem i_X9_fact_26 : tab t_X9_fact 26 = some (.iadd, 1, 0, 0, 0, 0, 0, 0, 0, 0, []) := rfl
theorem i_X9_fact_27 : tab t_X9_fact 27 = some (.putfield 267, 3, 0, 0, 0, 9, 30, 0, 0, 0, []) := rfl
theorem i_X9_fact_30 : tab t_X9_fact 30 = some (.iconst 0, 1, 0, 0, 0, 0, 0, 0, 0, 0, []) := rfl
theorem i_X9_fact_31 : tab t_X9_fact 31 = some (.ireturn, 1, 0, 0, 0, 1, 0, 0, 0, 0, []) := rfl
theorem i_X9_fact_32 : tab t_X9_fact 32 = some (.aload_n 0, 1, 0, 0, 0, 0, 0, 0, 0, 0, []) := rfl
theorem i_X9_fact_33 : tab t_X9_fact 33 = some (.invokevirtual 270, 3, 0, 0, 0, 0, 150, 10, 0, 0, []) := rfl
theorem i_X9_fact_36 : tab t_X9_fact 36 = some (.bipush 91, 2, 0, 91, 0, 0, 0, 0, 0, 0, []) := rfl
theorem i_X9_fact_38 : tab t_X9_fact 38 = some (.if_icmp .ne 21, 3, 59, 0, 0, 0, 0, 0, 0, 0, []) := rfl
theorem i_X9_fact_41 : tab t_X9_fact 41 = some (.aload_n 0, 1, 0, 0, 0, 0, 0, 0, 0, 0, []) := rfl
theorem i_X9_fact_42 : tab t_X9_fact 42 = some (.bipush 12, 2, 0, 12, 0, 0, 0, 0, 0, 0, []) := rfl
theorem i_X9_fact_44 : tab t_X9_fact 44 = some (.invokevirtual 343, 3, 1, 0, 0, 0, 162, 10, 0, 0, []) := rfl
theorem i_X9_fact_47 : tab t_X9_fact 47 = some (.aload_n 0, 1, 0, 0, 0, 0, 0, 0, 0, 0, []) := rfl
theorem i_X9_fact_48 : tab t_X9_fact 48 = some (.dup, 1, 0, 0, 0, 0, 0, 0, 0, 0, []) := rfl
theorem i_X9_fact_49 : tab t_X9_fact 49 = some (.getfield 267, 3, 0, 0, 0, 9, 30, 0, 0, 0, []) := rfl
theorem i_X9_fact_52 : tab t_X9_fact 52 = some (.iconst 1, 1, 0, 1, 0, 0, 0, 0, 0, 0, []) := rfl
theorem i_X9_fact_53 : tab t_X9_fact 53 = some (.iadd, 1, 0, 0, 0, 0, 0, 0, 0, 0, []) := rfl
theorem i_X9_fact_54 : tab t_X9_fact 54 = some (.putfield 267, 3, 0, 0, 0, 9, 30, 0, 0, 0, []) := rfl
theorem i_X9_fact_57 : tab t_X9_fact 57 = some (.iconst 0, 1, 0, 0, 0, 0, 0, 0, 0, 0, []) := rfl
theorem i_X9_fact_58 : tab t_X9_fact 58 = some (.ireturn, 1, 0, 0, 0, 1, 0, 0, 0, 0, []) := rfl
theorem i_X9_fact_59 : tab t_X9_fact 59 = some (.aload_n 0, 1, 0, 0, 0, 0, 0, 0, 0, 0, []) := rfl
theorem i_X9_fact_60 : tab t_X9_fact 60 = some (.invokevirtual 346, 3, 0, 0, 0, 0, 160, 10, 0, 0, []) := rfl
theorem i_X9_fact_63 : tab t_X9_fact 63 = some (.iconst 1, 1, 0, 1, 0, 0, 0, 0, 0, 0, []) := rfl
theorem i_X9_fact_64 : tab t_X9_fact 64 = some (.ireturn, 1, 0, 0, 0, 1, 0, 0, 0, 0, []) := rfl
def t_X9_test : List (Nat × rw_) := [(0, (.aload_n 0, 1, 0, 0, 0, 0, 0, 0, 0, 0, [])), (1, (.iconst 0, 1, 0, 0, 0, 0, 0, 0, 0, 0, [])), (2, (.putfield 332, 3, 0, 0, 0, 9, 36, 0, 0, 0, [])), (5, (.iconst 1, 1, 0, 1, 0, 0, 0, 0, 0, 0, [])), (6, (.istore_n 1, 1, 1, 0, 0, 0, 0, 0, 0, 0, [])), (7, (.iconst 1, 1, 0, 1, 0, 0, 0, 0, 0, 0, [])), (8, (.istore_n 2, 1, 2, 0, 0, 0, 0, 0, 0, 0, [])), (9, (.iload_n 2, 1, 2, 0, 0, 0, 0, 0, 0, 0, [])), (10, (.ifCond .eq 192, 3, 202, 0, 0, 0, 0, 0, 0, 0, [])), (13, (.aload_n 0, 1, 0, 0, 0, 0, 0, 0, 0, 0, [])), (14, (.getfield 264, 3, 0, 0, 0, 9, 31, 0, 0, 0, [])), (17, (.ifCond .ne 185, 3, 202, 0, 0, 0, 0, 0, 0, 0, [])), (20, (.iload_n 1, 1, 1, 0, 0, 0, 0, 0, 0, 0, [])), (21, (.ifCond .eq 19, 3, 40, 0, 0, 0, 0, 0, 0, 0, [])), (24, (.aload_n 0, 1, 0, 0, 0, 0, 0, 0, 0, 0, [])), (25, (.invokevirtual 349, 3, 0, 0, 0, 0, 164, 10, 0, 0, [])), (28, (.ifCond .ne 7, 3, 35, 0, 0, 0, 0, 0, 0, 0, [])), (31, (.iconst 1, 1, 0, 1, 0, 0, 0, 0, 0, 0, [])), (32, (.goto 4, 3, 36, 0, 0, 0, 0, 0, 0, 0, [])), (35, (.iconst 0, 1, 0, 0, 0, 0, 0, 0, 0, 0, [])), (36, (.istore_n 1, 1, 1, 0, 0, 0, 0, 0, 0, 0, [])), (37, (.goto (-28), 3, 9, 0, 0, 0, 0, 0, 0, 0, [])), (40, (.aload_n 0, 1, 0, 0, 0, 0, 0, 0, 0, 0, [])), (41, (.bipush 9, 2, 0, 9, 0, 0, 0, 0, 0, 0, [])), (43, (.invokevirtual 352, 3, 1, 0, 0, 0, 163, 10, 0, 0, [])), (46, (.aload_n 0, 1, 0, 0, 0, 0, 0, 0, 0, 0, [])), (47, (.invokevirtual 287, 3, 0, 0, 0, 0, 151, 10, 0, 0, [])), (50, (.aload_n 0, 1, 0, 0, 0, 0, 0, 0, 0, 0, [])), (54, (.invokevirtual 290, 3, 1, 0, 0, 0, 153, 10, 0, 0, [])), (57, (.istore_n 3, 1, 3, 0, 0, 0, 0, 0, 0, 0, [])), (58, (.aload_n 0, 1, 0, 0, 0, 0, 0, 0, 0, 0, [])), (62, (.invokevirtual 290, 3, 1, 0, 0, 0, 153, 10, 0, 0, [])), (65, (.istore 4, 2, 4, 0, 0, 0, 0, 0, 0, 0, [])), (67, (.aload_n 0, 1, 0, 0, 0, 0, 0, 0, 0, 0, [])), (68, (.bipush 10, 2, 0, 10, 0, 0, 0, 0, 0, 0, [])), (70, (.invokevirtual 352, 3, 1, 0, 0, 0, 163, 10, 0, 0, [])), (73, (.iload_n 3, 1, 3, 0, 0, 0, 0, 0, 0, 0, [])), (74, (.ifCond .ne 8, 3, 82, 0, 0, 0, 0, 0, 0, 0, [])), (77, (.iload 4, 2, 4, 0, 0, 0, 0, 0, 0, 0, [])), (79, (.ifCond .eq 52, 3, 131, 0, 0, 0, 0, 0, 0, 0, [])), (82, (.iload 4, 2, 4, 0, 0, 0, 0, 0, 0, 0, [])), (84, (.ifCond .eq 9, 3, 93, 0, 0, 0, 0, 0, 0, 0, [])), (87, (.aload_n 0, 1, 0, 0, 0, 0, 0, 0, 0, 0, [])), (88, (.bipush 11, 2, 0, 11, 0, 0, 0, 0, 0, 0, [])), (90, (.invokevirtual 352, 3, 1, 0, 0, 0, 163, 10, 0, 0, [])), (93, (.aload_n 0, 1, 0, 0, 0, 0, 0, 0, 0, 0, [])), (94, (.iload_n 3, 1, 3, 0, 0, 0, 0, 0, 0, 0, [])), (95, (.ifCond .eq 8, 3, 103, 0, 0, 0, 0, 0, 0, 0, [])), (98, (.bipush 10, 2, 0, 10, 0, 0, 0, 0, 0, 0, [])), (100, (.goto 5, 3, 105, 0, 0, 0, 0, 0, 0, 0, [])), (103, (.bipush 11, 2, 0, 11, 0, 0, 0, 0, 0, 0, [])), (105, (.invokevirtual 343, 3, 1, 0, 0, 0, 162, 10, 0, 0, [])), (108, (.aload_n 0, 1, 0, 0, 0, 0, 0, 0, 0, 0, [])), (109, (.dup, 1, 0, 0, 0, 0, 0, 0, 0, 0, [])), (110, (.getfield 267, 3, 0, 0, 0, 9, 30, 0, 0, 0, [])), (113, (.iload_n 3, 1, 3, 0, 0, 0, 0, 0, 0, 0, [])), (114, (.ifCond .eq 7, 3, 121, 0, 0, 0, 0, 0, 0, 0, [])), (117, (.iconst 3, 1, 0, 3, 0, 0, 0, 0, 0, 0, [])), (118, (.goto 4, 3, 122, 0, 0, 0, 0, 0, 0, 0, [])), (121, (.iconst 2, 1, 0, 2, 0, 0, 0, 0, 0, 0, [])), (122, (.iadd, 1, 0, 0, 0, 0, 0, 0, 0, 0, [])), (123, (.putfield 267, 3, 0, 0, 0, 9, 30, 0, 0, 0, [])), (126, (.iconst 1, 1, 0, 1, 0, 0, 0, 0, 0, 0, [])), (127, (.istore_n 1, 1, 1, 0, 0, 0, 0, 0, 0, 0, [])), (128, (.goto 71, 3, 199, 0, 0, 0, 0, 0, 0, 0, [])), (131, (.aload_n 0, 1, 0, 0, 0, 0, 0, 0, 0, 0, [])), (132, (.bipush 11, 2, 0, 11, 0, 0, 0, 0, 0, 0, [])), (134, (.invokevirtual 352, 3, 1, 0, 0, 0, 163, 10, 0, 0, [])), (137, (.aload_n 0, 1, 0, 0, 0, 0, 0, 0, 0, 0, [])), (138, (.invokevirtual 338, 3, 0, 0, 0, 0, 161, 10, 0, 0, [])), (141, (.bipush 12, 2, 0, 12, 0, 0, 0, 0, 0, 0, [])), (143, (.if_icmp .ne 54, 3, 197, 0, 0, 0, 0, 0, 0, 0, [])), (146, (.aload_n 0, 1, 0, 0, 0, 0, 0, 0, 0, 0, [])), (147, (.invokevirtual 270, 3, 0, 0, 0, 0, 150, 10, 0, 0, [])), (150, (.bipush 93, 2, 0, 93, 0, 0, 0, 0, 0, 0, [])), (152, (.if_icmp .eq 12, 3, 164, 0, 0, 0, 0, 0, 0, 0, [])), (155, (.aload_n 0, 1, 0, 0, 0, 0, 0, 0, 0, 0, [])), (156, (.iconst 0, 1, 0, 0, 0, 0, 0, 0, 0, 0, [])), (157, (.aload_n 0, 1, 0, 0, 0, 0, 0, 0, 0, 0, [])), (158, (.getfield 267, 3, 0, 0, 0, 9, 30, 0, 0, 0, [])), (161, (.invokevirtual 303, 3, 2, 0, 0, 0, 149, 10, 0, 0, [])), (164, (.aload_n 0, 1, 0, 0, 0, 0, 0, 0, 0, 0, [])), (165, (.dup, 1, 0, 0, 0, 0, 0, 0, 0, 0, [])), (166, (.getfield 267, 3, 0, 0, 0, 9, 30, 0, 0, 0, [])), (169, (.iconst 1, 1, 0, 1, 0, 0, 0, 0, 0, 0, [])), (170, (.iadd, 1, 0, 0, 0, 0, 0, 0, 0, 0, [])), (171, (.putfield 267, 3, 0, 0, 0, 9, 30, 0, 0, 0, [])), (174, (.aload_n 0, 1, 0, 0, 0, 0, 0, 0, 0, 0, [])), (175, (.dup, 1, 0, 0, 0, 0, 0, 0, 0, 0, [])), (176, (.getfield 332, 3, 0, 0, 0, 9, 36, 0, 0, 0, [])), (179, (.iconst 1, 1, 0, 1, 0, 0, 0, 0, 0, 0, [])), (180, (.isub, 1, 0, 0, 0, 0, 0, 0, 0, 0, [])), (181, (.putfield 332, 3, 0, 0, 0, 9, 36, 0, 0, 0, [])), (184, (.aload_n 0, 1, 0, 0, 0, 0, 0, 0, 0, 0, [])), (185, (.dup, 1, 0, 0, 0, 0, 0, 0, 0, 0, [])), (186, (.getfield 335, 3, 0, 0, 0, 9, 34, 0, 0, 0, [])), (189, (.iconst 1, 1, 0, 1, 0, 0, 0, 0, 0, 0, [])), (190, (.isub, 1, 0, 0, 0, 0, 0, 0, 0, 0, [])), (191, (.putfield 335, 3, 0, 0, 0, 9, 34, 0, 0, 0, [])), (194, (.goto 5, 3, 199, 0, 0, 0, 0, 0, 0, 0, [])), (197, (.iconst 0, 1, 0, 0, 0, 0, 0, 0, 0, 0, [])), (198, (.istore_n 2, 1, 2, 0, 0, 0, 0, 0, 0, 0, [])), (199, (.goto (-190), 3, 9, 0, 0, 0, 0, 0, 0, 0, [])), (202, (.return_, 1, 0, 0, 0, 0, 0, 0, 0, 0, []))]
set_option maxRecDepth 100000 in
theorem ok_X9_test : tb_ok ctX9 m_X9_test t_X9_test = true := by decide +kernel
theorem i_X9_test_0 : tab t_X9_test 0 = some (.aload_n 0, 1, 0, 0, 0, 0, 0, 0, 0, 0, []) := rfl
theorem i_X9_test_1 : tab t_X9_test 1 = some (.iconst 0, 1, 0, 0, 0, 0, 0, 0, 0, 0, []) := rfl
theorem i_X9_test_2 : tab t_X9_test 2 = some (.putfield 332, 3, 0, 0, 0, 9, 36, 0, 0, 0, []) := rfl
theorem i_X9_test_5 : tab t_X9_test 5 = some (.iconst 1, 1, 0, 1, 0, 0, 0, 0, 0, 0, []) := rfl
theorem i_X9_test_6 : tab t_X9_test 6 = some (.istore_n 1, 1, 1, 0, 0, 0, 0, 0, 0, 0, []) := rfl
theorem i_X9_test_7 : tab t_X9_test 7 = some (.iconst 1, 1, 0, 1, 0, 0, 0, 0, 0, 0, []) := rfl
theorem i_X9_test_8 : tab t_X9_test 8 = some (.istore_n 2, 1, 2, 0, 0, 0, 0, 0, 0, 0, []) := rfl
theorem i_X9_test_9 : tab t_X9_test 9 = some (.iload_n 2, 1, 2, 0, 0, 0, 0, 0, 0, 0, []) := rfl
theorem i_X9_test_10 : tab t_X9_test 10 = some (.ifCond .eq 192, 3, 202, 0, 0, 0, 0, 0, 0, 0, []) := rfl
theorem i_X9_test_13 : tab t_X9_test 13 = some (.aload_n 0, 1, 0, 0, 0, 0, 0, 0, 0, 0, []) := rfl
theorem i_X9_test_14 : tab t_X9_test 14 = some (.getfield 264, 3, 0, 0, 0, 9, 31, 0, 0, 0, []) := rfl
theorem i_X9_test_17 : tab t_X9_test 17 = some (.ifCond .ne 185, 3, 202, 0, 0, 0, 0, 0, 0, 0, []) := rfl
theorem i_X9_test_20 : tab t_X9_test 20 = some (.iload_n 1, 1, 1, 0, 0, 0, 0, 0, 0, 0, []) := rfl
theorem i_X9_test_21 : tab t_X9_test 21 = some (.ifCond .eq 19, 3, 40, 0, 0, 0, 0, 0, 0, 0, []) := rfl
theorem i_X9_test_24 : tab t_X9_test 24 = some (.aload_n 0, 1, 0, 0, 0, 0, 0, 0, 0, 0, []) := rfl
theorem i_X9_test_25 : tab t_X9_test 25 = some (.invokevirtual 349, 3, 0, 0, 0, 0, 164, 10, 0, 0, []) := rfl
theorem i_X9_test_28 : tab t_X9_test 28 = some (.ifCond .ne 7, 3, 35, 0, 0, 0, 0, 0, 0, 0, []) := rfl
theorem i_X9_test_31 : tab t_X9_test 31 = some (.iconst 1, 1, 0, 1, 0, 0, 0, 0, 0, 0, []) := rfl
theorem i_X9_test_32 : tab t_X9_test 32 = some (.goto 4, 3, 36, 0, 0, 0, 0, 0, 0, 0, []) := rfl
theorem i_X9_test_35 : tab t_X9_test 35 = some (.iconst 0, 1, 0, 0, 0, 0, 0, 0, 0, 0, []) := rfl
theorem i_X9_test_36 : tab t_X9_test 36 = some (.istore_n 1, 1, 1, 0, 0, 0, 0, 0, 0, 0, []) := rfl
theorem i_X9_test_37 : tab t_X9_test 37 = some (.goto (-28), 3, 9, 0, 0, 0, 0, 0, 0, 0, []) := rfl
theorem i_X9_test_40 : tab t_X9_test 40 = some (.aload_n 0, 1, 0, 0, 0, 0, 0, 0, 0, 0, []) := rfl
theorem i_X9_test_41 : tab t_X9_test 41 = some (.bipush 9, 2, 0, 9, 0, 0, 0, 0, 0, 0, []) := rfl
theorem i_X9_test_43 : tab t_X9_test 43 = some (.invokevirtual 352, 3, 1, 0, 0, 0, 163, 10, 0, 0, []) := rfl
theorem i_X9_test_46 : tab t_X9_test 46 = some (.aload_n 0, 1, 0, 0, 0, 0, 0, 0, 0, 0, []) := rfl
theorem i_X9_test_47 : tab t_X9_test 47 = some (.invokevirtual 287, 3, 0, 0, 0, 0, 151, 10, 0, 0, []) := rfl
theorem i_X9_test_50 : tab t_X9_test 50 = some (.aload_n 0, 1, 0, 0, 0, 0, 0, 0, 0, 0, []) := rfl
theorem i_X9_test_54 : tab t_X9_test 54 = some (.invokevirtual 290, 3, 1, 0, 0, 0, 153, 10, 0, 0, []) := rfl
theorem i_X9_test_57 : tab t_X9_test 57 = some (.istore_n 3, 1, 3, 0, 0, 0, 0, 0, 0, 0, []) := rfl
theorem i_X9_test_58 : tab t_X9_test 58 = some (.aload_n 0, 1, 0, 0, 0, 0, 0, 0, 0, 0, []) := rfl
theorem i_X9_test_62 : tab t_X9_test 62 = some (.invokevirtual 290, 3, 1, 0, 0, 0, 153, 10, 0, 0, []) := rfl
theorem i_X9_test_65 : tab t_X9_test 65 = some (.istore 4, 2, 4, 0, 0, 0, 0, 0, 0, 0, []) := rfl
theorem i_X9_test_67 : tab t_X9_test 67 = some (.aload_n 0, 1, 0, 0, 0, 0, 0, 0, 0, 0, []) := rfl
theorem i_X9_test_68 : tab t_X9_test 68 = some (.bipush 10, 2, 0, 10, 0, 0, 0, 0, 0, 0, []) := rfl
theorem i_X9_test_70 : tab t_X9_test 70 = some (.invokevirtual 352, 3, 1, 0, 0, 0, 163, 10, 0, 0, []) := rfl
theorem i_X9_test_73 : tab t_X9_test 73 = some (.iload_n 3, 1, 3, 0, 0, 0, 0, 0, 0, 0, []) := rfl
theorem i_X9_test_74 : tab t_X9_test 74 = some (.ifCond .ne 8, 3, 82, 0, 0, 0, 0, 0, 0, 0, []) := rfl
theorem i_X9_test_77 : tab t_X9_test 77 = some (.iload 4, 2, 4, 0, 0, 0, 0, 0, 0, 0, []) := rfl
theorem i_X9_test_79 : tab t_X9_test 79 = some (.ifCond .eq 52, 3, 131, 0, 0, 0, 0, 0, 0, 0, []) := rfl
theorem i_X9_test_82 : tab t_X9_test 82 = some (.iload 4, 2, 4, 0, 0, 0, 0, 0, 0, 0, []) := rfl
theorem i_X9_test_84 : tab t_X9_test 84 = some (.ifCond .eq 9, 3, 93, 0, 0, 0, 0, 0, 0, 0, []) := rfl
theorem i_X9_test_87 : tab t_X9_test 87 = some (.aload_n 0, 1, 0, 0, 0, 0, 0, 0, 0, 0, []) := rfl
theorem i_X9_test_88 : tab t_X9_test 88 = some (.bipush 11, 2, 0, 11, 0, 0, 0, 0, 0, 0, []) := rfl
theorem i_X9_test_90 : tab t_X9_test 90 = some (.invokevirtual 352, 3, 1, 0, 0, 0, 163, 10, 0, 0, []) := rfl
theorem i_X9_test_93 : tab t_X9_test 93 = some (.aload_n 0, 1, 0, 0, 0, 0, 0, 0, 0, 0, []) := rfl
theorem i_X9_test_94 : tab t_X9_test 94 = some (.iload_n 3, 1, 3, 0, 0, 0, 0, 0, 0, 0, []) := rfl
theorem i_X9_test_95 : tab t_X9_test 95 = some (.ifCond .eq 8, 3, 103, 0, 0, 0, 0, 0, 0, 0, []) := rfl
theorem i_X9_test_98 : tab t_X9_test 98 = some (.bipush 10, 2, 0, 10, 0, 0, 0, 0, 0, 0, []) := rfl
theorem i_X9_test_100 : tab t_X9_test 100 = some (.goto 5, 3, 105, 0, 0, 0, 0, 0, 0, 0, []) := rfl
theorem i_X9_test_103 : tab t_X9_test 103 = some (.bipush 11, 2, 0, 11, 0, 0, 0, 0, 0, 0, []) := rfl
theorem i_X9_test_105 : tab t_X9_test 105 = some (.invokevirtual 343, 3, 1, 0, 0, 0, 162, 10, 0, 0, []) := rfl
theorem i_X9_test_108 : tab t_X9_test 108 = some (.aload_n 0, 1, 0, 0, 0, 0, 0, 0, 0, 0, []) := rfl
theorem i_X9_test_109 : tab t_X9_test 109 = some (.dup, 1, 0, 0, 0, 0, 0, 0, 0, 0, []) := rfl
theorem i_X9_test_110 : tab t_X9_test 110 = some (.getfield 267, 3, 0, 0, 0, 9, 30, 0, 0, 0, []) := rfl
theorem i_X9_test_113 : tab t_X9_test 113 = some (.iload_n 3, 1, 3, 0, 0, 0, 0, 0, 0, 0, []) := rfl
theorem i_X9_test_114 : tab t_X9_test 114 = some (.ifCond .eq 7, 3, 121, 0, 0, 0, 0, 0, 0, 0, []) := rfl
theorem i_X9_test_117 : tab t_X9_test 117 = some (.iconst 3, 1, 0, 3, 0, 0, 0, 0, 0, 0, []) := rfl
theorem i_X9_test_118 : tab t_X9_test 118 = some (.goto 4, 3, 122, 0, 0, 0, 0, 0, 0, 0, []) := rfl
theorem i_X9_test_121 : tab t_X9_test 121 = some (.iconst 2, 1, 0, 2, 0, 0, 0, 0, 0, 0, []) := rfl
theorem i_X9_test_122 : tab t_X9_test 122 = some (.iadd, 1, 0, 0, 0, 0, 0, 0, 0, 0, []) := rfl
theorem i_X9_test_123 : tab t_X9_test 123 = some (.putfield 267, 3, 0, 0, 0, 9, 30, 0, 0, 0, []) := rfl
theorem i_X9_test_126 : tab t_X9_test 126 = some (.iconst 1, 1, 0, 1, 0, 0, 0, 0, 0, 0, []) := rfl
theorem i_X9_test_127 : tab t_X9_test 127 = some (.istore_n 1, 1, 1, 0, 0, 0, 0, 0, 0, 0, []) := rfl
theorem i_X9_test_128 : tab t_X9_test 128 = some (.goto 71, 3, 199, 0, 0, 0, 0, 0, 0, 0, []) := rfl
theorem i_X9_test_131 : tab t_X9_test 131 = some (.aload_n 0, 1, 0, 0, 0, 0, 0, 0, 0, 0, []) := rfl
theorem i_X9_test_132 : tab t_X9_test 132 = some (.bipush 11, 2, 0, 11, 0, 0, 0, 0, 0, 0, []) := rfl
theorem i_X9_test_134 : tab t_X9_test 134 = some (.invokevirtual 352, 3, 1, 0, 0, 0, 163, 10, 0, 0, []) := rfl
theorem i_X9_test_137 : tab t_X9_test 137 = some (.aload_n 0, 1, 0, 0, 0, 0, 0, 0, 0, 0, []) := rfl
theorem i_X9_test_138 : tab t_X9_test 138 = some (.invokevirtual 338, 3, 0, 0, 0, 0, 161, 10, 0, 0, []) := rfl
theorem i_X9_test_141 : tab t_X9_test 141 = some (.bipush 12, 2, 0, 12, 0, 0, 0, 0, 0, 0, []) := rfl
theorem i_X9_test_143 : tab t_X9_test 143 = some (.if_icmp .ne 54, 3, 197, 0, 0, 0, 0, 0, 0, 0, []) := rfl
theorem i_X9_test_146 : tab t_X9_test 146 = some (.aload_n 0, 1, 0, 0, 0, 0, 0, 0, 0, 0, []) := rfl
theorem i_X9_test_147 : tab t_X9_test 147 = some (.invokevirtual 270, 3, 0, 0, 0, 0, 150, 10, 0, 0, []) := rfl
theorem i_X9_test_150 : tab t_X9_test 150 = some (.bipush 93, 2, 0, 93, 0, 0, 0, 0, 0, 0, []) := rfl
theorem i_X9_test_152 : tab t_X9_test 152 = some (.if_icmp .eq 12, 3, 164, 0, 0, 0, 0, 0, 0, 0, []) := rfl
theorem i_X9_test_155 : tab t_X9_test 155 = some (.aload_n 0, 1, 0, 0, 0, 0, 0, 0, 0, 0, []) := rfl
theorem i_X9_test_156 : tab t_X9_test 156 = some (.iconst 0, 1, 0, 0, 0, 0, 0, 0, 0, 0, []) := rfl
theorem i_X9_test_157 : tab t_X9_test 157 = some (.aload_n 0, 1, 0, 0, 0, 0, 0, 0, 0, 0, []) := rfl
theorem i_X9_test_158 : tab t_X9_test 158 = some (.getfield 267, 3, 0, 0, 0, 9, 30, 0, 0, 0, []) := rfl
theorem i_X9_test_161 : tab t_X9_test 161 = some (.invokevirtual 303, 3, 2, 0, 0, 0, 149, 10, 0, 0, []) := rfl
theorem i_X9_test_164 : tab t_X9_test 164 = some (.aload_n 0, 1, 0, 0, 0, 0, 0, 0, 0, 0, []) := rfl
theorem i_X9_test_165 : tab t_X9_test 165 = some (.dup, 1, 0, 0, 0, 0, 0, 0, 0, 0, []) := rfl
theorem i_X9_test_166 : tab t_X9_test 166 = some (.getfield 267, 3, 0, 0, 0, 9, 30, 0, 0, 0, []) := rfl
theorem i_X9_test_169 : tab t_X9_test 169 = some (.iconst 1, 1, 0, 1, 0, 0, 0, 0, 0, 0, []) := rfl
theorem i_X9_test_170 : tab t_X9_test 170 = some (.iadd, 1, 0, 0, 0, 0, 0, 0, 0, 0, []) := rfl
theorem i_X9_test_171 : tab t_X9_test 171 = some (.putfield 267, 3, 0, 0, 0, 9, 30, 0, 0, 0, []) := rfl
theorem i_X9_test_174 : tab t_X9_test 174 = some (.aload_n 0, 1, 0, 0, 0, 0, 0, 0, 0, 0, []) := rfl
theorem i_X9_test_175 : tab t_X9_test 175 = some (.dup, 1, 0, 0, 0, 0, 0, 0, 0, 0, []) := rfl
theorem i_X9_test_176 : tab t_X9_test 176 = some (.getfield 332, 3, 0, 0, 0, 9, 36, 0, 0, 0, []) := rfl
theorem i_X9_test_179 : tab t_X9_test 179 = some (.iconst 1, 1, 0, 1, 0, 0, 0, 0, 0, 0, []) := rfl
theorem i_X9_test_180 : tab t_X9_test 180 = some (.isub, 1, 0, 0, 0, 0, 0, 0, 0, 0, []) := rfl
theorem i_X9_test_181 : tab t_X9_test 181 = some (.putfield 332, 3, 0, 0, 0, 9, 36, 0, 0, 0, []) := rfl
theorem i_X9_test_184 : tab t_X9_test 184 = some (.aload_n 0, 1, 0, 0, 0, 0, 0, 0, 0, 0, []) := rfl
theorem i_X9_test_185 : tab t_X9_test 185 = some (.dup, 1, 0, 0, 0, 0, 0, 0, 0, 0, []) := rfl
theorem i_X9_test_186 : tab t_X9_test 186 = some (.getfield 335, 3, 0, 0, 0, 9, 34, 0, 0, 0, []) := rfl
theorem i_X9_test_189 : tab t_X9_test 189 = some (.iconst 1, 1, 0, 1, 0, 0, 0, 0, 0, 0, []) := rfl
theorem i_X9_test_190 : tab t_X9_test 190 = some (.isub, 1, 0, 0, 0, 0, 0, 0, 0, 0, []) := rfl
theorem i_X9_test_191 : tab t_X9_test 191 = some (.putfield 335, 3, 0, 0, 0, 9, 34, 0, 0, 0, []) := rfl
theorem i_X9_test_194 : tab t_X9_test 194 = some (.goto 5, 3, 199, 0, 0, 0, 0, 0, 0, 0, []) := rfl
theorem i_X9_test_197 : tab t_X9_test 197 = some (.iconst 0, 1, 0, 0, 0, 0, 0, 0, 0, 0, []) := rfl
theorem i_X9_test_198 : tab t_X9_test 198 = some (.istore_n 2, 1, 2, 0, 0, 0, 0, 0, 0, 0, []) := rfl
theorem i_X9_test_199 : tab t_X9_test 199 = some (.goto (-190), 3, 9, 0, 0, 0, 0, 0, 0, 0, []) := rfl
theorem i_X9_test_202 : tab t_X9_test 202 = some (.return_, 1, 0, 0, 0, 0, 0, 0, 0, 0, []) := rfl
def t_X9_clause : List (Nat × rw_) := [(0, (.aload_n 0, 1, 0, 0, 0, 0, 0, 0, 0, 0, [])), (1, (.invokevirtual 287, 3, 0, 0, 0, 0, 151, 10, 0, 0, [])), (4, (.aload_n 0, 1, 0, 0, 0, 0, 0, 0, 0, 0, [])), (5, (.getfield 267, 3, 0, 0, 0, 9, 30, 0, 0, 0, [])), (8, (.istore_n 2, 1, 2, 0, 0, 0, 0, 0, 0, 0, [])), (9, (.iconst 0, 1, 0, 0, 0, 0, 0, 0, 0, 0, [])), (10, (.istore_n 3, 1, 3, 0, 0, 0, 0, 0, 0, 0, [])), (11, (.iload_n 3, 1, 3, 0, 0, 0, 0, 0, 0, 0, [])), (12, (.iconst 3, 1, 0, 3, 0, 0, 0, 0, 0, 0, [])), (13, (.if_icmp .ge 20, 3, 33, 0, 0, 0, 0, 0, 0, 0, [])), (16, (.aload_n 0, 1, 0, 0, 0, 0, 0, 0, 0, 0, [])), (17, (.iload_n 3, 1, 3, 0, 0, 0, 0, 0, 0, 0, [])), (18, (.invokestatic 359, 3, 1, 0, 0, 0, 147, 0, 0, 0, [])), (21, (.invokevirtual 290, 3, 1, 0, 0, 0, 153, 10, 0, 0, [])), (24, (.ifCond .ne 9, 3, 33, 0, 0, 0, 0, 0, 0, 0, [])), (27, (.iinc 3 1, 3, 3, 1, 0, 0, 0, 0, 0, 0, [])), (30, (.goto (-19), 3, 11, 0, 0, 0, 0, 0, 0, 0, [])), (33, (.iload_n 3, 1, 3, 0, 0, 0, 0, 0, 0, 0, [])), (34, (.iconst 3, 1, 0, 3, 0, 0, 0, 0, 0, 0, [])), (35, (.if_icmp .ne 10, 3, 45, 0, 0, 0, 0, 0, 0, 0, [])), (38, (.aload_n 0, 1, 0, 0, 0, 0, 0, 0, 0, 0, [])), (39, (.iconst 0, 1, 0, 0, 0, 0, 0, 0, 0, 0, [])), (40, (.iload_n 2, 1, 2, 0, 0, 0, 0, 0, 0, 0, [])), (41, (.invokevirtual 303, 3, 2, 0, 0, 0, 149, 10, 0, 0, [])), (44, (.return_, 1, 0, 0, 0, 0, 0, 0, 0, 0, [])), (45, (.iload_n 1, 1, 1, 0, 0, 0, 0, 0, 0, 0, [])), (46, (.bipush 12, 2, 0, 12, 0, 0, 0, 0, 0, 0, [])), (48, (.if_icmp .ne 10, 3, 58, 0, 0, 0, 0, 0, 0, 0, [])), (51, (.aload_n 0, 1, 0, 0, 0, 0, 0, 0, 0, 0, [])), (52, (.iconst 4, 1, 0, 4, 0, 0, 0, 0, 0, 0, [])), (53, (.iload_n 2, 1, 2, 0, 0, 0, 0, 0, 0, 0, [])), (54, (.invokevirtual 303, 3, 2, 0, 0, 0, 149, 10, 0, 0, [])), (57, (.return_, 1, 0, 0, 0, 0, 0, 0, 0, 0, [])), (58, (.aload_n 0, 1, 0, 0, 0, 0, 0, 0, 0, 0, [])), (59, (.dup, 1, 0, 0, 0, 0, 0, 0, 0, 0, [])), (60, (.getfield 267, 3, 0, 0, 0, 9, 30, 0, 0, 0, [])), (63, (.iload_n 3, 1, 3, 0, 0, 0, 0, 0, 0, 0, [])), (64, (.invokestatic 359, 3, 1, 0, 0, 0, 147, 0, 0, 0, [])), (67, (.invokevirtual 278, 3, 0, 0, 0, 0, 231, 40, 0, 0, [])), (70, (.iadd, 1, 0, 0, 0, 0, 0, 0, 0, 0, [])), (71, (.putfield 267, 3, 0, 0, 0, 9, 30, 0, 0, 0, [])), (74, (.bipush 12, 2, 0, 12, 0, 0, 0, 0, 0, 0, [])), (76, (.aload_n 0, 1, 0, 0, 0, 0, 0, 0, 0, 0, [])), (77, (.getfield 294, 3, 0, 0, 0, 9, 32, 0, 0, 0, [])), (80, (.imul, 1, 0, 0, 0, 0, 0, 0, 0, 0, [])), (81, (.iload_n 1, 1, 1, 0, 0, 0, 0, 0, 0, 0, [])), (82, (.iadd, 1, 0, 0, 0, 0, 0, 0, 0, 0, [])), (83, (.istore 4, 2, 4, 0, 0, 0, 0, 0, 0, 0, [])), (85, (.aload_n 0, 1, 0, 0, 0, 0, 0, 0, 0, 0, [])), (86, (.getfield 90, 3, 2, 0, 0, 9, 41, 0, 0, 0, [])), (89, (.iload 4, 2, 4, 0, 0, 0, 0, 0, 0, 0, [])), (91, (.iload_n 3, 1, 3, 0, 0, 0, 0, 0, 0, 0, [])), (92, (.iastore, 1, 0, 0, 0, 0, 0, 0, 0, 0, [])), (93, (.aload_n 0, 1, 0, 0, 0, 0, 0, 0, 0, 0, [])), (94, (.getfield 93, 3, 2, 0, 0, 9, 42, 0, 0, 0, [])), (97, (.iload 4, 2, 4, 0, 0, 0, 0, 0, 0, 0, [])), (99, (.iconst 0, 1, 0, 0, 0, 0, 0, 0, 0, 0, [])), (100, (.iastore, 1, 0, 0, 0, 0, 0, 0, 0, 0, [])), (101, (.aload_n 0, 1, 0, 0, 0, 0, 0, 0, 0, 0, [])), (102, (.getfield 96, 3, 2, 0, 0, 9, 43, 0, 0, 0, [])), (105, (.iload 4, 2, 4, 0, 0, 0, 0, 0, 0, 0, [])), (107, (.aload_n 0, 1, 0, 0, 0, 0, 0, 0, 0, 0, [])), (108, (.getfield 297, 3, 0, 0, 0, 9, 33, 0, 0, 0, [])), (111, (.iastore, 1, 0, 0, 0, 0, 0, 0, 0, 0, [])), (112, (.iload_n 3, 1, 3, 0, 0, 0, 0, 0, 0, 0, [])), (113, (.ifCond .ne 78, 3, 191, 0, 0, 0, 0, 0, 0, 0, [])), (116, (.aload_n 0, 1, 0, 0, 0, 0, 0, 0, 0, 0, [])), (117, (.invokevirtual 287, 3, 0, 0, 0, 0, 151, 10, 0, 0, [])), (120, (.iconst 0, 1, 0, 0, 0, 0, 0, 0, 0, 0, [])), (121, (.istore 5, 2, 5, 0, 0, 0, 0, 0, 0, 0, [])), (123, (.iload 5, 2, 5, 0, 0, 0, 0, 0, 0, 0, [])), (125, (.bipush 7, 2, 0, 7, 0, 0, 0, 0, 0, 0, [])), (127, (.if_icmp .ge 21, 3, 148, 0, 0, 0, 0, 0, 0, 0, [])), (130, (.aload_n 0, 1, 0, 0, 0, 0, 0, 0, 0, 0, [])), (131, (.iload 5, 2, 5, 0, 0, 0, 0, 0, 0, 0, [])), (133, (.invokestatic 362, 3, 1, 0, 0, 0, 148, 0, 0, 0, [])), (136, (.invokevirtual 290, 3, 1, 0, 0, 0, 153, 10, 0, 0, [])), (139, (.ifCond .ne 9, 3, 148, 0, 0, 0, 0, 0, 0, 0, [])), (142, (.iinc 5 1, 3, 5, 1, 0, 0, 0, 0, 0, 0, [])), (145, (.goto (-22), 3, 123, 0, 0, 0, 0, 0, 0, 0, [])), (148, (.iload 5, 2, 5, 0, 0, 0, 0, 0, 0, 0, [])), (150, (.bipush 7, 2, 0, 7, 0, 0, 0, 0, 0, 0, [])), (152, (.if_icmp .ne 13, 3, 165, 0, 0, 0, 0, 0, 0, 0, [])), (155, (.aload_n 0, 1, 0, 0, 0, 0, 0, 0, 0, 0, [])), (156, (.iconst 0, 1, 0, 0, 0, 0, 0, 0, 0, 0, [])), (157, (.aload_n 0, 1, 0, 0, 0, 0, 0, 0, 0, 0, [])), (158, (.getfield 267, 3, 0, 0, 0, 9, 30, 0, 0, 0, [])), (161, (.invokevirtual 303, 3, 2, 0, 0, 0, 149, 10, 0, 0, [])), (164, (.return_, 1, 0, 0, 0, 0, 0, 0, 0, 0, [])), (165, (.aload_n 0, 1, 0, 0, 0, 0, 0, 0, 0, 0, [])), (166, (.getfield 93, 3, 2, 0, 0, 9, 42, 0, 0, 0, [])), (169, (.iload 4, 2, 4, 0, 0, 0, 0, 0, 0, 0, [])), (171, (.iload 5, 2, 5, 0, 0, 0, 0, 0, 0, 0, [])), (173, (.iastore, 1, 0, 0, 0, 0, 0, 0, 0, 0, [])), (174, (.aload_n 0, 1, 0, 0, 0, 0, 0, 0, 0, 0, [])), (175, (.dup, 1, 0, 0, 0, 0, 0, 0, 0, 0, [])), (176, (.getfield 267, 3, 0, 0, 0, 9, 30, 0, 0, 0, [])), (179, (.iload 5, 2, 5, 0, 0, 0, 0, 0, 0, 0, [])), (181, (.invokestatic 362, 3, 1, 0, 0, 0, 148, 0, 0, 0, [])), (184, (.invokevirtual 278, 3, 0, 0, 0, 0, 231, 40, 0, 0, [])), (187, (.iadd, 1, 0, 0, 0, 0, 0, 0, 0, 0, [])), (188, (.putfield 267, 3, 0, 0, 0, 9, 30, 0, 0, 0, [])), (191, (.iload_n 3, 1, 3, 0, 0, 0, 0, 0, 0, 0, [])), (192, (.ifCond .ne 13, 3, 205, 0, 0, 0, 0, 0, 0, 0, [])), (195, (.aload_n 0, 1, 0, 0, 0, 0, 0, 0, 0, 0, [])), (199, (.invokevirtual 367, 3, 1, 0, 0, 0, 154, 10, 0, 0, [])), (202, (.ifCond .eq 7, 3, 209, 0, 0, 0, 0, 0, 0, 0, [])), (205, (.aload_n 0, 1, 0, 0, 0, 0, 0, 0, 0, 0, [])), (206, (.invokevirtual 370, 3, 0, 0, 0, 0, 165, 10, 0, 0, [])), (209, (.aload_n 0, 1, 0, 0, 0, 0, 0, 0, 0, 0, [])), (210, (.getfield 99, 3, 2, 0, 0, 9, 44, 0, 0, 0, [])), (213, (.iload 4, 2, 4, 0, 0, 0, 0, 0, 0, 0, [])), (215, (.aload_n 0, 1, 0, 0, 0, 0, 0, 0, 0, 0, [])), (216, (.getfield 297, 3, 0, 0, 0, 9, 33, 0, 0, 0, [])), (219, (.iastore, 1, 0, 0, 0, 0, 0, 0, 0, 0, [])), (220, (.return_, 1, 0, 0, 0, 0, 0, 0, 0, 0, []))]
set_option maxRecDepth 100000 in
theorem ok_X9_clause : tb_ok ctX9 m_X9_clause t_X9_clause = true := by decide +kernel
theorem i_X9_clause_0 : tab t_X9_clause 0 = some (.aload_n 0, 1, 0, 0, 0, 0, 0, 0, 0, 0, []) := rfl
theorem i_X9_clause_1 : tab t_X9_clause 1 = some (.invokevirtual 287, 3, 0, 0, 0, 0, 151, 10, 0, 0, []) := rfl
theorem i_X9_clause_4 : tab t_X9_clause 4 = some (.aload_n 0, 1, 0, 0, 0, 0, 0, 0, 0, 0, []) := rfl
theorem i_X9_clause_5 : tab t_X9_clause 5 = some (.getfield 267, 3, 0, 0, 0, 9, 30, 0, 0, 0, []) := rfl
theorem i_X9_clause_8 : tab t_X9_clause 8 = some (.istore_n 2, 1, 2, 0, 0, 0, 0, 0, 0, 0, []) := rfl
theorem i_X9_clause_9 : tab t_X9_clause 9 = some (.iconst 0, 1, 0, 0, 0, 0, 0, 0, 0, 0, []) := rfl
theorem i_X9_clause_10 : tab t_X9_clause 10 = some (.istore_n 3, 1, 3, 0, 0, 0, 0, 0, 0, 0, []) := rfl
theorem i_X9_clause_11 : tab t_X9_clause 11 = some (.iload_n 3, 1, 3, 0, 0, 0, 0, 0, 0, 0, []) := rfl
theorem i_X9_clause_12 : tab t_X9_clause 12 = some (.iconst 3, 1, 0, 3, 0, 0, 0, 0, 0, 0, []) := rfl
theorem i_X9_clause_13 : tab t_X9_clause 13 = some (.if_icmp .ge 20, 3, 33, 0, 0, 0, 0, 0, 0, 0, []) := rfl
theorem i_X9_clause_16 : tab t_X9_clause 16 = some (.aload_n 0, 1, 0, 0, 0, 0, 0, 0, 0, 0, []) := rfl
theorem i_X9_clause_17 : tab t_X9_clause 17 = some (.iload_n 3, 1, 3, 0, 0, 0, 0, 0, 0, 0, []) := rfl
theorem i_X9_clause_18 : tab t_X9_clause 18 = some (.invokestatic 359, 3, 1, 0, 0, 0, 147, 0, 0, 0, []) := rfl
theorem i_X9_clause_21 : tab t_X9_clause 21 = some (.invokevirtual 290, 3, 1, 0, 0, 0, 153, 10, 0, 0, []) := rfl
theorem i_X9_clause_24 : tab t_X9_clause 24 = some (.ifCond .ne 9, 3, 33, 0, 0, 0, 0, 0, 0, 0, []) := rfl
theorem i_X9_clause_27 : tab t_X9_clause 27 = some (.iinc 3 1, 3, 3, 1, 0, 0, 0, 0, 0, 0, []) := rfl
theorem i_X9_clause_30 : tab t_X9_clause 30 = some (.goto (-19), 3, 11, 0, 0, 0, 0, 0, 0, 0, []) := rfl
theorem i_X9_clause_33 : tab t_X9_clause 33 = some (.iload_n 3, 1, 3, 0, 0, 0, 0, 0, 0, 0, []) := rfl
theorem i_X9_clause_34 : tab t_X9_clause 34 = some (.iconst 3, 1, 0, 3, 0, 0, 0, 0, 0, 0, []) := rfl
theorem i_X9_clause_35 : tab t_X9_clause 35 = some (.if_icmp .ne 10, 3, 45, 0, 0, 0, 0, 0, 0, 0, []) := rfl
theorem i_X9_clause_38 : tab t_X9_clause 38 = some (.aload_n 0, 1, 0, 0, 0, 0, 0, 0, 0, 0, []) := rfl
theorem i_X9_clause_39 : tab t_X9_clause 39 = some (.iconst 0, 1, 0, 0, 0, 0, 0, 0, 0, 0, []) := rfl
theorem i_X9_clause_40 : tab t_X9_clause 40 = some (.iload_n 2, 1, 2, 0, 0, 0, 0, 0, 0, 0, []) := rfl
theorem i_X9_clause_41 : tab t_X9_clause 41 = some (.invokevirtual 303, 3, 2, 0, 0, 0, 149, 10, 0, 0, []) := rfl
theorem i_X9_clause_44 : tab t_X9_clause 44 = some (.return_, 1, 0, 0, 0, 0, 0, 0, 0, 0, []) := rfl
theorem i_X9_clause_45 : tab t_X9_clause 45 = some (.iload_n 1, 1, 1, 0, 0, 0, 0, 0, 0, 0, []) := rfl
theorem i_X9_clause_46 : tab t_X9_clause 46 = some (.bipush 12, 2, 0, 12, 0, 0, 0, 0, 0, 0, []) := rfl
theorem i_X9_clause_48 : tab t_X9_clause 48 = some (.if_icmp .ne 10, 3, 58, 0, 0, 0, 0, 0, 0, 0, []) := rfl
theorem i_X9_clause_51 : tab t_X9_clause 51 = some (.aload_n 0, 1, 0, 0, 0, 0, 0, 0, 0, 0, []) := rfl
theorem i_X9_clause_52 : tab t_X9_clause 52 = some (.iconst 4, 1, 0, 4, 0, 0, 0, 0, 0, 0, []) := rfl
theorem i_X9_clause_53 : tab t_X9_clause 53 = some (.iload_n 2, 1, 2, 0, 0, 0, 0, 0, 0, 0, []) := rfl
theorem i_X9_clause_54 : tab t_X9_clause 54 = some (.invokevirtual 303, 3, 2, 0, 0, 0, 149, 10, 0, 0, []) := rfl
theorem i_X9_clause_57 : tab t_X9_clause 57 = some (.return_, 1, 0, 0, 0, 0, 0, 0, 0, 0, []) := rfl
theorem i_X9_clause_58 : tab t_X9_clause 58 = some (.aload_n 0, 1, 0, 0, 0, 0, 0, 0, 0, 0, []) := rfl
theorem i_X9_clause_59 : tab t_X9_clause 59 = some (.dup, 1, 0, 0, 0, 0, 0, 0, 0, 0, []) := rfl
theorem i_X9_clause_60 : tab t_X9_clause 60 = some (.getfield 267, 3, 0, 0, 0, 9, 30, 0, 0, 0, []) := rfl
theorem i_X9_clause_63 : tab t_X9_clause 63 = some (.iload_n 3, 1, 3, 0, 0, 0, 0, 0, 0, 0, []) := rfl
theorem i_X9_clause_64 : tab t_X9_clause 64 = some (.invokestatic 359, 3, 1, 0, 0, 0, 147, 0, 0, 0, []) := rfl
theorem i_X9_clause_67 : tab t_X9_clause 67 = some (.invokevirtual 278, 3, 0, 0, 0, 0, 231, 40, 0, 0, []) := rfl
theorem i_X9_clause_70 : tab t_X9_clause 70 = some (.iadd, 1, 0, 0, 0, 0, 0, 0, 0, 0, []) := rfl
theorem i_X9_clause_71 : tab t_X9_clause 71 = some (.putfield 267, 3, 0, 0, 0, 9, 30, 0, 0, 0, []) := rfl
theorem i_X9_clause_74 : tab t_X9_clause 74 = some (.bipush 12, 2, 0, 12, 0, 0, 0, 0, 0, 0, []) := rfl
theorem i_X9_clause_76 : tab t_X9_clause 76 = some (.aload_n 0, 1, 0, 0, 0, 0, 0, 0, 0, 0, []) := rfl
theorem i_X9_clause_77 : tab t_X9_clause 77 = some (.getfield 294, 3, 0, 0, 0, 9, 32, 0, 0, 0, []) := rfl
theorem i_X9_clause_80 : tab t_X9_clause 80 = some (.imul, 1, 0, 0, 0, 0, 0, 0, 0, 0, []) := rfl
theorem i_X9_clause_81 : tab t_X9_clause 81 = some (.iload_n 1, 1, 1, 0, 0, 0, 0, 0, 0, 0, []) := rfl
theorem i_X9_clause_82 : tab t_X9_clause 82 = some (.iadd, 1, 0, 0, 0, 0, 0, 0, 0, 0, []) := rfl
theorem i_X9_clause_83 : tab t_X9_clause 83 = some (.istore 4, 2, 4, 0, 0, 0, 0, 0, 0, 0, []) := rfl
theorem i_X9_clause_85 : tab t_X9_clause 85 = some (.aload_n 0, 1, 0, 0, 0, 0, 0, 0, 0, 0, []) := rfl
theorem i_X9_clause_86 : tab t_X9_clause 86 = some (.getfield 90, 3, 2, 0, 0, 9, 41, 0, 0, 0, []) := rfl
theorem i_X9_clause_89 : tab t_X9_clause 89 = some (.iload 4, 2, 4, 0, 0, 0, 0, 0, 0, 0, []) := rfl
theorem i_X9_clause_91 : tab t_X9_clause 91 = some (.iload_n 3, 1, 3, 0, 0, 0, 0, 0, 0, 0, []) := rfl
theorem i_X9_clause_92 : tab t_X9_clause 92 = some (.iastore, 1, 0, 0, 0, 0, 0, 0, 0, 0, []) := rfl
theorem i_X9_clause_93 : tab t_X9_clause 93 = some (.aload_n 0, 1, 0, 0, 0, 0, 0, 0, 0, 0, []) := rfl
theorem i_X9_clause_94 : tab t_X9_clause 94 = some (.getfield 93, 3, 2, 0, 0, 9, 42, 0, 0, 0, []) := rfl
theorem i_X9_clause_97 : tab t_X9_clause 97 = some (.iload 4, 2, 4, 0, 0, 0, 0, 0, 0, 0, []) := rfl
theorem i_X9_clause_99 : tab t_X9_clause 99 = some (.iconst 0, 1, 0, 0, 0, 0, 0, 0, 0, 0, []) := rfl
theorem i_X9_clause_100 : tab t_X9_clause 100 = some (.iastore, 1, 0, 0, 0, 0, 0, 0, 0, 0, []) := rfl
theorem i_X9_clause_101 : tab t_X9_clause 101 = some (.aload_n 0, 1, 0, 0, 0, 0, 0, 0, 0, 0, []) := rfl
theorem i_X9_clause_102 : tab t_X9_clause 102 = some (.getfield 96, 3, 2, 0, 0, 9, 43, 0, 0, 0, []) := rfl
theorem i_X9_clause_105 : tab t_X9_clause 105 = some (.iload 4, 2, 4, 0, 0, 0, 0, 0, 0, 0, []) := rfl
theorem i_X9_clause_107 : tab t_X9_clause 107 = some (.aload_n 0, 1, 0, 0, 0, 0, 0, 0, 0, 0, []) := rfl
theorem i_X9_clause_108 : tab t_X9_clause 108 = some (.getfield 297, 3, 0, 0, 0, 9, 33, 0, 0, 0, []) := rfl
theorem i_X9_clause_111 : tab t_X9_clause 111 = some (.iastore, 1, 0, 0, 0, 0, 0, 0, 0, 0, []) := rfl
theorem i_X9_clause_112 : tab t_X9_clause 112 = some (.iload_n 3, 1, 3, 0, 0, 0, 0, 0, 0, 0, []) := rfl
theorem i_X9_clause_113 : tab t_X9_clause 113 = some (.ifCond .ne 78, 3, 191, 0, 0, 0, 0, 0, 0, 0, []) := rfl
theorem i_X9_clause_116 : tab t_X9_clause 116 = some (.aload_n 0, 1, 0, 0, 0, 0, 0, 0, 0, 0, []) := rfl
theorem i_X9_clause_117 : tab t_X9_clause 117 = some (.invokevirtual 287, 3, 0, 0, 0, 0, 151, 10, 0, 0, []) := rfl
theorem i_X9_clause_120 : tab t_X9_clause 120 = some (.iconst 0, 1, 0, 0, 0, 0, 0, 0, 0, 0, []) := rfl
theorem i_X9_clause_121 : tab t_X9_clause 121 = some (.istore 5, 2, 5, 0, 0, 0, 0, 0, 0, 0, []) := rfl
theorem i_X9_clause_123 : tab t_X9_clause 123 = some (.iload 5, 2, 5, 0, 0, 0, 0, 0, 0, 0, []) := rfl
theorem i_X9_clause_125 : tab t_X9_clause 125 = some (.bipush 7, 2, 0, 7, 0, 0, 0, 0, 0, 0, []) := rfl
theorem i_X9_clause_127 : tab t_X9_clause 127 = some (.if_icmp .ge 21, 3, 148, 0, 0, 0, 0, 0, 0, 0, []) := rfl
theorem i_X9_clause_130 : tab t_X9_clause 130 = some (.aload_n 0, 1, 0, 0, 0, 0, 0, 0, 0, 0, []) := rfl
theorem i_X9_clause_131 : tab t_X9_clause 131 = some (.iload 5, 2, 5, 0, 0, 0, 0, 0, 0, 0, []) := rfl
theorem i_X9_clause_133 : tab t_X9_clause 133 = some (.invokestatic 362, 3, 1, 0, 0, 0, 148, 0, 0, 0, []) := rfl
theorem i_X9_clause_136 : tab t_X9_clause 136 = some (.invokevirtual 290, 3, 1, 0, 0, 0, 153, 10, 0, 0, []) := rfl
theorem i_X9_clause_139 : tab t_X9_clause 139 = some (.ifCond .ne 9, 3, 148, 0, 0, 0, 0, 0, 0, 0, []) := rfl
theorem i_X9_clause_142 : tab t_X9_clause 142 = some (.iinc 5 1, 3, 5, 1, 0, 0, 0, 0, 0, 0, []) := rfl
theorem i_X9_clause_145 : tab t_X9_clause 145 = some (.goto (-22), 3, 123, 0, 0, 0, 0, 0, 0, 0, []) := rfl
theorem i_X9_clause_148 : tab t_X9_clause 148 = some (.iload 5, 2, 5, 0, 0, 0, 0, 0, 0, 0, []) := rfl
theorem i_X9_clause_150 : tab t_X9_clause 150 = some (.bipush 7, 2, 0, 7, 0, 0, 0, 0, 0, 0, []) := rfl
theorem i_X9_clause_152 : tab t_X9_clause 152 = some (.if_icmp .ne 13, 3, 165, 0, 0, 0, 0, 0, 0, 0, []) := rfl
theorem i_X9_clause_155 : tab t_X9_clause 155 = some (.aload_n 0, 1, 0, 0, 0, 0, 0, 0, 0, 0, []) := rfl
theorem i_X9_clause_156 : tab t_X9_clause 156 = some (.iconst 0, 1, 0, 0, 0, 0, 0, 0, 0, 0, []) := rfl
theorem i_X9_clause_157 : tab t_X9_clause 157 = some (.aload_n 0, 1, 0, 0, 0, 0, 0, 0, 0, 0, []) := rfl
theorem i_X9_clause_158 : tab t_X9_clause 158 = some (.getfield 267, 3, 0, 0, 0, 9, 30, 0, 0, 0, []) := rfl
theorem i_X9_clause_161 : tab t_X9_clause 161 = some (.invokevirtual 303, 3, 2, 0, 0, 0, 149, 10, 0, 0, []) := rfl
theorem i_X9_clause_164 : tab t_X9_clause 164 = some (.return_, 1, 0, 0, 0, 0, 0, 0, 0, 0, []) := rfl
theorem i_X9_clause_165 : tab t_X9_clause 165 = some (.aload_n 0, 1, 0, 0, 0, 0, 0, 0, 0, 0, []) := rfl
theorem i_X9_clause_166 : tab t_X9_clause 166 = some (.getfield 93, 3, 2, 0, 0, 9, 42, 0, 0, 0, []) := rfl
theorem i_X9_clause_169 : tab t_X9_clause 169 = some (.iload 4, 2, 4, 0, 0, 0, 0, 0, 0, 0, []) := rfl
theorem i_X9_clause_171 : tab t_X9_clause 171 = some (.iload 5, 2, 5, 0, 0, 0, 0, 0, 0, 0, []) := rfl
theorem i_X9_clause_173 : tab t_X9_clause 173 = some (.iastore, 1, 0, 0, 0, 0, 0, 0, 0, 0, []) := rfl
theorem i_X9_clause_174 : tab t_X9_clause 174 = some (.aload_n 0, 1, 0, 0, 0, 0, 0, 0, 0, 0, []) := rfl
theorem i_X9_clause_175 : tab t_X9_clause 175 = some (.dup, 1, 0, 0, 0, 0, 0, 0, 0, 0, []) := rfl
theorem i_X9_clause_176 : tab t_X9_clause 176 = some (.getfield 267, 3, 0, 0, 0, 9, 30, 0, 0, 0, []) := rfl
theorem i_X9_clause_179 : tab t_X9_clause 179 = some (.iload 5, 2, 5, 0, 0, 0, 0, 0, 0, 0, []) := rfl
theorem i_X9_clause_181 : tab t_X9_clause 181 = some (.invokestatic 362, 3, 1, 0, 0, 0, 148, 0, 0, 0, []) := rfl
theorem i_X9_clause_184 : tab t_X9_clause 184 = some (.invokevirtual 278, 3, 0, 0, 0, 0, 231, 40, 0, 0, []) := rfl
theorem i_X9_clause_187 : tab t_X9_clause 187 = some (.iadd, 1, 0, 0, 0, 0, 0, 0, 0, 0, []) := rfl
theorem i_X9_clause_188 : tab t_X9_clause 188 = some (.putfield 267, 3, 0, 0, 0, 9, 30, 0, 0, 0, []) := rfl
theorem i_X9_clause_191 : tab t_X9_clause 191 = some (.iload_n 3, 1, 3, 0, 0, 0, 0, 0, 0, 0, []) := rfl
theorem i_X9_clause_192 : tab t_X9_clause 192 = some (.ifCond .ne 13, 3, 205, 0, 0, 0, 0, 0, 0, 0, []) := rfl
theorem i_X9_clause_195 : tab t_X9_clause 195 = some (.aload_n 0, 1, 0, 0, 0, 0, 0, 0, 0, 0, []) := rfl
theorem i_X9_clause_199 : tab t_X9_clause 199 = some (.invokevirtual 367, 3, 1, 0, 0, 0, 154, 10, 0, 0, []) := rfl
theorem i_X9_clause_202 : tab t_X9_clause 202 = some (.ifCond .eq 7, 3, 209, 0, 0, 0, 0, 0, 0, 0, []) := rfl
theorem i_X9_clause_205 : tab t_X9_clause 205 = some (.aload_n 0, 1, 0, 0, 0, 0, 0, 0, 0, 0, []) := rfl
theorem i_X9_clause_206 : tab t_X9_clause 206 = some (.invokevirtual 370, 3, 0, 0, 0, 0, 165, 10, 0, 0, []) := rfl
theorem i_X9_clause_209 : tab t_X9_clause 209 = some (.aload_n 0, 1, 0, 0, 0, 0, 0, 0, 0, 0, []) := rfl
theorem i_X9_clause_210 : tab t_X9_clause 210 = some (.getfield 99, 3, 2, 0, 0, 9, 44, 0, 0, 0, []) := rfl
theorem i_X9_clause_213 : tab t_X9_clause 213 = some (.iload 4, 2, 4, 0, 0, 0, 0, 0, 0, 0, []) := rfl
theorem i_X9_clause_215 : tab t_X9_clause 215 = some (.aload_n 0, 1, 0, 0, 0, 0, 0, 0, 0, 0, []) := rfl
theorem i_X9_clause_216 : tab t_X9_clause 216 = some (.getfield 297, 3, 0, 0, 0, 9, 33, 0, 0, 0, []) := rfl
theorem i_X9_clause_219 : tab t_X9_clause 219 = some (.iastore, 1, 0, 0, 0, 0, 0, 0, 0, 0, []) := rfl
theorem i_X9_clause_220 : tab t_X9_clause 220 = some (.return_, 1, 0, 0, 0, 0, 0, 0, 0, 0, []) := rfl
def t_X9_law : List (Nat × rw_) := [(0, (.aload_n 0, 1, 0, 0, 0, 0, 0, 0, 0, 0, [])), (1, (.getfield 294, 3, 0, 0, 0, 9, 32, 0, 0, 0, [])), (4, (.bipush 8, 2, 0, 8, 0, 0, 0, 0, 0, 0, [])), (6, (.if_icmp .ne 5, 3, 11, 0, 0, 0, 0, 0, 0, 0, [])), (9, (.iconst (-1), 1, 0, -1, 0, 0, 0, 0, 0, 0, [])), (10, (.ireturn, 1, 0, 0, 0, 0, 0, 0, 0, 0, [])), (11, (.aload_n 0, 1, 0, 0, 0, 0, 0, 0, 0, 0, [])), (12, (.iconst 0, 1, 0, 0, 0, 0, 0, 0, 0, 0, [])), (13, (.putfield 267, 3, 0, 0, 0, 9, 30, 0, 0, 0, [])), (16, (.aload_n 0, 1, 0, 0, 0, 0, 0, 0, 0, 0, [])), (17, (.iconst 0, 1, 0, 0, 0, 0, 0, 0, 0, 0, [])), (18, (.putfield 264, 3, 0, 0, 0, 9, 31, 0, 0, 0, [])), (21, (.aload_n 0, 1, 0, 0, 0, 0, 0, 0, 0, 0, [])), (22, (.iconst 0, 1, 0, 0, 0, 0, 0, 0, 0, 0, [])), (23, (.putfield 297, 3, 0, 0, 0, 9, 33, 0, 0, 0, [])), (26, (.aload_n 0, 1, 0, 0, 0, 0, 0, 0, 0, 0, [])), (27, (.iconst 0, 1, 0, 0, 0, 0, 0, 0, 0, 0, [])), (28, (.putfield 335, 3, 0, 0, 0, 9, 34, 0, 0, 0, [])), (31, (.aload_n 0, 1, 0, 0, 0, 0, 0, 0, 0, 0, [])), (32, (.iconst 0, 1, 0, 0, 0, 0, 0, 0, 0, 0, [])), (33, (.putfield 300, 3, 0, 0, 0, 9, 35, 0, 0, 0, [])), (36, (.iconst 0, 1, 0, 0, 0, 0, 0, 0, 0, 0, [])), (37, (.istore_n 1, 1, 1, 0, 0, 0, 0, 0, 0, 0, [])), (38, (.iconst 1, 1, 0, 1, 0, 0, 0, 0, 0, 0, [])), (39, (.istore_n 2, 1, 2, 0, 0, 0, 0, 0, 0, 0, [])), (40, (.iload_n 2, 1, 2, 0, 0, 0, 0, 0, 0, 0, [])), (41, (.ifCond .eq 88, 3, 129, 0, 0, 0, 0, 0, 0, 0, [])), (44, (.aload_n 0, 1, 0, 0, 0, 0, 0, 0, 0, 0, [])), (45, (.iload_n 1, 1, 1, 0, 0, 0, 0, 0, 0, 0, [])), (46, (.invokevirtual 373, 3, 1, 0, 0, 0, 166, 10, 0, 0, [])), (49, (.iinc 1 1, 3, 1, 1, 0, 0, 0, 0, 0, 0, [])), (52, (.aload_n 0, 1, 0, 0, 0, 0, 0, 0, 0, 0, [])), (53, (.invokevirtual 287, 3, 0, 0, 0, 0, 151, 10, 0, 0, [])), (56, (.aload_n 0, 1, 0, 0, 0, 0, 0, 0, 0, 0, [])), (57, (.getfield 264, 3, 0, 0, 0, 9, 31, 0, 0, 0, [])), (60, (.ifCond .ne 32, 3, 92, 0, 0, 0, 0, 0, 0, 0, [])), (63, (.aload_n 0, 1, 0, 0, 0, 0, 0, 0, 0, 0, [])), (64, (.getfield 267, 3, 0, 0, 0, 9, 30, 0, 0, 0, [])), (67, (.aload_n 0, 1, 0, 0, 0, 0, 0, 0, 0, 0, [])), (68, (.getfield 229, 3, 0, 0, 0, 9, 29, 0, 0, 0, [])), (71, (.if_icmp .ge 21, 3, 92, 0, 0, 0, 0, 0, 0, 0, [])), (74, (.aload_n 0, 1, 0, 0, 0, 0, 0, 0, 0, 0, [])), (75, (.invokevirtual 270, 3, 0, 0, 0, 0, 150, 10, 0, 0, [])), (78, (.bipush 59, 2, 0, 59, 0, 0, 0, 0, 0, 0, [])), (80, (.if_icmp .eq 12, 3, 92, 0, 0, 0, 0, 0, 0, 0, [])), (83, (.aload_n 0, 1, 0, 0, 0, 0, 0, 0, 0, 0, [])), (84, (.iconst 0, 1, 0, 0, 0, 0, 0, 0, 0, 0, [])), (85, (.aload_n 0, 1, 0, 0, 0, 0, 0, 0, 0, 0, [])), (86, (.getfield 267, 3, 0, 0, 0, 9, 30, 0, 0, 0, [])), (89, (.invokevirtual 303, 3, 2, 0, 0, 0, 149, 10, 0, 0, [])), (92, (.aload_n 0, 1, 0, 0, 0, 0, 0, 0, 0, 0, [])), (93, (.getfield 264, 3, 0, 0, 0, 9, 31, 0, 0, 0, [])), (96, (.ifCond .ne 18, 3, 114, 0, 0, 0, 0, 0, 0, 0, [])), (99, (.aload_n 0, 1, 0, 0, 0, 0, 0, 0, 0, 0, [])), (100, (.getfield 267, 3, 0, 0, 0, 9, 30, 0, 0, 0, [])), (103, (.aload_n 0, 1, 0, 0, 0, 0, 0, 0, 0, 0, [])), (104, (.getfield 229, 3, 0, 0, 0, 9, 29, 0, 0, 0, [])), (107, (.if_icmp .ge 7, 3, 114, 0, 0, 0, 0, 0, 0, 0, [])), (110, (.iconst 1, 1, 0, 1, 0, 0, 0, 0, 0, 0, [])), (111, (.goto 4, 3, 115, 0, 0, 0, 0, 0, 0, 0, [])), (114, (.iconst 0, 1, 0, 0, 0, 0, 0, 0, 0, 0, [])), (115, (.istore_n 2, 1, 2, 0, 0, 0, 0, 0, 0, 0, [])), (116, (.aload_n 0, 1, 0, 0, 0, 0, 0, 0, 0, 0, [])), (117, (.dup, 1, 0, 0, 0, 0, 0, 0, 0, 0, [])), (118, (.getfield 267, 3, 0, 0, 0, 9, 30, 0, 0, 0, [])), (121, (.iconst 1, 1, 0, 1, 0, 0, 0, 0, 0, 0, [])), (122, (.iadd, 1, 0, 0, 0, 0, 0, 0, 0, 0, [])), (123, (.putfield 267, 3, 0, 0, 0, 9, 30, 0, 0, 0, [])), (126, (.goto (-86), 3, 40, 0, 0, 0, 0, 0, 0, 0, [])), (129, (.aload_n 0, 1, 0, 0, 0, 0, 0, 0, 0, 0, [])), (130, (.iconst 0, 1, 0, 0, 0, 0, 0, 0, 0, 0, [])), (131, (.putfield 229, 3, 0, 0, 0, 9, 29, 0, 0, 0, [])), (134, (.aload_n 0, 1, 0, 0, 0, 0, 0, 0, 0, 0, [])), (135, (.getfield 264, 3, 0, 0, 0, 9, 31, 0, 0, 0, [])), (138, (.ifCond .le 11, 3, 149, 0, 0, 0, 0, 0, 0, 0, [])), (141, (.bipush (-2), 2, 0, -2, 0, 0, 0, 0, 0, 0, [])), (143, (.aload_n 0, 1, 0, 0, 0, 0, 0, 0, 0, 0, [])), (144, (.getfield 264, 3, 0, 0, 0, 9, 31, 0, 0, 0, [])), (147, (.isub, 1, 0, 0, 0, 0, 0, 0, 0, 0, [])), (148, (.ireturn, 1, 0, 0, 0, 0, 0, 0, 0, 0, [])), (149, (.aload_n 0, 1, 0, 0, 0, 0, 0, 0, 0, 0, [])), (150, (.getfield 87, 3, 2, 0, 0, 9, 40, 0, 0, 0, [])), (153, (.aload_n 0, 1, 0, 0, 0, 0, 0, 0, 0, 0, [])), (154, (.getfield 294, 3, 0, 0, 0, 9, 32, 0, 0, 0, [])), (157, (.iload_n 1, 1, 1, 0, 0, 0, 0, 0, 0, 0, [])), (158, (.iastore, 1, 0, 0, 0, 0, 0, 0, 0, 0, [])), (159, (.aload_n 0, 1, 0, 0, 0, 0, 0, 0, 0, 0, [])), (160, (.dup, 1, 0, 0, 0, 0, 0, 0, 0, 0, [])), (161, (.getfield 294, 3, 0, 0, 0, 9, 32, 0, 0, 0, [])), (164, (.iconst 1, 1, 0, 1, 0, 0, 0, 0, 0, 0, [])), (165, (.iadd, 1, 0, 0, 0, 0, 0, 0, 0, 0, [])), (166, (.putfield 294, 3, 0, 0, 0, 9, 32, 0, 0, 0, [])), (169, (.aload_n 0, 1, 0, 0, 0, 0, 0, 0, 0, 0, [])), (170, (.getfield 294, 3, 0, 0, 0, 9, 32, 0, 0, 0, [])), (173, (.iconst 1, 1, 0, 1, 0, 0, 0, 0, 0, 0, [])), (174, (.isub, 1, 0, 0, 0, 0, 0, 0, 0, 0, [])), (175, (.ireturn, 1, 0, 0, 0, 0, 0, 0, 0, 0, []))]
set_option maxRecDepth 100000 in
theorem ok_X9_law : tb_ok ctX9 m_X9_law t_X9_law = true := by decide +kernel
theorem i_X9_law_0 : tab t_X9_law 0 = some (.aload_n 0, 1, 0, 0, 0, 0, 0, 0, 0, 0, []) := rfl
theorem i_X9_law_1 : tab t_X9_law 1 = some (.getfield 294, 3, 0, 0, 0, 9, 32, 0, 0, 0, []) := rfl
theorem i_X9_law_4 : tab t_X9_law 4 = some (.bipush 8, 2, 0, 8, 0, 0, 0, 0, 0, 0, []) := rfl
theorem i_X9_law_6 : tab t_X9_law 6 = some (.if_icmp .ne 5, 3, 11, 0, 0, 0, 0, 0, 0, 0, []) := rfl
theorem i_X9_law_9 : tab t_X9_law 9 = some (.iconst (-1), 1, 0, -1, 0, 0, 0, 0, 0, 0, []) := rfl
theorem i_X9_law_10 : tab t_X9_law 10 = some (.ireturn, 1, 0, 0, 0, 0, 0, 0, 0, 0, []) := rfl
theorem i_X9_law_11 : tab t_X9_law 11 = some (.aload_n 0, 1, 0, 0, 0, 0, 0, 0, 0, 0, []) := rfl
theorem i_X9_law_12 : tab t_X9_law 12 = some (.iconst 0, 1, 0, 0, 0, 0, 0, 0, 0, 0, []) := rfl
theorem i_X9_law_13 : tab t_X9_law 13 = some (.putfield 267, 3, 0, 0, 0, 9, 30, 0, 0, 0, []) := rfl
theorem i_X9_law_16 : tab t_X9_law 16 = some (.aload_n 0, 1, 0, 0, 0, 0, 0, 0, 0, 0, []) := rfl
theorem i_X9_law_17 : tab t_X9_law 17 = some (.iconst 0, 1, 0, 0, 0, 0, 0, 0, 0, 0, []) := rfl
theorem i_X9_law_18 : tab t_X9_law 18 = some (.putfield 264, 3, 0, 0, 0, 9, 31, 0, 0, 0, []) := rfl
theorem i_X9_law_21 : tab t_X9_law 21 = some (.aload_n 0, 1, 0, 0, 0, 0, 0, 0, 0, 0, []) := rfl
theorem i_X9_law_22 : tab t_X9_law 22 = some (.iconst 0, 1, 0, 0, 0, 0, 0, 0, 0, 0, []) := rfl
theorem i_X9_law_23 : tab t_X9_law 23 = some (.putfield 297, 3, 0, 0, 0, 9, 33, 0, 0, 0, []) := rfl
theorem i_X9_law_26 : tab t_X9_law 26 = some (.aload_n 0, 1, 0, 0, 0, 0, 0, 0, 0, 0, []) := rfl
theorem i_X9_law_27 : tab t_X9_law 27 = some (.iconst 0, 1, 0, 0, 0, 0, 0, 0, 0, 0, []) := rfl
theorem i_X9_law_28 : tab t_X9_law 28 = some (.putfield 335, 3, 0, 0, 0, 9, 34, 0, 0, 0, []) := rfl
theorem i_X9_law_31 : tab t_X9_law 31 = some (.aload_n 0, 1, 0, 0, 0, 0, 0, 0, 0, 0, []) := rfl
theorem i_X9_law_32 : tab t_X9_law 32 = some (.iconst 0, 1, 0, 0, 0, 0, 0, 0, 0, 0, []) := rfl
theorem i_X9_law_33 : tab t_X9_law 33 = some (.putfield 300, 3, 0, 0, 0, 9, 35, 0, 0, 0, []) := rfl
theorem i_X9_law_36 : tab t_X9_law 36 = some (.iconst 0, 1, 0, 0, 0, 0, 0, 0, 0, 0, []) := rfl
theorem i_X9_law_37 : tab t_X9_law 37 = some (.istore_n 1, 1, 1, 0, 0, 0, 0, 0, 0, 0, []) := rfl
theorem i_X9_law_38 : tab t_X9_law 38 = some (.iconst 1, 1, 0, 1, 0, 0, 0, 0, 0, 0, []) := rfl
theorem i_X9_law_39 : tab t_X9_law 39 = some (.istore_n 2, 1, 2, 0, 0, 0, 0, 0, 0, 0, []) := rfl
theorem i_X9_law_40 : tab t_X9_law 40 = some (.iload_n 2, 1, 2, 0, 0, 0, 0, 0, 0, 0, []) := rfl
theorem i_X9_law_41 : tab t_X9_law 41 = some (.ifCond .eq 88, 3, 129, 0, 0, 0, 0, 0, 0, 0, []) := rfl
theorem i_X9_law_44 : tab t_X9_law 44 = some (.aload_n 0, 1, 0, 0, 0, 0, 0, 0, 0, 0, []) := rfl
theorem i_X9_law_45 : tab t_X9_law 45 = some (.iload_n 1, 1, 1, 0, 0, 0, 0, 0, 0, 0, []) := rfl
theorem i_X9_law_46 : tab t_X9_law 46 = some (.invokevirtual 373, 3, 1, 0, 0, 0, 166, 10, 0, 0, []) := rfl
theorem i_X9_law_49 : tab t_X9_law 49 = some (.iinc 1 1, 3, 1, 1, 0, 0, 0, 0, 0, 0, []) := rfl
theorem i_X9_law_52 : tab t_X9_law 52 = some (.aload_n 0, 1, 0, 0, 0, 0, 0, 0, 0, 0, []) := rfl
theorem i_X9_law_53 : tab t_X9_law 53 = some (.invokevirtual 287, 3, 0, 0, 0, 0, 151, 10, 0, 0, []) := rfl
theorem i_X9_law_56 : tab t_X9_law 56 = some (.aload_n 0, 1, 0, 0, 0, 0, 0, 0, 0, 0, []) := rfl
theorem i_X9_law_57 : tab t_X9_law 57 = some (.getfield 264, 3, 0, 0, 0, 9, 31, 0, 0, 0, []) := rfl
theorem i_X9_law_60 : tab t_X9_law 60 = some (.ifCond .ne 32, 3, 92, 0, 0, 0, 0, 0, 0, 0, []) := rfl
theorem i_X9_law_63 : tab t_X9_law 63 = some (.aload_n 0, 1, 0, 0, 0, 0, 0, 0, 0, 0, []) := rfl
theorem i_X9_law_64 : tab t_X9_law 64 = some (.getfield 267, 3, 0, 0, 0, 9, 30, 0, 0, 0, []) := rfl
theorem i_X9_law_67 : tab t_X9_law 67 = some (.aload_n 0, 1, 0, 0, 0, 0, 0, 0, 0, 0, []) := rfl
theorem i_X9_law_68 : tab t_X9_law 68 = some (.getfield 229, 3, 0, 0, 0, 9, 29, 0, 0, 0, []) := rfl
theorem i_X9_law_71 : tab t_X9_law 71 = some (.if_icmp .ge 21, 3, 92, 0, 0, 0, 0, 0, 0, 0, []) := rfl
theorem i_X9_law_74 : tab t_X9_law 74 = some (.aload_n 0, 1, 0, 0, 0, 0, 0, 0, 0, 0, []) := rfl
theorem i_X9_law_75 : tab t_X9_law 75 = some (.invokevirtual 270, 3, 0, 0, 0, 0, 150, 10, 0, 0, []) := rfl
theorem i_X9_law_78 : tab t_X9_law 78 = some (.bipush 59, 2, 0, 59, 0, 0, 0, 0, 0, 0, []) := rfl
theorem i_X9_law_80 : tab t_X9_law 80 = some (.if_icmp .eq 12, 3, 92, 0, 0, 0, 0, 0, 0, 0, []) := rfl
theorem i_X9_law_83 : tab t_X9_law 83 = some (.aload_n 0, 1, 0, 0, 0, 0, 0, 0, 0, 0, []) := rfl
theorem i_X9_law_84 : tab t_X9_law 84 = some (.iconst 0, 1, 0, 0, 0, 0, 0, 0, 0, 0, []) := rfl
theorem i_X9_law_85 : tab t_X9_law 85 = some (.aload_n 0, 1, 0, 0, 0, 0, 0, 0, 0, 0, []) := rfl
theorem i_X9_law_86 : tab t_X9_law 86 = some (.getfield 267, 3, 0, 0, 0, 9, 30, 0, 0, 0, []) := rfl
theorem i_X9_law_89 : tab t_X9_law 89 = some (.invokevirtual 303, 3, 2, 0, 0, 0, 149, 10, 0, 0, []) := rfl
theorem i_X9_law_92 : tab t_X9_law 92 = some (.aload_n 0, 1, 0, 0, 0, 0, 0, 0, 0, 0, []) := rfl
theorem i_X9_law_93 : tab t_X9_law 93 = some (.getfield 264, 3, 0, 0, 0, 9, 31, 0, 0, 0, []) := rfl
theorem i_X9_law_96 : tab t_X9_law 96 = some (.ifCond .ne 18, 3, 114, 0, 0, 0, 0, 0, 0, 0, []) := rfl
theorem i_X9_law_99 : tab t_X9_law 99 = some (.aload_n 0, 1, 0, 0, 0, 0, 0, 0, 0, 0, []) := rfl
theorem i_X9_law_100 : tab t_X9_law 100 = some (.getfield 267, 3, 0, 0, 0, 9, 30, 0, 0, 0, []) := rfl
theorem i_X9_law_103 : tab t_X9_law 103 = some (.aload_n 0, 1, 0, 0, 0, 0, 0, 0, 0, 0, []) := rfl
theorem i_X9_law_104 : tab t_X9_law 104 = some (.getfield 229, 3, 0, 0, 0, 9, 29, 0, 0, 0, []) := rfl
theorem i_X9_law_107 : tab t_X9_law 107 = some (.if_icmp .ge 7, 3, 114, 0, 0, 0, 0, 0, 0, 0, []) := rfl
theorem i_X9_law_110 : tab t_X9_law 110 = some (.iconst 1, 1, 0, 1, 0, 0, 0, 0, 0, 0, []) := rfl
theorem i_X9_law_111 : tab t_X9_law 111 = some (.goto 4, 3, 115, 0, 0, 0, 0, 0, 0, 0, []) := rfl
theorem i_X9_law_114 : tab t_X9_law 114 = some (.iconst 0, 1, 0, 0, 0, 0, 0, 0, 0, 0, []) := rfl
theorem i_X9_law_115 : tab t_X9_law 115 = some (.istore_n 2, 1, 2, 0, 0, 0, 0, 0, 0, 0, []) := rfl
theorem i_X9_law_116 : tab t_X9_law 116 = some (.aload_n 0, 1, 0, 0, 0, 0, 0, 0, 0, 0, []) := rfl
theorem i_X9_law_117 : tab t_X9_law 117 = some (.dup, 1, 0, 0, 0, 0, 0, 0, 0, 0, []) := rfl
theorem i_X9_law_118 : tab t_X9_law 118 = some (.getfield 267, 3, 0, 0, 0, 9, 30, 0, 0, 0, []) := rfl
theorem i_X9_law_121 : tab t_X9_law 121 = some (.iconst 1, 1, 0, 1, 0, 0, 0, 0, 0, 0, []) := rfl
theorem i_X9_law_122 : tab t_X9_law 122 = some (.iadd, 1, 0, 0, 0, 0, 0, 0, 0, 0, []) := rfl
theorem i_X9_law_123 : tab t_X9_law 123 = some (.putfield 267, 3, 0, 0, 0, 9, 30, 0, 0, 0, []) := rfl
theorem i_X9_law_126 : tab t_X9_law 126 = some (.goto (-86), 3, 40, 0, 0, 0, 0, 0, 0, 0, []) := rfl
theorem i_X9_law_129 : tab t_X9_law 129 = some (.aload_n 0, 1, 0, 0, 0, 0, 0, 0, 0, 0, []) := rfl
theorem i_X9_law_130 : tab t_X9_law 130 = some (.iconst 0, 1, 0, 0, 0, 0, 0, 0, 0, 0, []) := rfl
theorem i_X9_law_131 : tab t_X9_law 131 = some (.putfield 229, 3, 0, 0, 0, 9, 29, 0, 0, 0, []) := rfl
theorem i_X9_law_134 : tab t_X9_law 134 = some (.aload_n 0, 1, 0, 0, 0, 0, 0, 0, 0, 0, []) := rfl
theorem i_X9_law_135 : tab t_X9_law 135 = some (.getfield 264, 3, 0, 0, 0, 9, 31, 0, 0, 0, []) := rfl
theorem i_X9_law_138 : tab t_X9_law 138 = some (.ifCond .le 11, 3, 149, 0, 0, 0, 0, 0, 0, 0, []) := rfl
theorem i_X9_law_141 : tab t_X9_law 141 = some (.bipush (-2), 2, 0, -2, 0, 0, 0, 0, 0, 0, []) := rfl
theorem i_X9_law_143 : tab t_X9_law 143 = some (.aload_n 0, 1, 0, 0, 0, 0, 0, 0, 0, 0, []) := rfl
theorem i_X9_law_144 : tab t_X9_law 144 = some (.getfield 264, 3, 0, 0, 0, 9, 31, 0, 0, 0, []) := rfl
theorem i_X9_law_147 : tab t_X9_law 147 = some (.isub, 1, 0, 0, 0, 0, 0, 0, 0, 0, []) := rfl
theorem i_X9_law_148 : tab t_X9_law 148 = some (.ireturn, 1, 0, 0, 0, 0, 0, 0, 0, 0, []) := rfl
theorem i_X9_law_149 : tab t_X9_law 149 = some (.aload_n 0, 1, 0, 0, 0, 0, 0, 0, 0, 0, []) := rfl
theorem i_X9_law_150 : tab t_X9_law 150 = some (.getfield 87, 3, 2, 0, 0, 9, 40, 0, 0, 0, []) := rfl
theorem i_X9_law_153 : tab t_X9_law 153 = some (.aload_n 0, 1, 0, 0, 0, 0, 0, 0, 0, 0, []) := rfl
theorem i_X9_law_154 : tab t_X9_law 154 = some (.getfield 294, 3, 0, 0, 0, 9, 32, 0, 0, 0, []) := rfl
theorem i_X9_law_157 : tab t_X9_law 157 = some (.iload_n 1, 1, 1, 0, 0, 0, 0, 0, 0, 0, []) := rfl
theorem i_X9_law_158 : tab t_X9_law 158 = some (.iastore, 1, 0, 0, 0, 0, 0, 0, 0, 0, []) := rfl
theorem i_X9_law_159 : tab t_X9_law 159 = some (.aload_n 0, 1, 0, 0, 0, 0, 0, 0, 0, 0, []) := rfl
theorem i_X9_law_160 : tab t_X9_law 160 = some (.dup, 1, 0, 0, 0, 0, 0, 0, 0, 0, []) := rfl
theorem i_X9_law_161 : tab t_X9_law 161 = some (.getfield 294, 3, 0, 0, 0, 9, 32, 0, 0, 0, []) := rfl
theorem i_X9_law_164 : tab t_X9_law 164 = some (.iconst 1, 1, 0, 1, 0, 0, 0, 0, 0, 0, []) := rfl
theorem i_X9_law_165 : tab t_X9_law 165 = some (.iadd, 1, 0, 0, 0, 0, 0, 0, 0, 0, []) := rfl
theorem i_X9_law_166 : tab t_X9_law 166 = some (.putfield 294, 3, 0, 0, 0, 9, 32, 0, 0, 0, []) := rfl
theorem i_X9_law_169 : tab t_X9_law 169 = some (.aload_n 0, 1, 0, 0, 0, 0, 0, 0, 0, 0, []) := rfl
theorem i_X9_law_170 : tab t_X9_law 170 = some (.getfield 294, 3, 0, 0, 0, 9, 32, 0, 0, 0, []) := rfl
theorem i_X9_law_173 : tab t_X9_law 173 = some (.iconst 1, 1, 0, 1, 0, 0, 0, 0, 0, 0, []) := rfl
theorem i_X9_law_174 : tab t_X9_law 174 = some (.isub, 1, 0, 0, 0, 0, 0, 0, 0, 0, []) := rfl
theorem i_X9_law_175 : tab t_X9_law 175 = some (.ireturn, 1, 0, 0, 0, 0, 0, 0, 0, 0, []) := rfl
def t_X9_rules : List (Nat × rw_) := [(0, (.aload_n 0, 1, 0, 0, 0, 0, 0, 0, 0, 0, [])), (1, (.iload_n 1, 1, 1, 0, 0, 0, 0, 0, 0, 0, [])), (2, (.invokevirtual 185, 3, 1, 0, 0, 0, 128, 10, 0, 0, [])), (5, (.ifCond .eq 21, 3, 26, 0, 0, 0, 0, 0, 0, 0, [])), (8, (.iload_n 2, 1, 2, 0, 0, 0, 0, 0, 0, 0, [])), (9, (.i2l, 1, 0, 0, 0, 0, 0, 0, 0, 0, [])), (10, (.ldc2_w 376, 3, 0, 0, -1, 0, 0, 0, 0, 0, [])), (13, (.aload_n 0, 1, 0, 0, 0, 0, 0, 0, 0, 0, [])), (14, (.getfield 294, 3, 0, 0, 0, 9, 32, 0, 0, 0, [])), (17, (.iconst 1, 1, 0, 1, 0, 0, 0, 0, 0, 0, [])), (18, (.isub, 1, 0, 0, 0, 0, 0, 0, 0, 0, [])), (19, (.i2l, 1, 0, 0, 0, 0, 0, 0, 0, 0, [])), (20, (.invokestatic 175, 3, 3, 0, 0, 0, 126, 0, 0, 0, [])), (23, (.ifCond .ne 5, 3, 28, 0, 0, 0, 0, 0, 0, 0, [])), (26, (.iconst 0, 1, 0, 0, 0, 0, 0, 0, 0, 0, [])), (27, (.ireturn, 1, 0, 0, 0, 1, 0, 0, 0, 0, [])), (28, (.aload_n 0, 1, 0, 0, 0, 0, 0, 0, 0, 0, [])), (29, (.getfield 26, 3, 2, 0, 0, 9, 12, 0, 0, 0, [])), (32, (.iload_n 1, 1, 1, 0, 0, 0, 0, 0, 0, 0, [])), (33, (.iload_n 2, 1, 2, 0, 0, 0, 0, 0, 0, 0, [])), (34, (.iastore, 1, 0, 0, 0, 0, 0, 0, 0, 0, [])), (35, (.iconst 1, 1, 0, 1, 0, 0, 0, 0, 0, 0, [])), (36, (.ireturn, 1, 0, 0, 0, 1, 0, 0, 0, 0, []))]
set_option maxRecDepth 100000 in
theorem ok_X9_rules : tb_ok ctX9 m_X9_rules t_X9_rules = true := by decide +kernel
theorem i_X9_rules_0 : tab t_X9_rules 0 = some (.aload_n 0, 1, 0, 0, 0, 0, 0, 0, 0, 0, []) := rfl
theorem i_X9_rules_1 : tab t_X9_rules 1 = some (.iload_n 1, 1, 1, 0, 0, 0, 0, 0, 0, 0, []) := rfl
theorem i_X9_rules_2 : tab t_X9_rules 2 = some (.invokevirtual 185, 3, 1, 0, 0, 0, 128, 10, 0, 0, []) := rfl
theorem i_X9_rules_5 : tab t_X9_rules 5 = some (.ifCond .eq 21, 3, 26, 0, 0, 0, 0, 0, 0, 0, []) := rfl
theorem i_X9_rules_8 : tab t_X9_rules 8 = some (.iload_n 2, 1, 2, 0, 0, 0, 0, 0, 0, 0, []) := rfl
theorem i_X9_rules_9 : tab t_X9_rules 9 = some (.i2l, 1, 0, 0, 0, 0, 0, 0, 0, 0, []) := rfl
theorem i_X9_rules_10 : tab t_X9_rules 10 = some (.ldc2_w 376, 3, 0, 0, -1, 0, 0, 0, 0, 0, []) := rfl
theorem i_X9_rules_13 : tab t_X9_rules 13 = some (.aload_n 0, 1, 0, 0, 0, 0, 0, 0, 0, 0, []) := rfl
theorem i_X9_rules_14 : tab t_X9_rules 14 = some (.getfield 294, 3, 0, 0, 0, 9, 32, 0, 0, 0, []) := rfl
theorem i_X9_rules_17 : tab t_X9_rules 17 = some (.iconst 1, 1, 0, 1, 0, 0, 0, 0, 0, 0, []) := rfl
theorem i_X9_rules_18 : tab t_X9_rules 18 = some (.isub, 1, 0, 0, 0, 0, 0, 0, 0, 0, []) := rfl
theorem i_X9_rules_19 : tab t_X9_rules 19 = some (.i2l, 1, 0, 0, 0, 0, 0, 0, 0, 0, []) := rfl
theorem i_X9_rules_20 : tab t_X9_rules 20 = some (.invokestatic 175, 3, 3, 0, 0, 0, 126, 0, 0, 0, []) := rfl
theorem i_X9_rules_23 : tab t_X9_rules 23 = some (.ifCond .ne 5, 3, 28, 0, 0, 0, 0, 0, 0, 0, []) := rfl
theorem i_X9_rules_26 : tab t_X9_rules 26 = some (.iconst 0, 1, 0, 0, 0, 0, 0, 0, 0, 0, []) := rfl
theorem i_X9_rules_27 : tab t_X9_rules 27 = some (.ireturn, 1, 0, 0, 0, 1, 0, 0, 0, 0, []) := rfl
theorem i_X9_rules_28 : tab t_X9_rules 28 = some (.aload_n 0, 1, 0, 0, 0, 0, 0, 0, 0, 0, []) := rfl
theorem i_X9_rules_29 : tab t_X9_rules 29 = some (.getfield 26, 3, 2, 0, 0, 9, 12, 0, 0, 0, []) := rfl
theorem i_X9_rules_32 : tab t_X9_rules 32 = some (.iload_n 1, 1, 1, 0, 0, 0, 0, 0, 0, 0, []) := rfl
theorem i_X9_rules_33 : tab t_X9_rules 33 = some (.iload_n 2, 1, 2, 0, 0, 0, 0, 0, 0, 0, []) := rfl
theorem i_X9_rules_34 : tab t_X9_rules 34 = some (.iastore, 1, 0, 0, 0, 0, 0, 0, 0, 0, []) := rfl
theorem i_X9_rules_35 : tab t_X9_rules 35 = some (.iconst 1, 1, 0, 1, 0, 0, 0, 0, 0, 0, []) := rfl
theorem i_X9_rules_36 : tab t_X9_rules 36 = some (.ireturn, 1, 0, 0, 0, 1, 0, 0, 0, 0, []) := rfl
def t_X9_truth : List (Nat × rw_) := [(0, (.iload_n 0, 1, 0, 0, 0, 0, 0, 0, 0, 0, [])), (1, (.ifCond .eq 7, 3, 8, 0, 0, 0, 0, 0, 0, 0, [])), (4, (.lconst 1, 1, 0, 0, 1, 0, 0, 0, 0, 0, [])), (5, (.goto 4, 3, 9, 0, 0, 0, 0, 0, 0, 0, [])), (8, (.lconst 0, 1, 0, 0, 0, 0, 0, 0, 0, 0, [])), (9, (.lreturn, 1, 0, 0, 0, 0, 0, 0, 0, 0, []))]
set_option maxRecDepth 100000 in
theorem ok_X9_truth : tb_ok ctX9 m_X9_truth t_X9_truth = true := by decide +kernel
theorem i_X9_truth_0 : tab t_X9_truth 0 = some (.iload_n 0, 1, 0, 0, 0, 0, 0, 0, 0, 0, []) := rfl
theorem i_X9_truth_1 : tab t_X9_truth 1 = some (.ifCond .eq 7, 3, 8, 0, 0, 0, 0, 0, 0, 0, []) := rfl
theorem i_X9_truth_4 : tab t_X9_truth 4 = some (.lconst 1, 1, 0, 0, 1, 0, 0, 0, 0, 0, []) := rfl
theorem i_X9_truth_5 : tab t_X9_truth 5 = some (.goto 4, 3, 9, 0, 0, 0, 0, 0, 0, 0, []) := rfl
theorem i_X9_truth_8 : tab t_X9_truth 8 = some (.lconst 0, 1, 0, 0, 0, 0, 0, 0, 0, 0, []) := rfl
theorem i_X9_truth_9 : tab t_X9_truth 9 = some (.lreturn, 1, 0, 0, 0, 0, 0, 0, 0, 0, []) := rfl
def t_X9_both : List (Nat × rw_) := [(0, (.iload_n 0, 1, 0, 0, 0, 0, 0, 0, 0, 0, [])), (1, (.tableswitch 138 2 10 #[51, 55, 59, 74, 89, 104, 119, 138, 134], 51, 139, 0, 0, 0, 0, 0, 0, 0, [(2, 52), (3, 56), (4, 60), (5, 75), (6, 90), (7, 105), (8, 120), (9, 139), (10, 135)])), (52, (.lload_n 1, 1, 1, 0, 0, 0, 0, 0, 0, 0, [])), (53, (.lload_n 3, 1, 3, 0, 0, 0, 0, 0, 0, 0, [])), (54, (.ladd, 1, 0, 0, 0, 0, 0, 0, 0, 0, [])), (55, (.lreturn, 1, 0, 0, 0, 0, 0, 0, 0, 0, [])), (56, (.lload_n 1, 1, 1, 0, 0, 0, 0, 0, 0, 0, [])), (57, (.lload_n 3, 1, 3, 0, 0, 0, 0, 0, 0, 0, [])), (58, (.lsub, 1, 0, 0, 0, 0, 0, 0, 0, 0, [])), (59, (.lreturn, 1, 0, 0, 0, 0, 0, 0, 0, 0, [])), (60, (.lload_n 1, 1, 1, 0, 0, 0, 0, 0, 0, 0, [])), (61, (.lload_n 3, 1, 3, 0, 0, 0, 0, 0, 0, 0, [])), (62, (.lcmp, 1, 0, 0, 0, 0, 0, 0, 0, 0, [])), (63, (.ifCond .ge 7, 3, 70, 0, 0, 0, 0, 0, 0, 0, [])), (66, (.iconst 1, 1, 0, 1, 0, 0, 0, 0, 0, 0, [])), (67, (.goto 4, 3, 71, 0, 0, 0, 0, 0, 0, 0, [])), (70, (.iconst 0, 1, 0, 0, 0, 0, 0, 0, 0, 0, [])), (71, (.invokestatic 378, 3, 1, 0, 0, 0, 169, 0, 0, 0, [])), (74, (.lreturn, 1, 0, 0, 0, 0, 0, 0, 0, 0, [])), (75, (.lload_n 1, 1, 1, 0, 0, 0, 0, 0, 0, 0, [])), (76, (.lload_n 3, 1, 3, 0, 0, 0, 0, 0, 0, 0, [])), (77, (.lcmp, 1, 0, 0, 0, 0, 0, 0, 0, 0, [])), (78, (.ifCond .gt 7, 3, 85, 0, 0, 0, 0, 0, 0, 0, [])), (81, (.iconst 1, 1, 0, 1, 0, 0, 0, 0, 0, 0, [])), (82, (.goto 4, 3, 86, 0, 0, 0, 0, 0, 0, 0, [])), (85, (.iconst 0, 1, 0, 0, 0, 0, 0, 0, 0, 0, [])), (86, (.invokestatic 378, 3, 1, 0, 0, 0, 169, 0, 0, 0, [])), (89, (.lreturn, 1, 0, 0, 0, 0, 0, 0, 0, 0, [])), (90, (.lload_n 1, 1, 1, 0, 0, 0, 0, 0, 0, 0, [])), (91, (.lload_n 3, 1, 3, 0, 0, 0, 0, 0, 0, 0, [])), (92, (.lcmp, 1, 0, 0, 0, 0, 0, 0, 0, 0, [])), (93, (.ifCond .ne 7, 3, 100, 0, 0, 0, 0, 0, 0, 0, [])), (96, (.iconst 1, 1, 0, 1, 0, 0, 0, 0, 0, 0, [])), (97, (.goto 4, 3, 101, 0, 0, 0, 0, 0, 0, 0, [])), (100, (.iconst 0, 1, 0, 0, 0, 0, 0, 0, 0, 0, [])), (101, (.invokestatic 378, 3, 1, 0, 0, 0, 169, 0, 0, 0, [])), (104, (.lreturn, 1, 0, 0, 0, 0, 0, 0, 0, 0, [])), (105, (.lload_n 1, 1, 1, 0, 0, 0, 0, 0, 0, 0, [])), (106, (.lload_n 3, 1, 3, 0, 0, 0, 0, 0, 0, 0, [])), (107, (.lcmp, 1, 0, 0, 0, 0, 0, 0, 0, 0, [])), (108, (.ifCond .lt 7, 3, 115, 0, 0, 0, 0, 0, 0, 0, [])), (111, (.iconst 1, 1, 0, 1, 0, 0, 0, 0, 0, 0, [])), (112, (.goto 4, 3, 116, 0, 0, 0, 0, 0, 0, 0, [])), (115, (.iconst 0, 1, 0, 0, 0, 0, 0, 0, 0, 0, [])), (116, (.invokestatic 378, 3, 1, 0, 0, 0, 169, 0, 0, 0, [])), (119, (.lreturn, 1, 0, 0, 0, 0, 0, 0, 0, 0, [])), (120, (.lload_n 1, 1, 1, 0, 0, 0, 0, 0, 0, 0, [])), (121, (.lload_n 3, 1, 3, 0, 0, 0, 0, 0, 0, 0, [])), (122, (.lcmp, 1, 0, 0, 0, 0, 0, 0, 0, 0, [])), (123, (.ifCond .le 7, 3, 130, 0, 0, 0, 0, 0, 0, 0, [])), (126, (.iconst 1, 1, 0, 1, 0, 0, 0, 0, 0, 0, [])), (127, (.goto 4, 3, 131, 0, 0, 0, 0, 0, 0, 0, [])), (130, (.iconst 0, 1, 0, 0, 0, 0, 0, 0, 0, 0, [])), (131, (.invokestatic 378, 3, 1, 0, 0, 0, 169, 0, 0, 0, [])), (134, (.lreturn, 1, 0, 0, 0, 0, 0, 0, 0, 0, [])), (135, (.lload_n 1, 1, 1, 0, 0, 0, 0, 0, 0, 0, [])), (136, (.lload_n 3, 1, 3, 0, 0, 0, 0, 0, 0, 0, [])), (137, (.land, 1, 0, 0, 0, 0, 0, 0, 0, 0, [])), (138, (.lreturn, 1, 0, 0, 0, 0, 0, 0, 0, 0, [])), (139, (.lload_n 1, 1, 1, 0, 0, 0, 0, 0, 0, 0, [])), (140, (.lload_n 3, 1, 3, 0, 0, 0, 0, 0, 0, 0, [])), (141, (.lor, 1, 0, 0, 0, 0, 0, 0, 0, 0, [])), (142, (.lreturn, 1, 0, 0, 0, 0, 0, 0, 0, 0, []))]
set_option maxRecDepth 100000 in
theorem ok_X9_both : tb_ok ctX9 m_X9_both t_X9_both = true := by decide +kernel
theorem i_X9_both_0 : tab t_X9_both 0 = some (.iload_n 0, 1, 0, 0, 0, 0, 0, 0, 0, 0, []) := rfl
theorem i_X9_both_1 : tab t_X9_both 1 = some (.tableswitch 138 2 10 #[51, 55, 59, 74, 89, 104, 119, 138, 134], 51, 139, 0, 0, 0, 0, 0, 0, 0, [(2, 52), (3, 56), (4, 60), (5, 75), (6, 90), (7, 105), (8, 120), (9, 139), (10, 135)]) := rfl
theorem i_X9_both_52 : tab t_X9_both 52 = some (.lload_n 1, 1, 1, 0, 0, 0, 0, 0, 0, 0, []) := rfl
theorem i_X9_both_53 : tab t_X9_both 53 = some (.lload_n 3, 1, 3, 0, 0, 0, 0, 0, 0, 0, []) := rfl
theorem i_X9_both_54 : tab t_X9_both 54 = some (.ladd, 1, 0, 0, 0, 0, 0, 0, 0, 0, []) := rfl
theorem i_X9_both_55 : tab t_X9_both 55 = some (.lreturn, 1, 0, 0, 0, 0, 0, 0, 0, 0, []) := rfl
theorem i_X9_both_56 : tab t_X9_both 56 = some (.lload_n 1, 1, 1, 0, 0, 0, 0, 0, 0, 0, []) := rfl
theorem i_X9_both_57 : tab t_X9_both 57 = some (.lload_n 3, 1, 3, 0, 0, 0, 0, 0, 0, 0, []) := rfl
theorem i_X9_both_58 : tab t_X9_both 58 = some (.lsub, 1, 0, 0, 0, 0, 0, 0, 0, 0, []) := rfl
theorem i_X9_both_59 : tab t_X9_both 59 = some (.lreturn, 1, 0, 0, 0, 0, 0, 0, 0, 0, []) := rfl
theorem i_X9_both_60 : tab t_X9_both 60 = some (.lload_n 1, 1, 1, 0, 0, 0, 0, 0, 0, 0, []) := rfl
theorem i_X9_both_61 : tab t_X9_both 61 = some (.lload_n 3, 1, 3, 0, 0, 0, 0, 0, 0, 0, []) := rfl
theorem i_X9_both_62 : tab t_X9_both 62 = some (.lcmp, 1, 0, 0, 0, 0, 0, 0, 0, 0, []) := rfl
theorem i_X9_both_63 : tab t_X9_both 63 = some (.ifCond .ge 7, 3, 70, 0, 0, 0, 0, 0, 0, 0, []) := rfl
theorem i_X9_both_66 : tab t_X9_both 66 = some (.iconst 1, 1, 0, 1, 0, 0, 0, 0, 0, 0, []) := rfl
theorem i_X9_both_67 : tab t_X9_both 67 = some (.goto 4, 3, 71, 0, 0, 0, 0, 0, 0, 0, []) := rfl
theorem i_X9_both_70 : tab t_X9_both 70 = some (.iconst 0, 1, 0, 0, 0, 0, 0, 0, 0, 0, []) := rfl
theorem i_X9_both_71 : tab t_X9_both 71 = some (.invokestatic 378, 3, 1, 0, 0, 0, 169, 0, 0, 0, []) := rfl
theorem i_X9_both_74 : tab t_X9_both 74 = some (.lreturn, 1, 0, 0, 0, 0, 0, 0, 0, 0, []) := rfl
theorem i_X9_both_75 : tab t_X9_both 75 = some (.lload_n 1, 1, 1, 0, 0, 0, 0, 0, 0, 0, []) := rfl
theorem i_X9_both_76 : tab t_X9_both 76 = some (.lload_n 3, 1, 3, 0, 0, 0, 0, 0, 0, 0, []) := rfl
theorem i_X9_both_77 : tab t_X9_both 77 = some (.lcmp, 1, 0, 0, 0, 0, 0, 0, 0, 0, []) := rfl
theorem i_X9_both_78 : tab t_X9_both 78 = some (.ifCond .gt 7, 3, 85, 0, 0, 0, 0, 0, 0, 0, []) := rfl
theorem i_X9_both_81 : tab t_X9_both 81 = some (.iconst 1, 1, 0, 1, 0, 0, 0, 0, 0, 0, []) := rfl
theorem i_X9_both_82 : tab t_X9_both 82 = some (.goto 4, 3, 86, 0, 0, 0, 0, 0, 0, 0, []) := rfl
theorem i_X9_both_85 : tab t_X9_both 85 = some (.iconst 0, 1, 0, 0, 0, 0, 0, 0, 0, 0, []) := rfl
theorem i_X9_both_86 : tab t_X9_both 86 = some (.invokestatic 378, 3, 1, 0, 0, 0, 169, 0, 0, 0, []) := rfl
theorem i_X9_both_89 : tab t_X9_both 89 = some (.lreturn, 1, 0, 0, 0, 0, 0, 0, 0, 0, []) := rfl
theorem i_X9_both_90 : tab t_X9_both 90 = some (.lload_n 1, 1, 1, 0, 0, 0, 0, 0, 0, 0, []) := rfl
theorem i_X9_both_91 : tab t_X9_both 91 = some (.lload_n 3, 1, 3, 0, 0, 0, 0, 0, 0, 0, []) := rfl
theorem i_X9_both_92 : tab t_X9_both 92 = some (.lcmp, 1, 0, 0, 0, 0, 0, 0, 0, 0, []) := rfl
theorem i_X9_both_93 : tab t_X9_both 93 = some (.ifCond .ne 7, 3, 100, 0, 0, 0, 0, 0, 0, 0, []) := rfl
theorem i_X9_both_96 : tab t_X9_both 96 = some (.iconst 1, 1, 0, 1, 0, 0, 0, 0, 0, 0, []) := rfl
theorem i_X9_both_97 : tab t_X9_both 97 = some (.goto 4, 3, 101, 0, 0, 0, 0, 0, 0, 0, []) := rfl
theorem i_X9_both_100 : tab t_X9_both 100 = some (.iconst 0, 1, 0, 0, 0, 0, 0, 0, 0, 0, []) := rfl
theorem i_X9_both_101 : tab t_X9_both 101 = some (.invokestatic 378, 3, 1, 0, 0, 0, 169, 0, 0, 0, []) := rfl
theorem i_X9_both_104 : tab t_X9_both 104 = some (.lreturn, 1, 0, 0, 0, 0, 0, 0, 0, 0, []) := rfl
theorem i_X9_both_105 : tab t_X9_both 105 = some (.lload_n 1, 1, 1, 0, 0, 0, 0, 0, 0, 0, []) := rfl
theorem i_X9_both_106 : tab t_X9_both 106 = some (.lload_n 3, 1, 3, 0, 0, 0, 0, 0, 0, 0, []) := rfl
theorem i_X9_both_107 : tab t_X9_both 107 = some (.lcmp, 1, 0, 0, 0, 0, 0, 0, 0, 0, []) := rfl
theorem i_X9_both_108 : tab t_X9_both 108 = some (.ifCond .lt 7, 3, 115, 0, 0, 0, 0, 0, 0, 0, []) := rfl
theorem i_X9_both_111 : tab t_X9_both 111 = some (.iconst 1, 1, 0, 1, 0, 0, 0, 0, 0, 0, []) := rfl
theorem i_X9_both_112 : tab t_X9_both 112 = some (.goto 4, 3, 116, 0, 0, 0, 0, 0, 0, 0, []) := rfl
theorem i_X9_both_115 : tab t_X9_both 115 = some (.iconst 0, 1, 0, 0, 0, 0, 0, 0, 0, 0, []) := rfl
theorem i_X9_both_116 : tab t_X9_both 116 = some (.invokestatic 378, 3, 1, 0, 0, 0, 169, 0, 0, 0, []) := rfl
theorem i_X9_both_119 : tab t_X9_both 119 = some (.lreturn, 1, 0, 0, 0, 0, 0, 0, 0, 0, []) := rfl
theorem i_X9_both_120 : tab t_X9_both 120 = some (.lload_n 1, 1, 1, 0, 0, 0, 0, 0, 0, 0, []) := rfl
theorem i_X9_both_121 : tab t_X9_both 121 = some (.lload_n 3, 1, 3, 0, 0, 0, 0, 0, 0, 0, []) := rfl
theorem i_X9_both_122 : tab t_X9_both 122 = some (.lcmp, 1, 0, 0, 0, 0, 0, 0, 0, 0, []) := rfl
theorem i_X9_both_123 : tab t_X9_both 123 = some (.ifCond .le 7, 3, 130, 0, 0, 0, 0, 0, 0, 0, []) := rfl
theorem i_X9_both_126 : tab t_X9_both 126 = some (.iconst 1, 1, 0, 1, 0, 0, 0, 0, 0, 0, []) := rfl
theorem i_X9_both_127 : tab t_X9_both 127 = some (.goto 4, 3, 131, 0, 0, 0, 0, 0, 0, 0, []) := rfl
theorem i_X9_both_130 : tab t_X9_both 130 = some (.iconst 0, 1, 0, 0, 0, 0, 0, 0, 0, 0, []) := rfl
theorem i_X9_both_131 : tab t_X9_both 131 = some (.invokestatic 378, 3, 1, 0, 0, 0, 169, 0, 0, 0, []) := rfl
theorem i_X9_both_134 : tab t_X9_both 134 = some (.lreturn, 1, 0, 0, 0, 0, 0, 0, 0, 0, []) := rfl
theorem i_X9_both_135 : tab t_X9_both 135 = some (.lload_n 1, 1, 1, 0, 0, 0, 0, 0, 0, 0, []) := rfl
theorem i_X9_both_136 : tab t_X9_both 136 = some (.lload_n 3, 1, 3, 0, 0, 0, 0, 0, 0, 0, []) := rfl
theorem i_X9_both_137 : tab t_X9_both 137 = some (.land, 1, 0, 0, 0, 0, 0, 0, 0, 0, []) := rfl
theorem i_X9_both_138 : tab t_X9_both 138 = some (.lreturn, 1, 0, 0, 0, 0, 0, 0, 0, 0, []) := rfl
theorem i_X9_both_139 : tab t_X9_both 139 = some (.lload_n 1, 1, 1, 0, 0, 0, 0, 0, 0, 0, []) := rfl
theorem i_X9_both_140 : tab t_X9_both 140 = some (.lload_n 3, 1, 3, 0, 0, 0, 0, 0, 0, 0, []) := rfl
theorem i_X9_both_141 : tab t_X9_both 141 = some (.lor, 1, 0, 0, 0, 0, 0, 0, 0, 0, []) := rfl
theorem i_X9_both_142 : tab t_X9_both 142 = some (.lreturn, 1, 0, 0, 0, 0, 0, 0, 0, 0, []) := rfl
def t_X9_answer : List (Nat × rw_) := [(0, (.iconst 0, 1, 0, 0, 0, 0, 0, 0, 0, 0, [])), (1, (.istore 4, 2, 4, 0, 0, 0, 0, 0, 0, 0, [])), (3, (.iload_n 2, 1, 2, 0, 0, 0, 0, 0, 0, 0, [])), (4, (.istore 5, 2, 5, 0, 0, 0, 0, 0, 0, 0, [])), (6, (.iload 5, 2, 5, 0, 0, 0, 0, 0, 0, 0, [])), (8, (.iload_n 3, 1, 3, 0, 0, 0, 0, 0, 0, 0, [])), (9, (.if_icmp .ge 144, 3, 153, 0, 0, 0, 0, 0, 0, 0, [])), (12, (.aload_n 0, 1, 0, 0, 0, 0, 0, 0, 0, 0, [])), (13, (.getfield 81, 3, 2, 0, 0, 9, 38, 0, 0, 0, [])), (16, (.sipush 300, 3, 0, 300, 0, 0, 0, 0, 0, 0, [])), (19, (.iload_n 1, 1, 1, 0, 0, 0, 0, 0, 0, 0, [])), (20, (.imul, 1, 0, 0, 0, 0, 0, 0, 0, 0, [])), (21, (.iload 5, 2, 5, 0, 0, 0, 0, 0, 0, 0, [])), (23, (.iadd, 1, 0, 0, 0, 0, 0, 0, 0, 0, [])), (24, (.iaload, 1, 0, 0, 0, 0, 0, 0, 0, 0, [])), (25, (.istore 6, 2, 6, 0, 0, 0, 0, 0, 0, 0, [])), (27, (.aload_n 0, 1, 0, 0, 0, 0, 0, 0, 0, 0, [])), (28, (.getfield 84, 3, 2, 0, 0, 9, 39, 0, 0, 0, [])), (31, (.sipush 300, 3, 0, 300, 0, 0, 0, 0, 0, 0, [])), (34, (.iload_n 1, 1, 1, 0, 0, 0, 0, 0, 0, 0, [])), (35, (.imul, 1, 0, 0, 0, 0, 0, 0, 0, 0, [])), (36, (.iload 5, 2, 5, 0, 0, 0, 0, 0, 0, 0, [])), (38, (.iadd, 1, 0, 0, 0, 0, 0, 0, 0, 0, [])), (39, (.iaload, 1, 0, 0, 0, 0, 0, 0, 0, 0, [])), (40, (.istore 7, 2, 7, 0, 0, 0, 0, 0, 0, 0, [])), (42, (.iload 6, 2, 6, 0, 0, 0, 0, 0, 0, 0, [])), (44, (.ifCond .eq 9, 3, 53, 0, 0, 0, 0, 0, 0, 0, [])), (47, (.iload 6, 2, 6, 0, 0, 0, 0, 0, 0, 0, [])), (49, (.iconst 1, 1, 0, 1, 0, 0, 0, 0, 0, 0, [])), (50, (.if_icmp .ne 34, 3, 84, 0, 0, 0, 0, 0, 0, 0, [])), (53, (.aload_n 0, 1, 0, 0, 0, 0, 0, 0, 0, 0, [])), (54, (.getfield 109, 3, 2, 0, 0, 9, 47, 0, 0, 0, [])), (57, (.iload 4, 2, 4, 0, 0, 0, 0, 0, 0, 0, [])), (59, (.iload 6, 2, 6, 0, 0, 0, 0, 0, 0, 0, [])), (61, (.ifCond .ne 9, 3, 70, 0, 0, 0, 0, 0, 0, 0, [])), (64, (.iload 7, 2, 7, 0, 0, 0, 0, 0, 0, 0, [])), (66, (.i2l, 1, 0, 0, 0, 0, 0, 0, 0, 0, [])), (67, (.goto 10, 3, 77, 0, 0, 0, 0, 0, 0, 0, [])), (70, (.aload_n 0, 1, 0, 0, 0, 0, 0, 0, 0, 0, [])), (71, (.getfield 105, 3, 2, 0, 0, 9, 46, 0, 0, 0, [])), (74, (.iload 7, 2, 7, 0, 0, 0, 0, 0, 0, 0, [])), (76, (.laload, 1, 0, 0, 0, 0, 0, 0, 0, 0, [])), (77, (.lastore, 1, 0, 0, 0, 0, 0, 0, 0, 0, [])), (78, (.iinc 4 1, 3, 4, 1, 0, 0, 0, 0, 0, 0, [])), (81, (.goto 66, 3, 147, 0, 0, 0, 0, 0, 0, 0, [])), (84, (.iload 6, 2, 6, 0, 0, 0, 0, 0, 0, 0, [])), (86, (.bipush 9, 2, 0, 9, 0, 0, 0, 0, 0, 0, [])), (88, (.if_icmp .ne 26, 3, 114, 0, 0, 0, 0, 0, 0, 0, [])), (91, (.aload_n 0, 1, 0, 0, 0, 0, 0, 0, 0, 0, [])), (92, (.getfield 109, 3, 2, 0, 0, 9, 47, 0, 0, 0, [])), (95, (.iload 4, 2, 4, 0, 0, 0, 0, 0, 0, 0, [])), (97, (.iconst 1, 1, 0, 1, 0, 0, 0, 0, 0, 0, [])), (98, (.isub, 1, 0, 0, 0, 0, 0, 0, 0, 0, [])), (99, (.lconst 1, 1, 0, 0, 1, 0, 0, 0, 0, 0, [])), (100, (.aload_n 0, 1, 0, 0, 0, 0, 0, 0, 0, 0, [])), (101, (.getfield 109, 3, 2, 0, 0, 9, 47, 0, 0, 0, [])), (104, (.iload 4, 2, 4, 0, 0, 0, 0, 0, 0, 0, [])), (106, (.iconst 1, 1, 0, 1, 0, 0, 0, 0, 0, 0, [])), (107, (.isub, 1, 0, 0, 0, 0, 0, 0, 0, 0, [])), (108, (.laload, 1, 0, 0, 0, 0, 0, 0, 0, 0, [])), (109, (.lsub, 1, 0, 0, 0, 0, 0, 0, 0, 0, [])), (110, (.lastore, 1, 0, 0, 0, 0, 0, 0, 0, 0, [])), (111, (.goto 36, 3, 147, 0, 0, 0, 0, 0, 0, 0, [])), (114, (.iinc 4 (-1), 3, 4, -1, 0, 0, 0, 0, 0, 0, [])), (117, (.aload_n 0, 1, 0, 0, 0, 0, 0, 0, 0, 0, [])), (118, (.getfield 109, 3, 2, 0, 0, 9, 47, 0, 0, 0, [])), (121, (.iload 4, 2, 4, 0, 0, 0, 0, 0, 0, 0, [])), (123, (.iconst 1, 1, 0, 1, 0, 0, 0, 0, 0, 0, [])), (124, (.isub, 1, 0, 0, 0, 0, 0, 0, 0, 0, [])), (125, (.iload 6, 2, 6, 0, 0, 0, 0, 0, 0, 0, [])), (127, (.aload_n 0, 1, 0, 0, 0, 0, 0, 0, 0, 0, [])), (128, (.getfield 109, 3, 2, 0, 0, 9, 47, 0, 0, 0, [])), (131, (.iload 4, 2, 4, 0, 0, 0, 0, 0, 0, 0, [])), (133, (.iconst 1, 1, 0, 1, 0, 0, 0, 0, 0, 0, [])), (134, (.isub, 1, 0, 0, 0, 0, 0, 0, 0, 0, [])), (135, (.laload, 1, 0, 0, 0, 0, 0, 0, 0, 0, [])), (136, (.aload_n 0, 1, 0, 0, 0, 0, 0, 0, 0, 0, [])), (137, (.getfield 109, 3, 2, 0, 0, 9, 47, 0, 0, 0, [])), (140, (.iload 4, 2, 4, 0, 0, 0, 0, 0, 0, 0, [])), (142, (.laload, 1, 0, 0, 0, 0, 0, 0, 0, 0, [])), (143, (.invokestatic 382, 3, 3, 0, 0, 0, 170, 0, 0, 0, [])), (146, (.lastore, 1, 0, 0, 0, 0, 0, 0, 0, 0, [])), (147, (.iinc 5 1, 3, 5, 1, 0, 0, 0, 0, 0, 0, [])), (150, (.goto (-144), 3, 6, 0, 0, 0, 0, 0, 0, 0, [])), (153, (.aload_n 0, 1, 0, 0, 0, 0, 0, 0, 0, 0, [])), (154, (.getfield 109, 3, 2, 0, 0, 9, 47, 0, 0, 0, [])), (157, (.iconst 0, 1, 0, 0, 0, 0, 0, 0, 0, 0, [])), (158, (.laload, 1, 0, 0, 0, 0, 0, 0, 0, 0, [])), (159, (.lreturn, 1, 0, 0, 0, 0, 0, 0, 0, 0, []))]
set_option maxRecDepth 100000 in
theorem ok_X9_answer : tb_ok ctX9 m_X9_answer t_X9_answer = true := by decide +kernel
theorem i_X9_answer_0 : tab t_X9_answer 0 = some (.iconst 0, 1, 0, 0, 0, 0, 0, 0, 0, 0, []) := rfl
theorem i_X9_answer_1 : tab t_X9_answer 1 = some (.istore 4, 2, 4, 0, 0, 0, 0, 0, 0, 0, []) := rfl
theorem i_X9_answer_3 : tab t_X9_answer 3 = some (.iload_n 2, 1, 2, 0, 0, 0, 0, 0, 0, 0, []) := rfl
theorem i_X9_answer_4 : tab t_X9_answer 4 = some (.istore 5, 2, 5, 0, 0, 0, 0, 0, 0, 0, []) := rfl
theorem i_X9_answer_6 : tab t_X9_answer 6 = some (.iload 5, 2, 5, 0, 0, 0, 0, 0, 0, 0, []) := rfl
theorem i_X9_answer_8 : tab t_X9_answer 8 = some (.iload_n 3, 1, 3, 0, 0, 0, 0, 0, 0, 0, []) := rfl
theorem i_X9_answer_9 : tab t_X9_answer 9 = some (.if_icmp .ge 144, 3, 153, 0, 0, 0, 0, 0, 0, 0, []) := rfl
theorem i_X9_answer_12 : tab t_X9_answer 12 = some (.aload_n 0, 1, 0, 0, 0, 0, 0, 0, 0, 0, []) := rfl
theorem i_X9_answer_13 : tab t_X9_answer 13 = some (.getfield 81, 3, 2, 0, 0, 9, 38, 0, 0, 0, []) := rfl
theorem i_X9_answer_16 : tab t_X9_answer 16 = some (.sipush 300, 3, 0, 300, 0, 0, 0, 0, 0, 0, []) := rfl
theorem i_X9_answer_19 : tab t_X9_answer 19 = some (.iload_n 1, 1, 1, 0, 0, 0, 0, 0, 0, 0, []) := rfl
theorem i_X9_answer_20 : tab t_X9_answer 20 = some (.imul, 1, 0, 0, 0, 0, 0, 0, 0, 0, []) := rfl
theorem i_X9_answer_21 : tab t_X9_answer 21 = some (.iload 5, 2, 5, 0, 0, 0, 0, 0, 0, 0, []) := rfl
theorem i_X9_answer_23 : tab t_X9_answer 23 = some (.iadd, 1, 0, 0, 0, 0, 0, 0, 0, 0, []) := rfl
theorem i_X9_answer_24 : tab t_X9_answer 24 = some (.iaload, 1, 0, 0, 0, 0, 0, 0, 0, 0, []) := rfl
theorem i_X9_answer_25 : tab t_X9_answer 25 = some (.istore 6, 2, 6, 0, 0, 0, 0, 0, 0, 0, []) := rfl
theorem i_X9_answer_27 : tab t_X9_answer 27 = some (.aload_n 0, 1, 0, 0, 0, 0, 0, 0, 0, 0, []) := rfl
theorem i_X9_answer_28 : tab t_X9_answer 28 = some (.getfield 84, 3, 2, 0, 0, 9, 39, 0, 0, 0, []) := rfl
theorem i_X9_answer_31 : tab t_X9_answer 31 = some (.sipush 300, 3, 0, 300, 0, 0, 0, 0, 0, 0, []) := rfl
theorem i_X9_answer_34 : tab t_X9_answer 34 = some (.iload_n 1, 1, 1, 0, 0, 0, 0, 0, 0, 0, []) := rfl
theorem i_X9_answer_35 : tab t_X9_answer 35 = some (.imul, 1, 0, 0, 0, 0, 0, 0, 0, 0, []) := rfl
theorem i_X9_answer_36 : tab t_X9_answer 36 = some (.iload 5, 2, 5, 0, 0, 0, 0, 0, 0, 0, []) := rfl
theorem i_X9_answer_38 : tab t_X9_answer 38 = some (.iadd, 1, 0, 0, 0, 0, 0, 0, 0, 0, []) := rfl
theorem i_X9_answer_39 : tab t_X9_answer 39 = some (.iaload, 1, 0, 0, 0, 0, 0, 0, 0, 0, []) := rfl
theorem i_X9_answer_40 : tab t_X9_answer 40 = some (.istore 7, 2, 7, 0, 0, 0, 0, 0, 0, 0, []) := rfl
theorem i_X9_answer_42 : tab t_X9_answer 42 = some (.iload 6, 2, 6, 0, 0, 0, 0, 0, 0, 0, []) := rfl
theorem i_X9_answer_44 : tab t_X9_answer 44 = some (.ifCond .eq 9, 3, 53, 0, 0, 0, 0, 0, 0, 0, []) := rfl
theorem i_X9_answer_47 : tab t_X9_answer 47 = some (.iload 6, 2, 6, 0, 0, 0, 0, 0, 0, 0, []) := rfl
theorem i_X9_answer_49 : tab t_X9_answer 49 = some (.iconst 1, 1, 0, 1, 0, 0, 0, 0, 0, 0, []) := rfl
theorem i_X9_answer_50 : tab t_X9_answer 50 = some (.if_icmp .ne 34, 3, 84, 0, 0, 0, 0, 0, 0, 0, []) := rfl
theorem i_X9_answer_53 : tab t_X9_answer 53 = some (.aload_n 0, 1, 0, 0, 0, 0, 0, 0, 0, 0, []) := rfl
theorem i_X9_answer_54 : tab t_X9_answer 54 = some (.getfield 109, 3, 2, 0, 0, 9, 47, 0, 0, 0, []) := rfl
theorem i_X9_answer_57 : tab t_X9_answer 57 = some (.iload 4, 2, 4, 0, 0, 0, 0, 0, 0, 0, []) := rfl
theorem i_X9_answer_59 : tab t_X9_answer 59 = some (.iload 6, 2, 6, 0, 0, 0, 0, 0, 0, 0, []) := rfl
theorem i_X9_answer_61 : tab t_X9_answer 61 = some (.ifCond .ne 9, 3, 70, 0, 0, 0, 0, 0, 0, 0, []) := rfl
theorem i_X9_answer_64 : tab t_X9_answer 64 = some (.iload 7, 2, 7, 0, 0, 0, 0, 0, 0, 0, []) := rfl
theorem i_X9_answer_66 : tab t_X9_answer 66 = some (.i2l, 1, 0, 0, 0, 0, 0, 0, 0, 0, []) := rfl
theorem i_X9_answer_67 : tab t_X9_answer 67 = some (.goto 10, 3, 77, 0, 0, 0, 0, 0, 0, 0, []) := rfl
theorem i_X9_answer_70 : tab t_X9_answer 70 = some (.aload_n 0, 1, 0, 0, 0, 0, 0, 0, 0, 0, []) := rfl
theorem i_X9_answer_71 : tab t_X9_answer 71 = some (.getfield 105, 3, 2, 0, 0, 9, 46, 0, 0, 0, []) := rfl
theorem i_X9_answer_74 : tab t_X9_answer 74 = some (.iload 7, 2, 7, 0, 0, 0, 0, 0, 0, 0, []) := rfl
theorem i_X9_answer_76 : tab t_X9_answer 76 = some (.laload, 1, 0, 0, 0, 0, 0, 0, 0, 0, []) := rfl
theorem i_X9_answer_77 : tab t_X9_answer 77 = some (.lastore, 1, 0, 0, 0, 0, 0, 0, 0, 0, []) := rfl
theorem i_X9_answer_78 : tab t_X9_answer 78 = some (.iinc 4 1, 3, 4, 1, 0, 0, 0, 0, 0, 0, []) := rfl
theorem i_X9_answer_81 : tab t_X9_answer 81 = some (.goto 66, 3, 147, 0, 0, 0, 0, 0, 0, 0, []) := rfl
theorem i_X9_answer_84 : tab t_X9_answer 84 = some (.iload 6, 2, 6, 0, 0, 0, 0, 0, 0, 0, []) := rfl
theorem i_X9_answer_86 : tab t_X9_answer 86 = some (.bipush 9, 2, 0, 9, 0, 0, 0, 0, 0, 0, []) := rfl
theorem i_X9_answer_88 : tab t_X9_answer 88 = some (.if_icmp .ne 26, 3, 114, 0, 0, 0, 0, 0, 0, 0, []) := rfl
theorem i_X9_answer_91 : tab t_X9_answer 91 = some (.aload_n 0, 1, 0, 0, 0, 0, 0, 0, 0, 0, []) := rfl
theorem i_X9_answer_92 : tab t_X9_answer 92 = some (.getfield 109, 3, 2, 0, 0, 9, 47, 0, 0, 0, []) := rfl
theorem i_X9_answer_95 : tab t_X9_answer 95 = some (.iload 4, 2, 4, 0, 0, 0, 0, 0, 0, 0, []) := rfl
theorem i_X9_answer_97 : tab t_X9_answer 97 = some (.iconst 1, 1, 0, 1, 0, 0, 0, 0, 0, 0, []) := rfl
theorem i_X9_answer_98 : tab t_X9_answer 98 = some (.isub, 1, 0, 0, 0, 0, 0, 0, 0, 0, []) := rfl
theorem i_X9_answer_99 : tab t_X9_answer 99 = some (.lconst 1, 1, 0, 0, 1, 0, 0, 0, 0, 0, []) := rfl
theorem i_X9_answer_100 : tab t_X9_answer 100 = some (.aload_n 0, 1, 0, 0, 0, 0, 0, 0, 0, 0, []) := rfl
theorem i_X9_answer_101 : tab t_X9_answer 101 = some (.getfield 109, 3, 2, 0, 0, 9, 47, 0, 0, 0, []) := rfl
theorem i_X9_answer_104 : tab t_X9_answer 104 = some (.iload 4, 2, 4, 0, 0, 0, 0, 0, 0, 0, []) := rfl
theorem i_X9_answer_106 : tab t_X9_answer 106 = some (.iconst 1, 1, 0, 1, 0, 0, 0, 0, 0, 0, []) := rfl
theorem i_X9_answer_107 : tab t_X9_answer 107 = some (.isub, 1, 0, 0, 0, 0, 0, 0, 0, 0, []) := rfl
theorem i_X9_answer_108 : tab t_X9_answer 108 = some (.laload, 1, 0, 0, 0, 0, 0, 0, 0, 0, []) := rfl
theorem i_X9_answer_109 : tab t_X9_answer 109 = some (.lsub, 1, 0, 0, 0, 0, 0, 0, 0, 0, []) := rfl
theorem i_X9_answer_110 : tab t_X9_answer 110 = some (.lastore, 1, 0, 0, 0, 0, 0, 0, 0, 0, []) := rfl
theorem i_X9_answer_111 : tab t_X9_answer 111 = some (.goto 36, 3, 147, 0, 0, 0, 0, 0, 0, 0, []) := rfl
theorem i_X9_answer_114 : tab t_X9_answer 114 = some (.iinc 4 (-1), 3, 4, -1, 0, 0, 0, 0, 0, 0, []) := rfl
theorem i_X9_answer_117 : tab t_X9_answer 117 = some (.aload_n 0, 1, 0, 0, 0, 0, 0, 0, 0, 0, []) := rfl
theorem i_X9_answer_118 : tab t_X9_answer 118 = some (.getfield 109, 3, 2, 0, 0, 9, 47, 0, 0, 0, []) := rfl
theorem i_X9_answer_121 : tab t_X9_answer 121 = some (.iload 4, 2, 4, 0, 0, 0, 0, 0, 0, 0, []) := rfl
theorem i_X9_answer_123 : tab t_X9_answer 123 = some (.iconst 1, 1, 0, 1, 0, 0, 0, 0, 0, 0, []) := rfl
theorem i_X9_answer_124 : tab t_X9_answer 124 = some (.isub, 1, 0, 0, 0, 0, 0, 0, 0, 0, []) := rfl
theorem i_X9_answer_125 : tab t_X9_answer 125 = some (.iload 6, 2, 6, 0, 0, 0, 0, 0, 0, 0, []) := rfl
theorem i_X9_answer_127 : tab t_X9_answer 127 = some (.aload_n 0, 1, 0, 0, 0, 0, 0, 0, 0, 0, []) := rfl
theorem i_X9_answer_128 : tab t_X9_answer 128 = some (.getfield 109, 3, 2, 0, 0, 9, 47, 0, 0, 0, []) := rfl
theorem i_X9_answer_131 : tab t_X9_answer 131 = some (.iload 4, 2, 4, 0, 0, 0, 0, 0, 0, 0, []) := rfl
theorem i_X9_answer_133 : tab t_X9_answer 133 = some (.iconst 1, 1, 0, 1, 0, 0, 0, 0, 0, 0, []) := rfl
theorem i_X9_answer_134 : tab t_X9_answer 134 = some (.isub, 1, 0, 0, 0, 0, 0, 0, 0, 0, []) := rfl
theorem i_X9_answer_135 : tab t_X9_answer 135 = some (.laload, 1, 0, 0, 0, 0, 0, 0, 0, 0, []) := rfl
theorem i_X9_answer_136 : tab t_X9_answer 136 = some (.aload_n 0, 1, 0, 0, 0, 0, 0, 0, 0, 0, []) := rfl
theorem i_X9_answer_137 : tab t_X9_answer 137 = some (.getfield 109, 3, 2, 0, 0, 9, 47, 0, 0, 0, []) := rfl
theorem i_X9_answer_140 : tab t_X9_answer 140 = some (.iload 4, 2, 4, 0, 0, 0, 0, 0, 0, 0, []) := rfl
theorem i_X9_answer_142 : tab t_X9_answer 142 = some (.laload, 1, 0, 0, 0, 0, 0, 0, 0, 0, []) := rfl
theorem i_X9_answer_143 : tab t_X9_answer 143 = some (.invokestatic 382, 3, 3, 0, 0, 0, 170, 0, 0, 0, []) := rfl
theorem i_X9_answer_146 : tab t_X9_answer 146 = some (.lastore, 1, 0, 0, 0, 0, 0, 0, 0, 0, []) := rfl
theorem i_X9_answer_147 : tab t_X9_answer 147 = some (.iinc 5 1, 3, 5, 1, 0, 0, 0, 0, 0, 0, []) := rfl
theorem i_X9_answer_150 : tab t_X9_answer 150 = some (.goto (-144), 3, 6, 0, 0, 0, 0, 0, 0, 0, []) := rfl
theorem i_X9_answer_153 : tab t_X9_answer 153 = some (.aload_n 0, 1, 0, 0, 0, 0, 0, 0, 0, 0, []) := rfl
theorem i_X9_answer_154 : tab t_X9_answer 154 = some (.getfield 109, 3, 2, 0, 0, 9, 47, 0, 0, 0, []) := rfl
theorem i_X9_answer_157 : tab t_X9_answer 157 = some (.iconst 0, 1, 0, 0, 0, 0, 0, 0, 0, 0, []) := rfl
theorem i_X9_answer_158 : tab t_X9_answer 158 = some (.laload, 1, 0, 0, 0, 0, 0, 0, 0, 0, []) := rfl
theorem i_X9_answer_159 : tab t_X9_answer 159 = some (.lreturn, 1, 0, 0, 0, 0, 0, 0, 0, 0, []) := rfl
def t_X9_asItIs : List (Nat × rw_) := [(0, (.iconst 0, 1, 0, 0, 0, 0, 0, 0, 0, 0, [])), (1, (.istore_n 2, 1, 2, 0, 0, 0, 0, 0, 0, 0, [])), (2, (.iload_n 2, 1, 2, 0, 0, 0, 0, 0, 0, 0, [])), (3, (.aload_n 0, 1, 0, 0, 0, 0, 0, 0, 0, 0, [])), (4, (.getfield 182, 3, 0, 0, 0, 9, 2, 0, 0, 0, [])), (7, (.if_icmp .ge 40, 3, 47, 0, 0, 0, 0, 0, 0, 0, [])), (10, (.aload_n 0, 1, 0, 0, 0, 0, 0, 0, 0, 0, [])), (11, (.getfield 112, 3, 2, 0, 0, 9, 48, 0, 0, 0, [])), (14, (.iload_n 2, 1, 2, 0, 0, 0, 0, 0, 0, 0, [])), (15, (.aload_n 0, 1, 0, 0, 0, 0, 0, 0, 0, 0, [])), (16, (.getfield 50, 3, 2, 0, 0, 9, 20, 0, 0, 0, [])), (19, (.iload_n 2, 1, 2, 0, 0, 0, 0, 0, 0, 0, [])), (20, (.iaload, 1, 0, 0, 0, 0, 0, 0, 0, 0, [])), (21, (.iconst (-1), 1, 0, -1, 0, 0, 0, 0, 0, 0, [])), (22, (.if_icmp .eq 17, 3, 39, 0, 0, 0, 0, 0, 0, 0, [])), (25, (.aload_n 0, 1, 0, 0, 0, 0, 0, 0, 0, 0, [])), (26, (.getfield 50, 3, 2, 0, 0, 9, 20, 0, 0, 0, [])), (29, (.iload_n 2, 1, 2, 0, 0, 0, 0, 0, 0, 0, [])), (30, (.iaload, 1, 0, 0, 0, 0, 0, 0, 0, 0, [])), (31, (.iload_n 1, 1, 1, 0, 0, 0, 0, 0, 0, 0, [])), (32, (.if_icmp .gt 7, 3, 39, 0, 0, 0, 0, 0, 0, 0, [])), (35, (.iconst 1, 1, 0, 1, 0, 0, 0, 0, 0, 0, [])), (36, (.goto 4, 3, 40, 0, 0, 0, 0, 0, 0, 0, [])), (39, (.iconst 0, 1, 0, 0, 0, 0, 0, 0, 0, 0, [])), (40, (.bastore, 1, 0, 0, 0, 2, 0, 0, 0, 0, [])), (41, (.iinc 2 1, 3, 2, 1, 0, 0, 0, 0, 0, 0, [])), (44, (.goto (-42), 3, 2, 0, 0, 0, 0, 0, 0, 0, [])), (47, (.iconst 0, 1, 0, 0, 0, 0, 0, 0, 0, 0, [])), (48, (.istore_n 2, 1, 2, 0, 0, 0, 0, 0, 0, 0, [])), (49, (.iload_n 2, 1, 2, 0, 0, 0, 0, 0, 0, 0, [])), (50, (.aload_n 0, 1, 0, 0, 0, 0, 0, 0, 0, 0, [])), (51, (.getfield 223, 3, 0, 0, 0, 9, 4, 0, 0, 0, [])), (54, (.if_icmp .ge 16, 3, 70, 0, 0, 0, 0, 0, 0, 0, [])), (57, (.aload_n 0, 1, 0, 0, 0, 0, 0, 0, 0, 0, [])), (58, (.getfield 116, 3, 2, 0, 0, 9, 49, 0, 0, 0, [])), (61, (.iload_n 2, 1, 2, 0, 0, 0, 0, 0, 0, 0, [])), (62, (.iconst 1, 1, 0, 1, 0, 0, 0, 0, 0, 0, [])), (63, (.bastore, 1, 0, 0, 0, 2, 0, 0, 0, 0, [])), (64, (.iinc 2 1, 3, 2, 1, 0, 0, 0, 0, 0, 0, [])), (67, (.goto (-18), 3, 49, 0, 0, 0, 0, 0, 0, 0, [])), (70, (.return_, 1, 0, 0, 0, 0, 0, 0, 0, 0, []))]
set_option maxRecDepth 100000 in
theorem ok_X9_asItIs : tb_ok ctX9 m_X9_asItIs t_X9_asItIs = true := by decide +kernel
theorem i_X9_asItIs_0 : tab t_X9_asItIs 0 = some (.iconst 0, 1, 0, 0, 0, 0, 0, 0, 0, 0, []) := rfl
theorem i_X9_asItIs_1 : tab t_X9_asItIs 1 = some (.istore_n 2, 1, 2, 0, 0, 0, 0, 0, 0, 0, []) := rfl
theorem i_X9_asItIs_2 : tab t_X9_asItIs 2 = some (.iload_n 2, 1, 2, 0, 0, 0, 0, 0, 0, 0, []) := rfl
theorem i_X9_asItIs_3 : tab t_X9_asItIs 3 = some (.aload_n 0, 1, 0, 0, 0, 0, 0, 0, 0, 0, []) := rfl
theorem i_X9_asItIs_4 : tab t_X9_asItIs 4 = some (.getfield 182, 3, 0, 0, 0, 9, 2, 0, 0, 0, []) := rfl
theorem i_X9_asItIs_7 : tab t_X9_asItIs 7 = some (.if_icmp .ge 40, 3, 47, 0, 0, 0, 0, 0, 0, 0, []) := rfl
theorem i_X9_asItIs_10 : tab t_X9_asItIs 10 = some (.aload_n 0, 1, 0, 0, 0, 0, 0, 0, 0, 0, []) := rfl
theorem i_X9_asItIs_11 : tab t_X9_asItIs 11 = some (.getfield 112, 3, 2, 0, 0, 9, 48, 0, 0, 0, []) := rfl
theorem i_X9_asItIs_14 : tab t_X9_asItIs 14 = some (.iload_n 2, 1, 2, 0, 0, 0, 0, 0, 0, 0, []) := rfl
theorem i_X9_asItIs_15 : tab t_X9_asItIs 15 = some (.aload_n 0, 1, 0, 0, 0, 0, 0, 0, 0, 0, []) := rfl
theorem i_X9_asItIs_16 : tab t_X9_asItIs 16 = some (.getfield 50, 3, 2, 0, 0, 9, 20, 0, 0, 0, []) := rfl
theorem i_X9_asItIs_19 : tab t_X9_asItIs 19 = some (.iload_n 2, 1, 2, 0, 0, 0, 0, 0, 0, 0, []) := rfl
theorem i_X9_asItIs_20 : tab t_X9_asItIs 20 = some (.iaload, 1, 0, 0, 0, 0, 0, 0, 0, 0, []) := rfl
theorem i_X9_asItIs_21 : tab t_X9_asItIs 21 = some (.iconst (-1), 1, 0, -1, 0, 0, 0, 0, 0, 0, []) := rfl
theorem i_X9_asItIs_22 : tab t_X9_asItIs 22 = some (.if_icmp .eq 17, 3, 39, 0, 0, 0, 0, 0, 0, 0, []) := rfl
theorem i_X9_asItIs_25 : tab t_X9_asItIs 25 = some (.aload_n 0, 1, 0, 0, 0, 0, 0, 0, 0, 0, []) := rfl
theorem i_X9_asItIs_26 : tab t_X9_asItIs 26 = some (.getfield 50, 3, 2, 0, 0, 9, 20, 0, 0, 0, []) := rfl
theorem i_X9_asItIs_29 : tab t_X9_asItIs 29 = some (.iload_n 2, 1, 2, 0, 0, 0, 0, 0, 0, 0, []) := rfl
theorem i_X9_asItIs_30 : tab t_X9_asItIs 30 = some (.iaload, 1, 0, 0, 0, 0, 0, 0, 0, 0, []) := rfl
theorem i_X9_asItIs_31 : tab t_X9_asItIs 31 = some (.iload_n 1, 1, 1, 0, 0, 0, 0, 0, 0, 0, []) := rfl
theorem i_X9_asItIs_32 : tab t_X9_asItIs 32 = some (.if_icmp .gt 7, 3, 39, 0, 0, 0, 0, 0, 0, 0, []) := rfl
theorem i_X9_asItIs_35 : tab t_X9_asItIs 35 = some (.iconst 1, 1, 0, 1, 0, 0, 0, 0, 0, 0, []) := rfl
theorem i_X9_asItIs_36 : tab t_X9_asItIs 36 = some (.goto 4, 3, 40, 0, 0, 0, 0, 0, 0, 0, []) := rfl
theorem i_X9_asItIs_39 : tab t_X9_asItIs 39 = some (.iconst 0, 1, 0, 0, 0, 0, 0, 0, 0, 0, []) := rfl
theorem i_X9_asItIs_40 : tab t_X9_asItIs 40 = some (.bastore, 1, 0, 0, 0, 2, 0, 0, 0, 0, []) := rfl
theorem i_X9_asItIs_41 : tab t_X9_asItIs 41 = some (.iinc 2 1, 3, 2, 1, 0, 0, 0, 0, 0, 0, []) := rfl
theorem i_X9_asItIs_44 : tab t_X9_asItIs 44 = some (.goto (-42), 3, 2, 0, 0, 0, 0, 0, 0, 0, []) := rfl
theorem i_X9_asItIs_47 : tab t_X9_asItIs 47 = some (.iconst 0, 1, 0, 0, 0, 0, 0, 0, 0, 0, []) := rfl
theorem i_X9_asItIs_48 : tab t_X9_asItIs 48 = some (.istore_n 2, 1, 2, 0, 0, 0, 0, 0, 0, 0, []) := rfl
theorem i_X9_asItIs_49 : tab t_X9_asItIs 49 = some (.iload_n 2, 1, 2, 0, 0, 0, 0, 0, 0, 0, []) := rfl
theorem i_X9_asItIs_50 : tab t_X9_asItIs 50 = some (.aload_n 0, 1, 0, 0, 0, 0, 0, 0, 0, 0, []) := rfl
theorem i_X9_asItIs_51 : tab t_X9_asItIs 51 = some (.getfield 223, 3, 0, 0, 0, 9, 4, 0, 0, 0, []) := rfl
theorem i_X9_asItIs_54 : tab t_X9_asItIs 54 = some (.if_icmp .ge 16, 3, 70, 0, 0, 0, 0, 0, 0, 0, []) := rfl
theorem i_X9_asItIs_57 : tab t_X9_asItIs 57 = some (.aload_n 0, 1, 0, 0, 0, 0, 0, 0, 0, 0, []) := rfl
theorem i_X9_asItIs_58 : tab t_X9_asItIs 58 = some (.getfield 116, 3, 2, 0, 0, 9, 49, 0, 0, 0, []) := rfl
theorem i_X9_asItIs_61 : tab t_X9_asItIs 61 = some (.iload_n 2, 1, 2, 0, 0, 0, 0, 0, 0, 0, []) := rfl
theorem i_X9_asItIs_62 : tab t_X9_asItIs 62 = some (.iconst 1, 1, 0, 1, 0, 0, 0, 0, 0, 0, []) := rfl
theorem i_X9_asItIs_63 : tab t_X9_asItIs 63 = some (.bastore, 1, 0, 0, 0, 2, 0, 0, 0, 0, []) := rfl
theorem i_X9_asItIs_64 : tab t_X9_asItIs 64 = some (.iinc 2 1, 3, 2, 1, 0, 0, 0, 0, 0, 0, []) := rfl
theorem i_X9_asItIs_67 : tab t_X9_asItIs 67 = some (.goto (-18), 3, 49, 0, 0, 0, 0, 0, 0, 0, []) := rfl
theorem i_X9_asItIs_70 : tab t_X9_asItIs 70 = some (.return_, 1, 0, 0, 0, 0, 0, 0, 0, 0, []) := rfl
def t_X9_hasPaper : List (Nat × rw_) := [(0, (.iconst 0, 1, 0, 0, 0, 0, 0, 0, 0, 0, [])), (1, (.istore 4, 2, 4, 0, 0, 0, 0, 0, 0, 0, [])), (3, (.iconst 0, 1, 0, 0, 0, 0, 0, 0, 0, 0, [])), (4, (.istore 5, 2, 5, 0, 0, 0, 0, 0, 0, 0, [])), (6, (.iload 5, 2, 5, 0, 0, 0, 0, 0, 0, 0, [])), (8, (.aload_n 0, 1, 0, 0, 0, 0, 0, 0, 0, 0, [])), (9, (.getfield 223, 3, 0, 0, 0, 9, 4, 0, 0, 0, [])), (12, (.if_icmp .ge 75, 3, 87, 0, 0, 0, 0, 0, 0, 0, [])), (15, (.iload 4, 2, 4, 0, 0, 0, 0, 0, 0, 0, [])), (17, (.ifCond .ne 57, 3, 74, 0, 0, 0, 0, 0, 0, 0, [])), (20, (.aload_n 0, 1, 0, 0, 0, 0, 0, 0, 0, 0, [])), (21, (.getfield 116, 3, 2, 0, 0, 9, 49, 0, 0, 0, [])), (24, (.iload 5, 2, 5, 0, 0, 0, 0, 0, 0, 0, [])), (26, (.baload, 1, 0, 0, 0, 0, 0, 0, 0, 0, [])), (27, (.ifCond .eq 51, 3, 78, 0, 0, 0, 0, 0, 0, 0, [])), (30, (.aload_n 0, 1, 0, 0, 0, 0, 0, 0, 0, 0, [])), (31, (.getfield 65, 3, 2, 0, 0, 9, 25, 0, 0, 0, [])), (34, (.iload 5, 2, 5, 0, 0, 0, 0, 0, 0, 0, [])), (36, (.iaload, 1, 0, 0, 0, 0, 0, 0, 0, 0, [])), (37, (.iload_n 1, 1, 1, 0, 0, 0, 0, 0, 0, 0, [])), (38, (.if_icmp .ne 40, 3, 78, 0, 0, 0, 0, 0, 0, 0, [])), (41, (.aload_n 0, 1, 0, 0, 0, 0, 0, 0, 0, 0, [])), (42, (.getfield 68, 3, 2, 0, 0, 9, 26, 0, 0, 0, [])), (45, (.iload 5, 2, 5, 0, 0, 0, 0, 0, 0, 0, [])), (47, (.iaload, 1, 0, 0, 0, 0, 0, 0, 0, 0, [])), (48, (.iload_n 2, 1, 2, 0, 0, 0, 0, 0, 0, 0, [])), (49, (.if_icmp .ne 29, 3, 78, 0, 0, 0, 0, 0, 0, 0, [])), (52, (.iload_n 3, 1, 3, 0, 0, 0, 0, 0, 0, 0, [])), (53, (.aload_n 0, 1, 0, 0, 0, 0, 0, 0, 0, 0, [])), (54, (.getfield 71, 3, 2, 0, 0, 9, 27, 0, 0, 0, [])), (57, (.iload 5, 2, 5, 0, 0, 0, 0, 0, 0, 0, [])), (59, (.iaload, 1, 0, 0, 0, 0, 0, 0, 0, 0, [])), (60, (.if_icmp .lt 18, 3, 78, 0, 0, 0, 0, 0, 0, 0, [])), (63, (.iload_n 3, 1, 3, 0, 0, 0, 0, 0, 0, 0, [])), (64, (.aload_n 0, 1, 0, 0, 0, 0, 0, 0, 0, 0, [])), (65, (.getfield 74, 3, 2, 0, 0, 9, 28, 0, 0, 0, [])), (68, (.iload 5, 2, 5, 0, 0, 0, 0, 0, 0, 0, [])), (70, (.iaload, 1, 0, 0, 0, 0, 0, 0, 0, 0, [])), (71, (.if_icmp .ge 7, 3, 78, 0, 0, 0, 0, 0, 0, 0, [])), (74, (.iconst 1, 1, 0, 1, 0, 0, 0, 0, 0, 0, [])), (75, (.goto 4, 3, 79, 0, 0, 0, 0, 0, 0, 0, [])), (78, (.iconst 0, 1, 0, 0, 0, 0, 0, 0, 0, 0, [])), (79, (.istore 4, 2, 4, 0, 0, 0, 0, 0, 0, 0, [])), (81, (.iinc 5 1, 3, 5, 1, 0, 0, 0, 0, 0, 0, [])), (84, (.goto (-78), 3, 6, 0, 0, 0, 0, 0, 0, 0, [])), (87, (.iload 4, 2, 4, 0, 0, 0, 0, 0, 0, 0, [])), (89, (.ireturn, 1, 0, 0, 0, 1, 0, 0, 0, 0, []))]
set_option maxRecDepth 100000 in
theorem ok_X9_hasPaper : tb_ok ctX9 m_X9_hasPaper t_X9_hasPaper = true := by decide +kernel
theorem i_X9_hasPaper_0 : tab t_X9_hasPaper 0 = some (.iconst 0, 1, 0, 0, 0, 0, 0, 0, 0, 0, []) := rfl
theorem i_X9_hasPaper_1 : tab t_X9_hasPaper 1 = some (.istore 4, 2, 4, 0, 0, 0, 0, 0, 0, 0, []) := rfl
theorem i_X9_hasPaper_3 : tab t_X9_hasPaper 3 = some (.iconst 0, 1, 0, 0, 0, 0, 0, 0, 0, 0, []) := rfl
theorem i_X9_hasPaper_4 : tab t_X9_hasPaper 4 = some (.istore 5, 2, 5, 0, 0, 0, 0, 0, 0, 0, []) := rfl
theorem i_X9_hasPaper_6 : tab t_X9_hasPaper 6 = some (.iload 5, 2, 5, 0, 0, 0, 0, 0, 0, 0, []) := rfl
theorem i_X9_hasPaper_8 : tab t_X9_hasPaper 8 = some (.aload_n 0, 1, 0, 0, 0, 0, 0, 0, 0, 0, []) := rfl
theorem i_X9_hasPaper_9 : tab t_X9_hasPaper 9 = some (.getfield 223, 3, 0, 0, 0, 9, 4, 0, 0, 0, []) := rfl
theorem i_X9_hasPaper_12 : tab t_X9_hasPaper 12 = some (.if_icmp .ge 75, 3, 87, 0, 0, 0, 0, 0, 0, 0, []) := rfl
theorem i_X9_hasPaper_15 : tab t_X9_hasPaper 15 = some (.iload 4, 2, 4, 0, 0, 0, 0, 0, 0, 0, []) := rfl
theorem i_X9_hasPaper_17 : tab t_X9_hasPaper 17 = some (.ifCond .ne 57, 3, 74, 0, 0, 0, 0, 0, 0, 0, []) := rfl
theorem i_X9_hasPaper_20 : tab t_X9_hasPaper 20 = some (.aload_n 0, 1, 0, 0, 0, 0, 0, 0, 0, 0, []) := rfl
theorem i_X9_hasPaper_21 : tab t_X9_hasPaper 21 = some (.getfield 116, 3, 2, 0, 0, 9, 49, 0, 0, 0, []) := rfl
theorem i_X9_hasPaper_24 : tab t_X9_hasPaper 24 = some (.iload 5, 2, 5, 0, 0, 0, 0, 0, 0, 0, []) := rfl
theorem i_X9_hasPaper_26 : tab t_X9_hasPaper 26 = some (.baload, 1, 0, 0, 0, 0, 0, 0, 0, 0, []) := rfl
theorem i_X9_hasPaper_27 : tab t_X9_hasPaper 27 = some (.ifCond .eq 51, 3, 78, 0, 0, 0, 0, 0, 0, 0, []) := rfl
theorem i_X9_hasPaper_30 : tab t_X9_hasPaper 30 = some (.aload_n 0, 1, 0, 0, 0, 0, 0, 0, 0, 0, []) := rfl
theorem i_X9_hasPaper_31 : tab t_X9_hasPaper 31 = some (.getfield 65, 3, 2, 0, 0, 9, 25, 0, 0, 0, []) := rfl
theorem i_X9_hasPaper_34 : tab t_X9_hasPaper 34 = some (.iload 5, 2, 5, 0, 0, 0, 0, 0, 0, 0, []) := rfl
theorem i_X9_hasPaper_36 : tab t_X9_hasPaper 36 = some (.iaload, 1, 0, 0, 0, 0, 0, 0, 0, 0, []) := rfl
theorem i_X9_hasPaper_37 : tab t_X9_hasPaper 37 = some (.iload_n 1, 1, 1, 0, 0, 0, 0, 0, 0, 0, []) := rfl
theorem i_X9_hasPaper_38 : tab t_X9_hasPaper 38 = some (.if_icmp .ne 40, 3, 78, 0, 0, 0, 0, 0, 0, 0, []) := rfl
theorem i_X9_hasPaper_41 : tab t_X9_hasPaper 41 = some (.aload_n 0, 1, 0, 0, 0, 0, 0, 0, 0, 0, []) := rfl
theorem i_X9_hasPaper_42 : tab t_X9_hasPaper 42 = some (.getfield 68, 3, 2, 0, 0, 9, 26, 0, 0, 0, []) := rfl
theorem i_X9_hasPaper_45 : tab t_X9_hasPaper 45 = some (.iload 5, 2, 5, 0, 0, 0, 0, 0, 0, 0, []) := rfl
theorem i_X9_hasPaper_47 : tab t_X9_hasPaper 47 = some (.iaload, 1, 0, 0, 0, 0, 0, 0, 0, 0, []) := rfl
theorem i_X9_hasPaper_48 : tab t_X9_hasPaper 48 = some (.iload_n 2, 1, 2, 0, 0, 0, 0, 0, 0, 0, []) := rfl
theorem i_X9_hasPaper_49 : tab t_X9_hasPaper 49 = some (.if_icmp .ne 29, 3, 78, 0, 0, 0, 0, 0, 0, 0, []) := rfl
theorem i_X9_hasPaper_52 : tab t_X9_hasPaper 52 = some (.iload_n 3, 1, 3, 0, 0, 0, 0, 0, 0, 0, []) := rfl
theorem i_X9_hasPaper_53 : tab t_X9_hasPaper 53 = some (.aload_n 0, 1, 0, 0, 0, 0, 0, 0, 0, 0, []) := rfl
theorem i_X9_hasPaper_54 : tab t_X9_hasPaper 54 = some (.getfield 71, 3, 2, 0, 0, 9, 27, 0, 0, 0, []) := rfl
theorem i_X9_hasPaper_57 : tab t_X9_hasPaper 57 = some (.iload 5, 2, 5, 0, 0, 0, 0, 0, 0, 0, []) := rfl
theorem i_X9_hasPaper_59 : tab t_X9_hasPaper 59 = some (.iaload, 1, 0, 0, 0, 0, 0, 0, 0, 0, []) := rfl
theorem i_X9_hasPaper_60 : tab t_X9_hasPaper 60 = some (.if_icmp .lt 18, 3, 78, 0, 0, 0, 0, 0, 0, 0, []) := rfl
theorem i_X9_hasPaper_63 : tab t_X9_hasPaper 63 = some (.iload_n 3, 1, 3, 0, 0, 0, 0, 0, 0, 0, []) := rfl
theorem i_X9_hasPaper_64 : tab t_X9_hasPaper 64 = some (.aload_n 0, 1, 0, 0, 0, 0, 0, 0, 0, 0, []) := rfl
theorem i_X9_hasPaper_65 : tab t_X9_hasPaper 65 = some (.getfield 74, 3, 2, 0, 0, 9, 28, 0, 0, 0, []) := rfl
theorem i_X9_hasPaper_68 : tab t_X9_hasPaper 68 = some (.iload 5, 2, 5, 0, 0, 0, 0, 0, 0, 0, []) := rfl
theorem i_X9_hasPaper_70 : tab t_X9_hasPaper 70 = some (.iaload, 1, 0, 0, 0, 0, 0, 0, 0, 0, []) := rfl
theorem i_X9_hasPaper_71 : tab t_X9_hasPaper 71 = some (.if_icmp .ge 7, 3, 78, 0, 0, 0, 0, 0, 0, 0, []) := rfl
theorem i_X9_hasPaper_74 : tab t_X9_hasPaper 74 = some (.iconst 1, 1, 0, 1, 0, 0, 0, 0, 0, 0, []) := rfl
theorem i_X9_hasPaper_75 : tab t_X9_hasPaper 75 = some (.goto 4, 3, 79, 0, 0, 0, 0, 0, 0, 0, []) := rfl
theorem i_X9_hasPaper_78 : tab t_X9_hasPaper 78 = some (.iconst 0, 1, 0, 0, 0, 0, 0, 0, 0, 0, []) := rfl
theorem i_X9_hasPaper_79 : tab t_X9_hasPaper 79 = some (.istore 4, 2, 4, 0, 0, 0, 0, 0, 0, 0, []) := rfl
theorem i_X9_hasPaper_81 : tab t_X9_hasPaper 81 = some (.iinc 5 1, 3, 5, 1, 0, 0, 0, 0, 0, 0, []) := rfl
theorem i_X9_hasPaper_84 : tab t_X9_hasPaper 84 = some (.goto (-78), 3, 6, 0, 0, 0, 0, 0, 0, 0, []) := rfl
theorem i_X9_hasPaper_87 : tab t_X9_hasPaper 87 = some (.iload 4, 2, 4, 0, 0, 0, 0, 0, 0, 0, []) := rfl
theorem i_X9_hasPaper_89 : tab t_X9_hasPaper 89 = some (.ireturn, 1, 0, 0, 0, 1, 0, 0, 0, 0, []) := rfl
def t_X9_below : List (Nat × rw_) := [(0, (.iconst 0, 1, 0, 0, 0, 0, 0, 0, 0, 0, [])), (1, (.istore_n 3, 1, 3, 0, 0, 0, 0, 0, 0, 0, [])), (2, (.iload_n 1, 1, 1, 0, 0, 0, 0, 0, 0, 0, [])), (3, (.istore 4, 2, 4, 0, 0, 0, 0, 0, 0, 0, [])), (5, (.iload 4, 2, 4, 0, 0, 0, 0, 0, 0, 0, [])), (7, (.iconst (-1), 1, 0, -1, 0, 0, 0, 0, 0, 0, [])), (8, (.if_icmp .eq 24, 3, 32, 0, 0, 0, 0, 0, 0, 0, [])), (11, (.iload 4, 2, 4, 0, 0, 0, 0, 0, 0, 0, [])), (13, (.iload_n 2, 1, 2, 0, 0, 0, 0, 0, 0, 0, [])), (14, (.if_icmp .eq 18, 3, 32, 0, 0, 0, 0, 0, 0, 0, [])), (17, (.aload_n 0, 1, 0, 0, 0, 0, 0, 0, 0, 0, [])), (18, (.getfield 13, 3, 2, 0, 0, 9, 8, 0, 0, 0, [])), (21, (.iload 4, 2, 4, 0, 0, 0, 0, 0, 0, 0, [])), (23, (.iaload, 1, 0, 0, 0, 0, 0, 0, 0, 0, [])), (24, (.istore 4, 2, 4, 0, 0, 0, 0, 0, 0, 0, [])), (26, (.iinc 3 1, 3, 3, 1, 0, 0, 0, 0, 0, 0, [])), (29, (.goto (-24), 3, 5, 0, 0, 0, 0, 0, 0, 0, [])), (32, (.iload 4, 2, 4, 0, 0, 0, 0, 0, 0, 0, [])), (34, (.iconst (-1), 1, 0, -1, 0, 0, 0, 0, 0, 0, [])), (35, (.if_icmp .ne 7, 3, 42, 0, 0, 0, 0, 0, 0, 0, [])), (38, (.iconst (-1), 1, 0, -1, 0, 0, 0, 0, 0, 0, [])), (39, (.goto 4, 3, 43, 0, 0, 0, 0, 0, 0, 0, [])), (42, (.iload_n 3, 1, 3, 0, 0, 0, 0, 0, 0, 0, [])), (43, (.ireturn, 1, 0, 0, 0, 0, 0, 0, 0, 0, []))]
set_option maxRecDepth 100000 in
theorem ok_X9_below : tb_ok ctX9 m_X9_below t_X9_below = true := by decide +kernel
theorem i_X9_below_0 : tab t_X9_below 0 = some (.iconst 0, 1, 0, 0, 0, 0, 0, 0, 0, 0, []) := rfl
theorem i_X9_below_1 : tab t_X9_below 1 = some (.istore_n 3, 1, 3, 0, 0, 0, 0, 0, 0, 0, []) := rfl
theorem i_X9_below_2 : tab t_X9_below 2 = some (.iload_n 1, 1, 1, 0, 0, 0, 0, 0, 0, 0, []) := rfl
theorem i_X9_below_3 : tab t_X9_below 3 = some (.istore 4, 2, 4, 0, 0, 0, 0, 0, 0, 0, []) := rfl
theorem i_X9_below_5 : tab t_X9_below 5 = some (.iload 4, 2, 4, 0, 0, 0, 0, 0, 0, 0, []) := rfl
theorem i_X9_below_7 : tab t_X9_below 7 = some (.iconst (-1), 1, 0, -1, 0, 0, 0, 0, 0, 0, []) := rfl
theorem i_X9_below_8 : tab t_X9_below 8 = some (.if_icmp .eq 24, 3, 32, 0, 0, 0, 0, 0, 0, 0, []) := rfl
theorem i_X9_below_11 : tab t_X9_below 11 = some (.iload 4, 2, 4, 0, 0, 0, 0, 0, 0, 0, []) := rfl
theorem i_X9_below_13 : tab t_X9_below 13 = some (.iload_n 2, 1, 2, 0, 0, 0, 0, 0, 0, 0, []) := rfl
theorem i_X9_below_14 : tab t_X9_below 14 = some (.if_icmp .eq 18, 3, 32, 0, 0, 0, 0, 0, 0, 0, []) := rfl
theorem i_X9_below_17 : tab t_X9_below 17 = some (.aload_n 0, 1, 0, 0, 0, 0, 0, 0, 0, 0, []) := rfl
theorem i_X9_below_18 : tab t_X9_below 18 = some (.getfield 13, 3, 2, 0, 0, 9, 8, 0, 0, 0, []) := rfl
theorem i_X9_below_21 : tab t_X9_below 21 = some (.iload 4, 2, 4, 0, 0, 0, 0, 0, 0, 0, []) := rfl
theorem i_X9_below_23 : tab t_X9_below 23 = some (.iaload, 1, 0, 0, 0, 0, 0, 0, 0, 0, []) := rfl
theorem i_X9_below_24 : tab t_X9_below 24 = some (.istore 4, 2, 4, 0, 0, 0, 0, 0, 0, 0, []) := rfl
theorem i_X9_below_26 : tab t_X9_below 26 = some (.iinc 3 1, 3, 3, 1, 0, 0, 0, 0, 0, 0, []) := rfl
theorem i_X9_below_29 : tab t_X9_below 29 = some (.goto (-24), 3, 5, 0, 0, 0, 0, 0, 0, 0, []) := rfl
theorem i_X9_below_32 : tab t_X9_below 32 = some (.iload 4, 2, 4, 0, 0, 0, 0, 0, 0, 0, []) := rfl
theorem i_X9_below_34 : tab t_X9_below 34 = some (.iconst (-1), 1, 0, -1, 0, 0, 0, 0, 0, 0, []) := rfl
theorem i_X9_below_35 : tab t_X9_below 35 = some (.if_icmp .ne 7, 3, 42, 0, 0, 0, 0, 0, 0, 0, []) := rfl
theorem i_X9_below_38 : tab t_X9_below 38 = some (.iconst (-1), 1, 0, -1, 0, 0, 0, 0, 0, 0, []) := rfl
theorem i_X9_below_39 : tab t_X9_below 39 = some (.goto 4, 3, 43, 0, 0, 0, 0, 0, 0, 0, []) := rfl
theorem i_X9_below_42 : tab t_X9_below 42 = some (.iload_n 3, 1, 3, 0, 0, 0, 0, 0, 0, 0, []) := rfl
theorem i_X9_below_43 : tab t_X9_below 43 = some (.ireturn, 1, 0, 0, 0, 0, 0, 0, 0, 0, []) := rfl
def t_X9_looks : List (Nat × rw_) := [(0, (.aload_n 0, 1, 0, 0, 0, 0, 0, 0, 0, 0, [])), (1, (.aload_n 0, 1, 0, 0, 0, 0, 0, 0, 0, 0, [])), (2, (.getfield 44, 3, 2, 0, 0, 9, 18, 0, 0, 0, [])), (5, (.iload_n 1, 1, 1, 0, 0, 0, 0, 0, 0, 0, [])), (6, (.iaload, 1, 0, 0, 0, 0, 0, 0, 0, 0, [])), (7, (.iload_n 2, 1, 2, 0, 0, 0, 0, 0, 0, 0, [])), (8, (.invokevirtual 386, 3, 2, 0, 0, 0, 174, 10, 0, 0, [])), (11, (.istore 4, 2, 4, 0, 0, 0, 0, 0, 0, 0, [])), (13, (.aload_n 0, 1, 0, 0, 0, 0, 0, 0, 0, 0, [])), (14, (.getfield 105, 3, 2, 0, 0, 9, 46, 0, 0, 0, [])), (17, (.iconst 0, 1, 0, 0, 0, 0, 0, 0, 0, 0, [])), (18, (.iload_n 3, 1, 3, 0, 0, 0, 0, 0, 0, 0, [])), (19, (.i2l, 1, 0, 0, 0, 0, 0, 0, 0, 0, [])), (20, (.lastore, 1, 0, 0, 0, 0, 0, 0, 0, 0, [])), (21, (.aload_n 0, 1, 0, 0, 0, 0, 0, 0, 0, 0, [])), (22, (.getfield 105, 3, 2, 0, 0, 9, 46, 0, 0, 0, [])), (25, (.iconst 1, 1, 0, 1, 0, 0, 0, 0, 0, 0, [])), (26, (.aload_n 0, 1, 0, 0, 0, 0, 0, 0, 0, 0, [])), (27, (.getfield 35, 3, 2, 0, 0, 9, 15, 0, 0, 0, [])), (30, (.iload_n 1, 1, 1, 0, 0, 0, 0, 0, 0, 0, [])), (31, (.iaload, 1, 0, 0, 0, 0, 0, 0, 0, 0, [])), (32, (.i2l, 1, 0, 0, 0, 0, 0, 0, 0, 0, [])), (33, (.lastore, 1, 0, 0, 0, 0, 0, 0, 0, 0, [])), (34, (.aload_n 0, 1, 0, 0, 0, 0, 0, 0, 0, 0, [])), (35, (.getfield 105, 3, 2, 0, 0, 9, 46, 0, 0, 0, [])), (38, (.iconst 2, 1, 0, 2, 0, 0, 0, 0, 0, 0, [])), (39, (.aload_n 0, 1, 0, 0, 0, 0, 0, 0, 0, 0, [])), (40, (.getfield 38, 3, 2, 0, 0, 9, 16, 0, 0, 0, [])), (43, (.iload_n 1, 1, 1, 0, 0, 0, 0, 0, 0, 0, [])), (44, (.iaload, 1, 0, 0, 0, 0, 0, 0, 0, 0, [])), (45, (.i2l, 1, 0, 0, 0, 0, 0, 0, 0, 0, [])), (46, (.lastore, 1, 0, 0, 0, 0, 0, 0, 0, 0, [])), (47, (.aload_n 0, 1, 0, 0, 0, 0, 0, 0, 0, 0, [])), (48, (.getfield 105, 3, 2, 0, 0, 9, 46, 0, 0, 0, [])), (51, (.iconst 3, 1, 0, 3, 0, 0, 0, 0, 0, 0, [])), (52, (.aload_n 0, 1, 0, 0, 0, 0, 0, 0, 0, 0, [])), (53, (.getfield 41, 3, 2, 0, 0, 9, 17, 0, 0, 0, [])), (56, (.iload_n 1, 1, 1, 0, 0, 0, 0, 0, 0, 0, [])), (57, (.iaload, 1, 0, 0, 0, 0, 0, 0, 0, 0, [])), (58, (.i2l, 1, 0, 0, 0, 0, 0, 0, 0, 0, [])), (59, (.lastore, 1, 0, 0, 0, 0, 0, 0, 0, 0, [])), (60, (.aload_n 0, 1, 0, 0, 0, 0, 0, 0, 0, 0, [])), (61, (.getfield 105, 3, 2, 0, 0, 9, 46, 0, 0, 0, [])), (64, (.iconst 4, 1, 0, 4, 0, 0, 0, 0, 0, 0, [])), (65, (.aload_n 0, 1, 0, 0, 0, 0, 0, 0, 0, 0, [])), (66, (.getfield 47, 3, 2, 0, 0, 9, 19, 0, 0, 0, [])), (69, (.iload_n 1, 1, 1, 0, 0, 0, 0, 0, 0, 0, [])), (70, (.iaload, 1, 0, 0, 0, 0, 0, 0, 0, 0, [])), (71, (.i2l, 1, 0, 0, 0, 0, 0, 0, 0, 0, [])), (72, (.lastore, 1, 0, 0, 0, 0, 0, 0, 0, 0, [])), (73, (.aload_n 0, 1, 0, 0, 0, 0, 0, 0, 0, 0, [])), (74, (.getfield 105, 3, 2, 0, 0, 9, 46, 0, 0, 0, [])), (77, (.iconst 5, 1, 0, 5, 0, 0, 0, 0, 0, 0, [])), (78, (.aload_n 0, 1, 0, 0, 0, 0, 0, 0, 0, 0, [])), (79, (.iload_n 1, 1, 1, 0, 0, 0, 0, 0, 0, 0, [])), (80, (.iload_n 2, 1, 2, 0, 0, 0, 0, 0, 0, 0, [])), (81, (.iload_n 3, 1, 3, 0, 0, 0, 0, 0, 0, 0, [])), (82, (.invokevirtual 219, 3, 3, 0, 0, 0, 137, 10, 0, 0, [])), (85, (.i2l, 1, 0, 0, 0, 0, 0, 0, 0, 0, [])), (86, (.lastore, 1, 0, 0, 0, 0, 0, 0, 0, 0, [])), (87, (.aload_n 0, 1, 0, 0, 0, 0, 0, 0, 0, 0, [])), (88, (.getfield 105, 3, 2, 0, 0, 9, 46, 0, 0, 0, [])), (91, (.bipush 6, 2, 0, 6, 0, 0, 0, 0, 0, 0, [])), (93, (.aload_n 0, 1, 0, 0, 0, 0, 0, 0, 0, 0, [])), (94, (.iload_n 1, 1, 1, 0, 0, 0, 0, 0, 0, 0, [])), (95, (.iload_n 2, 1, 2, 0, 0, 0, 0, 0, 0, 0, [])), (96, (.iload_n 3, 1, 3, 0, 0, 0, 0, 0, 0, 0, [])), (97, (.invokevirtual 389, 3, 3, 0, 0, 0, 173, 10, 0, 0, [])), (100, (.ifCond .eq 7, 3, 107, 0, 0, 0, 0, 0, 0, 0, [])), (103, (.lconst 1, 1, 0, 0, 1, 0, 0, 0, 0, 0, [])), (104, (.goto 4, 3, 108, 0, 0, 0, 0, 0, 0, 0, [])), (107, (.lconst 0, 1, 0, 0, 0, 0, 0, 0, 0, 0, [])), (108, (.lastore, 1, 0, 0, 0, 0, 0, 0, 0, 0, [])), (109, (.aload_n 0, 1, 0, 0, 0, 0, 0, 0, 0, 0, [])), (110, (.getfield 105, 3, 2, 0, 0, 9, 46, 0, 0, 0, [])), (113, (.bipush 7, 2, 0, 7, 0, 0, 0, 0, 0, 0, [])), (115, (.aload_n 0, 1, 0, 0, 0, 0, 0, 0, 0, 0, [])), (116, (.iload_n 2, 1, 2, 0, 0, 0, 0, 0, 0, 0, [])), (117, (.iload_n 1, 1, 1, 0, 0, 0, 0, 0, 0, 0, [])), (118, (.invokevirtual 226, 3, 2, 0, 0, 0, 140, 10, 0, 0, [])), (121, (.i2l, 1, 0, 0, 0, 0, 0, 0, 0, 0, [])), (122, (.lastore, 1, 0, 0, 0, 0, 0, 0, 0, 0, [])), (123, (.aload_n 0, 1, 0, 0, 0, 0, 0, 0, 0, 0, [])), (124, (.getfield 105, 3, 2, 0, 0, 9, 46, 0, 0, 0, [])), (127, (.bipush 8, 2, 0, 8, 0, 0, 0, 0, 0, 0, [])), (129, (.aload_n 0, 1, 0, 0, 0, 0, 0, 0, 0, 0, [])), (130, (.getfield 41, 3, 2, 0, 0, 9, 17, 0, 0, 0, [])), (133, (.iload_n 1, 1, 1, 0, 0, 0, 0, 0, 0, 0, [])), (134, (.iaload, 1, 0, 0, 0, 0, 0, 0, 0, 0, [])), (135, (.aload_n 0, 1, 0, 0, 0, 0, 0, 0, 0, 0, [])), (136, (.getfield 17, 3, 2, 0, 0, 9, 9, 0, 0, 0, [])), (139, (.iload_n 2, 1, 2, 0, 0, 0, 0, 0, 0, 0, [])), (140, (.iaload, 1, 0, 0, 0, 0, 0, 0, 0, 0, [])), (141, (.if_icmp .ne 7, 3, 148, 0, 0, 0, 0, 0, 0, 0, [])), (144, (.lconst 1, 1, 0, 0, 1, 0, 0, 0, 0, 0, [])), (145, (.goto 4, 3, 149, 0, 0, 0, 0, 0, 0, 0, [])), (148, (.lconst 0, 1, 0, 0, 0, 0, 0, 0, 0, 0, [])), (149, (.lastore, 1, 0, 0, 0, 0, 0, 0, 0, 0, [])), (150, (.aload_n 0, 1, 0, 0, 0, 0, 0, 0, 0, 0, [])), (151, (.getfield 105, 3, 2, 0, 0, 9, 46, 0, 0, 0, [])), (154, (.bipush 9, 2, 0, 9, 0, 0, 0, 0, 0, 0, [])), (156, (.iload 4, 2, 4, 0, 0, 0, 0, 0, 0, 0, [])), (158, (.iconst (-1), 1, 0, -1, 0, 0, 0, 0, 0, 0, [])), (159, (.if_icmp .ne 7, 3, 166, 0, 0, 0, 0, 0, 0, 0, [])), (162, (.lconst 0, 1, 0, 0, 0, 0, 0, 0, 0, 0, [])), (163, (.goto 6, 3, 169, 0, 0, 0, 0, 0, 0, 0, [])), (166, (.iload 4, 2, 4, 0, 0, 0, 0, 0, 0, 0, [])), (168, (.i2l, 1, 0, 0, 0, 0, 0, 0, 0, 0, [])), (169, (.lastore, 1, 0, 0, 0, 0, 0, 0, 0, 0, [])), (170, (.aload_n 0, 1, 0, 0, 0, 0, 0, 0, 0, 0, [])), (171, (.getfield 105, 3, 2, 0, 0, 9, 46, 0, 0, 0, [])), (174, (.bipush 10, 2, 0, 10, 0, 0, 0, 0, 0, 0, [])), (176, (.lconst 0, 1, 0, 0, 0, 0, 0, 0, 0, 0, [])), (177, (.lastore, 1, 0, 0, 0, 0, 0, 0, 0, 0, [])), (178, (.aload_n 0, 1, 0, 0, 0, 0, 0, 0, 0, 0, [])), (179, (.getfield 105, 3, 2, 0, 0, 9, 46, 0, 0, 0, [])), (182, (.bipush 11, 2, 0, 11, 0, 0, 0, 0, 0, 0, [])), (184, (.lconst 0, 1, 0, 0, 0, 0, 0, 0, 0, 0, [])), (185, (.lastore, 1, 0, 0, 0, 0, 0, 0, 0, 0, [])), (186, (.aload_n 0, 1, 0, 0, 0, 0, 0, 0, 0, 0, [])), (187, (.getfield 105, 3, 2, 0, 0, 9, 46, 0, 0, 0, [])), (190, (.bipush 12, 2, 0, 12, 0, 0, 0, 0, 0, 0, [])), (192, (.lconst 0, 1, 0, 0, 0, 0, 0, 0, 0, 0, [])), (193, (.lastore, 1, 0, 0, 0, 0, 0, 0, 0, 0, [])), (194, (.return_, 1, 0, 0, 0, 0, 0, 0, 0, 0, []))]
set_option maxRecDepth 100000 in
theorem ok_X9_looks : tb_ok ctX9 m_X9_looks t_X9_looks = true := by decide +kernel
theorem i_X9_looks_0 : tab t_X9_looks 0 = some (.aload_n 0, 1, 0, 0, 0, 0, 0, 0, 0, 0, []) := rfl
theorem i_X9_looks_1 : tab t_X9_looks 1 = some (.aload_n 0, 1, 0, 0, 0, 0, 0, 0, 0, 0, []) := rfl
theorem i_X9_looks_2 : tab t_X9_looks 2 = some (.getfield 44, 3, 2, 0, 0, 9, 18, 0, 0, 0, []) := rfl
theorem i_X9_looks_5 : tab t_X9_looks 5 = some (.iload_n 1, 1, 1, 0, 0, 0, 0, 0, 0, 0, []) := rfl
theorem i_X9_looks_6 : tab t_X9_looks 6 = some (.iaload, 1, 0, 0, 0, 0, 0, 0, 0, 0, []) := rfl
theorem i_X9_looks_7 : tab t_X9_looks 7 = some (.iload_n 2, 1, 2, 0, 0, 0, 0, 0, 0, 0, []) := rfl
theorem i_X9_looks_8 : tab t_X9_looks 8 = some (.invokevirtual 386, 3, 2, 0, 0, 0, 174, 10, 0, 0, []) := rfl
theorem i_X9_looks_11 : tab t_X9_looks 11 = some (.istore 4, 2, 4, 0, 0, 0, 0, 0, 0, 0, []) := rfl
theorem i_X9_looks_13 : tab t_X9_looks 13 = some (.aload_n 0, 1, 0, 0, 0, 0, 0, 0, 0, 0, []) := rfl
theorem i_X9_looks_14 : tab t_X9_looks 14 = some (.getfield 105, 3, 2, 0, 0, 9, 46, 0, 0, 0, []) := rfl
theorem i_X9_looks_17 : tab t_X9_looks 17 = some (.iconst 0, 1, 0, 0, 0, 0, 0, 0, 0, 0, []) := rfl
theorem i_X9_looks_18 : tab t_X9_looks 18 = some (.iload_n 3, 1, 3, 0, 0, 0, 0, 0, 0, 0, []) := rfl
theorem i_X9_looks_19 : tab t_X9_looks 19 = some (.i2l, 1, 0, 0, 0, 0, 0, 0, 0, 0, []) := rfl
theorem i_X9_looks_20 : tab t_X9_looks 20 = some (.lastore, 1, 0, 0, 0, 0, 0, 0, 0, 0, []) := rfl
theorem i_X9_looks_21 : tab t_X9_looks 21 = some (.aload_n 0, 1, 0, 0, 0, 0, 0, 0, 0, 0, []) := rfl
theorem i_X9_looks_22 : tab t_X9_looks 22 = some (.getfield 105, 3, 2, 0, 0, 9, 46, 0, 0, 0, []) := rfl
theorem i_X9_looks_25 : tab t_X9_looks 25 = some (.iconst 1, 1, 0, 1, 0, 0, 0, 0, 0, 0, []) := rfl
theorem i_X9_looks_26 : tab t_X9_looks 26 = some (.aload_n 0, 1, 0, 0, 0, 0, 0, 0, 0, 0, []) := rfl
theorem i_X9_looks_27 : tab t_X9_looks 27 = some (.getfield 35, 3, 2, 0, 0, 9, 15, 0, 0, 0, []) := rfl
theorem i_X9_looks_30 : tab t_X9_looks 30 = some (.iload_n 1, 1, 1, 0, 0, 0, 0, 0, 0, 0, []) := rfl
theorem i_X9_looks_31 : tab t_X9_looks 31 = some (.iaload, 1, 0, 0, 0, 0, 0, 0, 0, 0, []) := rfl
theorem i_X9_looks_32 : tab t_X9_looks 32 = some (.i2l, 1, 0, 0, 0, 0, 0, 0, 0, 0, []) := rfl
theorem i_X9_looks_33 : tab t_X9_looks 33 = some (.lastore, 1, 0, 0, 0, 0, 0, 0, 0, 0, []) := rfl
theorem i_X9_looks_34 : tab t_X9_looks 34 = some (.aload_n 0, 1, 0, 0, 0, 0, 0, 0, 0, 0, []) := rfl
theorem i_X9_looks_35 : tab t_X9_looks 35 = some (.getfield 105, 3, 2, 0, 0, 9, 46, 0, 0, 0, []) := rfl
theorem i_X9_looks_38 : tab t_X9_looks 38 = some (.iconst 2, 1, 0, 2, 0, 0, 0, 0, 0, 0, []) := rfl
theorem i_X9_looks_39 : tab t_X9_looks 39 = some (.aload_n 0, 1, 0, 0, 0, 0, 0, 0, 0, 0, []) := rfl
theorem i_X9_looks_40 : tab t_X9_looks 40 = some (.getfield 38, 3, 2, 0, 0, 9, 16, 0, 0, 0, []) := rfl
theorem i_X9_looks_43 : tab t_X9_looks 43 = some (.iload_n 1, 1, 1, 0, 0, 0, 0, 0, 0, 0, []) := rfl
theorem i_X9_looks_44 : tab t_X9_looks 44 = some (.iaload, 1, 0, 0, 0, 0, 0, 0, 0, 0, []) := rfl
theorem i_X9_looks_45 : tab t_X9_looks 45 = some (.i2l, 1, 0, 0, 0, 0, 0, 0, 0, 0, []) := rfl
theorem i_X9_looks_46 : tab t_X9_looks 46 = some (.lastore, 1, 0, 0, 0, 0, 0, 0, 0, 0, []) := rfl
theorem i_X9_looks_47 : tab t_X9_looks 47 = some (.aload_n 0, 1, 0, 0, 0, 0, 0, 0, 0, 0, []) := rfl
theorem i_X9_looks_48 : tab t_X9_looks 48 = some (.getfield 105, 3, 2, 0, 0, 9, 46, 0, 0, 0, []) := rfl
theorem i_X9_looks_51 : tab t_X9_looks 51 = some (.iconst 3, 1, 0, 3, 0, 0, 0, 0, 0, 0, []) := rfl
theorem i_X9_looks_52 : tab t_X9_looks 52 = some (.aload_n 0, 1, 0, 0, 0, 0, 0, 0, 0, 0, []) := rfl
theorem i_X9_looks_53 : tab t_X9_looks 53 = some (.getfield 41, 3, 2, 0, 0, 9, 17, 0, 0, 0, []) := rfl
theorem i_X9_looks_56 : tab t_X9_looks 56 = some (.iload_n 1, 1, 1, 0, 0, 0, 0, 0, 0, 0, []) := rfl
theorem i_X9_looks_57 : tab t_X9_looks 57 = some (.iaload, 1, 0, 0, 0, 0, 0, 0, 0, 0, []) := rfl
theorem i_X9_looks_58 : tab t_X9_looks 58 = some (.i2l, 1, 0, 0, 0, 0, 0, 0, 0, 0, []) := rfl
theorem i_X9_looks_59 : tab t_X9_looks 59 = some (.lastore, 1, 0, 0, 0, 0, 0, 0, 0, 0, []) := rfl
theorem i_X9_looks_60 : tab t_X9_looks 60 = some (.aload_n 0, 1, 0, 0, 0, 0, 0, 0, 0, 0, []) := rfl
theorem i_X9_looks_61 : tab t_X9_looks 61 = some (.getfield 105, 3, 2, 0, 0, 9, 46, 0, 0, 0, []) := rfl
theorem i_X9_looks_64 : tab t_X9_looks 64 = some (.iconst 4, 1, 0, 4, 0, 0, 0, 0, 0, 0, []) := rfl
theorem i_X9_looks_65 : tab t_X9_looks 65 = some (.aload_n 0, 1, 0, 0, 0, 0, 0, 0, 0, 0, []) := rfl
theorem i_X9_looks_66 : tab t_X9_looks 66 = some (.getfield 47, 3, 2, 0, 0, 9, 19, 0, 0, 0, []) := rfl
theorem i_X9_looks_69 : tab t_X9_looks 69 = some (.iload_n 1, 1, 1, 0, 0, 0, 0, 0, 0, 0, []) := rfl
theorem i_X9_looks_70 : tab t_X9_looks 70 = some (.iaload, 1, 0, 0, 0, 0, 0, 0, 0, 0, []) := rfl
theorem i_X9_looks_71 : tab t_X9_looks 71 = some (.i2l, 1, 0, 0, 0, 0, 0, 0, 0, 0, []) := rfl
theorem i_X9_looks_72 : tab t_X9_looks 72 = some (.lastore, 1, 0, 0, 0, 0, 0, 0, 0, 0, []) := rfl
theorem i_X9_looks_73 : tab t_X9_looks 73 = some (.aload_n 0, 1, 0, 0, 0, 0, 0, 0, 0, 0, []) := rfl
theorem i_X9_looks_74 : tab t_X9_looks 74 = some (.getfield 105, 3, 2, 0, 0, 9, 46, 0, 0, 0, []) := rfl
theorem i_X9_looks_77 : tab t_X9_looks 77 = some (.iconst 5, 1, 0, 5, 0, 0, 0, 0, 0, 0, []) := rfl
theorem i_X9_looks_78 : tab t_X9_looks 78 = some (.aload_n 0, 1, 0, 0, 0, 0, 0, 0, 0, 0, []) := rfl
theorem i_X9_looks_79 : tab t_X9_looks 79 = some (.iload_n 1, 1, 1, 0, 0, 0, 0, 0, 0, 0, []) := rfl
theorem i_X9_looks_80 : tab t_X9_looks 80 = some (.iload_n 2, 1, 2, 0, 0, 0, 0, 0, 0, 0, []) := rfl
theorem i_X9_looks_81 : tab t_X9_looks 81 = some (.iload_n 3, 1, 3, 0, 0, 0, 0, 0, 0, 0, []) := rfl
theorem i_X9_looks_82 : tab t_X9_looks 82 = some (.invokevirtual 219, 3, 3, 0, 0, 0, 137, 10, 0, 0, []) := rfl
theorem i_X9_looks_85 : tab t_X9_looks 85 = some (.i2l, 1, 0, 0, 0, 0, 0, 0, 0, 0, []) := rfl
theorem i_X9_looks_86 : tab t_X9_looks 86 = some (.lastore, 1, 0, 0, 0, 0, 0, 0, 0, 0, []) := rfl
theorem i_X9_looks_87 : tab t_X9_looks 87 = some (.aload_n 0, 1, 0, 0, 0, 0, 0, 0, 0, 0, []) := rfl
theorem i_X9_looks_88 : tab t_X9_looks 88 = some (.getfield 105, 3, 2, 0, 0, 9, 46, 0, 0, 0, []) := rfl
theorem i_X9_looks_91 : tab t_X9_looks 91 = some (.bipush 6, 2, 0, 6, 0, 0, 0, 0, 0, 0, []) := rfl
theorem i_X9_looks_93 : tab t_X9_looks 93 = some (.aload_n 0, 1, 0, 0, 0, 0, 0, 0, 0, 0, []) := rfl
theorem i_X9_looks_94 : tab t_X9_looks 94 = some (.iload_n 1, 1, 1, 0, 0, 0, 0, 0, 0, 0, []) := rfl
theorem i_X9_looks_95 : tab t_X9_looks 95 = some (.iload_n 2, 1, 2, 0, 0, 0, 0, 0, 0, 0, []) := rfl
theorem i_X9_looks_96 : tab t_X9_looks 96 = some (.iload_n 3, 1, 3, 0, 0, 0, 0, 0, 0, 0, []) := rfl
theorem i_X9_looks_97 : tab t_X9_looks 97 = some (.invokevirtual 389, 3, 3, 0, 0, 0, 173, 10, 0, 0, []) := rfl
theorem i_X9_looks_100 : tab t_X9_looks 100 = some (.ifCond .eq 7, 3, 107, 0, 0, 0, 0, 0, 0, 0, []) := rfl
theorem i_X9_looks_103 : tab t_X9_looks 103 = some (.lconst 1, 1, 0, 0, 1, 0, 0, 0, 0, 0, []) := rfl
theorem i_X9_looks_104 : tab t_X9_looks 104 = some (.goto 4, 3, 108, 0, 0, 0, 0, 0, 0, 0, []) := rfl
theorem i_X9_looks_107 : tab t_X9_looks 107 = some (.lconst 0, 1, 0, 0, 0, 0, 0, 0, 0, 0, []) := rfl
theorem i_X9_looks_108 : tab t_X9_looks 108 = some (.lastore, 1, 0, 0, 0, 0, 0, 0, 0, 0, []) := rfl
theorem i_X9_looks_109 : tab t_X9_looks 109 = some (.aload_n 0, 1, 0, 0, 0, 0, 0, 0, 0, 0, []) := rfl
theorem i_X9_looks_110 : tab t_X9_looks 110 = some (.getfield 105, 3, 2, 0, 0, 9, 46, 0, 0, 0, []) := rfl
theorem i_X9_looks_113 : tab t_X9_looks 113 = some (.bipush 7, 2, 0, 7, 0, 0, 0, 0, 0, 0, []) := rfl
theorem i_X9_looks_115 : tab t_X9_looks 115 = some (.aload_n 0, 1, 0, 0, 0, 0, 0, 0, 0, 0, []) := rfl
theorem i_X9_looks_116 : tab t_X9_looks 116 = some (.iload_n 2, 1, 2, 0, 0, 0, 0, 0, 0, 0, []) := rfl
theorem i_X9_looks_117 : tab t_X9_looks 117 = some (.iload_n 1, 1, 1, 0, 0, 0, 0, 0, 0, 0, []) := rfl
theorem i_X9_looks_118 : tab t_X9_looks 118 = some (.invokevirtual 226, 3, 2, 0, 0, 0, 140, 10, 0, 0, []) := rfl
theorem i_X9_looks_121 : tab t_X9_looks 121 = some (.i2l, 1, 0, 0, 0, 0, 0, 0, 0, 0, []) := rfl
theorem i_X9_looks_122 : tab t_X9_looks 122 = some (.lastore, 1, 0, 0, 0, 0, 0, 0, 0, 0, []) := rfl
theorem i_X9_looks_123 : tab t_X9_looks 123 = some (.aload_n 0, 1, 0, 0, 0, 0, 0, 0, 0, 0, []) := rfl
theorem i_X9_looks_124 : tab t_X9_looks 124 = some (.getfield 105, 3, 2, 0, 0, 9, 46, 0, 0, 0, []) := rfl
theorem i_X9_looks_127 : tab t_X9_looks 127 = some (.bipush 8, 2, 0, 8, 0, 0, 0, 0, 0, 0, []) := rfl
theorem i_X9_looks_129 : tab t_X9_looks 129 = some (.aload_n 0, 1, 0, 0, 0, 0, 0, 0, 0, 0, []) := rfl
theorem i_X9_looks_130 : tab t_X9_looks 130 = some (.getfield 41, 3, 2, 0, 0, 9, 17, 0, 0, 0, []) := rfl
theorem i_X9_looks_133 : tab t_X9_looks 133 = some (.iload_n 1, 1, 1, 0, 0, 0, 0, 0, 0, 0, []) := rfl
theorem i_X9_looks_134 : tab t_X9_looks 134 = some (.iaload, 1, 0, 0, 0, 0, 0, 0, 0, 0, []) := rfl
theorem i_X9_looks_135 : tab t_X9_looks 135 = some (.aload_n 0, 1, 0, 0, 0, 0, 0, 0, 0, 0, []) := rfl
theorem i_X9_looks_136 : tab t_X9_looks 136 = some (.getfield 17, 3, 2, 0, 0, 9, 9, 0, 0, 0, []) := rfl
theorem i_X9_looks_139 : tab t_X9_looks 139 = some (.iload_n 2, 1, 2, 0, 0, 0, 0, 0, 0, 0, []) := rfl
theorem i_X9_looks_140 : tab t_X9_looks 140 = some (.iaload, 1, 0, 0, 0, 0, 0, 0, 0, 0, []) := rfl
theorem i_X9_looks_141 : tab t_X9_looks 141 = some (.if_icmp .ne 7, 3, 148, 0, 0, 0, 0, 0, 0, 0, []) := rfl
theorem i_X9_looks_144 : tab t_X9_looks 144 = some (.lconst 1, 1, 0, 0, 1, 0, 0, 0, 0, 0, []) := rfl
theorem i_X9_looks_145 : tab t_X9_looks 145 = some (.goto 4, 3, 149, 0, 0, 0, 0, 0, 0, 0, []) := rfl
theorem i_X9_looks_148 : tab t_X9_looks 148 = some (.lconst 0, 1, 0, 0, 0, 0, 0, 0, 0, 0, []) := rfl
theorem i_X9_looks_149 : tab t_X9_looks 149 = some (.lastore, 1, 0, 0, 0, 0, 0, 0, 0, 0, []) := rfl
theorem i_X9_looks_150 : tab t_X9_looks 150 = some (.aload_n 0, 1, 0, 0, 0, 0, 0, 0, 0, 0, []) := rfl
theorem i_X9_looks_151 : tab t_X9_looks 151 = some (.getfield 105, 3, 2, 0, 0, 9, 46, 0, 0, 0, []) := rfl
theorem i_X9_looks_154 : tab t_X9_looks 154 = some (.bipush 9, 2, 0, 9, 0, 0, 0, 0, 0, 0, []) := rfl
theorem i_X9_looks_156 : tab t_X9_looks 156 = some (.iload 4, 2, 4, 0, 0, 0, 0, 0, 0, 0, []) := rfl
theorem i_X9_looks_158 : tab t_X9_looks 158 = some (.iconst (-1), 1, 0, -1, 0, 0, 0, 0, 0, 0, []) := rfl
theorem i_X9_looks_159 : tab t_X9_looks 159 = some (.if_icmp .ne 7, 3, 166, 0, 0, 0, 0, 0, 0, 0, []) := rfl
theorem i_X9_looks_162 : tab t_X9_looks 162 = some (.lconst 0, 1, 0, 0, 0, 0, 0, 0, 0, 0, []) := rfl
theorem i_X9_looks_163 : tab t_X9_looks 163 = some (.goto 6, 3, 169, 0, 0, 0, 0, 0, 0, 0, []) := rfl
theorem i_X9_looks_166 : tab t_X9_looks 166 = some (.iload 4, 2, 4, 0, 0, 0, 0, 0, 0, 0, []) := rfl
theorem i_X9_looks_168 : tab t_X9_looks 168 = some (.i2l, 1, 0, 0, 0, 0, 0, 0, 0, 0, []) := rfl
theorem i_X9_looks_169 : tab t_X9_looks 169 = some (.lastore, 1, 0, 0, 0, 0, 0, 0, 0, 0, []) := rfl
theorem i_X9_looks_170 : tab t_X9_looks 170 = some (.aload_n 0, 1, 0, 0, 0, 0, 0, 0, 0, 0, []) := rfl
theorem i_X9_looks_171 : tab t_X9_looks 171 = some (.getfield 105, 3, 2, 0, 0, 9, 46, 0, 0, 0, []) := rfl
theorem i_X9_looks_174 : tab t_X9_looks 174 = some (.bipush 10, 2, 0, 10, 0, 0, 0, 0, 0, 0, []) := rfl
theorem i_X9_looks_176 : tab t_X9_looks 176 = some (.lconst 0, 1, 0, 0, 0, 0, 0, 0, 0, 0, []) := rfl
theorem i_X9_looks_177 : tab t_X9_looks 177 = some (.lastore, 1, 0, 0, 0, 0, 0, 0, 0, 0, []) := rfl
theorem i_X9_looks_178 : tab t_X9_looks 178 = some (.aload_n 0, 1, 0, 0, 0, 0, 0, 0, 0, 0, []) := rfl
theorem i_X9_looks_179 : tab t_X9_looks 179 = some (.getfield 105, 3, 2, 0, 0, 9, 46, 0, 0, 0, []) := rfl
theorem i_X9_looks_182 : tab t_X9_looks 182 = some (.bipush 11, 2, 0, 11, 0, 0, 0, 0, 0, 0, []) := rfl
theorem i_X9_looks_184 : tab t_X9_looks 184 = some (.lconst 0, 1, 0, 0, 0, 0, 0, 0, 0, 0, []) := rfl
theorem i_X9_looks_185 : tab t_X9_looks 185 = some (.lastore, 1, 0, 0, 0, 0, 0, 0, 0, 0, []) := rfl
theorem i_X9_looks_186 : tab t_X9_looks 186 = some (.aload_n 0, 1, 0, 0, 0, 0, 0, 0, 0, 0, []) := rfl
theorem i_X9_looks_187 : tab t_X9_looks 187 = some (.getfield 105, 3, 2, 0, 0, 9, 46, 0, 0, 0, []) := rfl
theorem i_X9_looks_190 : tab t_X9_looks 190 = some (.bipush 12, 2, 0, 12, 0, 0, 0, 0, 0, 0, []) := rfl
theorem i_X9_looks_192 : tab t_X9_looks 192 = some (.lconst 0, 1, 0, 0, 0, 0, 0, 0, 0, 0, []) := rfl
theorem i_X9_looks_193 : tab t_X9_looks 193 = some (.lastore, 1, 0, 0, 0, 0, 0, 0, 0, 0, []) := rfl
theorem i_X9_looks_194 : tab t_X9_looks 194 = some (.return_, 1, 0, 0, 0, 0, 0, 0, 0, 0, []) := rfl
def t_X9_keyed : List (Nat × rw_) := [(0, (.iload_n 0, 1, 0, 0, 0, 0, 0, 0, 0, 0, [])), (1, (.tableswitch 86 0 5 #[39, 46, 66, 70, 78, 82], 39, 87, 0, 0, 0, 0, 0, 0, 0, [(0, 40), (1, 47), (2, 67), (3, 71), (4, 79), (5, 83)])), (40, (.lconst 1, 1, 0, 0, 1, 0, 0, 0, 0, 0, [])), (41, (.aload_n 1, 1, 1, 0, 0, 0, 0, 0, 0, 0, [])), (42, (.bipush 6, 2, 0, 6, 0, 0, 0, 0, 0, 0, [])), (44, (.laload, 1, 0, 0, 0, 0, 0, 0, 0, 0, [])), (45, (.lsub, 1, 0, 0, 0, 0, 0, 0, 0, 0, [])), (46, (.lreturn, 1, 0, 0, 0, 0, 0, 0, 0, 0, [])), (47, (.aload_n 1, 1, 1, 0, 0, 0, 0, 0, 0, 0, [])), (48, (.bipush 7, 2, 0, 7, 0, 0, 0, 0, 0, 0, [])), (50, (.laload, 1, 0, 0, 0, 0, 0, 0, 0, 0, [])), (51, (.lconst 0, 1, 0, 0, 0, 0, 0, 0, 0, 0, [])), (52, (.lcmp, 1, 0, 0, 0, 0, 0, 0, 0, 0, [])), (53, (.ifCond .ne 9, 3, 62, 0, 0, 0, 0, 0, 0, 0, [])), (56, (.ldc2_w 191, 3, 0, 0, 99, 0, 0, 0, 0, 0, [])), (59, (.goto 7, 3, 66, 0, 0, 0, 0, 0, 0, 0, [])), (62, (.aload_n 1, 1, 1, 0, 0, 0, 0, 0, 0, 0, [])), (63, (.bipush 7, 2, 0, 7, 0, 0, 0, 0, 0, 0, [])), (65, (.laload, 1, 0, 0, 0, 0, 0, 0, 0, 0, [])), (66, (.lreturn, 1, 0, 0, 0, 0, 0, 0, 0, 0, [])), (67, (.aload_n 1, 1, 1, 0, 0, 0, 0, 0, 0, 0, [])), (68, (.iconst 4, 1, 0, 4, 0, 0, 0, 0, 0, 0, [])), (69, (.laload, 1, 0, 0, 0, 0, 0, 0, 0, 0, [])), (70, (.lreturn, 1, 0, 0, 0, 0, 0, 0, 0, 0, [])), (71, (.ldc2_w 193, 3, 0, 0, 9, 0, 0, 0, 0, 0, [])), (74, (.aload_n 1, 1, 1, 0, 0, 0, 0, 0, 0, 0, [])), (75, (.iconst 1, 1, 0, 1, 0, 0, 0, 0, 0, 0, [])), (76, (.laload, 1, 0, 0, 0, 0, 0, 0, 0, 0, [])), (77, (.lsub, 1, 0, 0, 0, 0, 0, 0, 0, 0, [])), (78, (.lreturn, 1, 0, 0, 0, 0, 0, 0, 0, 0, [])), (79, (.aload_n 1, 1, 1, 0, 0, 0, 0, 0, 0, 0, [])), (80, (.iconst 2, 1, 0, 2, 0, 0, 0, 0, 0, 0, [])), (81, (.laload, 1, 0, 0, 0, 0, 0, 0, 0, 0, [])), (82, (.lreturn, 1, 0, 0, 0, 0, 0, 0, 0, 0, [])), (83, (.aload_n 1, 1, 1, 0, 0, 0, 0, 0, 0, 0, [])), (84, (.iconst 5, 1, 0, 5, 0, 0, 0, 0, 0, 0, [])), (85, (.laload, 1, 0, 0, 0, 0, 0, 0, 0, 0, [])), (86, (.lreturn, 1, 0, 0, 0, 0, 0, 0, 0, 0, [])), (87, (.lconst 1, 1, 0, 0, 1, 0, 0, 0, 0, 0, [])), (88, (.aload_n 1, 1, 1, 0, 0, 0, 0, 0, 0, 0, [])), (89, (.bipush 8, 2, 0, 8, 0, 0, 0, 0, 0, 0, [])), (91, (.laload, 1, 0, 0, 0, 0, 0, 0, 0, 0, [])), (92, (.lsub, 1, 0, 0, 0, 0, 0, 0, 0, 0, [])), (93, (.lreturn, 1, 0, 0, 0, 0, 0, 0, 0, 0, []))]
set_option maxRecDepth 100000 in
theorem ok_X9_keyed : tb_ok ctX9 m_X9_keyed t_X9_keyed = true := by decide +kernel
theorem i_X9_keyed_0 : tab t_X9_keyed 0 = some (.iload_n 0, 1, 0, 0, 0, 0, 0, 0, 0, 0, []) := rfl
theorem i_X9_keyed_1 : tab t_X9_keyed 1 = some (.tableswitch 86 0 5 #[39, 46, 66, 70, 78, 82], 39, 87, 0, 0, 0, 0, 0, 0, 0, [(0, 40), (1, 47), (2, 67), (3, 71), (4, 79), (5, 83)]) := rfl
theorem i_X9_keyed_40 : tab t_X9_keyed 40 = some (.lconst 1, 1, 0, 0, 1, 0, 0, 0, 0, 0, []) := rfl
theorem i_X9_keyed_41 : tab t_X9_keyed 41 = some (.aload_n 1, 1, 1, 0, 0, 0, 0, 0, 0, 0, []) := rfl
theorem i_X9_keyed_42 : tab t_X9_keyed 42 = some (.bipush 6, 2, 0, 6, 0, 0, 0, 0, 0, 0, []) := rfl
theorem i_X9_keyed_44 : tab t_X9_keyed 44 = some (.laload, 1, 0, 0, 0, 0, 0, 0, 0, 0, []) := rfl
theorem i_X9_keyed_45 : tab t_X9_keyed 45 = some (.lsub, 1, 0, 0, 0, 0, 0, 0, 0, 0, []) := rfl
theorem i_X9_keyed_46 : tab t_X9_keyed 46 = some (.lreturn, 1, 0, 0, 0, 0, 0, 0, 0, 0, []) := rfl
theorem i_X9_keyed_47 : tab t_X9_keyed 47 = some (.aload_n 1, 1, 1, 0, 0, 0, 0, 0, 0, 0, []) := rfl
theorem i_X9_keyed_48 : tab t_X9_keyed 48 = some (.bipush 7, 2, 0, 7, 0, 0, 0, 0, 0, 0, []) := rfl
theorem i_X9_keyed_50 : tab t_X9_keyed 50 = some (.laload, 1, 0, 0, 0, 0, 0, 0, 0, 0, []) := rfl
theorem i_X9_keyed_51 : tab t_X9_keyed 51 = some (.lconst 0, 1, 0, 0, 0, 0, 0, 0, 0, 0, []) := rfl
theorem i_X9_keyed_52 : tab t_X9_keyed 52 = some (.lcmp, 1, 0, 0, 0, 0, 0, 0, 0, 0, []) := rfl
theorem i_X9_keyed_53 : tab t_X9_keyed 53 = some (.ifCond .ne 9, 3, 62, 0, 0, 0, 0, 0, 0, 0, []) := rfl
theorem i_X9_keyed_56 : tab t_X9_keyed 56 = some (.ldc2_w 191, 3, 0, 0, 99, 0, 0, 0, 0, 0, []) := rfl
theorem i_X9_keyed_59 : tab t_X9_keyed 59 = some (.goto 7, 3, 66, 0, 0, 0, 0, 0, 0, 0, []) := rfl
theorem i_X9_keyed_62 : tab t_X9_keyed 62 = some (.aload_n 1, 1, 1, 0, 0, 0, 0, 0, 0, 0, []) := rfl
theorem i_X9_keyed_63 : tab t_X9_keyed 63 = some (.bipush 7, 2, 0, 7, 0, 0, 0, 0, 0, 0, []) := rfl
theorem i_X9_keyed_65 : tab t_X9_keyed 65 = some (.laload, 1, 0, 0, 0, 0, 0, 0, 0, 0, []) := rfl
theorem i_X9_keyed_66 : tab t_X9_keyed 66 = some (.lreturn, 1, 0, 0, 0, 0, 0, 0, 0, 0, []) := rfl
theorem i_X9_keyed_67 : tab t_X9_keyed 67 = some (.aload_n 1, 1, 1, 0, 0, 0, 0, 0, 0, 0, []) := rfl
theorem i_X9_keyed_68 : tab t_X9_keyed 68 = some (.iconst 4, 1, 0, 4, 0, 0, 0, 0, 0, 0, []) := rfl
theorem i_X9_keyed_69 : tab t_X9_keyed 69 = some (.laload, 1, 0, 0, 0, 0, 0, 0, 0, 0, []) := rfl
theorem i_X9_keyed_70 : tab t_X9_keyed 70 = some (.lreturn, 1, 0, 0, 0, 0, 0, 0, 0, 0, []) := rfl
theorem i_X9_keyed_71 : tab t_X9_keyed 71 = some (.ldc2_w 193, 3, 0, 0, 9, 0, 0, 0, 0, 0, []) := rfl
theorem i_X9_keyed_74 : tab t_X9_keyed 74 = some (.aload_n 1, 1, 1, 0, 0, 0, 0, 0, 0, 0, []) := rfl
theorem i_X9_keyed_75 : tab t_X9_keyed 75 = some (.iconst 1, 1, 0, 1, 0, 0, 0, 0, 0, 0, []) := rfl
theorem i_X9_keyed_76 : tab t_X9_keyed 76 = some (.laload, 1, 0, 0, 0, 0, 0, 0, 0, 0, []) := rfl
theorem i_X9_keyed_77 : tab t_X9_keyed 77 = some (.lsub, 1, 0, 0, 0, 0, 0, 0, 0, 0, []) := rfl
theorem i_X9_keyed_78 : tab t_X9_keyed 78 = some (.lreturn, 1, 0, 0, 0, 0, 0, 0, 0, 0, []) := rfl
theorem i_X9_keyed_79 : tab t_X9_keyed 79 = some (.aload_n 1, 1, 1, 0, 0, 0, 0, 0, 0, 0, []) := rfl
theorem i_X9_keyed_80 : tab t_X9_keyed 80 = some (.iconst 2, 1, 0, 2, 0, 0, 0, 0, 0, 0, []) := rfl
theorem i_X9_keyed_81 : tab t_X9_keyed 81 = some (.laload, 1, 0, 0, 0, 0, 0, 0, 0, 0, []) := rfl
theorem i_X9_keyed_82 : tab t_X9_keyed 82 = some (.lreturn, 1, 0, 0, 0, 0, 0, 0, 0, 0, []) := rfl
theorem i_X9_keyed_83 : tab t_X9_keyed 83 = some (.aload_n 1, 1, 1, 0, 0, 0, 0, 0, 0, 0, []) := rfl
theorem i_X9_keyed_84 : tab t_X9_keyed 84 = some (.iconst 5, 1, 0, 5, 0, 0, 0, 0, 0, 0, []) := rfl
theorem i_X9_keyed_85 : tab t_X9_keyed 85 = some (.laload, 1, 0, 0, 0, 0, 0, 0, 0, 0, []) := rfl
theorem i_X9_keyed_86 : tab t_X9_keyed 86 = some (.lreturn, 1, 0, 0, 0, 0, 0, 0, 0, 0, []) := rfl
theorem i_X9_keyed_87 : tab t_X9_keyed 87 = some (.lconst 1, 1, 0, 0, 1, 0, 0, 0, 0, 0, []) := rfl
theorem i_X9_keyed_88 : tab t_X9_keyed 88 = some (.aload_n 1, 1, 1, 0, 0, 0, 0, 0, 0, 0, []) := rfl
theorem i_X9_keyed_89 : tab t_X9_keyed 89 = some (.bipush 8, 2, 0, 8, 0, 0, 0, 0, 0, 0, []) := rfl
theorem i_X9_keyed_91 : tab t_X9_keyed 91 = some (.laload, 1, 0, 0, 0, 0, 0, 0, 0, 0, []) := rfl
theorem i_X9_keyed_92 : tab t_X9_keyed 92 = some (.lsub, 1, 0, 0, 0, 0, 0, 0, 0, 0, []) := rfl
theorem i_X9_keyed_93 : tab t_X9_keyed 93 = some (.lreturn, 1, 0, 0, 0, 0, 0, 0, 0, 0, []) := rfl
def t_X9_works : List (Nat × rw_) := [(0, (.aload_n 0, 1, 0, 0, 0, 0, 0, 0, 0, 0, [])), (1, (.iload_n 1, 1, 1, 0, 0, 0, 0, 0, 0, 0, [])), (2, (.iload_n 2, 1, 2, 0, 0, 0, 0, 0, 0, 0, [])), (3, (.iload_n 3, 1, 3, 0, 0, 0, 0, 0, 0, 0, [])), (4, (.invokevirtual 393, 3, 3, 0, 0, 0, 175, 10, 0, 0, [])), (7, (.iconst 1, 1, 0, 1, 0, 0, 0, 0, 0, 0, [])), (8, (.istore 5, 2, 5, 0, 0, 0, 0, 0, 0, 0, [])), (10, (.iconst 0, 1, 0, 0, 0, 0, 0, 0, 0, 0, [])), (11, (.istore 6, 2, 6, 0, 0, 0, 0, 0, 0, 0, [])), (13, (.iload 6, 2, 6, 0, 0, 0, 0, 0, 0, 0, [])), (15, (.aload_n 0, 1, 0, 0, 0, 0, 0, 0, 0, 0, [])), (16, (.getfield 87, 3, 2, 0, 0, 9, 40, 0, 0, 0, [])), (19, (.iload 4, 2, 4, 0, 0, 0, 0, 0, 0, 0, [])), (21, (.iaload, 1, 0, 0, 0, 0, 0, 0, 0, 0, [])), (22, (.if_icmp .ge 147, 3, 169, 0, 0, 0, 0, 0, 0, 0, [])), (25, (.bipush 12, 2, 0, 12, 0, 0, 0, 0, 0, 0, [])), (27, (.iload 4, 2, 4, 0, 0, 0, 0, 0, 0, 0, [])), (29, (.imul, 1, 0, 0, 0, 0, 0, 0, 0, 0, [])), (30, (.iload 6, 2, 6, 0, 0, 0, 0, 0, 0, 0, [])), (32, (.iadd, 1, 0, 0, 0, 0, 0, 0, 0, 0, [])), (33, (.istore 7, 2, 7, 0, 0, 0, 0, 0, 0, 0, [])), (35, (.aload_n 0, 1, 0, 0, 0, 0, 0, 0, 0, 0, [])), (36, (.getfield 96, 3, 2, 0, 0, 9, 43, 0, 0, 0, [])), (39, (.iload 7, 2, 7, 0, 0, 0, 0, 0, 0, 0, [])), (41, (.iaload, 1, 0, 0, 0, 0, 0, 0, 0, 0, [])), (42, (.aload_n 0, 1, 0, 0, 0, 0, 0, 0, 0, 0, [])), (43, (.getfield 99, 3, 2, 0, 0, 9, 44, 0, 0, 0, [])), (46, (.iload 7, 2, 7, 0, 0, 0, 0, 0, 0, 0, [])), (48, (.iaload, 1, 0, 0, 0, 0, 0, 0, 0, 0, [])), (49, (.if_icmp .eq 28, 3, 77, 0, 0, 0, 0, 0, 0, 0, [])), (52, (.aload_n 0, 1, 0, 0, 0, 0, 0, 0, 0, 0, [])), (53, (.iload 4, 2, 4, 0, 0, 0, 0, 0, 0, 0, [])), (55, (.aload_n 0, 1, 0, 0, 0, 0, 0, 0, 0, 0, [])), (56, (.getfield 96, 3, 2, 0, 0, 9, 43, 0, 0, 0, [])), (59, (.iload 7, 2, 7, 0, 0, 0, 0, 0, 0, 0, [])), (61, (.iaload, 1, 0, 0, 0, 0, 0, 0, 0, 0, [])), (62, (.aload_n 0, 1, 0, 0, 0, 0, 0, 0, 0, 0, [])), (63, (.getfield 99, 3, 2, 0, 0, 9, 44, 0, 0, 0, [])), (66, (.iload 7, 2, 7, 0, 0, 0, 0, 0, 0, 0, [])), (68, (.iaload, 1, 0, 0, 0, 0, 0, 0, 0, 0, [])), (69, (.invokevirtual 397, 3, 3, 0, 0, 0, 171, 10, 0, 0, [])), (72, (.lconst 1, 1, 0, 0, 1, 0, 0, 0, 0, 0, [])), (73, (.lcmp, 1, 0, 0, 0, 0, 0, 0, 0, 0, [])), (74, (.ifCond .ne 7, 3, 81, 0, 0, 0, 0, 0, 0, 0, [])), (77, (.iconst 1, 1, 0, 1, 0, 0, 0, 0, 0, 0, [])), (78, (.goto 4, 3, 82, 0, 0, 0, 0, 0, 0, 0, [])), (81, (.iconst 0, 1, 0, 0, 0, 0, 0, 0, 0, 0, [])), (82, (.istore 8, 2, 8, 0, 0, 0, 0, 0, 0, 0, [])), (84, (.aload_n 0, 1, 0, 0, 0, 0, 0, 0, 0, 0, [])), (85, (.getfield 119, 3, 2, 0, 0, 9, 50, 0, 0, 0, [])), (88, (.bipush 12, 2, 0, 12, 0, 0, 0, 0, 0, 0, [])), (90, (.iload_n 1, 1, 1, 0, 0, 0, 0, 0, 0, 0, [])), (91, (.imul, 1, 0, 0, 0, 0, 0, 0, 0, 0, [])), (92, (.iload 6, 2, 6, 0, 0, 0, 0, 0, 0, 0, [])), (94, (.iadd, 1, 0, 0, 0, 0, 0, 0, 0, 0, [])), (95, (.aload_n 0, 1, 0, 0, 0, 0, 0, 0, 0, 0, [])), (96, (.getfield 90, 3, 2, 0, 0, 9, 41, 0, 0, 0, [])), (99, (.iload 7, 2, 7, 0, 0, 0, 0, 0, 0, 0, [])), (101, (.iaload, 1, 0, 0, 0, 0, 0, 0, 0, 0, [])), (102, (.ifCond .eq 7, 3, 109, 0, 0, 0, 0, 0, 0, 0, [])), (105, (.lconst 0, 1, 0, 0, 0, 0, 0, 0, 0, 0, [])), (106, (.goto 28, 3, 134, 0, 0, 0, 0, 0, 0, 0, [])), (109, (.iload 8, 2, 8, 0, 0, 0, 0, 0, 0, 0, [])), (111, (.ifCond .eq 20, 3, 131, 0, 0, 0, 0, 0, 0, 0, [])), (114, (.aload_n 0, 1, 0, 0, 0, 0, 0, 0, 0, 0, [])), (115, (.getfield 93, 3, 2, 0, 0, 9, 42, 0, 0, 0, [])), (118, (.iload 7, 2, 7, 0, 0, 0, 0, 0, 0, 0, [])), (120, (.iaload, 1, 0, 0, 0, 0, 0, 0, 0, 0, [])), (121, (.aload_n 0, 1, 0, 0, 0, 0, 0, 0, 0, 0, [])), (122, (.getfield 105, 3, 2, 0, 0, 9, 46, 0, 0, 0, [])), (125, (.invokestatic 401, 3, 2, 0, 0, 0, 176, 0, 0, 0, [])), (128, (.goto 6, 3, 134, 0, 0, 0, 0, 0, 0, 0, [])), (131, (.ldc2_w 405, 3, 0, 0, 100000, 0, 0, 0, 0, 0, [])), (134, (.lastore, 1, 0, 0, 0, 0, 0, 0, 0, 0, [])), (135, (.iload 5, 2, 5, 0, 0, 0, 0, 0, 0, 0, [])), (137, (.ifCond .eq 23, 3, 160, 0, 0, 0, 0, 0, 0, 0, [])), (140, (.aload_n 0, 1, 0, 0, 0, 0, 0, 0, 0, 0, [])), (141, (.getfield 90, 3, 2, 0, 0, 9, 41, 0, 0, 0, [])), (144, (.iload 7, 2, 7, 0, 0, 0, 0, 0, 0, 0, [])), (146, (.iaload, 1, 0, 0, 0, 0, 0, 0, 0, 0, [])), (147, (.iconst 1, 1, 0, 1, 0, 0, 0, 0, 0, 0, [])), (148, (.if_icmp .ne 8, 3, 156, 0, 0, 0, 0, 0, 0, 0, [])), (151, (.iload 8, 2, 8, 0, 0, 0, 0, 0, 0, 0, [])), (153, (.ifCond .ne 7, 3, 160, 0, 0, 0, 0, 0, 0, 0, [])), (156, (.iconst 1, 1, 0, 1, 0, 0, 0, 0, 0, 0, [])), (157, (.goto 4, 3, 161, 0, 0, 0, 0, 0, 0, 0, [])), (160, (.iconst 0, 1, 0, 0, 0, 0, 0, 0, 0, 0, [])), (161, (.istore 5, 2, 5, 0, 0, 0, 0, 0, 0, 0, [])), (163, (.iinc 6 1, 3, 6, 1, 0, 0, 0, 0, 0, 0, [])), (166, (.goto (-153), 3, 13, 0, 0, 0, 0, 0, 0, 0, [])), (169, (.iload 5, 2, 5, 0, 0, 0, 0, 0, 0, 0, [])), (171, (.ireturn, 1, 0, 0, 0, 1, 0, 0, 0, 0, []))]
set_option maxRecDepth 100000 in
theorem ok_X9_works : tb_ok ctX9 m_X9_works t_X9_works = true := by decide +kernel
theorem i_X9_works_0 : tab t_X9_works 0 = some (.aload_n 0, 1, 0, 0, 0, 0, 0, 0, 0, 0, []) := rfl
theorem i_X9_works_1 : tab t_X9_works 1 = some (.iload_n 1, 1, 1, 0, 0, 0, 0, 0, 0, 0, []) := rfl
theorem i_X9_works_2 : tab t_X9_works 2 = some (.iload_n 2, 1, 2, 0, 0, 0, 0, 0, 0, 0, []) := rfl
theorem i_X9_works_3 : tab t_X9_works 3 = some (.iload_n 3, 1, 3, 0, 0, 0, 0, 0, 0, 0, []) := rfl
theorem i_X9_works_4 : tab t_X9_works 4 = some (.invokevirtual 393, 3, 3, 0, 0, 0, 175, 10, 0, 0, []) := rfl
theorem i_X9_works_7 : tab t_X9_works 7 = some (.iconst 1, 1, 0, 1, 0, 0, 0, 0, 0, 0, []) := rfl
theorem i_X9_works_8 : tab t_X9_works 8 = some (.istore 5, 2, 5, 0, 0, 0, 0, 0, 0, 0, []) := rfl
theorem i_X9_works_10 : tab t_X9_works 10 = some (.iconst 0, 1, 0, 0, 0, 0, 0, 0, 0, 0, []) := rfl
theorem i_X9_works_11 : tab t_X9_works 11 = some (.istore 6, 2, 6, 0, 0, 0, 0, 0, 0, 0, []) := rfl
theorem i_X9_works_13 : tab t_X9_works 13 = some (.iload 6, 2, 6, 0, 0, 0, 0, 0, 0, 0, []) := rfl
theorem i_X9_works_15 : tab t_X9_works 15 = some (.aload_n 0, 1, 0, 0, 0, 0, 0, 0, 0, 0, []) := rfl
theorem i_X9_works_16 : tab t_X9_works 16 = some (.getfield 87, 3, 2, 0, 0, 9, 40, 0, 0, 0, []) := rfl
theorem i_X9_works_19 : tab t_X9_works 19 = some (.iload 4, 2, 4, 0, 0, 0, 0, 0, 0, 0, []) := rfl
theorem i_X9_works_21 : tab t_X9_works 21 = some (.iaload, 1, 0, 0, 0, 0, 0, 0, 0, 0, []) := rfl
theorem i_X9_works_22 : tab t_X9_works 22 = some (.if_icmp .ge 147, 3, 169, 0, 0, 0, 0, 0, 0, 0, []) := rfl
theorem i_X9_works_25 : tab t_X9_works 25 = some (.bipush 12, 2, 0, 12, 0, 0, 0, 0, 0, 0, []) := rfl
theorem i_X9_works_27 : tab t_X9_works 27 = some (.iload 4, 2, 4, 0, 0, 0, 0, 0, 0, 0, []) := rfl
theorem i_X9_works_29 : tab t_X9_works 29 = some (.imul, 1, 0, 0, 0, 0, 0, 0, 0, 0, []) := rfl
theorem i_X9_works_30 : tab t_X9_works 30 = some (.iload 6, 2, 6, 0, 0, 0, 0, 0, 0, 0, []) := rfl
theorem i_X9_works_32 : tab t_X9_works 32 = some (.iadd, 1, 0, 0, 0, 0, 0, 0, 0, 0, []) := rfl
theorem i_X9_works_33 : tab t_X9_works 33 = some (.istore 7, 2, 7, 0, 0, 0, 0, 0, 0, 0, []) := rfl
theorem i_X9_works_35 : tab t_X9_works 35 = some (.aload_n 0, 1, 0, 0, 0, 0, 0, 0, 0, 0, []) := rfl
theorem i_X9_works_36 : tab t_X9_works 36 = some (.getfield 96, 3, 2, 0, 0, 9, 43, 0, 0, 0, []) := rfl
theorem i_X9_works_39 : tab t_X9_works 39 = some (.iload 7, 2, 7, 0, 0, 0, 0, 0, 0, 0, []) := rfl
theorem i_X9_works_41 : tab t_X9_works 41 = some (.iaload, 1, 0, 0, 0, 0, 0, 0, 0, 0, []) := rfl
theorem i_X9_works_42 : tab t_X9_works 42 = some (.aload_n 0, 1, 0, 0, 0, 0, 0, 0, 0, 0, []) := rfl
theorem i_X9_works_43 : tab t_X9_works 43 = some (.getfield 99, 3, 2, 0, 0, 9, 44, 0, 0, 0, []) := rfl
theorem i_X9_works_46 : tab t_X9_works 46 = some (.iload 7, 2, 7, 0, 0, 0, 0, 0, 0, 0, []) := rfl
theorem i_X9_works_48 : tab t_X9_works 48 = some (.iaload, 1, 0, 0, 0, 0, 0, 0, 0, 0, []) := rfl
theorem i_X9_works_49 : tab t_X9_works 49 = some (.if_icmp .eq 28, 3, 77, 0, 0, 0, 0, 0, 0, 0, []) := rfl
theorem i_X9_works_52 : tab t_X9_works 52 = some (.aload_n 0, 1, 0, 0, 0, 0, 0, 0, 0, 0, []) := rfl
theorem i_X9_works_53 : tab t_X9_works 53 = some (.iload 4, 2, 4, 0, 0, 0, 0, 0, 0, 0, []) := rfl
theorem i_X9_works_55 : tab t_X9_works 55 = some (.aload_n 0, 1, 0, 0, 0, 0, 0, 0, 0, 0, []) := rfl
theorem i_X9_works_56 : tab t_X9_works 56 = some (.getfield 96, 3, 2, 0, 0, 9, 43, 0, 0, 0, []) := rfl
theorem i_X9_works_59 : tab t_X9_works 59 = some (.iload 7, 2, 7, 0, 0, 0, 0, 0, 0, 0, []) := rfl
theorem i_X9_works_61 : tab t_X9_works 61 = some (.iaload, 1, 0, 0, 0, 0, 0, 0, 0, 0, []) := rfl
theorem i_X9_works_62 : tab t_X9_works 62 = some (.aload_n 0, 1, 0, 0, 0, 0, 0, 0, 0, 0, []) := rfl
theorem i_X9_works_63 : tab t_X9_works 63 = some (.getfield 99, 3, 2, 0, 0, 9, 44, 0, 0, 0, []) := rfl
theorem i_X9_works_66 : tab t_X9_works 66 = some (.iload 7, 2, 7, 0, 0, 0, 0, 0, 0, 0, []) := rfl
theorem i_X9_works_68 : tab t_X9_works 68 = some (.iaload, 1, 0, 0, 0, 0, 0, 0, 0, 0, []) := rfl
theorem i_X9_works_69 : tab t_X9_works 69 = some (.invokevirtual 397, 3, 3, 0, 0, 0, 171, 10, 0, 0, []) := rfl
theorem i_X9_works_72 : tab t_X9_works 72 = some (.lconst 1, 1, 0, 0, 1, 0, 0, 0, 0, 0, []) := rfl
theorem i_X9_works_73 : tab t_X9_works 73 = some (.lcmp, 1, 0, 0, 0, 0, 0, 0, 0, 0, []) := rfl
theorem i_X9_works_74 : tab t_X9_works 74 = some (.ifCond .ne 7, 3, 81, 0, 0, 0, 0, 0, 0, 0, []) := rfl
theorem i_X9_works_77 : tab t_X9_works 77 = some (.iconst 1, 1, 0, 1, 0, 0, 0, 0, 0, 0, []) := rfl
theorem i_X9_works_78 : tab t_X9_works 78 = some (.goto 4, 3, 82, 0, 0, 0, 0, 0, 0, 0, []) := rfl
theorem i_X9_works_81 : tab t_X9_works 81 = some (.iconst 0, 1, 0, 0, 0, 0, 0, 0, 0, 0, []) := rfl
theorem i_X9_works_82 : tab t_X9_works 82 = some (.istore 8, 2, 8, 0, 0, 0, 0, 0, 0, 0, []) := rfl
theorem i_X9_works_84 : tab t_X9_works 84 = some (.aload_n 0, 1, 0, 0, 0, 0, 0, 0, 0, 0, []) := rfl
theorem i_X9_works_85 : tab t_X9_works 85 = some (.getfield 119, 3, 2, 0, 0, 9, 50, 0, 0, 0, []) := rfl
theorem i_X9_works_88 : tab t_X9_works 88 = some (.bipush 12, 2, 0, 12, 0, 0, 0, 0, 0, 0, []) := rfl
theorem i_X9_works_90 : tab t_X9_works 90 = some (.iload_n 1, 1, 1, 0, 0, 0, 0, 0, 0, 0, []) := rfl
theorem i_X9_works_91 : tab t_X9_works 91 = some (.imul, 1, 0, 0, 0, 0, 0, 0, 0, 0, []) := rfl
theorem i_X9_works_92 : tab t_X9_works 92 = some (.iload 6, 2, 6, 0, 0, 0, 0, 0, 0, 0, []) := rfl
theorem i_X9_works_94 : tab t_X9_works 94 = some (.iadd, 1, 0, 0, 0, 0, 0, 0, 0, 0, []) := rfl
theorem i_X9_works_95 : tab t_X9_works 95 = some (.aload_n 0, 1, 0, 0, 0, 0, 0, 0, 0, 0, []) := rfl
theorem i_X9_works_96 : tab t_X9_works 96 = some (.getfield 90, 3, 2, 0, 0, 9, 41, 0, 0, 0, []) := rfl
theorem i_X9_works_99 : tab t_X9_works 99 = some (.iload 7, 2, 7, 0, 0, 0, 0, 0, 0, 0, []) := rfl
theorem i_X9_works_101 : tab t_X9_works 101 = some (.iaload, 1, 0, 0, 0, 0, 0, 0, 0, 0, []) := rfl
theorem i_X9_works_102 : tab t_X9_works 102 = some (.ifCond .eq 7, 3, 109, 0, 0, 0, 0, 0, 0, 0, []) := rfl
theorem i_X9_works_105 : tab t_X9_works 105 = some (.lconst 0, 1, 0, 0, 0, 0, 0, 0, 0, 0, []) := rfl
theorem i_X9_works_106 : tab t_X9_works 106 = some (.goto 28, 3, 134, 0, 0, 0, 0, 0, 0, 0, []) := rfl
theorem i_X9_works_109 : tab t_X9_works 109 = some (.iload 8, 2, 8, 0, 0, 0, 0, 0, 0, 0, []) := rfl
theorem i_X9_works_111 : tab t_X9_works 111 = some (.ifCond .eq 20, 3, 131, 0, 0, 0, 0, 0, 0, 0, []) := rfl
theorem i_X9_works_114 : tab t_X9_works 114 = some (.aload_n 0, 1, 0, 0, 0, 0, 0, 0, 0, 0, []) := rfl
theorem i_X9_works_115 : tab t_X9_works 115 = some (.getfield 93, 3, 2, 0, 0, 9, 42, 0, 0, 0, []) := rfl
theorem i_X9_works_118 : tab t_X9_works 118 = some (.iload 7, 2, 7, 0, 0, 0, 0, 0, 0, 0, []) := rfl
theorem i_X9_works_120 : tab t_X9_works 120 = some (.iaload, 1, 0, 0, 0, 0, 0, 0, 0, 0, []) := rfl
theorem i_X9_works_121 : tab t_X9_works 121 = some (.aload_n 0, 1, 0, 0, 0, 0, 0, 0, 0, 0, []) := rfl
theorem i_X9_works_122 : tab t_X9_works 122 = some (.getfield 105, 3, 2, 0, 0, 9, 46, 0, 0, 0, []) := rfl
theorem i_X9_works_125 : tab t_X9_works 125 = some (.invokestatic 401, 3, 2, 0, 0, 0, 176, 0, 0, 0, []) := rfl
theorem i_X9_works_128 : tab t_X9_works 128 = some (.goto 6, 3, 134, 0, 0, 0, 0, 0, 0, 0, []) := rfl
theorem i_X9_works_131 : tab t_X9_works 131 = some (.ldc2_w 405, 3, 0, 0, 100000, 0, 0, 0, 0, 0, []) := rfl
theorem i_X9_works_134 : tab t_X9_works 134 = some (.lastore, 1, 0, 0, 0, 0, 0, 0, 0, 0, []) := rfl
theorem i_X9_works_135 : tab t_X9_works 135 = some (.iload 5, 2, 5, 0, 0, 0, 0, 0, 0, 0, []) := rfl
theorem i_X9_works_137 : tab t_X9_works 137 = some (.ifCond .eq 23, 3, 160, 0, 0, 0, 0, 0, 0, 0, []) := rfl
theorem i_X9_works_140 : tab t_X9_works 140 = some (.aload_n 0, 1, 0, 0, 0, 0, 0, 0, 0, 0, []) := rfl
theorem i_X9_works_141 : tab t_X9_works 141 = some (.getfield 90, 3, 2, 0, 0, 9, 41, 0, 0, 0, []) := rfl
theorem i_X9_works_144 : tab t_X9_works 144 = some (.iload 7, 2, 7, 0, 0, 0, 0, 0, 0, 0, []) := rfl
theorem i_X9_works_146 : tab t_X9_works 146 = some (.iaload, 1, 0, 0, 0, 0, 0, 0, 0, 0, []) := rfl
theorem i_X9_works_147 : tab t_X9_works 147 = some (.iconst 1, 1, 0, 1, 0, 0, 0, 0, 0, 0, []) := rfl
theorem i_X9_works_148 : tab t_X9_works 148 = some (.if_icmp .ne 8, 3, 156, 0, 0, 0, 0, 0, 0, 0, []) := rfl
theorem i_X9_works_151 : tab t_X9_works 151 = some (.iload 8, 2, 8, 0, 0, 0, 0, 0, 0, 0, []) := rfl
theorem i_X9_works_153 : tab t_X9_works 153 = some (.ifCond .ne 7, 3, 160, 0, 0, 0, 0, 0, 0, 0, []) := rfl
theorem i_X9_works_156 : tab t_X9_works 156 = some (.iconst 1, 1, 0, 1, 0, 0, 0, 0, 0, 0, []) := rfl
theorem i_X9_works_157 : tab t_X9_works 157 = some (.goto 4, 3, 161, 0, 0, 0, 0, 0, 0, 0, []) := rfl
theorem i_X9_works_160 : tab t_X9_works 160 = some (.iconst 0, 1, 0, 0, 0, 0, 0, 0, 0, 0, []) := rfl
theorem i_X9_works_161 : tab t_X9_works 161 = some (.istore 5, 2, 5, 0, 0, 0, 0, 0, 0, 0, []) := rfl
theorem i_X9_works_163 : tab t_X9_works 163 = some (.iinc 6 1, 3, 6, 1, 0, 0, 0, 0, 0, 0, []) := rfl
theorem i_X9_works_166 : tab t_X9_works 166 = some (.goto (-153), 3, 13, 0, 0, 0, 0, 0, 0, 0, []) := rfl
theorem i_X9_works_169 : tab t_X9_works 169 = some (.iload 5, 2, 5, 0, 0, 0, 0, 0, 0, 0, []) := rfl
theorem i_X9_works_171 : tab t_X9_works 171 = some (.ireturn, 1, 0, 0, 0, 1, 0, 0, 0, 0, []) := rfl
def t_X9_parts : List (Nat × rw_) := [(0, (.iconst 0, 1, 0, 0, 0, 0, 0, 0, 0, 0, [])), (1, (.istore 4, 2, 4, 0, 0, 0, 0, 0, 0, 0, [])), (3, (.iload 4, 2, 4, 0, 0, 0, 0, 0, 0, 0, [])), (5, (.aload_n 0, 1, 0, 0, 0, 0, 0, 0, 0, 0, [])), (6, (.getfield 87, 3, 2, 0, 0, 9, 40, 0, 0, 0, [])), (9, (.iload_n 3, 1, 3, 0, 0, 0, 0, 0, 0, 0, [])), (10, (.iaload, 1, 0, 0, 0, 0, 0, 0, 0, 0, [])), (11, (.if_icmp .ge 37, 3, 48, 0, 0, 0, 0, 0, 0, 0, [])), (14, (.aload_n 0, 1, 0, 0, 0, 0, 0, 0, 0, 0, [])), (15, (.getfield 119, 3, 2, 0, 0, 9, 50, 0, 0, 0, [])), (18, (.bipush 12, 2, 0, 12, 0, 0, 0, 0, 0, 0, [])), (20, (.iload_n 1, 1, 1, 0, 0, 0, 0, 0, 0, 0, [])), (21, (.imul, 1, 0, 0, 0, 0, 0, 0, 0, 0, [])), (22, (.iload 4, 2, 4, 0, 0, 0, 0, 0, 0, 0, [])), (24, (.iadd, 1, 0, 0, 0, 0, 0, 0, 0, 0, [])), (25, (.laload, 1, 0, 0, 0, 0, 0, 0, 0, 0, [])), (26, (.aload_n 0, 1, 0, 0, 0, 0, 0, 0, 0, 0, [])), (27, (.getfield 119, 3, 2, 0, 0, 9, 50, 0, 0, 0, [])), (30, (.bipush 12, 2, 0, 12, 0, 0, 0, 0, 0, 0, [])), (32, (.iload_n 2, 1, 2, 0, 0, 0, 0, 0, 0, 0, [])), (33, (.imul, 1, 0, 0, 0, 0, 0, 0, 0, 0, [])), (34, (.iload 4, 2, 4, 0, 0, 0, 0, 0, 0, 0, [])), (36, (.iadd, 1, 0, 0, 0, 0, 0, 0, 0, 0, [])), (37, (.laload, 1, 0, 0, 0, 0, 0, 0, 0, 0, [])), (38, (.lcmp, 1, 0, 0, 0, 0, 0, 0, 0, 0, [])), (39, (.ifCond .ne 9, 3, 48, 0, 0, 0, 0, 0, 0, 0, [])), (42, (.iinc 4 1, 3, 4, 1, 0, 0, 0, 0, 0, 0, [])), (45, (.goto (-42), 3, 3, 0, 0, 0, 0, 0, 0, 0, [])), (48, (.iload 4, 2, 4, 0, 0, 0, 0, 0, 0, 0, [])), (50, (.aload_n 0, 1, 0, 0, 0, 0, 0, 0, 0, 0, [])), (51, (.getfield 87, 3, 2, 0, 0, 9, 40, 0, 0, 0, [])), (54, (.iload_n 3, 1, 3, 0, 0, 0, 0, 0, 0, 0, [])), (55, (.iaload, 1, 0, 0, 0, 0, 0, 0, 0, 0, [])), (56, (.if_icmp .ne 7, 3, 63, 0, 0, 0, 0, 0, 0, 0, [])), (59, (.iconst (-1), 1, 0, -1, 0, 0, 0, 0, 0, 0, [])), (60, (.goto 5, 3, 65, 0, 0, 0, 0, 0, 0, 0, [])), (63, (.iload 4, 2, 4, 0, 0, 0, 0, 0, 0, 0, [])), (65, (.ireturn, 1, 0, 0, 0, 0, 0, 0, 0, 0, []))]
set_option maxRecDepth 100000 in
theorem ok_X9_parts : tb_ok ctX9 m_X9_parts t_X9_parts = true := by decide +kernel
theorem i_X9_parts_0 : tab t_X9_parts 0 = some (.iconst 0, 1, 0, 0, 0, 0, 0, 0, 0, 0, []) := rfl
theorem i_X9_parts_1 : tab t_X9_parts 1 = some (.istore 4, 2, 4, 0, 0, 0, 0, 0, 0, 0, []) := rfl
theorem i_X9_parts_3 : tab t_X9_parts 3 = some (.iload 4, 2, 4, 0, 0, 0, 0, 0, 0, 0, []) := rfl
theorem i_X9_parts_5 : tab t_X9_parts 5 = some (.aload_n 0, 1, 0, 0, 0, 0, 0, 0, 0, 0, []) := rfl
theorem i_X9_parts_6 : tab t_X9_parts 6 = some (.getfield 87, 3, 2, 0, 0, 9, 40, 0, 0, 0, []) := rfl
theorem i_X9_parts_9 : tab t_X9_parts 9 = some (.iload_n 3, 1, 3, 0, 0, 0, 0, 0, 0, 0, []) := rfl
theorem i_X9_parts_10 : tab t_X9_parts 10 = some (.iaload, 1, 0, 0, 0, 0, 0, 0, 0, 0, []) := rfl
theorem i_X9_parts_11 : tab t_X9_parts 11 = some (.if_icmp .ge 37, 3, 48, 0, 0, 0, 0, 0, 0, 0, []) := rfl
theorem i_X9_parts_14 : tab t_X9_parts 14 = some (.aload_n 0, 1, 0, 0, 0, 0, 0, 0, 0, 0, []) := rfl
theorem i_X9_parts_15 : tab t_X9_parts 15 = some (.getfield 119, 3, 2, 0, 0, 9, 50, 0, 0, 0, []) := rfl
theorem i_X9_parts_18 : tab t_X9_parts 18 = some (.bipush 12, 2, 0, 12, 0, 0, 0, 0, 0, 0, []) := rfl
theorem i_X9_parts_20 : tab t_X9_parts 20 = some (.iload_n 1, 1, 1, 0, 0, 0, 0, 0, 0, 0, []) := rfl
theorem i_X9_parts_21 : tab t_X9_parts 21 = some (.imul, 1, 0, 0, 0, 0, 0, 0, 0, 0, []) := rfl
theorem i_X9_parts_22 : tab t_X9_parts 22 = some (.iload 4, 2, 4, 0, 0, 0, 0, 0, 0, 0, []) := rfl
theorem i_X9_parts_24 : tab t_X9_parts 24 = some (.iadd, 1, 0, 0, 0, 0, 0, 0, 0, 0, []) := rfl
theorem i_X9_parts_25 : tab t_X9_parts 25 = some (.laload, 1, 0, 0, 0, 0, 0, 0, 0, 0, []) := rfl
theorem i_X9_parts_26 : tab t_X9_parts 26 = some (.aload_n 0, 1, 0, 0, 0, 0, 0, 0, 0, 0, []) := rfl
theorem i_X9_parts_27 : tab t_X9_parts 27 = some (.getfield 119, 3, 2, 0, 0, 9, 50, 0, 0, 0, []) := rfl
theorem i_X9_parts_30 : tab t_X9_parts 30 = some (.bipush 12, 2, 0, 12, 0, 0, 0, 0, 0, 0, []) := rfl
theorem i_X9_parts_32 : tab t_X9_parts 32 = some (.iload_n 2, 1, 2, 0, 0, 0, 0, 0, 0, 0, []) := rfl
theorem i_X9_parts_33 : tab t_X9_parts 33 = some (.imul, 1, 0, 0, 0, 0, 0, 0, 0, 0, []) := rfl
theorem i_X9_parts_34 : tab t_X9_parts 34 = some (.iload 4, 2, 4, 0, 0, 0, 0, 0, 0, 0, []) := rfl
theorem i_X9_parts_36 : tab t_X9_parts 36 = some (.iadd, 1, 0, 0, 0, 0, 0, 0, 0, 0, []) := rfl
theorem i_X9_parts_37 : tab t_X9_parts 37 = some (.laload, 1, 0, 0, 0, 0, 0, 0, 0, 0, []) := rfl
theorem i_X9_parts_38 : tab t_X9_parts 38 = some (.lcmp, 1, 0, 0, 0, 0, 0, 0, 0, 0, []) := rfl
theorem i_X9_parts_39 : tab t_X9_parts 39 = some (.ifCond .ne 9, 3, 48, 0, 0, 0, 0, 0, 0, 0, []) := rfl
theorem i_X9_parts_42 : tab t_X9_parts 42 = some (.iinc 4 1, 3, 4, 1, 0, 0, 0, 0, 0, 0, []) := rfl
theorem i_X9_parts_45 : tab t_X9_parts 45 = some (.goto (-42), 3, 3, 0, 0, 0, 0, 0, 0, 0, []) := rfl
theorem i_X9_parts_48 : tab t_X9_parts 48 = some (.iload 4, 2, 4, 0, 0, 0, 0, 0, 0, 0, []) := rfl
theorem i_X9_parts_50 : tab t_X9_parts 50 = some (.aload_n 0, 1, 0, 0, 0, 0, 0, 0, 0, 0, []) := rfl
theorem i_X9_parts_51 : tab t_X9_parts 51 = some (.getfield 87, 3, 2, 0, 0, 9, 40, 0, 0, 0, []) := rfl
theorem i_X9_parts_54 : tab t_X9_parts 54 = some (.iload_n 3, 1, 3, 0, 0, 0, 0, 0, 0, 0, []) := rfl
theorem i_X9_parts_55 : tab t_X9_parts 55 = some (.iaload, 1, 0, 0, 0, 0, 0, 0, 0, 0, []) := rfl
theorem i_X9_parts_56 : tab t_X9_parts 56 = some (.if_icmp .ne 7, 3, 63, 0, 0, 0, 0, 0, 0, 0, []) := rfl
theorem i_X9_parts_59 : tab t_X9_parts 59 = some (.iconst (-1), 1, 0, -1, 0, 0, 0, 0, 0, 0, []) := rfl
theorem i_X9_parts_60 : tab t_X9_parts 60 = some (.goto 5, 3, 65, 0, 0, 0, 0, 0, 0, 0, []) := rfl
theorem i_X9_parts_63 : tab t_X9_parts 63 = some (.iload 4, 2, 4, 0, 0, 0, 0, 0, 0, 0, []) := rfl
theorem i_X9_parts_65 : tab t_X9_parts 65 = some (.ireturn, 1, 0, 0, 0, 0, 0, 0, 0, 0, []) := rfl
def t_X9_isAhead : List (Nat × rw_) := [(0, (.aload_n 0, 1, 0, 0, 0, 0, 0, 0, 0, 0, [])), (1, (.iload_n 1, 1, 1, 0, 0, 0, 0, 0, 0, 0, [])), (2, (.iload_n 2, 1, 2, 0, 0, 0, 0, 0, 0, 0, [])), (3, (.iload_n 3, 1, 3, 0, 0, 0, 0, 0, 0, 0, [])), (4, (.invokevirtual 407, 3, 3, 0, 0, 0, 178, 10, 0, 0, [])), (7, (.istore 4, 2, 4, 0, 0, 0, 0, 0, 0, 0, [])), (9, (.iload 4, 2, 4, 0, 0, 0, 0, 0, 0, 0, [])), (11, (.iconst (-1), 1, 0, -1, 0, 0, 0, 0, 0, 0, [])), (12, (.if_icmp .ne 16, 3, 28, 0, 0, 0, 0, 0, 0, 0, [])), (15, (.iload_n 1, 1, 1, 0, 0, 0, 0, 0, 0, 0, [])), (16, (.iload_n 2, 1, 2, 0, 0, 0, 0, 0, 0, 0, [])), (17, (.if_icmp .ge 7, 3, 24, 0, 0, 0, 0, 0, 0, 0, [])), (20, (.iconst 1, 1, 0, 1, 0, 0, 0, 0, 0, 0, [])), (21, (.goto 40, 3, 61, 0, 0, 0, 0, 0, 0, 0, [])), (24, (.iconst 0, 1, 0, 0, 0, 0, 0, 0, 0, 0, [])), (25, (.goto 36, 3, 61, 0, 0, 0, 0, 0, 0, 0, [])), (28, (.aload_n 0, 1, 0, 0, 0, 0, 0, 0, 0, 0, [])), (29, (.getfield 119, 3, 2, 0, 0, 9, 50, 0, 0, 0, [])), (32, (.bipush 12, 2, 0, 12, 0, 0, 0, 0, 0, 0, [])), (34, (.iload_n 1, 1, 1, 0, 0, 0, 0, 0, 0, 0, [])), (35, (.imul, 1, 0, 0, 0, 0, 0, 0, 0, 0, [])), (36, (.iload 4, 2, 4, 0, 0, 0, 0, 0, 0, 0, [])), (38, (.iadd, 1, 0, 0, 0, 0, 0, 0, 0, 0, [])), (39, (.laload, 1, 0, 0, 0, 0, 0, 0, 0, 0, [])), (40, (.aload_n 0, 1, 0, 0, 0, 0, 0, 0, 0, 0, [])), (41, (.getfield 119, 3, 2, 0, 0, 9, 50, 0, 0, 0, [])), (44, (.bipush 12, 2, 0, 12, 0, 0, 0, 0, 0, 0, [])), (46, (.iload_n 2, 1, 2, 0, 0, 0, 0, 0, 0, 0, [])), (47, (.imul, 1, 0, 0, 0, 0, 0, 0, 0, 0, [])), (48, (.iload 4, 2, 4, 0, 0, 0, 0, 0, 0, 0, [])), (50, (.iadd, 1, 0, 0, 0, 0, 0, 0, 0, 0, [])), (51, (.laload, 1, 0, 0, 0, 0, 0, 0, 0, 0, [])), (52, (.lcmp, 1, 0, 0, 0, 0, 0, 0, 0, 0, [])), (53, (.ifCond .ge 7, 3, 60, 0, 0, 0, 0, 0, 0, 0, [])), (56, (.iconst 1, 1, 0, 1, 0, 0, 0, 0, 0, 0, [])), (57, (.goto 4, 3, 61, 0, 0, 0, 0, 0, 0, 0, [])), (60, (.iconst 0, 1, 0, 0, 0, 0, 0, 0, 0, 0, [])), (61, (.ireturn, 1, 0, 0, 0, 1, 0, 0, 0, 0, []))]
set_option maxRecDepth 100000 in
theorem ok_X9_isAhead : tb_ok ctX9 m_X9_isAhead t_X9_isAhead = true := by decide +kernel
theorem i_X9_isAhead_0 : tab t_X9_isAhead 0 = some (.aload_n 0, 1, 0, 0, 0, 0, 0, 0, 0, 0, []) := rfl
theorem i_X9_isAhead_1 : tab t_X9_isAhead 1 = some (.iload_n 1, 1, 1, 0, 0, 0, 0, 0, 0, 0, []) := rfl
theorem i_X9_isAhead_2 : tab t_X9_isAhead 2 = some (.iload_n 2, 1, 2, 0, 0, 0, 0, 0, 0, 0, []) := rfl
theorem i_X9_isAhead_3 : tab t_X9_isAhead 3 = some (.iload_n 3, 1, 3, 0, 0, 0, 0, 0, 0, 0, []) := rfl
theorem i_X9_isAhead_4 : tab t_X9_isAhead 4 = some (.invokevirtual 407, 3, 3, 0, 0, 0, 178, 10, 0, 0, []) := rfl
theorem i_X9_isAhead_7 : tab t_X9_isAhead 7 = some (.istore 4, 2, 4, 0, 0, 0, 0, 0, 0, 0, []) := rfl
theorem i_X9_isAhead_9 : tab t_X9_isAhead 9 = some (.iload 4, 2, 4, 0, 0, 0, 0, 0, 0, 0, []) := rfl
theorem i_X9_isAhead_11 : tab t_X9_isAhead 11 = some (.iconst (-1), 1, 0, -1, 0, 0, 0, 0, 0, 0, []) := rfl
theorem i_X9_isAhead_12 : tab t_X9_isAhead 12 = some (.if_icmp .ne 16, 3, 28, 0, 0, 0, 0, 0, 0, 0, []) := rfl
theorem i_X9_isAhead_15 : tab t_X9_isAhead 15 = some (.iload_n 1, 1, 1, 0, 0, 0, 0, 0, 0, 0, []) := rfl
theorem i_X9_isAhead_16 : tab t_X9_isAhead 16 = some (.iload_n 2, 1, 2, 0, 0, 0, 0, 0, 0, 0, []) := rfl
theorem i_X9_isAhead_17 : tab t_X9_isAhead 17 = some (.if_icmp .ge 7, 3, 24, 0, 0, 0, 0, 0, 0, 0, []) := rfl
theorem i_X9_isAhead_20 : tab t_X9_isAhead 20 = some (.iconst 1, 1, 0, 1, 0, 0, 0, 0, 0, 0, []) := rfl
theorem i_X9_isAhead_21 : tab t_X9_isAhead 21 = some (.goto 40, 3, 61, 0, 0, 0, 0, 0, 0, 0, []) := rfl
theorem i_X9_isAhead_24 : tab t_X9_isAhead 24 = some (.iconst 0, 1, 0, 0, 0, 0, 0, 0, 0, 0, []) := rfl
theorem i_X9_isAhead_25 : tab t_X9_isAhead 25 = some (.goto 36, 3, 61, 0, 0, 0, 0, 0, 0, 0, []) := rfl
theorem i_X9_isAhead_28 : tab t_X9_isAhead 28 = some (.aload_n 0, 1, 0, 0, 0, 0, 0, 0, 0, 0, []) := rfl
theorem i_X9_isAhead_29 : tab t_X9_isAhead 29 = some (.getfield 119, 3, 2, 0, 0, 9, 50, 0, 0, 0, []) := rfl
theorem i_X9_isAhead_32 : tab t_X9_isAhead 32 = some (.bipush 12, 2, 0, 12, 0, 0, 0, 0, 0, 0, []) := rfl
theorem i_X9_isAhead_34 : tab t_X9_isAhead 34 = some (.iload_n 1, 1, 1, 0, 0, 0, 0, 0, 0, 0, []) := rfl
theorem i_X9_isAhead_35 : tab t_X9_isAhead 35 = some (.imul, 1, 0, 0, 0, 0, 0, 0, 0, 0, []) := rfl
theorem i_X9_isAhead_36 : tab t_X9_isAhead 36 = some (.iload 4, 2, 4, 0, 0, 0, 0, 0, 0, 0, []) := rfl
theorem i_X9_isAhead_38 : tab t_X9_isAhead 38 = some (.iadd, 1, 0, 0, 0, 0, 0, 0, 0, 0, []) := rfl
theorem i_X9_isAhead_39 : tab t_X9_isAhead 39 = some (.laload, 1, 0, 0, 0, 0, 0, 0, 0, 0, []) := rfl
theorem i_X9_isAhead_40 : tab t_X9_isAhead 40 = some (.aload_n 0, 1, 0, 0, 0, 0, 0, 0, 0, 0, []) := rfl
theorem i_X9_isAhead_41 : tab t_X9_isAhead 41 = some (.getfield 119, 3, 2, 0, 0, 9, 50, 0, 0, 0, []) := rfl
theorem i_X9_isAhead_44 : tab t_X9_isAhead 44 = some (.bipush 12, 2, 0, 12, 0, 0, 0, 0, 0, 0, []) := rfl
theorem i_X9_isAhead_46 : tab t_X9_isAhead 46 = some (.iload_n 2, 1, 2, 0, 0, 0, 0, 0, 0, 0, []) := rfl
theorem i_X9_isAhead_47 : tab t_X9_isAhead 47 = some (.imul, 1, 0, 0, 0, 0, 0, 0, 0, 0, []) := rfl
theorem i_X9_isAhead_48 : tab t_X9_isAhead 48 = some (.iload 4, 2, 4, 0, 0, 0, 0, 0, 0, 0, []) := rfl
theorem i_X9_isAhead_50 : tab t_X9_isAhead 50 = some (.iadd, 1, 0, 0, 0, 0, 0, 0, 0, 0, []) := rfl
theorem i_X9_isAhead_51 : tab t_X9_isAhead 51 = some (.laload, 1, 0, 0, 0, 0, 0, 0, 0, 0, []) := rfl
theorem i_X9_isAhead_52 : tab t_X9_isAhead 52 = some (.lcmp, 1, 0, 0, 0, 0, 0, 0, 0, 0, []) := rfl
theorem i_X9_isAhead_53 : tab t_X9_isAhead 53 = some (.ifCond .ge 7, 3, 60, 0, 0, 0, 0, 0, 0, 0, []) := rfl
theorem i_X9_isAhead_56 : tab t_X9_isAhead 56 = some (.iconst 1, 1, 0, 1, 0, 0, 0, 0, 0, 0, []) := rfl
theorem i_X9_isAhead_57 : tab t_X9_isAhead 57 = some (.goto 4, 3, 61, 0, 0, 0, 0, 0, 0, 0, []) := rfl
theorem i_X9_isAhead_60 : tab t_X9_isAhead 60 = some (.iconst 0, 1, 0, 0, 0, 0, 0, 0, 0, 0, []) := rfl
theorem i_X9_isAhead_61 : tab t_X9_isAhead 61 = some (.ireturn, 1, 0, 0, 0, 1, 0, 0, 0, 0, []) := rfl
def t_X9_mayOf : List (Nat × rw_) := [(0, (.iconst 0, 1, 0, 0, 0, 0, 0, 0, 0, 0, [])), (1, (.istore_n 3, 1, 3, 0, 0, 0, 0, 0, 0, 0, [])), (2, (.iconst 0, 1, 0, 0, 0, 0, 0, 0, 0, 0, [])), (3, (.istore 4, 2, 4, 0, 0, 0, 0, 0, 0, 0, [])), (5, (.iload 4, 2, 4, 0, 0, 0, 0, 0, 0, 0, [])), (7, (.aload_n 0, 1, 0, 0, 0, 0, 0, 0, 0, 0, [])), (8, (.getfield 182, 3, 0, 0, 0, 9, 2, 0, 0, 0, [])), (11, (.if_icmp .ge 73, 3, 84, 0, 0, 0, 0, 0, 0, 0, [])), (14, (.aload_n 0, 1, 0, 0, 0, 0, 0, 0, 0, 0, [])), (15, (.getfield 26, 3, 2, 0, 0, 9, 12, 0, 0, 0, [])), (18, (.iload_n 1, 1, 1, 0, 0, 0, 0, 0, 0, 0, [])), (19, (.iaload, 1, 0, 0, 0, 0, 0, 0, 0, 0, [])), (20, (.iconst (-1), 1, 0, -1, 0, 0, 0, 0, 0, 0, [])), (21, (.if_icmp .eq 63, 3, 84, 0, 0, 0, 0, 0, 0, 0, [])), (24, (.iload_n 3, 1, 3, 0, 0, 0, 0, 0, 0, 0, [])), (25, (.aload_n 0, 1, 0, 0, 0, 0, 0, 0, 0, 0, [])), (26, (.aload_n 0, 1, 0, 0, 0, 0, 0, 0, 0, 0, [])), (27, (.getfield 44, 3, 2, 0, 0, 9, 18, 0, 0, 0, [])), (30, (.iload 4, 2, 4, 0, 0, 0, 0, 0, 0, 0, [])), (32, (.iaload, 1, 0, 0, 0, 0, 0, 0, 0, 0, [])), (33, (.iload_n 1, 1, 1, 0, 0, 0, 0, 0, 0, 0, [])), (34, (.invokevirtual 386, 3, 2, 0, 0, 0, 174, 10, 0, 0, [])), (37, (.iconst (-1), 1, 0, -1, 0, 0, 0, 0, 0, 0, [])), (38, (.if_icmp .eq 37, 3, 75, 0, 0, 0, 0, 0, 0, 0, [])), (41, (.aload_n 0, 1, 0, 0, 0, 0, 0, 0, 0, 0, [])), (42, (.getfield 112, 3, 2, 0, 0, 9, 48, 0, 0, 0, [])), (45, (.iload 4, 2, 4, 0, 0, 0, 0, 0, 0, 0, [])), (47, (.baload, 1, 0, 0, 0, 0, 0, 0, 0, 0, [])), (48, (.ifCond .ne 27, 3, 75, 0, 0, 0, 0, 0, 0, 0, [])), (51, (.aload_n 0, 1, 0, 0, 0, 0, 0, 0, 0, 0, [])), (52, (.iload 4, 2, 4, 0, 0, 0, 0, 0, 0, 0, [])), (54, (.iload_n 1, 1, 1, 0, 0, 0, 0, 0, 0, 0, [])), (55, (.iload_n 2, 1, 2, 0, 0, 0, 0, 0, 0, 0, [])), (56, (.aload_n 0, 1, 0, 0, 0, 0, 0, 0, 0, 0, [])), (57, (.getfield 26, 3, 2, 0, 0, 9, 12, 0, 0, 0, [])), (60, (.iload_n 1, 1, 1, 0, 0, 0, 0, 0, 0, 0, [])), (61, (.iaload, 1, 0, 0, 0, 0, 0, 0, 0, 0, [])), (62, (.invokevirtual 410, 3, 4, 0, 0, 0, 177, 10, 0, 0, [])), (65, (.ifCond .eq 10, 3, 75, 0, 0, 0, 0, 0, 0, 0, [])), (68, (.iconst 1, 1, 0, 1, 0, 0, 0, 0, 0, 0, [])), (69, (.iload 4, 2, 4, 0, 0, 0, 0, 0, 0, 0, [])), (71, (.ishl, 1, 0, 0, 0, 0, 0, 0, 0, 0, [])), (72, (.goto 4, 3, 76, 0, 0, 0, 0, 0, 0, 0, [])), (75, (.iconst 0, 1, 0, 0, 0, 0, 0, 0, 0, 0, [])), (76, (.ior, 1, 0, 0, 0, 0, 0, 0, 0, 0, [])), (77, (.istore_n 3, 1, 3, 0, 0, 0, 0, 0, 0, 0, [])), (78, (.iinc 4 1, 3, 4, 1, 0, 0, 0, 0, 0, 0, [])), (81, (.goto (-76), 3, 5, 0, 0, 0, 0, 0, 0, 0, [])), (84, (.iload_n 3, 1, 3, 0, 0, 0, 0, 0, 0, 0, [])), (85, (.ireturn, 1, 0, 0, 0, 0, 0, 0, 0, 0, []))]
set_option maxRecDepth 100000 in
theorem ok_X9_mayOf : tb_ok ctX9 m_X9_mayOf t_X9_mayOf = true := by decide +kernel
theorem i_X9_mayOf_0 : tab t_X9_mayOf 0 = some (.iconst 0, 1, 0, 0, 0, 0, 0, 0, 0, 0, []) := rfl
theorem i_X9_mayOf_1 : tab t_X9_mayOf 1 = some (.istore_n 3, 1, 3, 0, 0, 0, 0, 0, 0, 0, []) := rfl
theorem i_X9_mayOf_2 : tab t_X9_mayOf 2 = some (.iconst 0, 1, 0, 0, 0, 0, 0, 0, 0, 0, []) := rfl
theorem i_X9_mayOf_3 : tab t_X9_mayOf 3 = some (.istore 4, 2, 4, 0, 0, 0, 0, 0, 0, 0, []) := rfl
theorem i_X9_mayOf_5 : tab t_X9_mayOf 5 = some (.iload 4, 2, 4, 0, 0, 0, 0, 0, 0, 0, []) := rfl
theorem i_X9_mayOf_7 : tab t_X9_mayOf 7 = some (.aload_n 0, 1, 0, 0, 0, 0, 0, 0, 0, 0, []) := rfl
theorem i_X9_mayOf_8 : tab t_X9_mayOf 8 = some (.getfield 182, 3, 0, 0, 0, 9, 2, 0, 0, 0, []) := rfl
theorem i_X9_mayOf_11 : tab t_X9_mayOf 11 = some (.if_icmp .ge 73, 3, 84, 0, 0, 0, 0, 0, 0, 0, []) := rfl
theorem i_X9_mayOf_14 : tab t_X9_mayOf 14 = some (.aload_n 0, 1, 0, 0, 0, 0, 0, 0, 0, 0, []) := rfl
theorem i_X9_mayOf_15 : tab t_X9_mayOf 15 = some (.getfield 26, 3, 2, 0, 0, 9, 12, 0, 0, 0, []) := rfl
theorem i_X9_mayOf_18 : tab t_X9_mayOf 18 = some (.iload_n 1, 1, 1, 0, 0, 0, 0, 0, 0, 0, []) := rfl
theorem i_X9_mayOf_19 : tab t_X9_mayOf 19 = some (.iaload, 1, 0, 0, 0, 0, 0, 0, 0, 0, []) := rfl
theorem i_X9_mayOf_20 : tab t_X9_mayOf 20 = some (.iconst (-1), 1, 0, -1, 0, 0, 0, 0, 0, 0, []) := rfl
theorem i_X9_mayOf_21 : tab t_X9_mayOf 21 = some (.if_icmp .eq 63, 3, 84, 0, 0, 0, 0, 0, 0, 0, []) := rfl
theorem i_X9_mayOf_24 : tab t_X9_mayOf 24 = some (.iload_n 3, 1, 3, 0, 0, 0, 0, 0, 0, 0, []) := rfl
theorem i_X9_mayOf_25 : tab t_X9_mayOf 25 = some (.aload_n 0, 1, 0, 0, 0, 0, 0, 0, 0, 0, []) := rfl
theorem i_X9_mayOf_26 : tab t_X9_mayOf 26 = some (.aload_n 0, 1, 0, 0, 0, 0, 0, 0, 0, 0, []) := rfl
theorem i_X9_mayOf_27 : tab t_X9_mayOf 27 = some (.getfield 44, 3, 2, 0, 0, 9, 18, 0, 0, 0, []) := rfl
theorem i_X9_mayOf_30 : tab t_X9_mayOf 30 = some (.iload 4, 2, 4, 0, 0, 0, 0, 0, 0, 0, []) := rfl
theorem i_X9_mayOf_32 : tab t_X9_mayOf 32 = some (.iaload, 1, 0, 0, 0, 0, 0, 0, 0, 0, []) := rfl
theorem i_X9_mayOf_33 : tab t_X9_mayOf 33 = some (.iload_n 1, 1, 1, 0, 0, 0, 0, 0, 0, 0, []) := rfl
theorem i_X9_mayOf_34 : tab t_X9_mayOf 34 = some (.invokevirtual 386, 3, 2, 0, 0, 0, 174, 10, 0, 0, []) := rfl
theorem i_X9_mayOf_37 : tab t_X9_mayOf 37 = some (.iconst (-1), 1, 0, -1, 0, 0, 0, 0, 0, 0, []) := rfl
theorem i_X9_mayOf_38 : tab t_X9_mayOf 38 = some (.if_icmp .eq 37, 3, 75, 0, 0, 0, 0, 0, 0, 0, []) := rfl
theorem i_X9_mayOf_41 : tab t_X9_mayOf 41 = some (.aload_n 0, 1, 0, 0, 0, 0, 0, 0, 0, 0, []) := rfl
theorem i_X9_mayOf_42 : tab t_X9_mayOf 42 = some (.getfield 112, 3, 2, 0, 0, 9, 48, 0, 0, 0, []) := rfl
theorem i_X9_mayOf_45 : tab t_X9_mayOf 45 = some (.iload 4, 2, 4, 0, 0, 0, 0, 0, 0, 0, []) := rfl
theorem i_X9_mayOf_47 : tab t_X9_mayOf 47 = some (.baload, 1, 0, 0, 0, 0, 0, 0, 0, 0, []) := rfl
theorem i_X9_mayOf_48 : tab t_X9_mayOf 48 = some (.ifCond .ne 27, 3, 75, 0, 0, 0, 0, 0, 0, 0, []) := rfl
theorem i_X9_mayOf_51 : tab t_X9_mayOf 51 = some (.aload_n 0, 1, 0, 0, 0, 0, 0, 0, 0, 0, []) := rfl
theorem i_X9_mayOf_52 : tab t_X9_mayOf 52 = some (.iload 4, 2, 4, 0, 0, 0, 0, 0, 0, 0, []) := rfl
theorem i_X9_mayOf_54 : tab t_X9_mayOf 54 = some (.iload_n 1, 1, 1, 0, 0, 0, 0, 0, 0, 0, []) := rfl
theorem i_X9_mayOf_55 : tab t_X9_mayOf 55 = some (.iload_n 2, 1, 2, 0, 0, 0, 0, 0, 0, 0, []) := rfl
theorem i_X9_mayOf_56 : tab t_X9_mayOf 56 = some (.aload_n 0, 1, 0, 0, 0, 0, 0, 0, 0, 0, []) := rfl
theorem i_X9_mayOf_57 : tab t_X9_mayOf 57 = some (.getfield 26, 3, 2, 0, 0, 9, 12, 0, 0, 0, []) := rfl
theorem i_X9_mayOf_60 : tab t_X9_mayOf 60 = some (.iload_n 1, 1, 1, 0, 0, 0, 0, 0, 0, 0, []) := rfl
theorem i_X9_mayOf_61 : tab t_X9_mayOf 61 = some (.iaload, 1, 0, 0, 0, 0, 0, 0, 0, 0, []) := rfl
theorem i_X9_mayOf_62 : tab t_X9_mayOf 62 = some (.invokevirtual 410, 3, 4, 0, 0, 0, 177, 10, 0, 0, []) := rfl
theorem i_X9_mayOf_65 : tab t_X9_mayOf 65 = some (.ifCond .eq 10, 3, 75, 0, 0, 0, 0, 0, 0, 0, []) := rfl
theorem i_X9_mayOf_68 : tab t_X9_mayOf 68 = some (.iconst 1, 1, 0, 1, 0, 0, 0, 0, 0, 0, []) := rfl
theorem i_X9_mayOf_69 : tab t_X9_mayOf 69 = some (.iload 4, 2, 4, 0, 0, 0, 0, 0, 0, 0, []) := rfl
theorem i_X9_mayOf_71 : tab t_X9_mayOf 71 = some (.ishl, 1, 0, 0, 0, 0, 0, 0, 0, 0, []) := rfl
theorem i_X9_mayOf_72 : tab t_X9_mayOf 72 = some (.goto 4, 3, 76, 0, 0, 0, 0, 0, 0, 0, []) := rfl
theorem i_X9_mayOf_75 : tab t_X9_mayOf 75 = some (.iconst 0, 1, 0, 0, 0, 0, 0, 0, 0, 0, []) := rfl
theorem i_X9_mayOf_76 : tab t_X9_mayOf 76 = some (.ior, 1, 0, 0, 0, 0, 0, 0, 0, 0, []) := rfl
theorem i_X9_mayOf_77 : tab t_X9_mayOf 77 = some (.istore_n 3, 1, 3, 0, 0, 0, 0, 0, 0, 0, []) := rfl
theorem i_X9_mayOf_78 : tab t_X9_mayOf 78 = some (.iinc 4 1, 3, 4, 1, 0, 0, 0, 0, 0, 0, []) := rfl
theorem i_X9_mayOf_81 : tab t_X9_mayOf 81 = some (.goto (-76), 3, 5, 0, 0, 0, 0, 0, 0, 0, []) := rfl
theorem i_X9_mayOf_84 : tab t_X9_mayOf 84 = some (.iload_n 3, 1, 3, 0, 0, 0, 0, 0, 0, 0, []) := rfl
theorem i_X9_mayOf_85 : tab t_X9_mayOf 85 = some (.ireturn, 1, 0, 0, 0, 0, 0, 0, 0, 0, []) := rfl
def t_X9_firstOf : List (Nat × rw_) := [(0, (.iconst (-1), 1, 0, -1, 0, 0, 0, 0, 0, 0, [])), (1, (.istore_n 3, 1, 3, 0, 0, 0, 0, 0, 0, 0, [])), (2, (.iconst 0, 1, 0, 0, 0, 0, 0, 0, 0, 0, [])), (3, (.istore 4, 2, 4, 0, 0, 0, 0, 0, 0, 0, [])), (5, (.iload 4, 2, 4, 0, 0, 0, 0, 0, 0, 0, [])), (7, (.aload_n 0, 1, 0, 0, 0, 0, 0, 0, 0, 0, [])), (8, (.getfield 182, 3, 0, 0, 0, 9, 2, 0, 0, 0, [])), (11, (.if_icmp .ge 47, 3, 58, 0, 0, 0, 0, 0, 0, 0, [])), (14, (.iload_n 1, 1, 1, 0, 0, 0, 0, 0, 0, 0, [])), (15, (.iload 4, 2, 4, 0, 0, 0, 0, 0, 0, 0, [])), (17, (.ishr, 1, 0, 0, 0, 0, 0, 0, 0, 0, [])), (18, (.iconst 1, 1, 0, 1, 0, 0, 0, 0, 0, 0, [])), (19, (.iand, 1, 0, 0, 0, 0, 0, 0, 0, 0, [])), (20, (.iconst 1, 1, 0, 1, 0, 0, 0, 0, 0, 0, [])), (21, (.if_icmp .ne 29, 3, 50, 0, 0, 0, 0, 0, 0, 0, [])), (24, (.iload_n 3, 1, 3, 0, 0, 0, 0, 0, 0, 0, [])), (25, (.iconst (-1), 1, 0, -1, 0, 0, 0, 0, 0, 0, [])), (26, (.if_icmp .eq 19, 3, 45, 0, 0, 0, 0, 0, 0, 0, [])), (29, (.aload_n 0, 1, 0, 0, 0, 0, 0, 0, 0, 0, [])), (30, (.iload 4, 2, 4, 0, 0, 0, 0, 0, 0, 0, [])), (32, (.iload_n 3, 1, 3, 0, 0, 0, 0, 0, 0, 0, [])), (33, (.aload_n 0, 1, 0, 0, 0, 0, 0, 0, 0, 0, [])), (34, (.getfield 26, 3, 2, 0, 0, 9, 12, 0, 0, 0, [])), (37, (.iload_n 2, 1, 2, 0, 0, 0, 0, 0, 0, 0, [])), (38, (.iaload, 1, 0, 0, 0, 0, 0, 0, 0, 0, [])), (39, (.invokevirtual 414, 3, 3, 0, 0, 0, 179, 10, 0, 0, [])), (42, (.ifCond .eq 8, 3, 50, 0, 0, 0, 0, 0, 0, 0, [])), (45, (.iload 4, 2, 4, 0, 0, 0, 0, 0, 0, 0, [])), (47, (.goto 4, 3, 51, 0, 0, 0, 0, 0, 0, 0, [])), (50, (.iload_n 3, 1, 3, 0, 0, 0, 0, 0, 0, 0, [])), (51, (.istore_n 3, 1, 3, 0, 0, 0, 0, 0, 0, 0, [])), (52, (.iinc 4 1, 3, 4, 1, 0, 0, 0, 0, 0, 0, [])), (55, (.goto (-50), 3, 5, 0, 0, 0, 0, 0, 0, 0, [])), (58, (.iload_n 3, 1, 3, 0, 0, 0, 0, 0, 0, 0, [])), (59, (.ireturn, 1, 0, 0, 0, 0, 0, 0, 0, 0, []))]
set_option maxRecDepth 100000 in
theorem ok_X9_firstOf : tb_ok ctX9 m_X9_firstOf t_X9_firstOf = true := by decide +kernel
theorem i_X9_firstOf_0 : tab t_X9_firstOf 0 = some (.iconst (-1), 1, 0, -1, 0, 0, 0, 0, 0, 0, []) := rfl
theorem i_X9_firstOf_1 : tab t_X9_firstOf 1 = some (.istore_n 3, 1, 3, 0, 0, 0, 0, 0, 0, 0, []) := rfl
theorem i_X9_firstOf_2 : tab t_X9_firstOf 2 = some (.iconst 0, 1, 0, 0, 0, 0, 0, 0, 0, 0, []) := rfl
theorem i_X9_firstOf_3 : tab t_X9_firstOf 3 = some (.istore 4, 2, 4, 0, 0, 0, 0, 0, 0, 0, []) := rfl
theorem i_X9_firstOf_5 : tab t_X9_firstOf 5 = some (.iload 4, 2, 4, 0, 0, 0, 0, 0, 0, 0, []) := rfl
theorem i_X9_firstOf_7 : tab t_X9_firstOf 7 = some (.aload_n 0, 1, 0, 0, 0, 0, 0, 0, 0, 0, []) := rfl
theorem i_X9_firstOf_8 : tab t_X9_firstOf 8 = some (.getfield 182, 3, 0, 0, 0, 9, 2, 0, 0, 0, []) := rfl
theorem i_X9_firstOf_11 : tab t_X9_firstOf 11 = some (.if_icmp .ge 47, 3, 58, 0, 0, 0, 0, 0, 0, 0, []) := rfl
theorem i_X9_firstOf_14 : tab t_X9_firstOf 14 = some (.iload_n 1, 1, 1, 0, 0, 0, 0, 0, 0, 0, []) := rfl
theorem i_X9_firstOf_15 : tab t_X9_firstOf 15 = some (.iload 4, 2, 4, 0, 0, 0, 0, 0, 0, 0, []) := rfl
theorem i_X9_firstOf_17 : tab t_X9_firstOf 17 = some (.ishr, 1, 0, 0, 0, 0, 0, 0, 0, 0, []) := rfl
theorem i_X9_firstOf_18 : tab t_X9_firstOf 18 = some (.iconst 1, 1, 0, 1, 0, 0, 0, 0, 0, 0, []) := rfl
theorem i_X9_firstOf_19 : tab t_X9_firstOf 19 = some (.iand, 1, 0, 0, 0, 0, 0, 0, 0, 0, []) := rfl
theorem i_X9_firstOf_20 : tab t_X9_firstOf 20 = some (.iconst 1, 1, 0, 1, 0, 0, 0, 0, 0, 0, []) := rfl
theorem i_X9_firstOf_21 : tab t_X9_firstOf 21 = some (.if_icmp .ne 29, 3, 50, 0, 0, 0, 0, 0, 0, 0, []) := rfl
theorem i_X9_firstOf_24 : tab t_X9_firstOf 24 = some (.iload_n 3, 1, 3, 0, 0, 0, 0, 0, 0, 0, []) := rfl
theorem i_X9_firstOf_25 : tab t_X9_firstOf 25 = some (.iconst (-1), 1, 0, -1, 0, 0, 0, 0, 0, 0, []) := rfl
theorem i_X9_firstOf_26 : tab t_X9_firstOf 26 = some (.if_icmp .eq 19, 3, 45, 0, 0, 0, 0, 0, 0, 0, []) := rfl
theorem i_X9_firstOf_29 : tab t_X9_firstOf 29 = some (.aload_n 0, 1, 0, 0, 0, 0, 0, 0, 0, 0, []) := rfl
theorem i_X9_firstOf_30 : tab t_X9_firstOf 30 = some (.iload 4, 2, 4, 0, 0, 0, 0, 0, 0, 0, []) := rfl
theorem i_X9_firstOf_32 : tab t_X9_firstOf 32 = some (.iload_n 3, 1, 3, 0, 0, 0, 0, 0, 0, 0, []) := rfl
theorem i_X9_firstOf_33 : tab t_X9_firstOf 33 = some (.aload_n 0, 1, 0, 0, 0, 0, 0, 0, 0, 0, []) := rfl
theorem i_X9_firstOf_34 : tab t_X9_firstOf 34 = some (.getfield 26, 3, 2, 0, 0, 9, 12, 0, 0, 0, []) := rfl
theorem i_X9_firstOf_37 : tab t_X9_firstOf 37 = some (.iload_n 2, 1, 2, 0, 0, 0, 0, 0, 0, 0, []) := rfl
theorem i_X9_firstOf_38 : tab t_X9_firstOf 38 = some (.iaload, 1, 0, 0, 0, 0, 0, 0, 0, 0, []) := rfl
theorem i_X9_firstOf_39 : tab t_X9_firstOf 39 = some (.invokevirtual 414, 3, 3, 0, 0, 0, 179, 10, 0, 0, []) := rfl
theorem i_X9_firstOf_42 : tab t_X9_firstOf 42 = some (.ifCond .eq 8, 3, 50, 0, 0, 0, 0, 0, 0, 0, []) := rfl
theorem i_X9_firstOf_45 : tab t_X9_firstOf 45 = some (.iload 4, 2, 4, 0, 0, 0, 0, 0, 0, 0, []) := rfl
theorem i_X9_firstOf_47 : tab t_X9_firstOf 47 = some (.goto 4, 3, 51, 0, 0, 0, 0, 0, 0, 0, []) := rfl
theorem i_X9_firstOf_50 : tab t_X9_firstOf 50 = some (.iload_n 3, 1, 3, 0, 0, 0, 0, 0, 0, 0, []) := rfl
theorem i_X9_firstOf_51 : tab t_X9_firstOf 51 = some (.istore_n 3, 1, 3, 0, 0, 0, 0, 0, 0, 0, []) := rfl
theorem i_X9_firstOf_52 : tab t_X9_firstOf 52 = some (.iinc 4 1, 3, 4, 1, 0, 0, 0, 0, 0, 0, []) := rfl
theorem i_X9_firstOf_55 : tab t_X9_firstOf 55 = some (.goto (-50), 3, 5, 0, 0, 0, 0, 0, 0, 0, []) := rfl
theorem i_X9_firstOf_58 : tab t_X9_firstOf 58 = some (.iload_n 3, 1, 3, 0, 0, 0, 0, 0, 0, 0, []) := rfl
theorem i_X9_firstOf_59 : tab t_X9_firstOf 59 = some (.ireturn, 1, 0, 0, 0, 0, 0, 0, 0, 0, []) := rfl
def t_X9_chosen : List (Nat × rw_) := [(0, (.aload_n 0, 1, 0, 0, 0, 0, 0, 0, 0, 0, [])), (1, (.aload_n 0, 1, 0, 0, 0, 0, 0, 0, 0, 0, [])), (2, (.iload_n 1, 1, 1, 0, 0, 0, 0, 0, 0, 0, [])), (3, (.iload_n 2, 1, 2, 0, 0, 0, 0, 0, 0, 0, [])), (4, (.invokevirtual 417, 3, 2, 0, 0, 0, 180, 10, 0, 0, [])), (7, (.iload_n 1, 1, 1, 0, 0, 0, 0, 0, 0, 0, [])), (8, (.invokevirtual 420, 3, 2, 0, 0, 0, 181, 10, 0, 0, [])), (11, (.ireturn, 1, 0, 0, 0, 0, 0, 0, 0, 0, []))]
set_option maxRecDepth 100000 in
theorem ok_X9_chosen : tb_ok ctX9 m_X9_chosen t_X9_chosen = true := by decide +kernel
theorem i_X9_chosen_0 : tab t_X9_chosen 0 = some (.aload_n 0, 1, 0, 0, 0, 0, 0, 0, 0, 0, []) := rfl
theorem i_X9_chosen_1 : tab t_X9_chosen 1 = some (.aload_n 0, 1, 0, 0, 0, 0, 0, 0, 0, 0, []) := rfl
theorem i_X9_chosen_2 : tab t_X9_chosen 2 = some (.iload_n 1, 1, 1, 0, 0, 0, 0, 0, 0, 0, []) := rfl
theorem i_X9_chosen_3 : tab t_X9_chosen 3 = some (.iload_n 2, 1, 2, 0, 0, 0, 0, 0, 0, 0, []) := rfl
theorem i_X9_chosen_4 : tab t_X9_chosen 4 = some (.invokevirtual 417, 3, 2, 0, 0, 0, 180, 10, 0, 0, []) := rfl
theorem i_X9_chosen_7 : tab t_X9_chosen 7 = some (.iload_n 1, 1, 1, 0, 0, 0, 0, 0, 0, 0, []) := rfl
theorem i_X9_chosen_8 : tab t_X9_chosen 8 = some (.invokevirtual 420, 3, 2, 0, 0, 0, 181, 10, 0, 0, []) := rfl
theorem i_X9_chosen_11 : tab t_X9_chosen 11 = some (.ireturn, 1, 0, 0, 0, 0, 0, 0, 0, 0, []) := rfl
def t_X9_may : List (Nat × rw_) := [(0, (.aload_n 0, 1, 0, 0, 0, 0, 0, 0, 0, 0, [])), (1, (.iload_n 1, 1, 1, 0, 0, 0, 0, 0, 0, 0, [])), (2, (.invokevirtual 185, 3, 1, 0, 0, 0, 128, 10, 0, 0, [])), (5, (.ifCond .eq 10, 3, 15, 0, 0, 0, 0, 0, 0, 0, [])), (8, (.iload_n 2, 1, 2, 0, 0, 0, 0, 0, 0, 0, [])), (9, (.invokestatic 203, 3, 1, 0, 0, 0, 127, 0, 0, 0, [])), (12, (.ifCond .ne 5, 3, 17, 0, 0, 0, 0, 0, 0, 0, [])), (15, (.iconst (-1), 1, 0, -1, 0, 0, 0, 0, 0, 0, [])), (16, (.ireturn, 1, 0, 0, 0, 0, 0, 0, 0, 0, [])), (17, (.aload_n 0, 1, 0, 0, 0, 0, 0, 0, 0, 0, [])), (18, (.iload_n 2, 1, 2, 0, 0, 0, 0, 0, 0, 0, [])), (19, (.invokevirtual 423, 3, 1, 0, 0, 0, 172, 10, 0, 0, [])), (22, (.aload_n 0, 1, 0, 0, 0, 0, 0, 0, 0, 0, [])), (23, (.iload_n 1, 1, 1, 0, 0, 0, 0, 0, 0, 0, [])), (24, (.iload_n 2, 1, 2, 0, 0, 0, 0, 0, 0, 0, [])), (25, (.invokevirtual 417, 3, 2, 0, 0, 0, 180, 10, 0, 0, [])), (28, (.ireturn, 1, 0, 0, 0, 0, 0, 0, 0, 0, []))]
set_option maxRecDepth 100000 in
theorem ok_X9_may : tb_ok ctX9 m_X9_may t_X9_may = true := by decide +kernel
theorem i_X9_may_0 : tab t_X9_may 0 = some (.aload_n 0, 1, 0, 0, 0, 0, 0, 0, 0, 0, []) := rfl
theorem i_X9_may_1 : tab t_X9_may 1 = some (.iload_n 1, 1, 1, 0, 0, 0, 0, 0, 0, 0, []) := rfl
theorem i_X9_may_2 : tab t_X9_may 2 = some (.invokevirtual 185, 3, 1, 0, 0, 0, 128, 10, 0, 0, []) := rfl
theorem i_X9_may_5 : tab t_X9_may 5 = some (.ifCond .eq 10, 3, 15, 0, 0, 0, 0, 0, 0, 0, []) := rfl
theorem i_X9_may_8 : tab t_X9_may 8 = some (.iload_n 2, 1, 2, 0, 0, 0, 0, 0, 0, 0, []) := rfl
theorem i_X9_may_9 : tab t_X9_may 9 = some (.invokestatic 203, 3, 1, 0, 0, 0, 127, 0, 0, 0, []) := rfl
theorem i_X9_may_12 : tab t_X9_may 12 = some (.ifCond .ne 5, 3, 17, 0, 0, 0, 0, 0, 0, 0, []) := rfl
theorem i_X9_may_15 : tab t_X9_may 15 = some (.iconst (-1), 1, 0, -1, 0, 0, 0, 0, 0, 0, []) := rfl
theorem i_X9_may_16 : tab t_X9_may 16 = some (.ireturn, 1, 0, 0, 0, 0, 0, 0, 0, 0, []) := rfl
theorem i_X9_may_17 : tab t_X9_may 17 = some (.aload_n 0, 1, 0, 0, 0, 0, 0, 0, 0, 0, []) := rfl
theorem i_X9_may_18 : tab t_X9_may 18 = some (.iload_n 2, 1, 2, 0, 0, 0, 0, 0, 0, 0, []) := rfl
theorem i_X9_may_19 : tab t_X9_may 19 = some (.invokevirtual 423, 3, 1, 0, 0, 0, 172, 10, 0, 0, []) := rfl
theorem i_X9_may_22 : tab t_X9_may 22 = some (.aload_n 0, 1, 0, 0, 0, 0, 0, 0, 0, 0, []) := rfl
theorem i_X9_may_23 : tab t_X9_may 23 = some (.iload_n 1, 1, 1, 0, 0, 0, 0, 0, 0, 0, []) := rfl
theorem i_X9_may_24 : tab t_X9_may 24 = some (.iload_n 2, 1, 2, 0, 0, 0, 0, 0, 0, 0, []) := rfl
theorem i_X9_may_25 : tab t_X9_may 25 = some (.invokevirtual 417, 3, 2, 0, 0, 0, 180, 10, 0, 0, []) := rfl
theorem i_X9_may_28 : tab t_X9_may 28 = some (.ireturn, 1, 0, 0, 0, 0, 0, 0, 0, 0, []) := rfl
def t_X9_commanding : List (Nat × rw_) := [(0, (.aload_n 0, 1, 0, 0, 0, 0, 0, 0, 0, 0, [])), (1, (.iload_n 2, 1, 2, 0, 0, 0, 0, 0, 0, 0, [])), (2, (.invokevirtual 423, 3, 1, 0, 0, 0, 172, 10, 0, 0, [])), (5, (.aload_n 0, 1, 0, 0, 0, 0, 0, 0, 0, 0, [])), (6, (.iload_n 1, 1, 1, 0, 0, 0, 0, 0, 0, 0, [])), (7, (.iload_n 2, 1, 2, 0, 0, 0, 0, 0, 0, 0, [])), (8, (.invokevirtual 426, 3, 2, 0, 0, 0, 182, 10, 0, 0, [])), (11, (.ireturn, 1, 0, 0, 0, 0, 0, 0, 0, 0, []))]
set_option maxRecDepth 100000 in
theorem ok_X9_commanding : tb_ok ctX9 m_X9_commanding t_X9_commanding = true := by decide +kernel
theorem i_X9_commanding_0 : tab t_X9_commanding 0 = some (.aload_n 0, 1, 0, 0, 0, 0, 0, 0, 0, 0, []) := rfl
theorem i_X9_commanding_1 : tab t_X9_commanding 1 = some (.iload_n 2, 1, 2, 0, 0, 0, 0, 0, 0, 0, []) := rfl
theorem i_X9_commanding_2 : tab t_X9_commanding 2 = some (.invokevirtual 423, 3, 1, 0, 0, 0, 172, 10, 0, 0, []) := rfl
theorem i_X9_commanding_5 : tab t_X9_commanding 5 = some (.aload_n 0, 1, 0, 0, 0, 0, 0, 0, 0, 0, []) := rfl
theorem i_X9_commanding_6 : tab t_X9_commanding 6 = some (.iload_n 1, 1, 1, 0, 0, 0, 0, 0, 0, 0, []) := rfl
theorem i_X9_commanding_7 : tab t_X9_commanding 7 = some (.iload_n 2, 1, 2, 0, 0, 0, 0, 0, 0, 0, []) := rfl
theorem i_X9_commanding_8 : tab t_X9_commanding 8 = some (.invokevirtual 426, 3, 2, 0, 0, 0, 182, 10, 0, 0, []) := rfl
theorem i_X9_commanding_11 : tab t_X9_commanding 11 = some (.ireturn, 1, 0, 0, 0, 0, 0, 0, 0, 0, []) := rfl
def t_X9_commands : List (Nat × rw_) := [(0, (.aload_n 0, 1, 0, 0, 0, 0, 0, 0, 0, 0, [])), (1, (.iload_n 1, 1, 1, 0, 0, 0, 0, 0, 0, 0, [])), (2, (.invokevirtual 185, 3, 1, 0, 0, 0, 128, 10, 0, 0, [])), (5, (.ifCond .eq 19, 3, 24, 0, 0, 0, 0, 0, 0, 0, [])), (8, (.iload_n 2, 1, 2, 0, 0, 0, 0, 0, 0, 0, [])), (9, (.invokestatic 203, 3, 1, 0, 0, 0, 127, 0, 0, 0, [])), (12, (.ifCond .eq 12, 3, 24, 0, 0, 0, 0, 0, 0, 0, [])), (15, (.aload_n 0, 1, 0, 0, 0, 0, 0, 0, 0, 0, [])), (16, (.iload_n 1, 1, 1, 0, 0, 0, 0, 0, 0, 0, [])), (17, (.iload_n 2, 1, 2, 0, 0, 0, 0, 0, 0, 0, [])), (18, (.invokevirtual 429, 3, 2, 0, 0, 0, 184, 10, 0, 0, [])), (21, (.goto 5, 3, 26, 0, 0, 0, 0, 0, 0, 0, [])), (24, (.bipush (-2), 2, 0, -2, 0, 0, 0, 0, 0, 0, [])), (26, (.ireturn, 1, 0, 0, 0, 0, 0, 0, 0, 0, []))]
set_option maxRecDepth 100000 in
theorem ok_X9_commands : tb_ok ctX9 m_X9_commands t_X9_commands = true := by decide +kernel
theorem i_X9_commands_0 : tab t_X9_commands 0 = some (.aload_n 0, 1, 0, 0, 0, 0, 0, 0, 0, 0, []) := rfl
theorem i_X9_commands_1 : tab t_X9_commands 1 = some (.iload_n 1, 1, 1, 0, 0, 0, 0, 0, 0, 0, []) := rfl
theorem i_X9_commands_2 : tab t_X9_commands 2 = some (.invokevirtual 185, 3, 1, 0, 0, 0, 128, 10, 0, 0, []) := rfl
theorem i_X9_commands_5 : tab t_X9_commands 5 = some (.ifCond .eq 19, 3, 24, 0, 0, 0, 0, 0, 0, 0, []) := rfl
theorem i_X9_commands_8 : tab t_X9_commands 8 = some (.iload_n 2, 1, 2, 0, 0, 0, 0, 0, 0, 0, []) := rfl
theorem i_X9_commands_9 : tab t_X9_commands 9 = some (.invokestatic 203, 3, 1, 0, 0, 0, 127, 0, 0, 0, []) := rfl
theorem i_X9_commands_12 : tab t_X9_commands 12 = some (.ifCond .eq 12, 3, 24, 0, 0, 0, 0, 0, 0, 0, []) := rfl
theorem i_X9_commands_15 : tab t_X9_commands 15 = some (.aload_n 0, 1, 0, 0, 0, 0, 0, 0, 0, 0, []) := rfl
theorem i_X9_commands_16 : tab t_X9_commands 16 = some (.iload_n 1, 1, 1, 0, 0, 0, 0, 0, 0, 0, []) := rfl
theorem i_X9_commands_17 : tab t_X9_commands 17 = some (.iload_n 2, 1, 2, 0, 0, 0, 0, 0, 0, 0, []) := rfl
theorem i_X9_commands_18 : tab t_X9_commands 18 = some (.invokevirtual 429, 3, 2, 0, 0, 0, 184, 10, 0, 0, []) := rfl
theorem i_X9_commands_21 : tab t_X9_commands 21 = some (.goto 5, 3, 26, 0, 0, 0, 0, 0, 0, 0, []) := rfl
theorem i_X9_commands_24 : tab t_X9_commands 24 = some (.bipush (-2), 2, 0, -2, 0, 0, 0, 0, 0, 0, []) := rfl
theorem i_X9_commands_26 : tab t_X9_commands 26 = some (.ireturn, 1, 0, 0, 0, 0, 0, 0, 0, 0, []) := rfl
def t_X9_ahead : List (Nat × rw_) := [(0, (.aload_n 0, 1, 0, 0, 0, 0, 0, 0, 0, 0, [])), (1, (.iload_n 1, 1, 1, 0, 0, 0, 0, 0, 0, 0, [])), (2, (.invokevirtual 200, 3, 1, 0, 0, 0, 129, 10, 0, 0, [])), (5, (.ifCond .eq 53, 3, 58, 0, 0, 0, 0, 0, 0, 0, [])), (8, (.aload_n 0, 1, 0, 0, 0, 0, 0, 0, 0, 0, [])), (9, (.iload_n 2, 1, 2, 0, 0, 0, 0, 0, 0, 0, [])), (10, (.invokevirtual 200, 3, 1, 0, 0, 0, 129, 10, 0, 0, [])), (13, (.ifCond .eq 45, 3, 58, 0, 0, 0, 0, 0, 0, 0, [])), (16, (.iload_n 1, 1, 1, 0, 0, 0, 0, 0, 0, 0, [])), (17, (.iload_n 2, 1, 2, 0, 0, 0, 0, 0, 0, 0, [])), (18, (.if_icmp .eq 40, 3, 58, 0, 0, 0, 0, 0, 0, 0, [])), (21, (.aload_n 0, 1, 0, 0, 0, 0, 0, 0, 0, 0, [])), (22, (.iload_n 3, 1, 3, 0, 0, 0, 0, 0, 0, 0, [])), (23, (.invokevirtual 185, 3, 1, 0, 0, 0, 128, 10, 0, 0, [])), (26, (.ifCond .eq 32, 3, 58, 0, 0, 0, 0, 0, 0, 0, [])), (29, (.iload 4, 2, 4, 0, 0, 0, 0, 0, 0, 0, [])), (31, (.invokestatic 203, 3, 1, 0, 0, 0, 127, 0, 0, 0, [])), (34, (.ifCond .eq 24, 3, 58, 0, 0, 0, 0, 0, 0, 0, [])), (37, (.iload 5, 2, 5, 0, 0, 0, 0, 0, 0, 0, [])), (39, (.i2l, 1, 0, 0, 0, 0, 0, 0, 0, 0, [])), (40, (.lconst 0, 1, 0, 0, 0, 0, 0, 0, 0, 0, [])), (41, (.lconst 1, 1, 0, 0, 1, 0, 0, 0, 0, 0, [])), (42, (.invokestatic 175, 3, 3, 0, 0, 0, 126, 0, 0, 0, [])), (45, (.ifCond .eq 13, 3, 58, 0, 0, 0, 0, 0, 0, 0, [])), (48, (.aload_n 0, 1, 0, 0, 0, 0, 0, 0, 0, 0, [])), (49, (.getfield 26, 3, 2, 0, 0, 9, 12, 0, 0, 0, [])), (52, (.iload_n 3, 1, 3, 0, 0, 0, 0, 0, 0, 0, [])), (53, (.iaload, 1, 0, 0, 0, 0, 0, 0, 0, 0, [])), (54, (.iconst (-1), 1, 0, -1, 0, 0, 0, 0, 0, 0, [])), (55, (.if_icmp .ne 6, 3, 61, 0, 0, 0, 0, 0, 0, 0, [])), (58, (.bipush (-2), 2, 0, -2, 0, 0, 0, 0, 0, 0, [])), (60, (.ireturn, 1, 0, 0, 0, 0, 0, 0, 0, 0, [])), (61, (.aload_n 0, 1, 0, 0, 0, 0, 0, 0, 0, 0, [])), (62, (.iload 4, 2, 4, 0, 0, 0, 0, 0, 0, 0, [])), (64, (.invokevirtual 423, 3, 1, 0, 0, 0, 172, 10, 0, 0, [])), (67, (.aload_n 0, 1, 0, 0, 0, 0, 0, 0, 0, 0, [])), (68, (.iload_n 1, 1, 1, 0, 0, 0, 0, 0, 0, 0, [])), (69, (.iload_n 3, 1, 3, 0, 0, 0, 0, 0, 0, 0, [])), (70, (.iload 4, 2, 4, 0, 0, 0, 0, 0, 0, 0, [])), (72, (.aload_n 0, 1, 0, 0, 0, 0, 0, 0, 0, 0, [])), (73, (.getfield 26, 3, 2, 0, 0, 9, 12, 0, 0, 0, [])), (76, (.iload_n 3, 1, 3, 0, 0, 0, 0, 0, 0, 0, [])), (77, (.iaload, 1, 0, 0, 0, 0, 0, 0, 0, 0, [])), (78, (.invokevirtual 410, 3, 4, 0, 0, 0, 177, 10, 0, 0, [])), (81, (.pop, 1, 0, 0, 0, 0, 0, 0, 0, 0, [])), (82, (.aload_n 0, 1, 0, 0, 0, 0, 0, 0, 0, 0, [])), (83, (.iload_n 2, 1, 2, 0, 0, 0, 0, 0, 0, 0, [])), (84, (.iload_n 3, 1, 3, 0, 0, 0, 0, 0, 0, 0, [])), (85, (.iload 4, 2, 4, 0, 0, 0, 0, 0, 0, 0, [])), (87, (.aload_n 0, 1, 0, 0, 0, 0, 0, 0, 0, 0, [])), (88, (.getfield 26, 3, 2, 0, 0, 9, 12, 0, 0, 0, [])), (91, (.iload_n 3, 1, 3, 0, 0, 0, 0, 0, 0, 0, [])), (92, (.iaload, 1, 0, 0, 0, 0, 0, 0, 0, 0, [])), (93, (.invokevirtual 410, 3, 4, 0, 0, 0, 177, 10, 0, 0, [])), (96, (.pop, 1, 0, 0, 0, 0, 0, 0, 0, 0, [])), (97, (.iload 5, 2, 5, 0, 0, 0, 0, 0, 0, 0, [])), (99, (.iconst 1, 1, 0, 1, 0, 0, 0, 0, 0, 0, [])), (100, (.if_icmp .ne 18, 3, 118, 0, 0, 0, 0, 0, 0, 0, [])), (103, (.aload_n 0, 1, 0, 0, 0, 0, 0, 0, 0, 0, [])), (104, (.iload_n 1, 1, 1, 0, 0, 0, 0, 0, 0, 0, [])), (105, (.iload_n 2, 1, 2, 0, 0, 0, 0, 0, 0, 0, [])), (106, (.aload_n 0, 1, 0, 0, 0, 0, 0, 0, 0, 0, [])), (107, (.getfield 26, 3, 2, 0, 0, 9, 12, 0, 0, 0, [])), (110, (.iload_n 3, 1, 3, 0, 0, 0, 0, 0, 0, 0, [])), (111, (.iaload, 1, 0, 0, 0, 0, 0, 0, 0, 0, [])), (112, (.invokevirtual 407, 3, 3, 0, 0, 0, 178, 10, 0, 0, [])), (115, (.goto 23, 3, 138, 0, 0, 0, 0, 0, 0, 0, [])), (118, (.aload_n 0, 1, 0, 0, 0, 0, 0, 0, 0, 0, [])), (119, (.iload_n 1, 1, 1, 0, 0, 0, 0, 0, 0, 0, [])), (120, (.iload_n 2, 1, 2, 0, 0, 0, 0, 0, 0, 0, [])), (121, (.aload_n 0, 1, 0, 0, 0, 0, 0, 0, 0, 0, [])), (122, (.getfield 26, 3, 2, 0, 0, 9, 12, 0, 0, 0, [])), (125, (.iload_n 3, 1, 3, 0, 0, 0, 0, 0, 0, 0, [])), (126, (.iaload, 1, 0, 0, 0, 0, 0, 0, 0, 0, [])), (127, (.invokevirtual 414, 3, 3, 0, 0, 0, 179, 10, 0, 0, [])), (130, (.ifCond .eq 7, 3, 137, 0, 0, 0, 0, 0, 0, 0, [])), (133, (.iload_n 1, 1, 1, 0, 0, 0, 0, 0, 0, 0, [])), (134, (.goto 4, 3, 138, 0, 0, 0, 0, 0, 0, 0, [])), (137, (.iload_n 2, 1, 2, 0, 0, 0, 0, 0, 0, 0, [])), (138, (.ireturn, 1, 0, 0, 0, 0, 0, 0, 0, 0, []))]
set_option maxRecDepth 100000 in
theorem ok_X9_ahead : tb_ok ctX9 m_X9_ahead t_X9_ahead = true := by decide +kernel
theorem i_X9_ahead_0 : tab t_X9_ahead 0 = some (.aload_n 0, 1, 0, 0, 0, 0, 0, 0, 0, 0, []) := rfl
theorem i_X9_ahead_1 : tab t_X9_ahead 1 = some (.iload_n 1, 1, 1, 0, 0, 0, 0, 0, 0, 0, []) := rfl
theorem i_X9_ahead_2 : tab t_X9_ahead 2 = some (.invokevirtual 200, 3, 1, 0, 0, 0, 129, 10, 0, 0, []) := rfl
theorem i_X9_ahead_5 : tab t_X9_ahead 5 = some (.ifCond .eq 53, 3, 58, 0, 0, 0, 0, 0, 0, 0, []) := rfl
theorem i_X9_ahead_8 : tab t_X9_ahead 8 = some (.aload_n 0, 1, 0, 0, 0, 0, 0, 0, 0, 0, []) := rfl
theorem i_X9_ahead_9 : tab t_X9_ahead 9 = some (.iload_n 2, 1, 2, 0, 0, 0, 0, 0, 0, 0, []) := rfl
theorem i_X9_ahead_10 : tab t_X9_ahead 10 = some (.invokevirtual 200, 3, 1, 0, 0, 0, 129, 10, 0, 0, []) := rfl
theorem i_X9_ahead_13 : tab t_X9_ahead 13 = some (.ifCond .eq 45, 3, 58, 0, 0, 0, 0, 0, 0, 0, []) := rfl
theorem i_X9_ahead_16 : tab t_X9_ahead 16 = some (.iload_n 1, 1, 1, 0, 0, 0, 0, 0, 0, 0, []) := rfl
theorem i_X9_ahead_17 : tab t_X9_ahead 17 = some (.iload_n 2, 1, 2, 0, 0, 0, 0, 0, 0, 0, []) := rfl
theorem i_X9_ahead_18 : tab t_X9_ahead 18 = some (.if_icmp .eq 40, 3, 58, 0, 0, 0, 0, 0, 0, 0, []) := rfl
theorem i_X9_ahead_21 : tab t_X9_ahead 21 = some (.aload_n 0, 1, 0, 0, 0, 0, 0, 0, 0, 0, []) := rfl
theorem i_X9_ahead_22 : tab t_X9_ahead 22 = some (.iload_n 3, 1, 3, 0, 0, 0, 0, 0, 0, 0, []) := rfl
theorem i_X9_ahead_23 : tab t_X9_ahead 23 = some (.invokevirtual 185, 3, 1, 0, 0, 0, 128, 10, 0, 0, []) := rfl
theorem i_X9_ahead_26 : tab t_X9_ahead 26 = some (.ifCond .eq 32, 3, 58, 0, 0, 0, 0, 0, 0, 0, []) := rfl
theorem i_X9_ahead_29 : tab t_X9_ahead 29 = some (.iload 4, 2, 4, 0, 0, 0, 0, 0, 0, 0, []) := rfl
theorem i_X9_ahead_31 : tab t_X9_ahead 31 = some (.invokestatic 203, 3, 1, 0, 0, 0, 127, 0, 0, 0, []) := rfl
theorem i_X9_ahead_34 : tab t_X9_ahead 34 = some (.ifCond .eq 24, 3, 58, 0, 0, 0, 0, 0, 0, 0, []) := rfl
theorem i_X9_ahead_37 : tab t_X9_ahead 37 = some (.iload 5, 2, 5, 0, 0, 0, 0, 0, 0, 0, []) := rfl
theorem i_X9_ahead_39 : tab t_X9_ahead 39 = some (.i2l, 1, 0, 0, 0, 0, 0, 0, 0, 0, []) := rfl
theorem i_X9_ahead_40 : tab t_X9_ahead 40 = some (.lconst 0, 1, 0, 0, 0, 0, 0, 0, 0, 0, []) := rfl
theorem i_X9_ahead_41 : tab t_X9_ahead 41 = some (.lconst 1, 1, 0, 0, 1, 0, 0, 0, 0, 0, []) := rfl
theorem i_X9_ahead_42 : tab t_X9_ahead 42 = some (.invokestatic 175, 3, 3, 0, 0, 0, 126, 0, 0, 0, []) := rfl
theorem i_X9_ahead_45 : tab t_X9_ahead 45 = some (.ifCond .eq 13, 3, 58, 0, 0, 0, 0, 0, 0, 0, []) := rfl
theorem i_X9_ahead_48 : tab t_X9_ahead 48 = some (.aload_n 0, 1, 0, 0, 0, 0, 0, 0, 0, 0, []) := rfl
theorem i_X9_ahead_49 : tab t_X9_ahead 49 = some (.getfield 26, 3, 2, 0, 0, 9, 12, 0, 0, 0, []) := rfl
theorem i_X9_ahead_52 : tab t_X9_ahead 52 = some (.iload_n 3, 1, 3, 0, 0, 0, 0, 0, 0, 0, []) := rfl
theorem i_X9_ahead_53 : tab t_X9_ahead 53 = some (.iaload, 1, 0, 0, 0, 0, 0, 0, 0, 0, []) := rfl
theorem i_X9_ahead_54 : tab t_X9_ahead 54 = some (.iconst (-1), 1, 0, -1, 0, 0, 0, 0, 0, 0, []) := rfl
theorem i_X9_ahead_55 : tab t_X9_ahead 55 = some (.if_icmp .ne 6, 3, 61, 0, 0, 0, 0, 0, 0, 0, []) := rfl
theorem i_X9_ahead_58 : tab t_X9_ahead 58 = some (.bipush (-2), 2, 0, -2, 0, 0, 0, 0, 0, 0, []) := rfl
theorem i_X9_ahead_60 : tab t_X9_ahead 60 = some (.ireturn, 1, 0, 0, 0, 0, 0, 0, 0, 0, []) := rfl
theorem i_X9_ahead_61 : tab t_X9_ahead 61 = some (.aload_n 0, 1, 0, 0, 0, 0, 0, 0, 0, 0, []) := rfl
theorem i_X9_ahead_62 : tab t_X9_ahead 62 = some (.iload 4, 2, 4, 0, 0, 0, 0, 0, 0, 0, []) := rfl
theorem i_X9_ahead_64 : tab t_X9_ahead 64 = some (.invokevirtual 423, 3, 1, 0, 0, 0, 172, 10, 0, 0, []) := rfl
theorem i_X9_ahead_67 : tab t_X9_ahead 67 = some (.aload_n 0, 1, 0, 0, 0, 0, 0, 0, 0, 0, []) := rfl
theorem i_X9_ahead_68 : tab t_X9_ahead 68 = some (.iload_n 1, 1, 1, 0, 0, 0, 0, 0, 0, 0, []) := rfl
theorem i_X9_ahead_69 : tab t_X9_ahead 69 = some (.iload_n 3, 1, 3, 0, 0, 0, 0, 0, 0, 0, []) := rfl
theorem i_X9_ahead_70 : tab t_X9_ahead 70 = some (.iload 4, 2, 4, 0, 0, 0, 0, 0, 0, 0, []) := rfl
theorem i_X9_ahead_72 : tab t_X9_ahead 72 = some (.aload_n 0, 1, 0, 0, 0, 0, 0, 0, 0, 0, []) := rfl
theorem i_X9_ahead_73 : tab t_X9_ahead 73 = some (.getfield 26, 3, 2, 0, 0, 9, 12, 0, 0, 0, []) := rfl
theorem i_X9_ahead_76 : tab t_X9_ahead 76 = some (.iload_n 3, 1, 3, 0, 0, 0, 0, 0, 0, 0, []) := rfl
theorem i_X9_ahead_77 : tab t_X9_ahead 77 = some (.iaload, 1, 0, 0, 0, 0, 0, 0, 0, 0, []) := rfl
theorem i_X9_ahead_78 : tab t_X9_ahead 78 = some (.invokevirtual 410, 3, 4, 0, 0, 0, 177, 10, 0, 0, []) := rfl
theorem i_X9_ahead_81 : tab t_X9_ahead 81 = some (.pop, 1, 0, 0, 0, 0, 0, 0, 0, 0, []) := rfl
theorem i_X9_ahead_82 : tab t_X9_ahead 82 = some (.aload_n 0, 1, 0, 0, 0, 0, 0, 0, 0, 0, []) := rfl
theorem i_X9_ahead_83 : tab t_X9_ahead 83 = some (.iload_n 2, 1, 2, 0, 0, 0, 0, 0, 0, 0, []) := rfl
theorem i_X9_ahead_84 : tab t_X9_ahead 84 = some (.iload_n 3, 1, 3, 0, 0, 0, 0, 0, 0, 0, []) := rfl
theorem i_X9_ahead_85 : tab t_X9_ahead 85 = some (.iload 4, 2, 4, 0, 0, 0, 0, 0, 0, 0, []) := rfl
theorem i_X9_ahead_87 : tab t_X9_ahead 87 = some (.aload_n 0, 1, 0, 0, 0, 0, 0, 0, 0, 0, []) := rfl
theorem i_X9_ahead_88 : tab t_X9_ahead 88 = some (.getfield 26, 3, 2, 0, 0, 9, 12, 0, 0, 0, []) := rfl
theorem i_X9_ahead_91 : tab t_X9_ahead 91 = some (.iload_n 3, 1, 3, 0, 0, 0, 0, 0, 0, 0, []) := rfl
theorem i_X9_ahead_92 : tab t_X9_ahead 92 = some (.iaload, 1, 0, 0, 0, 0, 0, 0, 0, 0, []) := rfl
theorem i_X9_ahead_93 : tab t_X9_ahead 93 = some (.invokevirtual 410, 3, 4, 0, 0, 0, 177, 10, 0, 0, []) := rfl
theorem i_X9_ahead_96 : tab t_X9_ahead 96 = some (.pop, 1, 0, 0, 0, 0, 0, 0, 0, 0, []) := rfl
theorem i_X9_ahead_97 : tab t_X9_ahead 97 = some (.iload 5, 2, 5, 0, 0, 0, 0, 0, 0, 0, []) := rfl
theorem i_X9_ahead_99 : tab t_X9_ahead 99 = some (.iconst 1, 1, 0, 1, 0, 0, 0, 0, 0, 0, []) := rfl
theorem i_X9_ahead_100 : tab t_X9_ahead 100 = some (.if_icmp .ne 18, 3, 118, 0, 0, 0, 0, 0, 0, 0, []) := rfl
theorem i_X9_ahead_103 : tab t_X9_ahead 103 = some (.aload_n 0, 1, 0, 0, 0, 0, 0, 0, 0, 0, []) := rfl
theorem i_X9_ahead_104 : tab t_X9_ahead 104 = some (.iload_n 1, 1, 1, 0, 0, 0, 0, 0, 0, 0, []) := rfl
theorem i_X9_ahead_105 : tab t_X9_ahead 105 = some (.iload_n 2, 1, 2, 0, 0, 0, 0, 0, 0, 0, []) := rfl
theorem i_X9_ahead_106 : tab t_X9_ahead 106 = some (.aload_n 0, 1, 0, 0, 0, 0, 0, 0, 0, 0, []) := rfl
theorem i_X9_ahead_107 : tab t_X9_ahead 107 = some (.getfield 26, 3, 2, 0, 0, 9, 12, 0, 0, 0, []) := rfl
theorem i_X9_ahead_110 : tab t_X9_ahead 110 = some (.iload_n 3, 1, 3, 0, 0, 0, 0, 0, 0, 0, []) := rfl
theorem i_X9_ahead_111 : tab t_X9_ahead 111 = some (.iaload, 1, 0, 0, 0, 0, 0, 0, 0, 0, []) := rfl
theorem i_X9_ahead_112 : tab t_X9_ahead 112 = some (.invokevirtual 407, 3, 3, 0, 0, 0, 178, 10, 0, 0, []) := rfl
theorem i_X9_ahead_115 : tab t_X9_ahead 115 = some (.goto 23, 3, 138, 0, 0, 0, 0, 0, 0, 0, []) := rfl
theorem i_X9_ahead_118 : tab t_X9_ahead 118 = some (.aload_n 0, 1, 0, 0, 0, 0, 0, 0, 0, 0, []) := rfl
theorem i_X9_ahead_119 : tab t_X9_ahead 119 = some (.iload_n 1, 1, 1, 0, 0, 0, 0, 0, 0, 0, []) := rfl
theorem i_X9_ahead_120 : tab t_X9_ahead 120 = some (.iload_n 2, 1, 2, 0, 0, 0, 0, 0, 0, 0, []) := rfl
theorem i_X9_ahead_121 : tab t_X9_ahead 121 = some (.aload_n 0, 1, 0, 0, 0, 0, 0, 0, 0, 0, []) := rfl
theorem i_X9_ahead_122 : tab t_X9_ahead 122 = some (.getfield 26, 3, 2, 0, 0, 9, 12, 0, 0, 0, []) := rfl
theorem i_X9_ahead_125 : tab t_X9_ahead 125 = some (.iload_n 3, 1, 3, 0, 0, 0, 0, 0, 0, 0, []) := rfl
theorem i_X9_ahead_126 : tab t_X9_ahead 126 = some (.iaload, 1, 0, 0, 0, 0, 0, 0, 0, 0, []) := rfl
theorem i_X9_ahead_127 : tab t_X9_ahead 127 = some (.invokevirtual 414, 3, 3, 0, 0, 0, 179, 10, 0, 0, []) := rfl
theorem i_X9_ahead_130 : tab t_X9_ahead 130 = some (.ifCond .eq 7, 3, 137, 0, 0, 0, 0, 0, 0, 0, []) := rfl
theorem i_X9_ahead_133 : tab t_X9_ahead 133 = some (.iload_n 1, 1, 1, 0, 0, 0, 0, 0, 0, 0, []) := rfl
theorem i_X9_ahead_134 : tab t_X9_ahead 134 = some (.goto 4, 3, 138, 0, 0, 0, 0, 0, 0, 0, []) := rfl
theorem i_X9_ahead_137 : tab t_X9_ahead 137 = some (.iload_n 2, 1, 2, 0, 0, 0, 0, 0, 0, 0, []) := rfl
theorem i_X9_ahead_138 : tab t_X9_ahead 138 = some (.ireturn, 1, 0, 0, 0, 0, 0, 0, 0, 0, []) := rfl
def t_X9_message : List (Nat × rw_) := [(0, (.aload_n 0, 1, 0, 0, 0, 0, 0, 0, 0, 0, [])), (1, (.getfield 432, 3, 0, 0, 0, 9, 5, 0, 0, 0, [])), (4, (.sipush 200, 3, 0, 200, 0, 0, 0, 0, 0, 0, [])), (7, (.if_icmp .eq 57, 3, 64, 0, 0, 0, 0, 0, 0, 0, [])), (10, (.iload_n 1, 1, 1, 0, 0, 0, 0, 0, 0, 0, [])), (11, (.ifCond .eq 22, 3, 33, 0, 0, 0, 0, 0, 0, 0, [])), (14, (.iload_n 2, 1, 2, 0, 0, 0, 0, 0, 0, 0, [])), (15, (.i2l, 1, 0, 0, 0, 0, 0, 0, 0, 0, [])), (16, (.lconst 0, 1, 0, 0, 0, 0, 0, 0, 0, 0, [])), (17, (.aload_n 0, 1, 0, 0, 0, 0, 0, 0, 0, 0, [])), (18, (.getfield 223, 3, 0, 0, 0, 9, 4, 0, 0, 0, [])), (21, (.iconst 1, 1, 0, 1, 0, 0, 0, 0, 0, 0, [])), (22, (.isub, 1, 0, 0, 0, 0, 0, 0, 0, 0, [])), (23, (.i2l, 1, 0, 0, 0, 0, 0, 0, 0, 0, [])), (24, (.invokestatic 175, 3, 3, 0, 0, 0, 126, 0, 0, 0, [])), (27, (.ifCond .eq 37, 3, 64, 0, 0, 0, 0, 0, 0, 0, [])), (30, (.goto 11, 3, 41, 0, 0, 0, 0, 0, 0, 0, [])), (33, (.aload_n 0, 1, 0, 0, 0, 0, 0, 0, 0, 0, [])), (34, (.iload_n 2, 1, 2, 0, 0, 0, 0, 0, 0, 0, [])), (35, (.invokevirtual 200, 3, 1, 0, 0, 0, 129, 10, 0, 0, [])), (38, (.ifCond .eq 26, 3, 64, 0, 0, 0, 0, 0, 0, 0, [])), (41, (.aload_n 0, 1, 0, 0, 0, 0, 0, 0, 0, 0, [])), (42, (.iload_n 3, 1, 3, 0, 0, 0, 0, 0, 0, 0, [])), (43, (.invokevirtual 200, 3, 1, 0, 0, 0, 129, 10, 0, 0, [])), (46, (.ifCond .eq 18, 3, 64, 0, 0, 0, 0, 0, 0, 0, [])), (49, (.iload 4, 2, 4, 0, 0, 0, 0, 0, 0, 0, [])), (51, (.i2l, 1, 0, 0, 0, 0, 0, 0, 0, 0, [])), (52, (.ldc2_w 376, 3, 0, 0, -1, 0, 0, 0, 0, 0, [])), (55, (.ldc2_w 173, 3, 0, 0, 2879, 0, 0, 0, 0, 0, [])), (58, (.invokestatic 175, 3, 3, 0, 0, 0, 126, 0, 0, 0, [])), (61, (.ifCond .ne 5, 3, 66, 0, 0, 0, 0, 0, 0, 0, [])), (64, (.iconst (-1), 1, 0, -1, 0, 0, 0, 0, 0, 0, [])), (65, (.ireturn, 1, 0, 0, 0, 0, 0, 0, 0, 0, [])), (66, (.aload_n 0, 1, 0, 0, 0, 0, 0, 0, 0, 0, [])), (67, (.getfield 122, 3, 2, 0, 0, 9, 51, 0, 0, 0, [])), (70, (.aload_n 0, 1, 0, 0, 0, 0, 0, 0, 0, 0, [])), (71, (.getfield 432, 3, 0, 0, 0, 9, 5, 0, 0, 0, [])), (74, (.iload_n 1, 1, 1, 0, 0, 0, 0, 0, 0, 0, [])), (75, (.bastore, 1, 0, 0, 0, 2, 0, 0, 0, 0, [])), (76, (.aload_n 0, 1, 0, 0, 0, 0, 0, 0, 0, 0, [])), (77, (.getfield 125, 3, 2, 0, 0, 9, 52, 0, 0, 0, [])), (80, (.aload_n 0, 1, 0, 0, 0, 0, 0, 0, 0, 0, [])), (81, (.getfield 432, 3, 0, 0, 0, 9, 5, 0, 0, 0, [])), (84, (.iload_n 2, 1, 2, 0, 0, 0, 0, 0, 0, 0, [])), (85, (.iastore, 1, 0, 0, 0, 0, 0, 0, 0, 0, [])), (86, (.aload_n 0, 1, 0, 0, 0, 0, 0, 0, 0, 0, [])), (87, (.getfield 128, 3, 2, 0, 0, 9, 53, 0, 0, 0, [])), (90, (.aload_n 0, 1, 0, 0, 0, 0, 0, 0, 0, 0, [])), (91, (.getfield 432, 3, 0, 0, 0, 9, 5, 0, 0, 0, [])), (94, (.iload_n 3, 1, 3, 0, 0, 0, 0, 0, 0, 0, [])), (95, (.iastore, 1, 0, 0, 0, 0, 0, 0, 0, 0, [])), (96, (.aload_n 0, 1, 0, 0, 0, 0, 0, 0, 0, 0, [])), (97, (.getfield 131, 3, 2, 0, 0, 9, 54, 0, 0, 0, [])), (100, (.aload_n 0, 1, 0, 0, 0, 0, 0, 0, 0, 0, [])), (101, (.getfield 432, 3, 0, 0, 0, 9, 5, 0, 0, 0, [])), (104, (.iload 4, 2, 4, 0, 0, 0, 0, 0, 0, 0, [])), (106, (.iastore, 1, 0, 0, 0, 0, 0, 0, 0, 0, [])), (107, (.aload_n 0, 1, 0, 0, 0, 0, 0, 0, 0, 0, [])), (108, (.dup, 1, 0, 0, 0, 0, 0, 0, 0, 0, [])), (109, (.getfield 432, 3, 0, 0, 0, 9, 5, 0, 0, 0, [])), (112, (.iconst 1, 1, 0, 1, 0, 0, 0, 0, 0, 0, [])), (113, (.iadd, 1, 0, 0, 0, 0, 0, 0, 0, 0, [])), (114, (.putfield 432, 3, 0, 0, 0, 9, 5, 0, 0, 0, [])), (117, (.aload_n 0, 1, 0, 0, 0, 0, 0, 0, 0, 0, [])), (118, (.getfield 432, 3, 0, 0, 0, 9, 5, 0, 0, 0, [])), (121, (.iconst 1, 1, 0, 1, 0, 0, 0, 0, 0, 0, [])), (122, (.isub, 1, 0, 0, 0, 0, 0, 0, 0, 0, [])), (123, (.ireturn, 1, 0, 0, 0, 0, 0, 0, 0, 0, []))]
set_option maxRecDepth 100000 in
theorem ok_X9_message : tb_ok ctX9 m_X9_message t_X9_message = true := by decide +kernel
theorem i_X9_message_0 : tab t_X9_message 0 = some (.aload_n 0, 1, 0, 0, 0, 0, 0, 0, 0, 0, []) := rfl
theorem i_X9_message_1 : tab t_X9_message 1 = some (.getfield 432, 3, 0, 0, 0, 9, 5, 0, 0, 0, []) := rfl
theorem i_X9_message_4 : tab t_X9_message 4 = some (.sipush 200, 3, 0, 200, 0, 0, 0, 0, 0, 0, []) := rfl
theorem i_X9_message_7 : tab t_X9_message 7 = some (.if_icmp .eq 57, 3, 64, 0, 0, 0, 0, 0, 0, 0, []) := rfl
theorem i_X9_message_10 : tab t_X9_message 10 = some (.iload_n 1, 1, 1, 0, 0, 0, 0, 0, 0, 0, []) := rfl
theorem i_X9_message_11 : tab t_X9_message 11 = some (.ifCond .eq 22, 3, 33, 0, 0, 0, 0, 0, 0, 0, []) := rfl
theorem i_X9_message_14 : tab t_X9_message 14 = some (.iload_n 2, 1, 2, 0, 0, 0, 0, 0, 0, 0, []) := rfl
theorem i_X9_message_15 : tab t_X9_message 15 = some (.i2l, 1, 0, 0, 0, 0, 0, 0, 0, 0, []) := rfl
theorem i_X9_message_16 : tab t_X9_message 16 = some (.lconst 0, 1, 0, 0, 0, 0, 0, 0, 0, 0, []) := rfl
theorem i_X9_message_17 : tab t_X9_message 17 = some (.aload_n 0, 1, 0, 0, 0, 0, 0, 0, 0, 0, []) := rfl
theorem i_X9_message_18 : tab t_X9_message 18 = some (.getfield 223, 3, 0, 0, 0, 9, 4, 0, 0, 0, []) := rfl
theorem i_X9_message_21 : tab t_X9_message 21 = some (.iconst 1, 1, 0, 1, 0, 0, 0, 0, 0, 0, []) := rfl
theorem i_X9_message_22 : tab t_X9_message 22 = some (.isub, 1, 0, 0, 0, 0, 0, 0, 0, 0, []) := rfl
theorem i_X9_message_23 : tab t_X9_message 23 = some (.i2l, 1, 0, 0, 0, 0, 0, 0, 0, 0, []) := rfl
theorem i_X9_message_24 : tab t_X9_message 24 = some (.invokestatic 175, 3, 3, 0, 0, 0, 126, 0, 0, 0, []) := rfl
theorem i_X9_message_27 : tab t_X9_message 27 = some (.ifCond .eq 37, 3, 64, 0, 0, 0, 0, 0, 0, 0, []) := rfl
theorem i_X9_message_30 : tab t_X9_message 30 = some (.goto 11, 3, 41, 0, 0, 0, 0, 0, 0, 0, []) := rfl
theorem i_X9_message_33 : tab t_X9_message 33 = some (.aload_n 0, 1, 0, 0, 0, 0, 0, 0, 0, 0, []) := rfl
theorem i_X9_message_34 : tab t_X9_message 34 = some (.iload_n 2, 1, 2, 0, 0, 0, 0, 0, 0, 0, []) := rfl
theorem i_X9_message_35 : tab t_X9_message 35 = some (.invokevirtual 200, 3, 1, 0, 0, 0, 129, 10, 0, 0, []) := rfl
theorem i_X9_message_38 : tab t_X9_message 38 = some (.ifCond .eq 26, 3, 64, 0, 0, 0, 0, 0, 0, 0, []) := rfl
theorem i_X9_message_41 : tab t_X9_message 41 = some (.aload_n 0, 1, 0, 0, 0, 0, 0, 0, 0, 0, []) := rfl
theorem i_X9_message_42 : tab t_X9_message 42 = some (.iload_n 3, 1, 3, 0, 0, 0, 0, 0, 0, 0, []) := rfl
theorem i_X9_message_43 : tab t_X9_message 43 = some (.invokevirtual 200, 3, 1, 0, 0, 0, 129, 10, 0, 0, []) := rfl
theorem i_X9_message_46 : tab t_X9_message 46 = some (.ifCond .eq 18, 3, 64, 0, 0, 0, 0, 0, 0, 0, []) := rfl
theorem i_X9_message_49 : tab t_X9_message 49 = some (.iload 4, 2, 4, 0, 0, 0, 0, 0, 0, 0, []) := rfl
theorem i_X9_message_51 : tab t_X9_message 51 = some (.i2l, 1, 0, 0, 0, 0, 0, 0, 0, 0, []) := rfl
theorem i_X9_message_52 : tab t_X9_message 52 = some (.ldc2_w 376, 3, 0, 0, -1, 0, 0, 0, 0, 0, []) := rfl
theorem i_X9_message_55 : tab t_X9_message 55 = some (.ldc2_w 173, 3, 0, 0, 2879, 0, 0, 0, 0, 0, []) := rfl
theorem i_X9_message_58 : tab t_X9_message 58 = some (.invokestatic 175, 3, 3, 0, 0, 0, 126, 0, 0, 0, []) := rfl
theorem i_X9_message_61 : tab t_X9_message 61 = some (.ifCond .ne 5, 3, 66, 0, 0, 0, 0, 0, 0, 0, []) := rfl
theorem i_X9_message_64 : tab t_X9_message 64 = some (.iconst (-1), 1, 0, -1, 0, 0, 0, 0, 0, 0, []) := rfl
theorem i_X9_message_65 : tab t_X9_message 65 = some (.ireturn, 1, 0, 0, 0, 0, 0, 0, 0, 0, []) := rfl
theorem i_X9_message_66 : tab t_X9_message 66 = some (.aload_n 0, 1, 0, 0, 0, 0, 0, 0, 0, 0, []) := rfl
theorem i_X9_message_67 : tab t_X9_message 67 = some (.getfield 122, 3, 2, 0, 0, 9, 51, 0, 0, 0, []) := rfl
theorem i_X9_message_70 : tab t_X9_message 70 = some (.aload_n 0, 1, 0, 0, 0, 0, 0, 0, 0, 0, []) := rfl
theorem i_X9_message_71 : tab t_X9_message 71 = some (.getfield 432, 3, 0, 0, 0, 9, 5, 0, 0, 0, []) := rfl
theorem i_X9_message_74 : tab t_X9_message 74 = some (.iload_n 1, 1, 1, 0, 0, 0, 0, 0, 0, 0, []) := rfl
theorem i_X9_message_75 : tab t_X9_message 75 = some (.bastore, 1, 0, 0, 0, 2, 0, 0, 0, 0, []) := rfl
theorem i_X9_message_76 : tab t_X9_message 76 = some (.aload_n 0, 1, 0, 0, 0, 0, 0, 0, 0, 0, []) := rfl
theorem i_X9_message_77 : tab t_X9_message 77 = some (.getfield 125, 3, 2, 0, 0, 9, 52, 0, 0, 0, []) := rfl
theorem i_X9_message_80 : tab t_X9_message 80 = some (.aload_n 0, 1, 0, 0, 0, 0, 0, 0, 0, 0, []) := rfl
theorem i_X9_message_81 : tab t_X9_message 81 = some (.getfield 432, 3, 0, 0, 0, 9, 5, 0, 0, 0, []) := rfl
theorem i_X9_message_84 : tab t_X9_message 84 = some (.iload_n 2, 1, 2, 0, 0, 0, 0, 0, 0, 0, []) := rfl
theorem i_X9_message_85 : tab t_X9_message 85 = some (.iastore, 1, 0, 0, 0, 0, 0, 0, 0, 0, []) := rfl
theorem i_X9_message_86 : tab t_X9_message 86 = some (.aload_n 0, 1, 0, 0, 0, 0, 0, 0, 0, 0, []) := rfl
theorem i_X9_message_87 : tab t_X9_message 87 = some (.getfield 128, 3, 2, 0, 0, 9, 53, 0, 0, 0, []) := rfl
theorem i_X9_message_90 : tab t_X9_message 90 = some (.aload_n 0, 1, 0, 0, 0, 0, 0, 0, 0, 0, []) := rfl
theorem i_X9_message_91 : tab t_X9_message 91 = some (.getfield 432, 3, 0, 0, 0, 9, 5, 0, 0, 0, []) := rfl
theorem i_X9_message_94 : tab t_X9_message 94 = some (.iload_n 3, 1, 3, 0, 0, 0, 0, 0, 0, 0, []) := rfl
theorem i_X9_message_95 : tab t_X9_message 95 = some (.iastore, 1, 0, 0, 0, 0, 0, 0, 0, 0, []) := rfl
theorem i_X9_message_96 : tab t_X9_message 96 = some (.aload_n 0, 1, 0, 0, 0, 0, 0, 0, 0, 0, []) := rfl
theorem i_X9_message_97 : tab t_X9_message 97 = some (.getfield 131, 3, 2, 0, 0, 9, 54, 0, 0, 0, []) := rfl
theorem i_X9_message_100 : tab t_X9_message 100 = some (.aload_n 0, 1, 0, 0, 0, 0, 0, 0, 0, 0, []) := rfl
theorem i_X9_message_101 : tab t_X9_message 101 = some (.getfield 432, 3, 0, 0, 0, 9, 5, 0, 0, 0, []) := rfl
theorem i_X9_message_104 : tab t_X9_message 104 = some (.iload 4, 2, 4, 0, 0, 0, 0, 0, 0, 0, []) := rfl
theorem i_X9_message_106 : tab t_X9_message 106 = some (.iastore, 1, 0, 0, 0, 0, 0, 0, 0, 0, []) := rfl
theorem i_X9_message_107 : tab t_X9_message 107 = some (.aload_n 0, 1, 0, 0, 0, 0, 0, 0, 0, 0, []) := rfl
theorem i_X9_message_108 : tab t_X9_message 108 = some (.dup, 1, 0, 0, 0, 0, 0, 0, 0, 0, []) := rfl
theorem i_X9_message_109 : tab t_X9_message 109 = some (.getfield 432, 3, 0, 0, 0, 9, 5, 0, 0, 0, []) := rfl
theorem i_X9_message_112 : tab t_X9_message 112 = some (.iconst 1, 1, 0, 1, 0, 0, 0, 0, 0, 0, []) := rfl
theorem i_X9_message_113 : tab t_X9_message 113 = some (.iadd, 1, 0, 0, 0, 0, 0, 0, 0, 0, []) := rfl
theorem i_X9_message_114 : tab t_X9_message 114 = some (.putfield 432, 3, 0, 0, 0, 9, 5, 0, 0, 0, []) := rfl
theorem i_X9_message_117 : tab t_X9_message 117 = some (.aload_n 0, 1, 0, 0, 0, 0, 0, 0, 0, 0, []) := rfl
theorem i_X9_message_118 : tab t_X9_message 118 = some (.getfield 432, 3, 0, 0, 0, 9, 5, 0, 0, 0, []) := rfl
theorem i_X9_message_121 : tab t_X9_message 121 = some (.iconst 1, 1, 0, 1, 0, 0, 0, 0, 0, 0, []) := rfl
theorem i_X9_message_122 : tab t_X9_message 122 = some (.isub, 1, 0, 0, 0, 0, 0, 0, 0, 0, []) := rfl
theorem i_X9_message_123 : tab t_X9_message 123 = some (.ireturn, 1, 0, 0, 0, 0, 0, 0, 0, 0, []) := rfl
def t_X9_sight : List (Nat × rw_) := [(0, (.iload_n 1, 1, 1, 0, 0, 0, 0, 0, 0, 0, [])), (1, (.i2l, 1, 0, 0, 0, 0, 0, 0, 0, 0, [])), (2, (.lconst 0, 1, 0, 0, 0, 0, 0, 0, 0, 0, [])), (3, (.ldc2_w 191, 3, 0, 0, 99, 0, 0, 0, 0, 0, [])), (6, (.invokestatic 175, 3, 3, 0, 0, 0, 126, 0, 0, 0, [])), (9, (.ifCond .ne 5, 3, 14, 0, 0, 0, 0, 0, 0, 0, [])), (12, (.iconst (-1), 1, 0, -1, 0, 0, 0, 0, 0, 0, [])), (13, (.ireturn, 1, 0, 0, 0, 0, 0, 0, 0, 0, [])), (14, (.aload_n 0, 1, 0, 0, 0, 0, 0, 0, 0, 0, [])), (15, (.getfield 7, 3, 0, 0, 0, 9, 7, 0, 0, 0, [])), (18, (.istore_n 2, 1, 2, 0, 0, 0, 0, 0, 0, 0, [])), (19, (.aload_n 0, 1, 0, 0, 0, 0, 0, 0, 0, 0, [])), (20, (.iload_n 1, 1, 1, 0, 0, 0, 0, 0, 0, 0, [])), (21, (.putfield 7, 3, 0, 0, 0, 9, 7, 0, 0, 0, [])), (24, (.iload_n 2, 1, 2, 0, 0, 0, 0, 0, 0, 0, [])), (25, (.ireturn, 1, 0, 0, 0, 0, 0, 0, 0, 0, []))]
set_option maxRecDepth 100000 in
theorem ok_X9_sight : tb_ok ctX9 m_X9_sight t_X9_sight = true := by decide +kernel
theorem i_X9_sight_0 : tab t_X9_sight 0 = some (.iload_n 1, 1, 1, 0, 0, 0, 0, 0, 0, 0, []) := rfl
theorem i_X9_sight_1 : tab t_X9_sight 1 = some (.i2l, 1, 0, 0, 0, 0, 0, 0, 0, 0, []) := rfl
theorem i_X9_sight_2 : tab t_X9_sight 2 = some (.lconst 0, 1, 0, 0, 0, 0, 0, 0, 0, 0, []) := rfl
theorem i_X9_sight_3 : tab t_X9_sight 3 = some (.ldc2_w 191, 3, 0, 0, 99, 0, 0, 0, 0, 0, []) := rfl
theorem i_X9_sight_6 : tab t_X9_sight 6 = some (.invokestatic 175, 3, 3, 0, 0, 0, 126, 0, 0, 0, []) := rfl
theorem i_X9_sight_9 : tab t_X9_sight 9 = some (.ifCond .ne 5, 3, 14, 0, 0, 0, 0, 0, 0, 0, []) := rfl
theorem i_X9_sight_12 : tab t_X9_sight 12 = some (.iconst (-1), 1, 0, -1, 0, 0, 0, 0, 0, 0, []) := rfl
theorem i_X9_sight_13 : tab t_X9_sight 13 = some (.ireturn, 1, 0, 0, 0, 0, 0, 0, 0, 0, []) := rfl
theorem i_X9_sight_14 : tab t_X9_sight 14 = some (.aload_n 0, 1, 0, 0, 0, 0, 0, 0, 0, 0, []) := rfl
theorem i_X9_sight_15 : tab t_X9_sight 15 = some (.getfield 7, 3, 0, 0, 0, 9, 7, 0, 0, 0, []) := rfl
theorem i_X9_sight_18 : tab t_X9_sight 18 = some (.istore_n 2, 1, 2, 0, 0, 0, 0, 0, 0, 0, []) := rfl
theorem i_X9_sight_19 : tab t_X9_sight 19 = some (.aload_n 0, 1, 0, 0, 0, 0, 0, 0, 0, 0, []) := rfl
theorem i_X9_sight_20 : tab t_X9_sight 20 = some (.iload_n 1, 1, 1, 0, 0, 0, 0, 0, 0, 0, []) := rfl
theorem i_X9_sight_21 : tab t_X9_sight 21 = some (.putfield 7, 3, 0, 0, 0, 9, 7, 0, 0, 0, []) := rfl
theorem i_X9_sight_24 : tab t_X9_sight 24 = some (.iload_n 2, 1, 2, 0, 0, 0, 0, 0, 0, 0, []) := rfl
theorem i_X9_sight_25 : tab t_X9_sight 25 = some (.ireturn, 1, 0, 0, 0, 0, 0, 0, 0, 0, []) := rfl
def t_X9_hasHeard : List (Nat × rw_) := [(0, (.iconst 0, 1, 0, 0, 0, 0, 0, 0, 0, 0, [])), (1, (.istore 5, 2, 5, 0, 0, 0, 0, 0, 0, 0, [])), (3, (.iconst 0, 1, 0, 0, 0, 0, 0, 0, 0, 0, [])), (4, (.istore 6, 2, 6, 0, 0, 0, 0, 0, 0, 0, [])), (6, (.iload 6, 2, 6, 0, 0, 0, 0, 0, 0, 0, [])), (8, (.aload_n 0, 1, 0, 0, 0, 0, 0, 0, 0, 0, [])), (9, (.getfield 432, 3, 0, 0, 0, 9, 5, 0, 0, 0, [])), (12, (.if_icmp .ge 86, 3, 98, 0, 0, 0, 0, 0, 0, 0, [])), (15, (.iload 5, 2, 5, 0, 0, 0, 0, 0, 0, 0, [])), (17, (.ifCond .ne 68, 3, 85, 0, 0, 0, 0, 0, 0, 0, [])), (20, (.iload 6, 2, 6, 0, 0, 0, 0, 0, 0, 0, [])), (22, (.aload_n 0, 1, 0, 0, 0, 0, 0, 0, 0, 0, [])), (23, (.getfield 134, 3, 0, 0, 0, 9, 55, 0, 0, 0, [])), (26, (.if_icmp .eq 63, 3, 89, 0, 0, 0, 0, 0, 0, 0, [])), (29, (.aload_n 0, 1, 0, 0, 0, 0, 0, 0, 0, 0, [])), (30, (.getfield 122, 3, 2, 0, 0, 9, 51, 0, 0, 0, [])), (33, (.iload 6, 2, 6, 0, 0, 0, 0, 0, 0, 0, [])), (35, (.baload, 1, 0, 0, 0, 0, 0, 0, 0, 0, [])), (36, (.iload_n 2, 1, 2, 0, 0, 0, 0, 0, 0, 0, [])), (37, (.if_icmp .ne 52, 3, 89, 0, 0, 0, 0, 0, 0, 0, [])), (40, (.aload_n 0, 1, 0, 0, 0, 0, 0, 0, 0, 0, [])), (41, (.getfield 125, 3, 2, 0, 0, 9, 52, 0, 0, 0, [])), (44, (.iload 6, 2, 6, 0, 0, 0, 0, 0, 0, 0, [])), (46, (.iaload, 1, 0, 0, 0, 0, 0, 0, 0, 0, [])), (47, (.iload_n 3, 1, 3, 0, 0, 0, 0, 0, 0, 0, [])), (48, (.if_icmp .ne 41, 3, 89, 0, 0, 0, 0, 0, 0, 0, [])), (51, (.aload_n 0, 1, 0, 0, 0, 0, 0, 0, 0, 0, [])), (52, (.getfield 128, 3, 2, 0, 0, 9, 53, 0, 0, 0, [])), (55, (.iload 6, 2, 6, 0, 0, 0, 0, 0, 0, 0, [])), (57, (.iaload, 1, 0, 0, 0, 0, 0, 0, 0, 0, [])), (58, (.iload_n 1, 1, 1, 0, 0, 0, 0, 0, 0, 0, [])), (59, (.if_icmp .ne 30, 3, 89, 0, 0, 0, 0, 0, 0, 0, [])), (62, (.aload_n 0, 1, 0, 0, 0, 0, 0, 0, 0, 0, [])), (63, (.getfield 131, 3, 2, 0, 0, 9, 54, 0, 0, 0, [])), (66, (.iload 6, 2, 6, 0, 0, 0, 0, 0, 0, 0, [])), (68, (.iaload, 1, 0, 0, 0, 0, 0, 0, 0, 0, [])), (69, (.iconst (-1), 1, 0, -1, 0, 0, 0, 0, 0, 0, [])), (70, (.if_icmp .eq 19, 3, 89, 0, 0, 0, 0, 0, 0, 0, [])), (73, (.aload_n 0, 1, 0, 0, 0, 0, 0, 0, 0, 0, [])), (74, (.getfield 131, 3, 2, 0, 0, 9, 54, 0, 0, 0, [])), (77, (.iload 6, 2, 6, 0, 0, 0, 0, 0, 0, 0, [])), (79, (.iaload, 1, 0, 0, 0, 0, 0, 0, 0, 0, [])), (80, (.iload 4, 2, 4, 0, 0, 0, 0, 0, 0, 0, [])), (82, (.if_icmp .gt 7, 3, 89, 0, 0, 0, 0, 0, 0, 0, [])), (85, (.iconst 1, 1, 0, 1, 0, 0, 0, 0, 0, 0, [])), (86, (.goto 4, 3, 90, 0, 0, 0, 0, 0, 0, 0, [])), (89, (.iconst 0, 1, 0, 0, 0, 0, 0, 0, 0, 0, [])), (90, (.istore 5, 2, 5, 0, 0, 0, 0, 0, 0, 0, [])), (92, (.iinc 6 1, 3, 6, 1, 0, 0, 0, 0, 0, 0, [])), (95, (.goto (-89), 3, 6, 0, 0, 0, 0, 0, 0, 0, [])), (98, (.iload 5, 2, 5, 0, 0, 0, 0, 0, 0, 0, [])), (100, (.ireturn, 1, 0, 0, 0, 1, 0, 0, 0, 0, []))]
set_option maxRecDepth 100000 in
theorem ok_X9_hasHeard : tb_ok ctX9 m_X9_hasHeard t_X9_hasHeard = true := by decide +kernel
theorem i_X9_hasHeard_0 : tab t_X9_hasHeard 0 = some (.iconst 0, 1, 0, 0, 0, 0, 0, 0, 0, 0, []) := rfl
theorem i_X9_hasHeard_1 : tab t_X9_hasHeard 1 = some (.istore 5, 2, 5, 0, 0, 0, 0, 0, 0, 0, []) := rfl
theorem i_X9_hasHeard_3 : tab t_X9_hasHeard 3 = some (.iconst 0, 1, 0, 0, 0, 0, 0, 0, 0, 0, []) := rfl
theorem i_X9_hasHeard_4 : tab t_X9_hasHeard 4 = some (.istore 6, 2, 6, 0, 0, 0, 0, 0, 0, 0, []) := rfl
theorem i_X9_hasHeard_6 : tab t_X9_hasHeard 6 = some (.iload 6, 2, 6, 0, 0, 0, 0, 0, 0, 0, []) := rfl
theorem i_X9_hasHeard_8 : tab t_X9_hasHeard 8 = some (.aload_n 0, 1, 0, 0, 0, 0, 0, 0, 0, 0, []) := rfl
theorem i_X9_hasHeard_9 : tab t_X9_hasHeard 9 = some (.getfield 432, 3, 0, 0, 0, 9, 5, 0, 0, 0, []) := rfl
theorem i_X9_hasHeard_12 : tab t_X9_hasHeard 12 = some (.if_icmp .ge 86, 3, 98, 0, 0, 0, 0, 0, 0, 0, []) := rfl
theorem i_X9_hasHeard_15 : tab t_X9_hasHeard 15 = some (.iload 5, 2, 5, 0, 0, 0, 0, 0, 0, 0, []) := rfl
theorem i_X9_hasHeard_17 : tab t_X9_hasHeard 17 = some (.ifCond .ne 68, 3, 85, 0, 0, 0, 0, 0, 0, 0, []) := rfl
theorem i_X9_hasHeard_20 : tab t_X9_hasHeard 20 = some (.iload 6, 2, 6, 0, 0, 0, 0, 0, 0, 0, []) := rfl
theorem i_X9_hasHeard_22 : tab t_X9_hasHeard 22 = some (.aload_n 0, 1, 0, 0, 0, 0, 0, 0, 0, 0, []) := rfl
theorem i_X9_hasHeard_23 : tab t_X9_hasHeard 23 = some (.getfield 134, 3, 0, 0, 0, 9, 55, 0, 0, 0, []) := rfl
theorem i_X9_hasHeard_26 : tab t_X9_hasHeard 26 = some (.if_icmp .eq 63, 3, 89, 0, 0, 0, 0, 0, 0, 0, []) := rfl
theorem i_X9_hasHeard_29 : tab t_X9_hasHeard 29 = some (.aload_n 0, 1, 0, 0, 0, 0, 0, 0, 0, 0, []) := rfl
theorem i_X9_hasHeard_30 : tab t_X9_hasHeard 30 = some (.getfield 122, 3, 2, 0, 0, 9, 51, 0, 0, 0, []) := rfl
theorem i_X9_hasHeard_33 : tab t_X9_hasHeard 33 = some (.iload 6, 2, 6, 0, 0, 0, 0, 0, 0, 0, []) := rfl
theorem i_X9_hasHeard_35 : tab t_X9_hasHeard 35 = some (.baload, 1, 0, 0, 0, 0, 0, 0, 0, 0, []) := rfl
theorem i_X9_hasHeard_36 : tab t_X9_hasHeard 36 = some (.iload_n 2, 1, 2, 0, 0, 0, 0, 0, 0, 0, []) := rfl
theorem i_X9_hasHeard_37 : tab t_X9_hasHeard 37 = some (.if_icmp .ne 52, 3, 89, 0, 0, 0, 0, 0, 0, 0, []) := rfl
theorem i_X9_hasHeard_40 : tab t_X9_hasHeard 40 = some (.aload_n 0, 1, 0, 0, 0, 0, 0, 0, 0, 0, []) := rfl
theorem i_X9_hasHeard_41 : tab t_X9_hasHeard 41 = some (.getfield 125, 3, 2, 0, 0, 9, 52, 0, 0, 0, []) := rfl
theorem i_X9_hasHeard_44 : tab t_X9_hasHeard 44 = some (.iload 6, 2, 6, 0, 0, 0, 0, 0, 0, 0, []) := rfl
theorem i_X9_hasHeard_46 : tab t_X9_hasHeard 46 = some (.iaload, 1, 0, 0, 0, 0, 0, 0, 0, 0, []) := rfl
theorem i_X9_hasHeard_47 : tab t_X9_hasHeard 47 = some (.iload_n 3, 1, 3, 0, 0, 0, 0, 0, 0, 0, []) := rfl
theorem i_X9_hasHeard_48 : tab t_X9_hasHeard 48 = some (.if_icmp .ne 41, 3, 89, 0, 0, 0, 0, 0, 0, 0, []) := rfl
theorem i_X9_hasHeard_51 : tab t_X9_hasHeard 51 = some (.aload_n 0, 1, 0, 0, 0, 0, 0, 0, 0, 0, []) := rfl
theorem i_X9_hasHeard_52 : tab t_X9_hasHeard 52 = some (.getfield 128, 3, 2, 0, 0, 9, 53, 0, 0, 0, []) := rfl
theorem i_X9_hasHeard_55 : tab t_X9_hasHeard 55 = some (.iload 6, 2, 6, 0, 0, 0, 0, 0, 0, 0, []) := rfl
theorem i_X9_hasHeard_57 : tab t_X9_hasHeard 57 = some (.iaload, 1, 0, 0, 0, 0, 0, 0, 0, 0, []) := rfl
theorem i_X9_hasHeard_58 : tab t_X9_hasHeard 58 = some (.iload_n 1, 1, 1, 0, 0, 0, 0, 0, 0, 0, []) := rfl
theorem i_X9_hasHeard_59 : tab t_X9_hasHeard 59 = some (.if_icmp .ne 30, 3, 89, 0, 0, 0, 0, 0, 0, 0, []) := rfl
theorem i_X9_hasHeard_62 : tab t_X9_hasHeard 62 = some (.aload_n 0, 1, 0, 0, 0, 0, 0, 0, 0, 0, []) := rfl
theorem i_X9_hasHeard_63 : tab t_X9_hasHeard 63 = some (.getfield 131, 3, 2, 0, 0, 9, 54, 0, 0, 0, []) := rfl
theorem i_X9_hasHeard_66 : tab t_X9_hasHeard 66 = some (.iload 6, 2, 6, 0, 0, 0, 0, 0, 0, 0, []) := rfl
theorem i_X9_hasHeard_68 : tab t_X9_hasHeard 68 = some (.iaload, 1, 0, 0, 0, 0, 0, 0, 0, 0, []) := rfl
theorem i_X9_hasHeard_69 : tab t_X9_hasHeard 69 = some (.iconst (-1), 1, 0, -1, 0, 0, 0, 0, 0, 0, []) := rfl
theorem i_X9_hasHeard_70 : tab t_X9_hasHeard 70 = some (.if_icmp .eq 19, 3, 89, 0, 0, 0, 0, 0, 0, 0, []) := rfl
theorem i_X9_hasHeard_73 : tab t_X9_hasHeard 73 = some (.aload_n 0, 1, 0, 0, 0, 0, 0, 0, 0, 0, []) := rfl
theorem i_X9_hasHeard_74 : tab t_X9_hasHeard 74 = some (.getfield 131, 3, 2, 0, 0, 9, 54, 0, 0, 0, []) := rfl
theorem i_X9_hasHeard_77 : tab t_X9_hasHeard 77 = some (.iload 6, 2, 6, 0, 0, 0, 0, 0, 0, 0, []) := rfl
theorem i_X9_hasHeard_79 : tab t_X9_hasHeard 79 = some (.iaload, 1, 0, 0, 0, 0, 0, 0, 0, 0, []) := rfl
theorem i_X9_hasHeard_80 : tab t_X9_hasHeard 80 = some (.iload 4, 2, 4, 0, 0, 0, 0, 0, 0, 0, []) := rfl
theorem i_X9_hasHeard_82 : tab t_X9_hasHeard 82 = some (.if_icmp .gt 7, 3, 89, 0, 0, 0, 0, 0, 0, 0, []) := rfl
theorem i_X9_hasHeard_85 : tab t_X9_hasHeard 85 = some (.iconst 1, 1, 0, 1, 0, 0, 0, 0, 0, 0, []) := rfl
theorem i_X9_hasHeard_86 : tab t_X9_hasHeard 86 = some (.goto 4, 3, 90, 0, 0, 0, 0, 0, 0, 0, []) := rfl
theorem i_X9_hasHeard_89 : tab t_X9_hasHeard 89 = some (.iconst 0, 1, 0, 0, 0, 0, 0, 0, 0, 0, []) := rfl
theorem i_X9_hasHeard_90 : tab t_X9_hasHeard 90 = some (.istore 5, 2, 5, 0, 0, 0, 0, 0, 0, 0, []) := rfl
theorem i_X9_hasHeard_92 : tab t_X9_hasHeard 92 = some (.iinc 6 1, 3, 6, 1, 0, 0, 0, 0, 0, 0, []) := rfl
theorem i_X9_hasHeard_95 : tab t_X9_hasHeard 95 = some (.goto (-89), 3, 6, 0, 0, 0, 0, 0, 0, 0, []) := rfl
theorem i_X9_hasHeard_98 : tab t_X9_hasHeard 98 = some (.iload 5, 2, 5, 0, 0, 0, 0, 0, 0, 0, []) := rfl
theorem i_X9_hasHeard_100 : tab t_X9_hasHeard 100 = some (.ireturn, 1, 0, 0, 0, 1, 0, 0, 0, 0, []) := rfl
def t_X9_saw : List (Nat × rw_) := [(0, (.iload_n 1, 1, 1, 0, 0, 0, 0, 0, 0, 0, [])), (1, (.iload_n 2, 1, 2, 0, 0, 0, 0, 0, 0, 0, [])), (2, (.if_icmp .eq 41, 3, 43, 0, 0, 0, 0, 0, 0, 0, [])), (5, (.aload_n 0, 1, 0, 0, 0, 0, 0, 0, 0, 0, [])), (6, (.iload_n 1, 1, 1, 0, 0, 0, 0, 0, 0, 0, [])), (7, (.iload_n 3, 1, 3, 0, 0, 0, 0, 0, 0, 0, [])), (8, (.invokevirtual 210, 3, 2, 0, 0, 0, 134, 10, 0, 0, [])), (11, (.aload_n 0, 1, 0, 0, 0, 0, 0, 0, 0, 0, [])), (12, (.iload_n 2, 1, 2, 0, 0, 0, 0, 0, 0, 0, [])), (13, (.iload_n 3, 1, 3, 0, 0, 0, 0, 0, 0, 0, [])), (14, (.invokevirtual 210, 3, 2, 0, 0, 0, 134, 10, 0, 0, [])), (17, (.invokestatic 213, 3, 2, 0, 0, 0, 136, 0, 0, 0, [])), (20, (.aload_n 0, 1, 0, 0, 0, 0, 0, 0, 0, 0, [])), (21, (.iload_n 1, 1, 1, 0, 0, 0, 0, 0, 0, 0, [])), (22, (.iload_n 3, 1, 3, 0, 0, 0, 0, 0, 0, 0, [])), (23, (.invokevirtual 216, 3, 2, 0, 0, 0, 135, 10, 0, 0, [])), (26, (.aload_n 0, 1, 0, 0, 0, 0, 0, 0, 0, 0, [])), (27, (.iload_n 2, 1, 2, 0, 0, 0, 0, 0, 0, 0, [])), (28, (.iload_n 3, 1, 3, 0, 0, 0, 0, 0, 0, 0, [])), (29, (.invokevirtual 216, 3, 2, 0, 0, 0, 135, 10, 0, 0, [])), (32, (.invokestatic 213, 3, 2, 0, 0, 0, 136, 0, 0, 0, [])), (35, (.iadd, 1, 0, 0, 0, 0, 0, 0, 0, 0, [])), (36, (.aload_n 0, 1, 0, 0, 0, 0, 0, 0, 0, 0, [])), (37, (.getfield 7, 3, 0, 0, 0, 9, 7, 0, 0, 0, [])), (40, (.if_icmp .gt 7, 3, 47, 0, 0, 0, 0, 0, 0, 0, [])), (43, (.iconst 1, 1, 0, 1, 0, 0, 0, 0, 0, 0, [])), (44, (.goto 4, 3, 48, 0, 0, 0, 0, 0, 0, 0, [])), (47, (.iconst 0, 1, 0, 0, 0, 0, 0, 0, 0, 0, [])), (48, (.ireturn, 1, 0, 0, 0, 1, 0, 0, 0, 0, []))]
set_option maxRecDepth 100000 in
theorem ok_X9_saw : tb_ok ctX9 m_X9_saw t_X9_saw = true := by decide +kernel
theorem i_X9_saw_0 : tab t_X9_saw 0 = some (.iload_n 1, 1, 1, 0, 0, 0, 0, 0, 0, 0, []) := rfl
theorem i_X9_saw_1 : tab t_X9_saw 1 = some (.iload_n 2, 1, 2, 0, 0, 0, 0, 0, 0, 0, []) := rfl
theorem i_X9_saw_2 : tab t_X9_saw 2 = some (.if_icmp .eq 41, 3, 43, 0, 0, 0, 0, 0, 0, 0, []) := rfl
theorem i_X9_saw_5 : tab t_X9_saw 5 = some (.aload_n 0, 1, 0, 0, 0, 0, 0, 0, 0, 0, []) := rfl
theorem i_X9_saw_6 : tab t_X9_saw 6 = some (.iload_n 1, 1, 1, 0, 0, 0, 0, 0, 0, 0, []) := rfl
theorem i_X9_saw_7 : tab t_X9_saw 7 = some (.iload_n 3, 1, 3, 0, 0, 0, 0, 0, 0, 0, []) := rfl
theorem i_X9_saw_8 : tab t_X9_saw 8 = some (.invokevirtual 210, 3, 2, 0, 0, 0, 134, 10, 0, 0, []) := rfl
theorem i_X9_saw_11 : tab t_X9_saw 11 = some (.aload_n 0, 1, 0, 0, 0, 0, 0, 0, 0, 0, []) := rfl
theorem i_X9_saw_12 : tab t_X9_saw 12 = some (.iload_n 2, 1, 2, 0, 0, 0, 0, 0, 0, 0, []) := rfl
theorem i_X9_saw_13 : tab t_X9_saw 13 = some (.iload_n 3, 1, 3, 0, 0, 0, 0, 0, 0, 0, []) := rfl
theorem i_X9_saw_14 : tab t_X9_saw 14 = some (.invokevirtual 210, 3, 2, 0, 0, 0, 134, 10, 0, 0, []) := rfl
theorem i_X9_saw_17 : tab t_X9_saw 17 = some (.invokestatic 213, 3, 2, 0, 0, 0, 136, 0, 0, 0, []) := rfl
theorem i_X9_saw_20 : tab t_X9_saw 20 = some (.aload_n 0, 1, 0, 0, 0, 0, 0, 0, 0, 0, []) := rfl
theorem i_X9_saw_21 : tab t_X9_saw 21 = some (.iload_n 1, 1, 1, 0, 0, 0, 0, 0, 0, 0, []) := rfl
theorem i_X9_saw_22 : tab t_X9_saw 22 = some (.iload_n 3, 1, 3, 0, 0, 0, 0, 0, 0, 0, []) := rfl
theorem i_X9_saw_23 : tab t_X9_saw 23 = some (.invokevirtual 216, 3, 2, 0, 0, 0, 135, 10, 0, 0, []) := rfl
theorem i_X9_saw_26 : tab t_X9_saw 26 = some (.aload_n 0, 1, 0, 0, 0, 0, 0, 0, 0, 0, []) := rfl
theorem i_X9_saw_27 : tab t_X9_saw 27 = some (.iload_n 2, 1, 2, 0, 0, 0, 0, 0, 0, 0, []) := rfl
theorem i_X9_saw_28 : tab t_X9_saw 28 = some (.iload_n 3, 1, 3, 0, 0, 0, 0, 0, 0, 0, []) := rfl
theorem i_X9_saw_29 : tab t_X9_saw 29 = some (.invokevirtual 216, 3, 2, 0, 0, 0, 135, 10, 0, 0, []) := rfl
theorem i_X9_saw_32 : tab t_X9_saw 32 = some (.invokestatic 213, 3, 2, 0, 0, 0, 136, 0, 0, 0, []) := rfl
theorem i_X9_saw_35 : tab t_X9_saw 35 = some (.iadd, 1, 0, 0, 0, 0, 0, 0, 0, 0, []) := rfl
theorem i_X9_saw_36 : tab t_X9_saw 36 = some (.aload_n 0, 1, 0, 0, 0, 0, 0, 0, 0, 0, []) := rfl
theorem i_X9_saw_37 : tab t_X9_saw 37 = some (.getfield 7, 3, 0, 0, 0, 9, 7, 0, 0, 0, []) := rfl
theorem i_X9_saw_40 : tab t_X9_saw 40 = some (.if_icmp .gt 7, 3, 47, 0, 0, 0, 0, 0, 0, 0, []) := rfl
theorem i_X9_saw_43 : tab t_X9_saw 43 = some (.iconst 1, 1, 0, 1, 0, 0, 0, 0, 0, 0, []) := rfl
theorem i_X9_saw_44 : tab t_X9_saw 44 = some (.goto 4, 3, 48, 0, 0, 0, 0, 0, 0, 0, []) := rfl
theorem i_X9_saw_47 : tab t_X9_saw 47 = some (.iconst 0, 1, 0, 0, 0, 0, 0, 0, 0, 0, []) := rfl
theorem i_X9_saw_48 : tab t_X9_saw 48 = some (.ireturn, 1, 0, 0, 0, 1, 0, 0, 0, 0, []) := rfl
def t_X9_hasFallen : List (Nat × rw_) := [(0, (.aload_n 0, 1, 0, 0, 0, 0, 0, 0, 0, 0, [])), (1, (.getfield 50, 3, 2, 0, 0, 9, 20, 0, 0, 0, [])), (4, (.iload_n 1, 1, 1, 0, 0, 0, 0, 0, 0, 0, [])), (5, (.iaload, 1, 0, 0, 0, 0, 0, 0, 0, 0, [])), (6, (.iconst (-1), 1, 0, -1, 0, 0, 0, 0, 0, 0, [])), (7, (.if_icmp .eq 17, 3, 24, 0, 0, 0, 0, 0, 0, 0, [])), (10, (.aload_n 0, 1, 0, 0, 0, 0, 0, 0, 0, 0, [])), (11, (.getfield 50, 3, 2, 0, 0, 9, 20, 0, 0, 0, [])), (14, (.iload_n 1, 1, 1, 0, 0, 0, 0, 0, 0, 0, [])), (15, (.iaload, 1, 0, 0, 0, 0, 0, 0, 0, 0, [])), (16, (.iload_n 2, 1, 2, 0, 0, 0, 0, 0, 0, 0, [])), (17, (.if_icmp .gt 7, 3, 24, 0, 0, 0, 0, 0, 0, 0, [])), (20, (.iconst 1, 1, 0, 1, 0, 0, 0, 0, 0, 0, [])), (21, (.goto 4, 3, 25, 0, 0, 0, 0, 0, 0, 0, [])), (24, (.iconst 0, 1, 0, 0, 0, 0, 0, 0, 0, 0, [])), (25, (.ireturn, 1, 0, 0, 0, 1, 0, 0, 0, 0, []))]
set_option maxRecDepth 100000 in
theorem ok_X9_hasFallen : tb_ok ctX9 m_X9_hasFallen t_X9_hasFallen = true := by decide +kernel
theorem i_X9_hasFallen_0 : tab t_X9_hasFallen 0 = some (.aload_n 0, 1, 0, 0, 0, 0, 0, 0, 0, 0, []) := rfl
theorem i_X9_hasFallen_1 : tab t_X9_hasFallen 1 = some (.getfield 50, 3, 2, 0, 0, 9, 20, 0, 0, 0, []) := rfl
theorem i_X9_hasFallen_4 : tab t_X9_hasFallen 4 = some (.iload_n 1, 1, 1, 0, 0, 0, 0, 0, 0, 0, []) := rfl
theorem i_X9_hasFallen_5 : tab t_X9_hasFallen 5 = some (.iaload, 1, 0, 0, 0, 0, 0, 0, 0, 0, []) := rfl
theorem i_X9_hasFallen_6 : tab t_X9_hasFallen 6 = some (.iconst (-1), 1, 0, -1, 0, 0, 0, 0, 0, 0, []) := rfl
theorem i_X9_hasFallen_7 : tab t_X9_hasFallen 7 = some (.if_icmp .eq 17, 3, 24, 0, 0, 0, 0, 0, 0, 0, []) := rfl
theorem i_X9_hasFallen_10 : tab t_X9_hasFallen 10 = some (.aload_n 0, 1, 0, 0, 0, 0, 0, 0, 0, 0, []) := rfl
theorem i_X9_hasFallen_11 : tab t_X9_hasFallen 11 = some (.getfield 50, 3, 2, 0, 0, 9, 20, 0, 0, 0, []) := rfl
theorem i_X9_hasFallen_14 : tab t_X9_hasFallen 14 = some (.iload_n 1, 1, 1, 0, 0, 0, 0, 0, 0, 0, []) := rfl
theorem i_X9_hasFallen_15 : tab t_X9_hasFallen 15 = some (.iaload, 1, 0, 0, 0, 0, 0, 0, 0, 0, []) := rfl
theorem i_X9_hasFallen_16 : tab t_X9_hasFallen 16 = some (.iload_n 2, 1, 2, 0, 0, 0, 0, 0, 0, 0, []) := rfl
theorem i_X9_hasFallen_17 : tab t_X9_hasFallen 17 = some (.if_icmp .gt 7, 3, 24, 0, 0, 0, 0, 0, 0, 0, []) := rfl
theorem i_X9_hasFallen_20 : tab t_X9_hasFallen 20 = some (.iconst 1, 1, 0, 1, 0, 0, 0, 0, 0, 0, []) := rfl
theorem i_X9_hasFallen_21 : tab t_X9_hasFallen 21 = some (.goto 4, 3, 25, 0, 0, 0, 0, 0, 0, 0, []) := rfl
theorem i_X9_hasFallen_24 : tab t_X9_hasFallen 24 = some (.iconst 0, 1, 0, 0, 0, 0, 0, 0, 0, 0, []) := rfl
theorem i_X9_hasFallen_25 : tab t_X9_hasFallen 25 = some (.ireturn, 1, 0, 0, 0, 1, 0, 0, 0, 0, []) := rfl
def t_X9_knowsFall : List (Nat × rw_) := [(0, (.aload_n 0, 1, 0, 0, 0, 0, 0, 0, 0, 0, [])), (1, (.iload_n 2, 1, 2, 0, 0, 0, 0, 0, 0, 0, [])), (2, (.iload_n 3, 1, 3, 0, 0, 0, 0, 0, 0, 0, [])), (3, (.invokevirtual 435, 3, 2, 0, 0, 0, 191, 10, 0, 0, [])), (6, (.ifCond .eq 33, 3, 39, 0, 0, 0, 0, 0, 0, 0, [])), (9, (.aload_n 0, 1, 0, 0, 0, 0, 0, 0, 0, 0, [])), (10, (.iload_n 1, 1, 1, 0, 0, 0, 0, 0, 0, 0, [])), (11, (.iconst 0, 1, 0, 0, 0, 0, 0, 0, 0, 0, [])), (12, (.iload_n 2, 1, 2, 0, 0, 0, 0, 0, 0, 0, [])), (13, (.iload_n 3, 1, 3, 0, 0, 0, 0, 0, 0, 0, [])), (14, (.invokevirtual 439, 3, 4, 0, 0, 0, 189, 10, 0, 0, [])), (17, (.ifCond .ne 18, 3, 35, 0, 0, 0, 0, 0, 0, 0, [])), (20, (.aload_n 0, 1, 0, 0, 0, 0, 0, 0, 0, 0, [])), (21, (.iload_n 1, 1, 1, 0, 0, 0, 0, 0, 0, 0, [])), (22, (.iload_n 2, 1, 2, 0, 0, 0, 0, 0, 0, 0, [])), (23, (.aload_n 0, 1, 0, 0, 0, 0, 0, 0, 0, 0, [])), (24, (.getfield 50, 3, 2, 0, 0, 9, 20, 0, 0, 0, [])), (27, (.iload_n 2, 1, 2, 0, 0, 0, 0, 0, 0, 0, [])), (28, (.iaload, 1, 0, 0, 0, 0, 0, 0, 0, 0, [])), (29, (.invokevirtual 443, 3, 3, 0, 0, 0, 190, 10, 0, 0, [])), (32, (.ifCond .eq 7, 3, 39, 0, 0, 0, 0, 0, 0, 0, [])), (35, (.iconst 1, 1, 0, 1, 0, 0, 0, 0, 0, 0, [])), (36, (.goto 4, 3, 40, 0, 0, 0, 0, 0, 0, 0, [])), (39, (.iconst 0, 1, 0, 0, 0, 0, 0, 0, 0, 0, [])), (40, (.ireturn, 1, 0, 0, 0, 1, 0, 0, 0, 0, []))]
set_option maxRecDepth 100000 in
theorem ok_X9_knowsFall : tb_ok ctX9 m_X9_knowsFall t_X9_knowsFall = true := by decide +kernel
theorem i_X9_knowsFall_0 : tab t_X9_knowsFall 0 = some (.aload_n 0, 1, 0, 0, 0, 0, 0, 0, 0, 0, []) := rfl
theorem i_X9_knowsFall_1 : tab t_X9_knowsFall 1 = some (.iload_n 2, 1, 2, 0, 0, 0, 0, 0, 0, 0, []) := rfl
theorem i_X9_knowsFall_2 : tab t_X9_knowsFall 2 = some (.iload_n 3, 1, 3, 0, 0, 0, 0, 0, 0, 0, []) := rfl
theorem i_X9_knowsFall_3 : tab t_X9_knowsFall 3 = some (.invokevirtual 435, 3, 2, 0, 0, 0, 191, 10, 0, 0, []) := rfl
theorem i_X9_knowsFall_6 : tab t_X9_knowsFall 6 = some (.ifCond .eq 33, 3, 39, 0, 0, 0, 0, 0, 0, 0, []) := rfl
theorem i_X9_knowsFall_9 : tab t_X9_knowsFall 9 = some (.aload_n 0, 1, 0, 0, 0, 0, 0, 0, 0, 0, []) := rfl
theorem i_X9_knowsFall_10 : tab t_X9_knowsFall 10 = some (.iload_n 1, 1, 1, 0, 0, 0, 0, 0, 0, 0, []) := rfl
theorem i_X9_knowsFall_11 : tab t_X9_knowsFall 11 = some (.iconst 0, 1, 0, 0, 0, 0, 0, 0, 0, 0, []) := rfl
theorem i_X9_knowsFall_12 : tab t_X9_knowsFall 12 = some (.iload_n 2, 1, 2, 0, 0, 0, 0, 0, 0, 0, []) := rfl
theorem i_X9_knowsFall_13 : tab t_X9_knowsFall 13 = some (.iload_n 3, 1, 3, 0, 0, 0, 0, 0, 0, 0, []) := rfl
theorem i_X9_knowsFall_14 : tab t_X9_knowsFall 14 = some (.invokevirtual 439, 3, 4, 0, 0, 0, 189, 10, 0, 0, []) := rfl
theorem i_X9_knowsFall_17 : tab t_X9_knowsFall 17 = some (.ifCond .ne 18, 3, 35, 0, 0, 0, 0, 0, 0, 0, []) := rfl
theorem i_X9_knowsFall_20 : tab t_X9_knowsFall 20 = some (.aload_n 0, 1, 0, 0, 0, 0, 0, 0, 0, 0, []) := rfl
theorem i_X9_knowsFall_21 : tab t_X9_knowsFall 21 = some (.iload_n 1, 1, 1, 0, 0, 0, 0, 0, 0, 0, []) := rfl
theorem i_X9_knowsFall_22 : tab t_X9_knowsFall 22 = some (.iload_n 2, 1, 2, 0, 0, 0, 0, 0, 0, 0, []) := rfl
theorem i_X9_knowsFall_23 : tab t_X9_knowsFall 23 = some (.aload_n 0, 1, 0, 0, 0, 0, 0, 0, 0, 0, []) := rfl
theorem i_X9_knowsFall_24 : tab t_X9_knowsFall 24 = some (.getfield 50, 3, 2, 0, 0, 9, 20, 0, 0, 0, []) := rfl
theorem i_X9_knowsFall_27 : tab t_X9_knowsFall 27 = some (.iload_n 2, 1, 2, 0, 0, 0, 0, 0, 0, 0, []) := rfl
theorem i_X9_knowsFall_28 : tab t_X9_knowsFall 28 = some (.iaload, 1, 0, 0, 0, 0, 0, 0, 0, 0, []) := rfl
theorem i_X9_knowsFall_29 : tab t_X9_knowsFall 29 = some (.invokevirtual 443, 3, 3, 0, 0, 0, 190, 10, 0, 0, []) := rfl
theorem i_X9_knowsFall_32 : tab t_X9_knowsFall 32 = some (.ifCond .eq 7, 3, 39, 0, 0, 0, 0, 0, 0, 0, []) := rfl
theorem i_X9_knowsFall_35 : tab t_X9_knowsFall 35 = some (.iconst 1, 1, 0, 1, 0, 0, 0, 0, 0, 0, []) := rfl
theorem i_X9_knowsFall_36 : tab t_X9_knowsFall 36 = some (.goto 4, 3, 40, 0, 0, 0, 0, 0, 0, 0, []) := rfl
theorem i_X9_knowsFall_39 : tab t_X9_knowsFall 39 = some (.iconst 0, 1, 0, 0, 0, 0, 0, 0, 0, 0, []) := rfl
theorem i_X9_knowsFall_40 : tab t_X9_knowsFall 40 = some (.ireturn, 1, 0, 0, 0, 1, 0, 0, 0, 0, []) := rfl
