/-! 11: tables of class 9, 2 -/
def t_X9_knows : List (Nat × rw_) := [(0, (.aload_n 0, 1, 0, 0, 0, 0, 0, 0, 0, 0, [])), (1, (.iload_n 1, 1, 1, 0, 0, 0, 0, 0, 0, 0, [])), (2, (.invokevirtual 200, 3, 1, 0, 0, 0, 129, 10, 0, 0, [])), (5, (.ifCond .eq 52, 3, 57, 0, 0, 0, 0, 0, 0, 0, [])), (8, (.iload 4, 2, 4, 0, 0, 0, 0, 0, 0, 0, [])), (10, (.invokestatic 203, 3, 1, 0, 0, 0, 127, 0, 0, 0, [])), (13, (.ifCond .eq 44, 3, 57, 0, 0, 0, 0, 0, 0, 0, [])), (16, (.iload_n 2, 1, 2, 0, 0, 0, 0, 0, 0, 0, [])), (17, (.ifCond .eq 22, 3, 39, 0, 0, 0, 0, 0, 0, 0, [])), (20, (.iload_n 3, 1, 3, 0, 0, 0, 0, 0, 0, 0, [])), (21, (.i2l, 1, 0, 0, 0, 0, 0, 0, 0, 0, [])), (22, (.lconst 0, 1, 0, 0, 0, 0, 0, 0, 0, 0, [])), (23, (.aload_n 0, 1, 0, 0, 0, 0, 0, 0, 0, 0, [])), (24, (.getfield 223, 3, 0, 0, 0, 9, 4, 0, 0, 0, [])), (27, (.iconst 1, 1, 0, 1, 0, 0, 0, 0, 0, 0, [])), (28, (.isub, 1, 0, 0, 0, 0, 0, 0, 0, 0, [])), (29, (.i2l, 1, 0, 0, 0, 0, 0, 0, 0, 0, [])), (30, (.invokestatic 175, 3, 3, 0, 0, 0, 126, 0, 0, 0, [])), (33, (.ifCond .eq 24, 3, 57, 0, 0, 0, 0, 0, 0, 0, [])), (36, (.goto 23, 3, 59, 0, 0, 0, 0, 0, 0, 0, [])), (39, (.aload_n 0, 1, 0, 0, 0, 0, 0, 0, 0, 0, [])), (40, (.iload_n 3, 1, 3, 0, 0, 0, 0, 0, 0, 0, [])), (41, (.invokevirtual 200, 3, 1, 0, 0, 0, 129, 10, 0, 0, [])), (44, (.ifCond .eq 13, 3, 57, 0, 0, 0, 0, 0, 0, 0, [])), (47, (.aload_n 0, 1, 0, 0, 0, 0, 0, 0, 0, 0, [])), (48, (.iload_n 3, 1, 3, 0, 0, 0, 0, 0, 0, 0, [])), (49, (.iload 4, 2, 4, 0, 0, 0, 0, 0, 0, 0, [])), (51, (.invokevirtual 435, 3, 2, 0, 0, 0, 191, 10, 0, 0, [])), (54, (.ifCond .ne 5, 3, 59, 0, 0, 0, 0, 0, 0, 0, [])), (57, (.iconst (-1), 1, 0, -1, 0, 0, 0, 0, 0, 0, [])), (58, (.ireturn, 1, 0, 0, 0, 0, 0, 0, 0, 0, [])), (59, (.iload_n 2, 1, 2, 0, 0, 0, 0, 0, 0, 0, [])), (60, (.ifCond .eq 33, 3, 93, 0, 0, 0, 0, 0, 0, 0, [])), (63, (.aload_n 0, 1, 0, 0, 0, 0, 0, 0, 0, 0, [])), (64, (.getfield 65, 3, 2, 0, 0, 9, 25, 0, 0, 0, [])), (67, (.iload_n 3, 1, 3, 0, 0, 0, 0, 0, 0, 0, [])), (68, (.iaload, 1, 0, 0, 0, 0, 0, 0, 0, 0, [])), (69, (.iload_n 1, 1, 1, 0, 0, 0, 0, 0, 0, 0, [])), (70, (.if_icmp .eq 15, 3, 85, 0, 0, 0, 0, 0, 0, 0, [])), (73, (.aload_n 0, 1, 0, 0, 0, 0, 0, 0, 0, 0, [])), (74, (.iload_n 1, 1, 1, 0, 0, 0, 0, 0, 0, 0, [])), (75, (.iconst 1, 1, 0, 1, 0, 0, 0, 0, 0, 0, [])), (76, (.iload_n 3, 1, 3, 0, 0, 0, 0, 0, 0, 0, [])), (77, (.iload 4, 2, 4, 0, 0, 0, 0, 0, 0, 0, [])), (79, (.invokevirtual 439, 3, 4, 0, 0, 0, 189, 10, 0, 0, [])), (82, (.ifCond .eq 7, 3, 89, 0, 0, 0, 0, 0, 0, 0, [])), (85, (.iconst 1, 1, 0, 1, 0, 0, 0, 0, 0, 0, [])), (86, (.goto 15, 3, 101, 0, 0, 0, 0, 0, 0, 0, [])), (89, (.iconst 0, 1, 0, 0, 0, 0, 0, 0, 0, 0, [])), (90, (.goto 11, 3, 101, 0, 0, 0, 0, 0, 0, 0, [])), (93, (.aload_n 0, 1, 0, 0, 0, 0, 0, 0, 0, 0, [])), (94, (.iload_n 1, 1, 1, 0, 0, 0, 0, 0, 0, 0, [])), (95, (.iload_n 3, 1, 3, 0, 0, 0, 0, 0, 0, 0, [])), (96, (.iload 4, 2, 4, 0, 0, 0, 0, 0, 0, 0, [])), (98, (.invokevirtual 446, 3, 3, 0, 0, 0, 192, 10, 0, 0, [])), (101, (.istore 5, 2, 5, 0, 0, 0, 0, 0, 0, 0, [])), (103, (.iload 5, 2, 5, 0, 0, 0, 0, 0, 0, 0, [])), (105, (.ifCond .eq 7, 3, 112, 0, 0, 0, 0, 0, 0, 0, [])), (108, (.iconst 1, 1, 0, 1, 0, 0, 0, 0, 0, 0, [])), (109, (.goto 4, 3, 113, 0, 0, 0, 0, 0, 0, 0, [])), (112, (.iconst 0, 1, 0, 0, 0, 0, 0, 0, 0, 0, [])), (113, (.ireturn, 1, 0, 0, 0, 0, 0, 0, 0, 0, []))]
set_option maxRecDepth 100000 in
theorem ok_X9_knows : tb_ok ctX9 m_X9_knows t_X9_knows = true := by decide +kernel
theorem i_X9_knows_0 : tab t_X9_knows 0 = some (.aload_n 0, 1, 0, 0, 0, 0, 0, 0, 0, 0, []) := rfl
theorem i_X9_knows_1 : tab t_X9_knows 1 = some (.iload_n 1, 1, 1, 0, 0, 0, 0, 0, 0, 0, []) := rfl
theorem i_X9_knows_2 : tab t_X9_knows 2 = some (.invokevirtual 200, 3, 1, 0, 0, 0, 129, 10, 0, 0, []) := rfl
theorem i_X9_knows_5 : tab t_X9_knows 5 = some (.ifCond .eq 52, 3, 57, 0, 0, 0, 0, 0, 0, 0, []) := rfl
theorem i_X9_knows_8 : tab t_X9_knows 8 = some (.iload 4, 2, 4, 0, 0, 0, 0, 0, 0, 0, []) := rfl
theorem i_X9_knows_10 : tab t_X9_knows 10 = some (.invokestatic 203, 3, 1, 0, 0, 0, 127, 0, 0, 0, []) := rfl
theorem i_X9_knows_13 : tab t_X9_knows 13 = some (.ifCond .eq 44, 3, 57, 0, 0, 0, 0, 0, 0, 0, []) := rfl
theorem i_X9_knows_16 : tab t_X9_knows 16 = some (.iload_n 2, 1, 2, 0, 0, 0, 0, 0, 0, 0, []) := rfl
theorem i_X9_knows_17 : tab t_X9_knows 17 = some (.ifCond .eq 22, 3, 39, 0, 0, 0, 0, 0, 0, 0, []) := rfl
theorem i_X9_knows_20 : tab t_X9_knows 20 = some (.iload_n 3, 1, 3, 0, 0, 0, 0, 0, 0, 0, []) := rfl
theorem i_X9_knows_21 : tab t_X9_knows 21 = some (.i2l, 1, 0, 0, 0, 0, 0, 0, 0, 0, []) := rfl
theorem i_X9_knows_22 : tab t_X9_knows 22 = some (.lconst 0, 1, 0, 0, 0, 0, 0, 0, 0, 0, []) := rfl
theorem i_X9_knows_23 : tab t_X9_knows 23 = some (.aload_n 0, 1, 0, 0, 0, 0, 0, 0, 0, 0, []) := rfl
theorem i_X9_knows_24 : tab t_X9_knows 24 = some (.getfield 223, 3, 0, 0, 0, 9, 4, 0, 0, 0, []) := rfl
theorem i_X9_knows_27 : tab t_X9_knows 27 = some (.iconst 1, 1, 0, 1, 0, 0, 0, 0, 0, 0, []) := rfl
theorem i_X9_knows_28 : tab t_X9_knows 28 = some (.isub, 1, 0, 0, 0, 0, 0, 0, 0, 0, []) := rfl
theorem i_X9_knows_29 : tab t_X9_knows 29 = some (.i2l, 1, 0, 0, 0, 0, 0, 0, 0, 0, []) := rfl
theorem i_X9_knows_30 : tab t_X9_knows 30 = some (.invokestatic 175, 3, 3, 0, 0, 0, 126, 0, 0, 0, []) := rfl
theorem i_X9_knows_33 : tab t_X9_knows 33 = some (.ifCond .eq 24, 3, 57, 0, 0, 0, 0, 0, 0, 0, []) := rfl
theorem i_X9_knows_36 : tab t_X9_knows 36 = some (.goto 23, 3, 59, 0, 0, 0, 0, 0, 0, 0, []) := rfl
theorem i_X9_knows_39 : tab t_X9_knows 39 = some (.aload_n 0, 1, 0, 0, 0, 0, 0, 0, 0, 0, []) := rfl
theorem i_X9_knows_40 : tab t_X9_knows 40 = some (.iload_n 3, 1, 3, 0, 0, 0, 0, 0, 0, 0, []) := rfl
theorem i_X9_knows_41 : tab t_X9_knows 41 = some (.invokevirtual 200, 3, 1, 0, 0, 0, 129, 10, 0, 0, []) := rfl
theorem i_X9_knows_44 : tab t_X9_knows 44 = some (.ifCond .eq 13, 3, 57, 0, 0, 0, 0, 0, 0, 0, []) := rfl
theorem i_X9_knows_47 : tab t_X9_knows 47 = some (.aload_n 0, 1, 0, 0, 0, 0, 0, 0, 0, 0, []) := rfl
theorem i_X9_knows_48 : tab t_X9_knows 48 = some (.iload_n 3, 1, 3, 0, 0, 0, 0, 0, 0, 0, []) := rfl
theorem i_X9_knows_49 : tab t_X9_knows 49 = some (.iload 4, 2, 4, 0, 0, 0, 0, 0, 0, 0, []) := rfl
theorem i_X9_knows_51 : tab t_X9_knows 51 = some (.invokevirtual 435, 3, 2, 0, 0, 0, 191, 10, 0, 0, []) := rfl
theorem i_X9_knows_54 : tab t_X9_knows 54 = some (.ifCond .ne 5, 3, 59, 0, 0, 0, 0, 0, 0, 0, []) := rfl
theorem i_X9_knows_57 : tab t_X9_knows 57 = some (.iconst (-1), 1, 0, -1, 0, 0, 0, 0, 0, 0, []) := rfl
theorem i_X9_knows_58 : tab t_X9_knows 58 = some (.ireturn, 1, 0, 0, 0, 0, 0, 0, 0, 0, []) := rfl
theorem i_X9_knows_59 : tab t_X9_knows 59 = some (.iload_n 2, 1, 2, 0, 0, 0, 0, 0, 0, 0, []) := rfl
theorem i_X9_knows_60 : tab t_X9_knows 60 = some (.ifCond .eq 33, 3, 93, 0, 0, 0, 0, 0, 0, 0, []) := rfl
theorem i_X9_knows_63 : tab t_X9_knows 63 = some (.aload_n 0, 1, 0, 0, 0, 0, 0, 0, 0, 0, []) := rfl
theorem i_X9_knows_64 : tab t_X9_knows 64 = some (.getfield 65, 3, 2, 0, 0, 9, 25, 0, 0, 0, []) := rfl
theorem i_X9_knows_67 : tab t_X9_knows 67 = some (.iload_n 3, 1, 3, 0, 0, 0, 0, 0, 0, 0, []) := rfl
theorem i_X9_knows_68 : tab t_X9_knows 68 = some (.iaload, 1, 0, 0, 0, 0, 0, 0, 0, 0, []) := rfl
theorem i_X9_knows_69 : tab t_X9_knows 69 = some (.iload_n 1, 1, 1, 0, 0, 0, 0, 0, 0, 0, []) := rfl
theorem i_X9_knows_70 : tab t_X9_knows 70 = some (.if_icmp .eq 15, 3, 85, 0, 0, 0, 0, 0, 0, 0, []) := rfl
theorem i_X9_knows_73 : tab t_X9_knows 73 = some (.aload_n 0, 1, 0, 0, 0, 0, 0, 0, 0, 0, []) := rfl
theorem i_X9_knows_74 : tab t_X9_knows 74 = some (.iload_n 1, 1, 1, 0, 0, 0, 0, 0, 0, 0, []) := rfl
theorem i_X9_knows_75 : tab t_X9_knows 75 = some (.iconst 1, 1, 0, 1, 0, 0, 0, 0, 0, 0, []) := rfl
theorem i_X9_knows_76 : tab t_X9_knows 76 = some (.iload_n 3, 1, 3, 0, 0, 0, 0, 0, 0, 0, []) := rfl
theorem i_X9_knows_77 : tab t_X9_knows 77 = some (.iload 4, 2, 4, 0, 0, 0, 0, 0, 0, 0, []) := rfl
theorem i_X9_knows_79 : tab t_X9_knows 79 = some (.invokevirtual 439, 3, 4, 0, 0, 0, 189, 10, 0, 0, []) := rfl
theorem i_X9_knows_82 : tab t_X9_knows 82 = some (.ifCond .eq 7, 3, 89, 0, 0, 0, 0, 0, 0, 0, []) := rfl
theorem i_X9_knows_85 : tab t_X9_knows 85 = some (.iconst 1, 1, 0, 1, 0, 0, 0, 0, 0, 0, []) := rfl
theorem i_X9_knows_86 : tab t_X9_knows 86 = some (.goto 15, 3, 101, 0, 0, 0, 0, 0, 0, 0, []) := rfl
theorem i_X9_knows_89 : tab t_X9_knows 89 = some (.iconst 0, 1, 0, 0, 0, 0, 0, 0, 0, 0, []) := rfl
theorem i_X9_knows_90 : tab t_X9_knows 90 = some (.goto 11, 3, 101, 0, 0, 0, 0, 0, 0, 0, []) := rfl
theorem i_X9_knows_93 : tab t_X9_knows 93 = some (.aload_n 0, 1, 0, 0, 0, 0, 0, 0, 0, 0, []) := rfl
theorem i_X9_knows_94 : tab t_X9_knows 94 = some (.iload_n 1, 1, 1, 0, 0, 0, 0, 0, 0, 0, []) := rfl
theorem i_X9_knows_95 : tab t_X9_knows 95 = some (.iload_n 3, 1, 3, 0, 0, 0, 0, 0, 0, 0, []) := rfl
theorem i_X9_knows_96 : tab t_X9_knows 96 = some (.iload 4, 2, 4, 0, 0, 0, 0, 0, 0, 0, []) := rfl
theorem i_X9_knows_98 : tab t_X9_knows 98 = some (.invokevirtual 446, 3, 3, 0, 0, 0, 192, 10, 0, 0, []) := rfl
theorem i_X9_knows_101 : tab t_X9_knows 101 = some (.istore 5, 2, 5, 0, 0, 0, 0, 0, 0, 0, []) := rfl
theorem i_X9_knows_103 : tab t_X9_knows 103 = some (.iload 5, 2, 5, 0, 0, 0, 0, 0, 0, 0, []) := rfl
theorem i_X9_knows_105 : tab t_X9_knows 105 = some (.ifCond .eq 7, 3, 112, 0, 0, 0, 0, 0, 0, 0, []) := rfl
theorem i_X9_knows_108 : tab t_X9_knows 108 = some (.iconst 1, 1, 0, 1, 0, 0, 0, 0, 0, 0, []) := rfl
theorem i_X9_knows_109 : tab t_X9_knows 109 = some (.goto 4, 3, 113, 0, 0, 0, 0, 0, 0, 0, []) := rfl
theorem i_X9_knows_112 : tab t_X9_knows 112 = some (.iconst 0, 1, 0, 0, 0, 0, 0, 0, 0, 0, []) := rfl
theorem i_X9_knows_113 : tab t_X9_knows 113 = some (.ireturn, 1, 0, 0, 0, 0, 0, 0, 0, 0, []) := rfl
def t_X9_nobodyBesides : List (Nat × rw_) := [(0, (.iconst 0, 1, 0, 0, 0, 0, 0, 0, 0, 0, [])), (1, (.istore_n 1, 1, 1, 0, 0, 0, 0, 0, 0, 0, [])), (2, (.iload_n 1, 1, 1, 0, 0, 0, 0, 0, 0, 0, [])), (3, (.bipush 24, 2, 0, 24, 0, 0, 0, 0, 0, 0, [])), (5, (.if_icmp .ge 16, 3, 21, 0, 0, 0, 0, 0, 0, 0, [])), (8, (.aload_n 0, 1, 0, 0, 0, 0, 0, 0, 0, 0, [])), (9, (.getfield 137, 3, 2, 0, 0, 9, 56, 0, 0, 0, [])), (12, (.iload_n 1, 1, 1, 0, 0, 0, 0, 0, 0, 0, [])), (13, (.iconst 0, 1, 0, 0, 0, 0, 0, 0, 0, 0, [])), (14, (.bastore, 1, 0, 0, 0, 2, 0, 0, 0, 0, [])), (15, (.iinc 1 1, 3, 1, 1, 0, 0, 0, 0, 0, 0, [])), (18, (.goto (-16), 3, 2, 0, 0, 0, 0, 0, 0, 0, [])), (21, (.return_, 1, 0, 0, 0, 0, 0, 0, 0, 0, []))]
set_option maxRecDepth 100000 in
theorem ok_X9_nobodyBesides : tb_ok ctX9 m_X9_nobodyBesides t_X9_nobodyBesides = true := by decide +kernel
theorem i_X9_nobodyBesides_0 : tab t_X9_nobodyBesides 0 = some (.iconst 0, 1, 0, 0, 0, 0, 0, 0, 0, 0, []) := rfl
theorem i_X9_nobodyBesides_1 : tab t_X9_nobodyBesides 1 = some (.istore_n 1, 1, 1, 0, 0, 0, 0, 0, 0, 0, []) := rfl
theorem i_X9_nobodyBesides_2 : tab t_X9_nobodyBesides 2 = some (.iload_n 1, 1, 1, 0, 0, 0, 0, 0, 0, 0, []) := rfl
theorem i_X9_nobodyBesides_3 : tab t_X9_nobodyBesides 3 = some (.bipush 24, 2, 0, 24, 0, 0, 0, 0, 0, 0, []) := rfl
theorem i_X9_nobodyBesides_5 : tab t_X9_nobodyBesides 5 = some (.if_icmp .ge 16, 3, 21, 0, 0, 0, 0, 0, 0, 0, []) := rfl
theorem i_X9_nobodyBesides_8 : tab t_X9_nobodyBesides 8 = some (.aload_n 0, 1, 0, 0, 0, 0, 0, 0, 0, 0, []) := rfl
theorem i_X9_nobodyBesides_9 : tab t_X9_nobodyBesides 9 = some (.getfield 137, 3, 2, 0, 0, 9, 56, 0, 0, 0, []) := rfl
theorem i_X9_nobodyBesides_12 : tab t_X9_nobodyBesides 12 = some (.iload_n 1, 1, 1, 0, 0, 0, 0, 0, 0, 0, []) := rfl
theorem i_X9_nobodyBesides_13 : tab t_X9_nobodyBesides 13 = some (.iconst 0, 1, 0, 0, 0, 0, 0, 0, 0, 0, []) := rfl
theorem i_X9_nobodyBesides_14 : tab t_X9_nobodyBesides 14 = some (.bastore, 1, 0, 0, 0, 2, 0, 0, 0, 0, []) := rfl
theorem i_X9_nobodyBesides_15 : tab t_X9_nobodyBesides 15 = some (.iinc 1 1, 3, 1, 1, 0, 0, 0, 0, 0, 0, []) := rfl
theorem i_X9_nobodyBesides_18 : tab t_X9_nobodyBesides 18 = some (.goto (-16), 3, 2, 0, 0, 0, 0, 0, 0, 0, []) := rfl
theorem i_X9_nobodyBesides_21 : tab t_X9_nobodyBesides 21 = some (.return_, 1, 0, 0, 0, 0, 0, 0, 0, 0, []) := rfl
def t_X9_asTaken : List (Nat × rw_) := [(0, (.iconst 0, 1, 0, 0, 0, 0, 0, 0, 0, 0, [])), (1, (.istore_n 3, 1, 3, 0, 0, 0, 0, 0, 0, 0, [])), (2, (.iload_n 3, 1, 3, 0, 0, 0, 0, 0, 0, 0, [])), (3, (.aload_n 0, 1, 0, 0, 0, 0, 0, 0, 0, 0, [])), (4, (.getfield 182, 3, 0, 0, 0, 9, 2, 0, 0, 0, [])), (7, (.if_icmp .ge 49, 3, 56, 0, 0, 0, 0, 0, 0, 0, [])), (10, (.aload_n 0, 1, 0, 0, 0, 0, 0, 0, 0, 0, [])), (11, (.getfield 112, 3, 2, 0, 0, 9, 48, 0, 0, 0, [])), (14, (.iload_n 3, 1, 3, 0, 0, 0, 0, 0, 0, 0, [])), (15, (.aload_n 0, 1, 0, 0, 0, 0, 0, 0, 0, 0, [])), (16, (.iload_n 1, 1, 1, 0, 0, 0, 0, 0, 0, 0, [])), (17, (.iload_n 3, 1, 3, 0, 0, 0, 0, 0, 0, 0, [])), (18, (.iload_n 2, 1, 2, 0, 0, 0, 0, 0, 0, 0, [])), (19, (.invokevirtual 446, 3, 3, 0, 0, 0, 192, 10, 0, 0, [])), (22, (.ifCond .ne 22, 3, 44, 0, 0, 0, 0, 0, 0, 0, [])), (25, (.aload_n 0, 1, 0, 0, 0, 0, 0, 0, 0, 0, [])), (26, (.getfield 137, 3, 2, 0, 0, 9, 56, 0, 0, 0, [])), (29, (.iload_n 3, 1, 3, 0, 0, 0, 0, 0, 0, 0, [])), (30, (.baload, 1, 0, 0, 0, 0, 0, 0, 0, 0, [])), (31, (.ifCond .eq 17, 3, 48, 0, 0, 0, 0, 0, 0, 0, [])), (34, (.aload_n 0, 1, 0, 0, 0, 0, 0, 0, 0, 0, [])), (35, (.iload_n 1, 1, 1, 0, 0, 0, 0, 0, 0, 0, [])), (36, (.iload_n 3, 1, 3, 0, 0, 0, 0, 0, 0, 0, [])), (37, (.iload_n 2, 1, 2, 0, 0, 0, 0, 0, 0, 0, [])), (38, (.invokevirtual 443, 3, 3, 0, 0, 0, 190, 10, 0, 0, [])), (41, (.ifCond .eq 7, 3, 48, 0, 0, 0, 0, 0, 0, 0, [])), (44, (.iconst 1, 1, 0, 1, 0, 0, 0, 0, 0, 0, [])), (45, (.goto 4, 3, 49, 0, 0, 0, 0, 0, 0, 0, [])), (48, (.iconst 0, 1, 0, 0, 0, 0, 0, 0, 0, 0, [])), (49, (.bastore, 1, 0, 0, 0, 2, 0, 0, 0, 0, [])), (50, (.iinc 3 1, 3, 3, 1, 0, 0, 0, 0, 0, 0, [])), (53, (.goto (-51), 3, 2, 0, 0, 0, 0, 0, 0, 0, [])), (56, (.iconst 0, 1, 0, 0, 0, 0, 0, 0, 0, 0, [])), (57, (.istore_n 3, 1, 3, 0, 0, 0, 0, 0, 0, 0, [])), (58, (.iload_n 3, 1, 3, 0, 0, 0, 0, 0, 0, 0, [])), (59, (.aload_n 0, 1, 0, 0, 0, 0, 0, 0, 0, 0, [])), (60, (.getfield 223, 3, 0, 0, 0, 9, 4, 0, 0, 0, [])), (63, (.if_icmp .ge 41, 3, 104, 0, 0, 0, 0, 0, 0, 0, [])), (66, (.aload_n 0, 1, 0, 0, 0, 0, 0, 0, 0, 0, [])), (67, (.getfield 116, 3, 2, 0, 0, 9, 49, 0, 0, 0, [])), (70, (.iload_n 3, 1, 3, 0, 0, 0, 0, 0, 0, 0, [])), (71, (.aload_n 0, 1, 0, 0, 0, 0, 0, 0, 0, 0, [])), (72, (.getfield 65, 3, 2, 0, 0, 9, 25, 0, 0, 0, [])), (75, (.iload_n 3, 1, 3, 0, 0, 0, 0, 0, 0, 0, [])), (76, (.iaload, 1, 0, 0, 0, 0, 0, 0, 0, 0, [])), (77, (.iload_n 1, 1, 1, 0, 0, 0, 0, 0, 0, 0, [])), (78, (.if_icmp .eq 14, 3, 92, 0, 0, 0, 0, 0, 0, 0, [])), (81, (.aload_n 0, 1, 0, 0, 0, 0, 0, 0, 0, 0, [])), (82, (.iload_n 1, 1, 1, 0, 0, 0, 0, 0, 0, 0, [])), (83, (.iconst 1, 1, 0, 1, 0, 0, 0, 0, 0, 0, [])), (84, (.iload_n 3, 1, 3, 0, 0, 0, 0, 0, 0, 0, [])), (85, (.iload_n 2, 1, 2, 0, 0, 0, 0, 0, 0, 0, [])), (86, (.invokevirtual 439, 3, 4, 0, 0, 0, 189, 10, 0, 0, [])), (89, (.ifCond .eq 7, 3, 96, 0, 0, 0, 0, 0, 0, 0, [])), (92, (.iconst 1, 1, 0, 1, 0, 0, 0, 0, 0, 0, [])), (93, (.goto 4, 3, 97, 0, 0, 0, 0, 0, 0, 0, [])), (96, (.iconst 0, 1, 0, 0, 0, 0, 0, 0, 0, 0, [])), (97, (.bastore, 1, 0, 0, 0, 2, 0, 0, 0, 0, [])), (98, (.iinc 3 1, 3, 3, 1, 0, 0, 0, 0, 0, 0, [])), (101, (.goto (-43), 3, 58, 0, 0, 0, 0, 0, 0, 0, [])), (104, (.return_, 1, 0, 0, 0, 0, 0, 0, 0, 0, []))]
set_option maxRecDepth 100000 in
theorem ok_X9_asTaken : tb_ok ctX9 m_X9_asTaken t_X9_asTaken = true := by decide +kernel
theorem i_X9_asTaken_0 : tab t_X9_asTaken 0 = some (.iconst 0, 1, 0, 0, 0, 0, 0, 0, 0, 0, []) := rfl
theorem i_X9_asTaken_1 : tab t_X9_asTaken 1 = some (.istore_n 3, 1, 3, 0, 0, 0, 0, 0, 0, 0, []) := rfl
theorem i_X9_asTaken_2 : tab t_X9_asTaken 2 = some (.iload_n 3, 1, 3, 0, 0, 0, 0, 0, 0, 0, []) := rfl
theorem i_X9_asTaken_3 : tab t_X9_asTaken 3 = some (.aload_n 0, 1, 0, 0, 0, 0, 0, 0, 0, 0, []) := rfl
theorem i_X9_asTaken_4 : tab t_X9_asTaken 4 = some (.getfield 182, 3, 0, 0, 0, 9, 2, 0, 0, 0, []) := rfl
theorem i_X9_asTaken_7 : tab t_X9_asTaken 7 = some (.if_icmp .ge 49, 3, 56, 0, 0, 0, 0, 0, 0, 0, []) := rfl
theorem i_X9_asTaken_10 : tab t_X9_asTaken 10 = some (.aload_n 0, 1, 0, 0, 0, 0, 0, 0, 0, 0, []) := rfl
theorem i_X9_asTaken_11 : tab t_X9_asTaken 11 = some (.getfield 112, 3, 2, 0, 0, 9, 48, 0, 0, 0, []) := rfl
theorem i_X9_asTaken_14 : tab t_X9_asTaken 14 = some (.iload_n 3, 1, 3, 0, 0, 0, 0, 0, 0, 0, []) := rfl
theorem i_X9_asTaken_15 : tab t_X9_asTaken 15 = some (.aload_n 0, 1, 0, 0, 0, 0, 0, 0, 0, 0, []) := rfl
theorem i_X9_asTaken_16 : tab t_X9_asTaken 16 = some (.iload_n 1, 1, 1, 0, 0, 0, 0, 0, 0, 0, []) := rfl
theorem i_X9_asTaken_17 : tab t_X9_asTaken 17 = some (.iload_n 3, 1, 3, 0, 0, 0, 0, 0, 0, 0, []) := rfl
theorem i_X9_asTaken_18 : tab t_X9_asTaken 18 = some (.iload_n 2, 1, 2, 0, 0, 0, 0, 0, 0, 0, []) := rfl
theorem i_X9_asTaken_19 : tab t_X9_asTaken 19 = some (.invokevirtual 446, 3, 3, 0, 0, 0, 192, 10, 0, 0, []) := rfl
theorem i_X9_asTaken_22 : tab t_X9_asTaken 22 = some (.ifCond .ne 22, 3, 44, 0, 0, 0, 0, 0, 0, 0, []) := rfl
theorem i_X9_asTaken_25 : tab t_X9_asTaken 25 = some (.aload_n 0, 1, 0, 0, 0, 0, 0, 0, 0, 0, []) := rfl
theorem i_X9_asTaken_26 : tab t_X9_asTaken 26 = some (.getfield 137, 3, 2, 0, 0, 9, 56, 0, 0, 0, []) := rfl
theorem i_X9_asTaken_29 : tab t_X9_asTaken 29 = some (.iload_n 3, 1, 3, 0, 0, 0, 0, 0, 0, 0, []) := rfl
theorem i_X9_asTaken_30 : tab t_X9_asTaken 30 = some (.baload, 1, 0, 0, 0, 0, 0, 0, 0, 0, []) := rfl
theorem i_X9_asTaken_31 : tab t_X9_asTaken 31 = some (.ifCond .eq 17, 3, 48, 0, 0, 0, 0, 0, 0, 0, []) := rfl
theorem i_X9_asTaken_34 : tab t_X9_asTaken 34 = some (.aload_n 0, 1, 0, 0, 0, 0, 0, 0, 0, 0, []) := rfl
theorem i_X9_asTaken_35 : tab t_X9_asTaken 35 = some (.iload_n 1, 1, 1, 0, 0, 0, 0, 0, 0, 0, []) := rfl
theorem i_X9_asTaken_36 : tab t_X9_asTaken 36 = some (.iload_n 3, 1, 3, 0, 0, 0, 0, 0, 0, 0, []) := rfl
theorem i_X9_asTaken_37 : tab t_X9_asTaken 37 = some (.iload_n 2, 1, 2, 0, 0, 0, 0, 0, 0, 0, []) := rfl
theorem i_X9_asTaken_38 : tab t_X9_asTaken 38 = some (.invokevirtual 443, 3, 3, 0, 0, 0, 190, 10, 0, 0, []) := rfl
theorem i_X9_asTaken_41 : tab t_X9_asTaken 41 = some (.ifCond .eq 7, 3, 48, 0, 0, 0, 0, 0, 0, 0, []) := rfl
theorem i_X9_asTaken_44 : tab t_X9_asTaken 44 = some (.iconst 1, 1, 0, 1, 0, 0, 0, 0, 0, 0, []) := rfl
theorem i_X9_asTaken_45 : tab t_X9_asTaken 45 = some (.goto 4, 3, 49, 0, 0, 0, 0, 0, 0, 0, []) := rfl
theorem i_X9_asTaken_48 : tab t_X9_asTaken 48 = some (.iconst 0, 1, 0, 0, 0, 0, 0, 0, 0, 0, []) := rfl
theorem i_X9_asTaken_49 : tab t_X9_asTaken 49 = some (.bastore, 1, 0, 0, 0, 2, 0, 0, 0, 0, []) := rfl
theorem i_X9_asTaken_50 : tab t_X9_asTaken 50 = some (.iinc 3 1, 3, 3, 1, 0, 0, 0, 0, 0, 0, []) := rfl
theorem i_X9_asTaken_53 : tab t_X9_asTaken 53 = some (.goto (-51), 3, 2, 0, 0, 0, 0, 0, 0, 0, []) := rfl
theorem i_X9_asTaken_56 : tab t_X9_asTaken 56 = some (.iconst 0, 1, 0, 0, 0, 0, 0, 0, 0, 0, []) := rfl
theorem i_X9_asTaken_57 : tab t_X9_asTaken 57 = some (.istore_n 3, 1, 3, 0, 0, 0, 0, 0, 0, 0, []) := rfl
theorem i_X9_asTaken_58 : tab t_X9_asTaken 58 = some (.iload_n 3, 1, 3, 0, 0, 0, 0, 0, 0, 0, []) := rfl
theorem i_X9_asTaken_59 : tab t_X9_asTaken 59 = some (.aload_n 0, 1, 0, 0, 0, 0, 0, 0, 0, 0, []) := rfl
theorem i_X9_asTaken_60 : tab t_X9_asTaken 60 = some (.getfield 223, 3, 0, 0, 0, 9, 4, 0, 0, 0, []) := rfl
theorem i_X9_asTaken_63 : tab t_X9_asTaken 63 = some (.if_icmp .ge 41, 3, 104, 0, 0, 0, 0, 0, 0, 0, []) := rfl
theorem i_X9_asTaken_66 : tab t_X9_asTaken 66 = some (.aload_n 0, 1, 0, 0, 0, 0, 0, 0, 0, 0, []) := rfl
theorem i_X9_asTaken_67 : tab t_X9_asTaken 67 = some (.getfield 116, 3, 2, 0, 0, 9, 49, 0, 0, 0, []) := rfl
theorem i_X9_asTaken_70 : tab t_X9_asTaken 70 = some (.iload_n 3, 1, 3, 0, 0, 0, 0, 0, 0, 0, []) := rfl
theorem i_X9_asTaken_71 : tab t_X9_asTaken 71 = some (.aload_n 0, 1, 0, 0, 0, 0, 0, 0, 0, 0, []) := rfl
theorem i_X9_asTaken_72 : tab t_X9_asTaken 72 = some (.getfield 65, 3, 2, 0, 0, 9, 25, 0, 0, 0, []) := rfl
theorem i_X9_asTaken_75 : tab t_X9_asTaken 75 = some (.iload_n 3, 1, 3, 0, 0, 0, 0, 0, 0, 0, []) := rfl
theorem i_X9_asTaken_76 : tab t_X9_asTaken 76 = some (.iaload, 1, 0, 0, 0, 0, 0, 0, 0, 0, []) := rfl
theorem i_X9_asTaken_77 : tab t_X9_asTaken 77 = some (.iload_n 1, 1, 1, 0, 0, 0, 0, 0, 0, 0, []) := rfl
theorem i_X9_asTaken_78 : tab t_X9_asTaken 78 = some (.if_icmp .eq 14, 3, 92, 0, 0, 0, 0, 0, 0, 0, []) := rfl
theorem i_X9_asTaken_81 : tab t_X9_asTaken 81 = some (.aload_n 0, 1, 0, 0, 0, 0, 0, 0, 0, 0, []) := rfl
theorem i_X9_asTaken_82 : tab t_X9_asTaken 82 = some (.iload_n 1, 1, 1, 0, 0, 0, 0, 0, 0, 0, []) := rfl
theorem i_X9_asTaken_83 : tab t_X9_asTaken 83 = some (.iconst 1, 1, 0, 1, 0, 0, 0, 0, 0, 0, []) := rfl
theorem i_X9_asTaken_84 : tab t_X9_asTaken 84 = some (.iload_n 3, 1, 3, 0, 0, 0, 0, 0, 0, 0, []) := rfl
theorem i_X9_asTaken_85 : tab t_X9_asTaken 85 = some (.iload_n 2, 1, 2, 0, 0, 0, 0, 0, 0, 0, []) := rfl
theorem i_X9_asTaken_86 : tab t_X9_asTaken 86 = some (.invokevirtual 439, 3, 4, 0, 0, 0, 189, 10, 0, 0, []) := rfl
theorem i_X9_asTaken_89 : tab t_X9_asTaken 89 = some (.ifCond .eq 7, 3, 96, 0, 0, 0, 0, 0, 0, 0, []) := rfl
theorem i_X9_asTaken_92 : tab t_X9_asTaken 92 = some (.iconst 1, 1, 0, 1, 0, 0, 0, 0, 0, 0, []) := rfl
theorem i_X9_asTaken_93 : tab t_X9_asTaken 93 = some (.goto 4, 3, 97, 0, 0, 0, 0, 0, 0, 0, []) := rfl
theorem i_X9_asTaken_96 : tab t_X9_asTaken 96 = some (.iconst 0, 1, 0, 0, 0, 0, 0, 0, 0, 0, []) := rfl
theorem i_X9_asTaken_97 : tab t_X9_asTaken 97 = some (.bastore, 1, 0, 0, 0, 2, 0, 0, 0, 0, []) := rfl
theorem i_X9_asTaken_98 : tab t_X9_asTaken 98 = some (.iinc 3 1, 3, 3, 1, 0, 0, 0, 0, 0, 0, []) := rfl
theorem i_X9_asTaken_101 : tab t_X9_asTaken 101 = some (.goto (-43), 3, 58, 0, 0, 0, 0, 0, 0, 0, []) := rfl
theorem i_X9_asTaken_104 : tab t_X9_asTaken 104 = some (.return_, 1, 0, 0, 0, 0, 0, 0, 0, 0, []) := rfl
def t_X9_thinks : List (Nat × rw_) := [(0, (.aload_n 0, 1, 0, 0, 0, 0, 0, 0, 0, 0, [])), (1, (.iload_n 1, 1, 1, 0, 0, 0, 0, 0, 0, 0, [])), (2, (.invokevirtual 200, 3, 1, 0, 0, 0, 129, 10, 0, 0, [])), (5, (.ifCond .eq 18, 3, 23, 0, 0, 0, 0, 0, 0, 0, [])), (8, (.aload_n 0, 1, 0, 0, 0, 0, 0, 0, 0, 0, [])), (9, (.iload_n 2, 1, 2, 0, 0, 0, 0, 0, 0, 0, [])), (10, (.invokevirtual 185, 3, 1, 0, 0, 0, 128, 10, 0, 0, [])), (13, (.ifCond .eq 10, 3, 23, 0, 0, 0, 0, 0, 0, 0, [])), (16, (.iload_n 3, 1, 3, 0, 0, 0, 0, 0, 0, 0, [])), (17, (.invokestatic 203, 3, 1, 0, 0, 0, 127, 0, 0, 0, [])), (20, (.ifCond .ne 6, 3, 26, 0, 0, 0, 0, 0, 0, 0, [])), (23, (.bipush (-2), 2, 0, -2, 0, 0, 0, 0, 0, 0, [])), (25, (.ireturn, 1, 0, 0, 0, 0, 0, 0, 0, 0, [])), (26, (.aload_n 0, 1, 0, 0, 0, 0, 0, 0, 0, 0, [])), (27, (.invokevirtual 449, 3, 0, 0, 0, 0, 194, 10, 0, 0, [])), (30, (.aload_n 0, 1, 0, 0, 0, 0, 0, 0, 0, 0, [])), (31, (.iload_n 1, 1, 1, 0, 0, 0, 0, 0, 0, 0, [])), (32, (.iload_n 3, 1, 3, 0, 0, 0, 0, 0, 0, 0, [])), (33, (.invokevirtual 452, 3, 2, 0, 0, 0, 195, 10, 0, 0, [])), (36, (.aload_n 0, 1, 0, 0, 0, 0, 0, 0, 0, 0, [])), (37, (.iload_n 2, 1, 2, 0, 0, 0, 0, 0, 0, 0, [])), (38, (.iload_n 3, 1, 3, 0, 0, 0, 0, 0, 0, 0, [])), (39, (.invokevirtual 426, 3, 2, 0, 0, 0, 182, 10, 0, 0, [])), (42, (.ireturn, 1, 0, 0, 0, 0, 0, 0, 0, 0, []))]
set_option maxRecDepth 100000 in
theorem ok_X9_thinks : tb_ok ctX9 m_X9_thinks t_X9_thinks = true := by decide +kernel
theorem i_X9_thinks_0 : tab t_X9_thinks 0 = some (.aload_n 0, 1, 0, 0, 0, 0, 0, 0, 0, 0, []) := rfl
theorem i_X9_thinks_1 : tab t_X9_thinks 1 = some (.iload_n 1, 1, 1, 0, 0, 0, 0, 0, 0, 0, []) := rfl
theorem i_X9_thinks_2 : tab t_X9_thinks 2 = some (.invokevirtual 200, 3, 1, 0, 0, 0, 129, 10, 0, 0, []) := rfl
theorem i_X9_thinks_5 : tab t_X9_thinks 5 = some (.ifCond .eq 18, 3, 23, 0, 0, 0, 0, 0, 0, 0, []) := rfl
theorem i_X9_thinks_8 : tab t_X9_thinks 8 = some (.aload_n 0, 1, 0, 0, 0, 0, 0, 0, 0, 0, []) := rfl
theorem i_X9_thinks_9 : tab t_X9_thinks 9 = some (.iload_n 2, 1, 2, 0, 0, 0, 0, 0, 0, 0, []) := rfl
theorem i_X9_thinks_10 : tab t_X9_thinks 10 = some (.invokevirtual 185, 3, 1, 0, 0, 0, 128, 10, 0, 0, []) := rfl
theorem i_X9_thinks_13 : tab t_X9_thinks 13 = some (.ifCond .eq 10, 3, 23, 0, 0, 0, 0, 0, 0, 0, []) := rfl
theorem i_X9_thinks_16 : tab t_X9_thinks 16 = some (.iload_n 3, 1, 3, 0, 0, 0, 0, 0, 0, 0, []) := rfl
theorem i_X9_thinks_17 : tab t_X9_thinks 17 = some (.invokestatic 203, 3, 1, 0, 0, 0, 127, 0, 0, 0, []) := rfl
theorem i_X9_thinks_20 : tab t_X9_thinks 20 = some (.ifCond .ne 6, 3, 26, 0, 0, 0, 0, 0, 0, 0, []) := rfl
theorem i_X9_thinks_23 : tab t_X9_thinks 23 = some (.bipush (-2), 2, 0, -2, 0, 0, 0, 0, 0, 0, []) := rfl
theorem i_X9_thinks_25 : tab t_X9_thinks 25 = some (.ireturn, 1, 0, 0, 0, 0, 0, 0, 0, 0, []) := rfl
theorem i_X9_thinks_26 : tab t_X9_thinks 26 = some (.aload_n 0, 1, 0, 0, 0, 0, 0, 0, 0, 0, []) := rfl
theorem i_X9_thinks_27 : tab t_X9_thinks 27 = some (.invokevirtual 449, 3, 0, 0, 0, 0, 194, 10, 0, 0, []) := rfl
theorem i_X9_thinks_30 : tab t_X9_thinks 30 = some (.aload_n 0, 1, 0, 0, 0, 0, 0, 0, 0, 0, []) := rfl
theorem i_X9_thinks_31 : tab t_X9_thinks 31 = some (.iload_n 1, 1, 1, 0, 0, 0, 0, 0, 0, 0, []) := rfl
theorem i_X9_thinks_32 : tab t_X9_thinks 32 = some (.iload_n 3, 1, 3, 0, 0, 0, 0, 0, 0, 0, []) := rfl
theorem i_X9_thinks_33 : tab t_X9_thinks 33 = some (.invokevirtual 452, 3, 2, 0, 0, 0, 195, 10, 0, 0, []) := rfl
theorem i_X9_thinks_36 : tab t_X9_thinks 36 = some (.aload_n 0, 1, 0, 0, 0, 0, 0, 0, 0, 0, []) := rfl
theorem i_X9_thinks_37 : tab t_X9_thinks 37 = some (.iload_n 2, 1, 2, 0, 0, 0, 0, 0, 0, 0, []) := rfl
theorem i_X9_thinks_38 : tab t_X9_thinks 38 = some (.iload_n 3, 1, 3, 0, 0, 0, 0, 0, 0, 0, []) := rfl
theorem i_X9_thinks_39 : tab t_X9_thinks 39 = some (.invokevirtual 426, 3, 2, 0, 0, 0, 182, 10, 0, 0, []) := rfl
theorem i_X9_thinks_42 : tab t_X9_thinks 42 = some (.ireturn, 1, 0, 0, 0, 0, 0, 0, 0, 0, []) := rfl
def t_X9_commandingBesides : List (Nat × rw_) := [(0, (.aload_n 0, 1, 0, 0, 0, 0, 0, 0, 0, 0, [])), (1, (.iload_n 2, 1, 2, 0, 0, 0, 0, 0, 0, 0, [])), (2, (.invokevirtual 423, 3, 1, 0, 0, 0, 172, 10, 0, 0, [])), (5, (.iconst 0, 1, 0, 0, 0, 0, 0, 0, 0, 0, [])), (6, (.istore_n 3, 1, 3, 0, 0, 0, 0, 0, 0, 0, [])), (7, (.iload_n 3, 1, 3, 0, 0, 0, 0, 0, 0, 0, [])), (8, (.aload_n 0, 1, 0, 0, 0, 0, 0, 0, 0, 0, [])), (9, (.getfield 182, 3, 0, 0, 0, 9, 2, 0, 0, 0, [])), (12, (.if_icmp .ge 38, 3, 50, 0, 0, 0, 0, 0, 0, 0, [])), (15, (.aload_n 0, 1, 0, 0, 0, 0, 0, 0, 0, 0, [])), (16, (.getfield 112, 3, 2, 0, 0, 9, 48, 0, 0, 0, [])), (19, (.iload_n 3, 1, 3, 0, 0, 0, 0, 0, 0, 0, [])), (20, (.aload_n 0, 1, 0, 0, 0, 0, 0, 0, 0, 0, [])), (21, (.getfield 112, 3, 2, 0, 0, 9, 48, 0, 0, 0, [])), (24, (.iload_n 3, 1, 3, 0, 0, 0, 0, 0, 0, 0, [])), (25, (.baload, 1, 0, 0, 0, 0, 0, 0, 0, 0, [])), (26, (.ifCond .ne 12, 3, 38, 0, 0, 0, 0, 0, 0, 0, [])), (29, (.aload_n 0, 1, 0, 0, 0, 0, 0, 0, 0, 0, [])), (30, (.getfield 137, 3, 2, 0, 0, 9, 56, 0, 0, 0, [])), (33, (.iload_n 3, 1, 3, 0, 0, 0, 0, 0, 0, 0, [])), (34, (.baload, 1, 0, 0, 0, 0, 0, 0, 0, 0, [])), (35, (.ifCond .eq 7, 3, 42, 0, 0, 0, 0, 0, 0, 0, [])), (38, (.iconst 1, 1, 0, 1, 0, 0, 0, 0, 0, 0, [])), (39, (.goto 4, 3, 43, 0, 0, 0, 0, 0, 0, 0, [])), (42, (.iconst 0, 1, 0, 0, 0, 0, 0, 0, 0, 0, [])), (43, (.bastore, 1, 0, 0, 0, 2, 0, 0, 0, 0, [])), (44, (.iinc 3 1, 3, 3, 1, 0, 0, 0, 0, 0, 0, [])), (47, (.goto (-40), 3, 7, 0, 0, 0, 0, 0, 0, 0, [])), (50, (.aload_n 0, 1, 0, 0, 0, 0, 0, 0, 0, 0, [])), (51, (.iload_n 1, 1, 1, 0, 0, 0, 0, 0, 0, 0, [])), (52, (.iload_n 2, 1, 2, 0, 0, 0, 0, 0, 0, 0, [])), (53, (.invokevirtual 426, 3, 2, 0, 0, 0, 182, 10, 0, 0, [])), (56, (.ireturn, 1, 0, 0, 0, 0, 0, 0, 0, 0, []))]
set_option maxRecDepth 100000 in
theorem ok_X9_commandingBesides : tb_ok ctX9 m_X9_commandingBesides t_X9_commandingBesides = true := by decide +kernel
theorem i_X9_commandingBesides_0 : tab t_X9_commandingBesides 0 = some (.aload_n 0, 1, 0, 0, 0, 0, 0, 0, 0, 0, []) := rfl
theorem i_X9_commandingBesides_1 : tab t_X9_commandingBesides 1 = some (.iload_n 2, 1, 2, 0, 0, 0, 0, 0, 0, 0, []) := rfl
theorem i_X9_commandingBesides_2 : tab t_X9_commandingBesides 2 = some (.invokevirtual 423, 3, 1, 0, 0, 0, 172, 10, 0, 0, []) := rfl
theorem i_X9_commandingBesides_5 : tab t_X9_commandingBesides 5 = some (.iconst 0, 1, 0, 0, 0, 0, 0, 0, 0, 0, []) := rfl
theorem i_X9_commandingBesides_6 : tab t_X9_commandingBesides 6 = some (.istore_n 3, 1, 3, 0, 0, 0, 0, 0, 0, 0, []) := rfl
theorem i_X9_commandingBesides_7 : tab t_X9_commandingBesides 7 = some (.iload_n 3, 1, 3, 0, 0, 0, 0, 0, 0, 0, []) := rfl
theorem i_X9_commandingBesides_8 : tab t_X9_commandingBesides 8 = some (.aload_n 0, 1, 0, 0, 0, 0, 0, 0, 0, 0, []) := rfl
theorem i_X9_commandingBesides_9 : tab t_X9_commandingBesides 9 = some (.getfield 182, 3, 0, 0, 0, 9, 2, 0, 0, 0, []) := rfl
theorem i_X9_commandingBesides_12 : tab t_X9_commandingBesides 12 = some (.if_icmp .ge 38, 3, 50, 0, 0, 0, 0, 0, 0, 0, []) := rfl
theorem i_X9_commandingBesides_15 : tab t_X9_commandingBesides 15 = some (.aload_n 0, 1, 0, 0, 0, 0, 0, 0, 0, 0, []) := rfl
theorem i_X9_commandingBesides_16 : tab t_X9_commandingBesides 16 = some (.getfield 112, 3, 2, 0, 0, 9, 48, 0, 0, 0, []) := rfl
theorem i_X9_commandingBesides_19 : tab t_X9_commandingBesides 19 = some (.iload_n 3, 1, 3, 0, 0, 0, 0, 0, 0, 0, []) := rfl
theorem i_X9_commandingBesides_20 : tab t_X9_commandingBesides 20 = some (.aload_n 0, 1, 0, 0, 0, 0, 0, 0, 0, 0, []) := rfl
theorem i_X9_commandingBesides_21 : tab t_X9_commandingBesides 21 = some (.getfield 112, 3, 2, 0, 0, 9, 48, 0, 0, 0, []) := rfl
theorem i_X9_commandingBesides_24 : tab t_X9_commandingBesides 24 = some (.iload_n 3, 1, 3, 0, 0, 0, 0, 0, 0, 0, []) := rfl
theorem i_X9_commandingBesides_25 : tab t_X9_commandingBesides 25 = some (.baload, 1, 0, 0, 0, 0, 0, 0, 0, 0, []) := rfl
theorem i_X9_commandingBesides_26 : tab t_X9_commandingBesides 26 = some (.ifCond .ne 12, 3, 38, 0, 0, 0, 0, 0, 0, 0, []) := rfl
theorem i_X9_commandingBesides_29 : tab t_X9_commandingBesides 29 = some (.aload_n 0, 1, 0, 0, 0, 0, 0, 0, 0, 0, []) := rfl
theorem i_X9_commandingBesides_30 : tab t_X9_commandingBesides 30 = some (.getfield 137, 3, 2, 0, 0, 9, 56, 0, 0, 0, []) := rfl
theorem i_X9_commandingBesides_33 : tab t_X9_commandingBesides 33 = some (.iload_n 3, 1, 3, 0, 0, 0, 0, 0, 0, 0, []) := rfl
theorem i_X9_commandingBesides_34 : tab t_X9_commandingBesides 34 = some (.baload, 1, 0, 0, 0, 0, 0, 0, 0, 0, []) := rfl
theorem i_X9_commandingBesides_35 : tab t_X9_commandingBesides 35 = some (.ifCond .eq 7, 3, 42, 0, 0, 0, 0, 0, 0, 0, []) := rfl
theorem i_X9_commandingBesides_38 : tab t_X9_commandingBesides 38 = some (.iconst 1, 1, 0, 1, 0, 0, 0, 0, 0, 0, []) := rfl
theorem i_X9_commandingBesides_39 : tab t_X9_commandingBesides 39 = some (.goto 4, 3, 43, 0, 0, 0, 0, 0, 0, 0, []) := rfl
theorem i_X9_commandingBesides_42 : tab t_X9_commandingBesides 42 = some (.iconst 0, 1, 0, 0, 0, 0, 0, 0, 0, 0, []) := rfl
theorem i_X9_commandingBesides_43 : tab t_X9_commandingBesides 43 = some (.bastore, 1, 0, 0, 0, 2, 0, 0, 0, 0, []) := rfl
theorem i_X9_commandingBesides_44 : tab t_X9_commandingBesides 44 = some (.iinc 3 1, 3, 3, 1, 0, 0, 0, 0, 0, 0, []) := rfl
theorem i_X9_commandingBesides_47 : tab t_X9_commandingBesides 47 = some (.goto (-40), 3, 7, 0, 0, 0, 0, 0, 0, 0, []) := rfl
theorem i_X9_commandingBesides_50 : tab t_X9_commandingBesides 50 = some (.aload_n 0, 1, 0, 0, 0, 0, 0, 0, 0, 0, []) := rfl
theorem i_X9_commandingBesides_51 : tab t_X9_commandingBesides 51 = some (.iload_n 1, 1, 1, 0, 0, 0, 0, 0, 0, 0, []) := rfl
theorem i_X9_commandingBesides_52 : tab t_X9_commandingBesides 52 = some (.iload_n 2, 1, 2, 0, 0, 0, 0, 0, 0, 0, []) := rfl
theorem i_X9_commandingBesides_53 : tab t_X9_commandingBesides 53 = some (.invokevirtual 426, 3, 2, 0, 0, 0, 182, 10, 0, 0, []) := rfl
theorem i_X9_commandingBesides_56 : tab t_X9_commandingBesides 56 = some (.ireturn, 1, 0, 0, 0, 0, 0, 0, 0, 0, []) := rfl
def t_X9_wrongs : List (Nat × rw_) := [(0, (.aload_n 0, 1, 0, 0, 0, 0, 0, 0, 0, 0, [])), (1, (.iload_n 1, 1, 1, 0, 0, 0, 0, 0, 0, 0, [])), (2, (.iload_n 2, 1, 2, 0, 0, 0, 0, 0, 0, 0, [])), (3, (.invokevirtual 455, 3, 2, 0, 0, 0, 197, 10, 0, 0, [])), (6, (.istore_n 3, 1, 3, 0, 0, 0, 0, 0, 0, 0, [])), (7, (.iconst 0, 1, 0, 0, 0, 0, 0, 0, 0, 0, [])), (8, (.istore 4, 2, 4, 0, 0, 0, 0, 0, 0, 0, [])), (10, (.iconst 0, 1, 0, 0, 0, 0, 0, 0, 0, 0, [])), (11, (.istore 5, 2, 5, 0, 0, 0, 0, 0, 0, 0, [])), (13, (.iload 5, 2, 5, 0, 0, 0, 0, 0, 0, 0, [])), (15, (.aload_n 0, 1, 0, 0, 0, 0, 0, 0, 0, 0, [])), (16, (.getfield 182, 3, 0, 0, 0, 9, 2, 0, 0, 0, [])), (19, (.if_icmp .ge 75, 3, 94, 0, 0, 0, 0, 0, 0, 0, [])), (22, (.aload_n 0, 1, 0, 0, 0, 0, 0, 0, 0, 0, [])), (23, (.aload_n 0, 1, 0, 0, 0, 0, 0, 0, 0, 0, [])), (24, (.getfield 44, 3, 2, 0, 0, 9, 18, 0, 0, 0, [])), (27, (.iload 5, 2, 5, 0, 0, 0, 0, 0, 0, 0, [])), (29, (.iaload, 1, 0, 0, 0, 0, 0, 0, 0, 0, [])), (30, (.iload_n 1, 1, 1, 0, 0, 0, 0, 0, 0, 0, [])), (31, (.invokevirtual 386, 3, 2, 0, 0, 0, 174, 10, 0, 0, [])), (34, (.iconst (-1), 1, 0, -1, 0, 0, 0, 0, 0, 0, [])), (35, (.if_icmp .eq 53, 3, 88, 0, 0, 0, 0, 0, 0, 0, [])), (38, (.aload_n 0, 1, 0, 0, 0, 0, 0, 0, 0, 0, [])), (39, (.iload 5, 2, 5, 0, 0, 0, 0, 0, 0, 0, [])), (41, (.iload_n 2, 1, 2, 0, 0, 0, 0, 0, 0, 0, [])), (42, (.invokevirtual 435, 3, 2, 0, 0, 0, 191, 10, 0, 0, [])), (45, (.ifCond .ne 43, 3, 88, 0, 0, 0, 0, 0, 0, 0, [])), (48, (.aload_n 0, 1, 0, 0, 0, 0, 0, 0, 0, 0, [])), (49, (.getfield 137, 3, 2, 0, 0, 9, 56, 0, 0, 0, [])), (52, (.iload 5, 2, 5, 0, 0, 0, 0, 0, 0, 0, [])), (54, (.baload, 1, 0, 0, 0, 0, 0, 0, 0, 0, [])), (55, (.ifCond .ne 33, 3, 88, 0, 0, 0, 0, 0, 0, 0, [])), (58, (.aload_n 0, 1, 0, 0, 0, 0, 0, 0, 0, 0, [])), (59, (.iload 5, 2, 5, 0, 0, 0, 0, 0, 0, 0, [])), (61, (.iload_n 2, 1, 2, 0, 0, 0, 0, 0, 0, 0, [])), (62, (.invokevirtual 452, 3, 2, 0, 0, 0, 195, 10, 0, 0, [])), (65, (.iload 4, 2, 4, 0, 0, 0, 0, 0, 0, 0, [])), (67, (.aload_n 0, 1, 0, 0, 0, 0, 0, 0, 0, 0, [])), (68, (.iload_n 1, 1, 1, 0, 0, 0, 0, 0, 0, 0, [])), (69, (.iload_n 2, 1, 2, 0, 0, 0, 0, 0, 0, 0, [])), (70, (.invokevirtual 426, 3, 2, 0, 0, 0, 182, 10, 0, 0, [])), (73, (.iload_n 3, 1, 3, 0, 0, 0, 0, 0, 0, 0, [])), (74, (.if_icmp .eq 10, 3, 84, 0, 0, 0, 0, 0, 0, 0, [])), (77, (.iconst 1, 1, 0, 1, 0, 0, 0, 0, 0, 0, [])), (78, (.iload 5, 2, 5, 0, 0, 0, 0, 0, 0, 0, [])), (80, (.ishl, 1, 0, 0, 0, 0, 0, 0, 0, 0, [])), (81, (.goto 4, 3, 85, 0, 0, 0, 0, 0, 0, 0, [])), (84, (.iconst 0, 1, 0, 0, 0, 0, 0, 0, 0, 0, [])), (85, (.ior, 1, 0, 0, 0, 0, 0, 0, 0, 0, [])), (86, (.istore 4, 2, 4, 0, 0, 0, 0, 0, 0, 0, [])), (88, (.iinc 5 1, 3, 5, 1, 0, 0, 0, 0, 0, 0, [])), (91, (.goto (-78), 3, 13, 0, 0, 0, 0, 0, 0, 0, [])), (94, (.iload 4, 2, 4, 0, 0, 0, 0, 0, 0, 0, [])), (96, (.ireturn, 1, 0, 0, 0, 0, 0, 0, 0, 0, []))]
set_option maxRecDepth 100000 in
theorem ok_X9_wrongs : tb_ok ctX9 m_X9_wrongs t_X9_wrongs = true := by decide +kernel
theorem i_X9_wrongs_0 : tab t_X9_wrongs 0 = some (.aload_n 0, 1, 0, 0, 0, 0, 0, 0, 0, 0, []) := rfl
theorem i_X9_wrongs_1 : tab t_X9_wrongs 1 = some (.iload_n 1, 1, 1, 0, 0, 0, 0, 0, 0, 0, []) := rfl
theorem i_X9_wrongs_2 : tab t_X9_wrongs 2 = some (.iload_n 2, 1, 2, 0, 0, 0, 0, 0, 0, 0, []) := rfl
theorem i_X9_wrongs_3 : tab t_X9_wrongs 3 = some (.invokevirtual 455, 3, 2, 0, 0, 0, 197, 10, 0, 0, []) := rfl
theorem i_X9_wrongs_6 : tab t_X9_wrongs 6 = some (.istore_n 3, 1, 3, 0, 0, 0, 0, 0, 0, 0, []) := rfl
theorem i_X9_wrongs_7 : tab t_X9_wrongs 7 = some (.iconst 0, 1, 0, 0, 0, 0, 0, 0, 0, 0, []) := rfl
theorem i_X9_wrongs_8 : tab t_X9_wrongs 8 = some (.istore 4, 2, 4, 0, 0, 0, 0, 0, 0, 0, []) := rfl
theorem i_X9_wrongs_10 : tab t_X9_wrongs 10 = some (.iconst 0, 1, 0, 0, 0, 0, 0, 0, 0, 0, []) := rfl
theorem i_X9_wrongs_11 : tab t_X9_wrongs 11 = some (.istore 5, 2, 5, 0, 0, 0, 0, 0, 0, 0, []) := rfl
theorem i_X9_wrongs_13 : tab t_X9_wrongs 13 = some (.iload 5, 2, 5, 0, 0, 0, 0, 0, 0, 0, []) := rfl
theorem i_X9_wrongs_15 : tab t_X9_wrongs 15 = some (.aload_n 0, 1, 0, 0, 0, 0, 0, 0, 0, 0, []) := rfl
theorem i_X9_wrongs_16 : tab t_X9_wrongs 16 = some (.getfield 182, 3, 0, 0, 0, 9, 2, 0, 0, 0, []) := rfl
theorem i_X9_wrongs_19 : tab t_X9_wrongs 19 = some (.if_icmp .ge 75, 3, 94, 0, 0, 0, 0, 0, 0, 0, []) := rfl
theorem i_X9_wrongs_22 : tab t_X9_wrongs 22 = some (.aload_n 0, 1, 0, 0, 0, 0, 0, 0, 0, 0, []) := rfl
theorem i_X9_wrongs_23 : tab t_X9_wrongs 23 = some (.aload_n 0, 1, 0, 0, 0, 0, 0, 0, 0, 0, []) := rfl
theorem i_X9_wrongs_24 : tab t_X9_wrongs 24 = some (.getfield 44, 3, 2, 0, 0, 9, 18, 0, 0, 0, []) := rfl
theorem i_X9_wrongs_27 : tab t_X9_wrongs 27 = some (.iload 5, 2, 5, 0, 0, 0, 0, 0, 0, 0, []) := rfl
theorem i_X9_wrongs_29 : tab t_X9_wrongs 29 = some (.iaload, 1, 0, 0, 0, 0, 0, 0, 0, 0, []) := rfl
theorem i_X9_wrongs_30 : tab t_X9_wrongs 30 = some (.iload_n 1, 1, 1, 0, 0, 0, 0, 0, 0, 0, []) := rfl
theorem i_X9_wrongs_31 : tab t_X9_wrongs 31 = some (.invokevirtual 386, 3, 2, 0, 0, 0, 174, 10, 0, 0, []) := rfl
theorem i_X9_wrongs_34 : tab t_X9_wrongs 34 = some (.iconst (-1), 1, 0, -1, 0, 0, 0, 0, 0, 0, []) := rfl
theorem i_X9_wrongs_35 : tab t_X9_wrongs 35 = some (.if_icmp .eq 53, 3, 88, 0, 0, 0, 0, 0, 0, 0, []) := rfl
theorem i_X9_wrongs_38 : tab t_X9_wrongs 38 = some (.aload_n 0, 1, 0, 0, 0, 0, 0, 0, 0, 0, []) := rfl
theorem i_X9_wrongs_39 : tab t_X9_wrongs 39 = some (.iload 5, 2, 5, 0, 0, 0, 0, 0, 0, 0, []) := rfl
theorem i_X9_wrongs_41 : tab t_X9_wrongs 41 = some (.iload_n 2, 1, 2, 0, 0, 0, 0, 0, 0, 0, []) := rfl
theorem i_X9_wrongs_42 : tab t_X9_wrongs 42 = some (.invokevirtual 435, 3, 2, 0, 0, 0, 191, 10, 0, 0, []) := rfl
theorem i_X9_wrongs_45 : tab t_X9_wrongs 45 = some (.ifCond .ne 43, 3, 88, 0, 0, 0, 0, 0, 0, 0, []) := rfl
theorem i_X9_wrongs_48 : tab t_X9_wrongs 48 = some (.aload_n 0, 1, 0, 0, 0, 0, 0, 0, 0, 0, []) := rfl
theorem i_X9_wrongs_49 : tab t_X9_wrongs 49 = some (.getfield 137, 3, 2, 0, 0, 9, 56, 0, 0, 0, []) := rfl
theorem i_X9_wrongs_52 : tab t_X9_wrongs 52 = some (.iload 5, 2, 5, 0, 0, 0, 0, 0, 0, 0, []) := rfl
theorem i_X9_wrongs_54 : tab t_X9_wrongs 54 = some (.baload, 1, 0, 0, 0, 0, 0, 0, 0, 0, []) := rfl
theorem i_X9_wrongs_55 : tab t_X9_wrongs 55 = some (.ifCond .ne 33, 3, 88, 0, 0, 0, 0, 0, 0, 0, []) := rfl
theorem i_X9_wrongs_58 : tab t_X9_wrongs 58 = some (.aload_n 0, 1, 0, 0, 0, 0, 0, 0, 0, 0, []) := rfl
theorem i_X9_wrongs_59 : tab t_X9_wrongs 59 = some (.iload 5, 2, 5, 0, 0, 0, 0, 0, 0, 0, []) := rfl
theorem i_X9_wrongs_61 : tab t_X9_wrongs 61 = some (.iload_n 2, 1, 2, 0, 0, 0, 0, 0, 0, 0, []) := rfl
theorem i_X9_wrongs_62 : tab t_X9_wrongs 62 = some (.invokevirtual 452, 3, 2, 0, 0, 0, 195, 10, 0, 0, []) := rfl
theorem i_X9_wrongs_65 : tab t_X9_wrongs 65 = some (.iload 4, 2, 4, 0, 0, 0, 0, 0, 0, 0, []) := rfl
theorem i_X9_wrongs_67 : tab t_X9_wrongs 67 = some (.aload_n 0, 1, 0, 0, 0, 0, 0, 0, 0, 0, []) := rfl
theorem i_X9_wrongs_68 : tab t_X9_wrongs 68 = some (.iload_n 1, 1, 1, 0, 0, 0, 0, 0, 0, 0, []) := rfl
theorem i_X9_wrongs_69 : tab t_X9_wrongs 69 = some (.iload_n 2, 1, 2, 0, 0, 0, 0, 0, 0, 0, []) := rfl
theorem i_X9_wrongs_70 : tab t_X9_wrongs 70 = some (.invokevirtual 426, 3, 2, 0, 0, 0, 182, 10, 0, 0, []) := rfl
theorem i_X9_wrongs_73 : tab t_X9_wrongs 73 = some (.iload_n 3, 1, 3, 0, 0, 0, 0, 0, 0, 0, []) := rfl
theorem i_X9_wrongs_74 : tab t_X9_wrongs 74 = some (.if_icmp .eq 10, 3, 84, 0, 0, 0, 0, 0, 0, 0, []) := rfl
theorem i_X9_wrongs_77 : tab t_X9_wrongs 77 = some (.iconst 1, 1, 0, 1, 0, 0, 0, 0, 0, 0, []) := rfl
theorem i_X9_wrongs_78 : tab t_X9_wrongs 78 = some (.iload 5, 2, 5, 0, 0, 0, 0, 0, 0, 0, []) := rfl
theorem i_X9_wrongs_80 : tab t_X9_wrongs 80 = some (.ishl, 1, 0, 0, 0, 0, 0, 0, 0, 0, []) := rfl
theorem i_X9_wrongs_81 : tab t_X9_wrongs 81 = some (.goto 4, 3, 85, 0, 0, 0, 0, 0, 0, 0, []) := rfl
theorem i_X9_wrongs_84 : tab t_X9_wrongs 84 = some (.iconst 0, 1, 0, 0, 0, 0, 0, 0, 0, 0, []) := rfl
theorem i_X9_wrongs_85 : tab t_X9_wrongs 85 = some (.ior, 1, 0, 0, 0, 0, 0, 0, 0, 0, []) := rfl
theorem i_X9_wrongs_86 : tab t_X9_wrongs 86 = some (.istore 4, 2, 4, 0, 0, 0, 0, 0, 0, 0, []) := rfl
theorem i_X9_wrongs_88 : tab t_X9_wrongs 88 = some (.iinc 5 1, 3, 5, 1, 0, 0, 0, 0, 0, 0, []) := rfl
theorem i_X9_wrongs_91 : tab t_X9_wrongs 91 = some (.goto (-78), 3, 13, 0, 0, 0, 0, 0, 0, 0, []) := rfl
theorem i_X9_wrongs_94 : tab t_X9_wrongs 94 = some (.iload 4, 2, 4, 0, 0, 0, 0, 0, 0, 0, []) := rfl
theorem i_X9_wrongs_96 : tab t_X9_wrongs 96 = some (.ireturn, 1, 0, 0, 0, 0, 0, 0, 0, 0, []) := rfl
def t_X9_wrong : List (Nat × rw_) := [(0, (.aload_n 0, 1, 0, 0, 0, 0, 0, 0, 0, 0, [])), (1, (.iload_n 1, 1, 1, 0, 0, 0, 0, 0, 0, 0, [])), (2, (.invokevirtual 185, 3, 1, 0, 0, 0, 128, 10, 0, 0, [])), (5, (.ifCond .eq 10, 3, 15, 0, 0, 0, 0, 0, 0, 0, [])), (8, (.iload_n 2, 1, 2, 0, 0, 0, 0, 0, 0, 0, [])), (9, (.invokestatic 203, 3, 1, 0, 0, 0, 127, 0, 0, 0, [])), (12, (.ifCond .ne 5, 3, 17, 0, 0, 0, 0, 0, 0, 0, [])), (15, (.iconst (-1), 1, 0, -1, 0, 0, 0, 0, 0, 0, [])), (16, (.ireturn, 1, 0, 0, 0, 0, 0, 0, 0, 0, [])), (17, (.aload_n 0, 1, 0, 0, 0, 0, 0, 0, 0, 0, [])), (18, (.invokevirtual 449, 3, 0, 0, 0, 0, 194, 10, 0, 0, [])), (21, (.aload_n 0, 1, 0, 0, 0, 0, 0, 0, 0, 0, [])), (22, (.iload_n 1, 1, 1, 0, 0, 0, 0, 0, 0, 0, [])), (23, (.iload_n 2, 1, 2, 0, 0, 0, 0, 0, 0, 0, [])), (24, (.invokevirtual 458, 3, 2, 0, 0, 0, 198, 10, 0, 0, [])), (27, (.ireturn, 1, 0, 0, 0, 0, 0, 0, 0, 0, []))]
set_option maxRecDepth 100000 in
theorem ok_X9_wrong : tb_ok ctX9 m_X9_wrong t_X9_wrong = true := by decide +kernel
theorem i_X9_wrong_0 : tab t_X9_wrong 0 = some (.aload_n 0, 1, 0, 0, 0, 0, 0, 0, 0, 0, []) := rfl
theorem i_X9_wrong_1 : tab t_X9_wrong 1 = some (.iload_n 1, 1, 1, 0, 0, 0, 0, 0, 0, 0, []) := rfl
theorem i_X9_wrong_2 : tab t_X9_wrong 2 = some (.invokevirtual 185, 3, 1, 0, 0, 0, 128, 10, 0, 0, []) := rfl
theorem i_X9_wrong_5 : tab t_X9_wrong 5 = some (.ifCond .eq 10, 3, 15, 0, 0, 0, 0, 0, 0, 0, []) := rfl
theorem i_X9_wrong_8 : tab t_X9_wrong 8 = some (.iload_n 2, 1, 2, 0, 0, 0, 0, 0, 0, 0, []) := rfl
theorem i_X9_wrong_9 : tab t_X9_wrong 9 = some (.invokestatic 203, 3, 1, 0, 0, 0, 127, 0, 0, 0, []) := rfl
theorem i_X9_wrong_12 : tab t_X9_wrong 12 = some (.ifCond .ne 5, 3, 17, 0, 0, 0, 0, 0, 0, 0, []) := rfl
theorem i_X9_wrong_15 : tab t_X9_wrong 15 = some (.iconst (-1), 1, 0, -1, 0, 0, 0, 0, 0, 0, []) := rfl
theorem i_X9_wrong_16 : tab t_X9_wrong 16 = some (.ireturn, 1, 0, 0, 0, 0, 0, 0, 0, 0, []) := rfl
theorem i_X9_wrong_17 : tab t_X9_wrong 17 = some (.aload_n 0, 1, 0, 0, 0, 0, 0, 0, 0, 0, []) := rfl
theorem i_X9_wrong_18 : tab t_X9_wrong 18 = some (.invokevirtual 449, 3, 0, 0, 0, 0, 194, 10, 0, 0, []) := rfl
theorem i_X9_wrong_21 : tab t_X9_wrong 21 = some (.aload_n 0, 1, 0, 0, 0, 0, 0, 0, 0, 0, []) := rfl
theorem i_X9_wrong_22 : tab t_X9_wrong 22 = some (.iload_n 1, 1, 1, 0, 0, 0, 0, 0, 0, 0, []) := rfl
theorem i_X9_wrong_23 : tab t_X9_wrong 23 = some (.iload_n 2, 1, 2, 0, 0, 0, 0, 0, 0, 0, []) := rfl
theorem i_X9_wrong_24 : tab t_X9_wrong 24 = some (.invokevirtual 458, 3, 2, 0, 0, 0, 198, 10, 0, 0, []) := rfl
theorem i_X9_wrong_27 : tab t_X9_wrong 27 = some (.ireturn, 1, 0, 0, 0, 0, 0, 0, 0, 0, []) := rfl
def t_X9_order : List (Nat × rw_) := [(0, (.aload_n 0, 1, 0, 0, 0, 0, 0, 0, 0, 0, [])), (1, (.getfield 461, 3, 0, 0, 0, 9, 6, 0, 0, 0, [])), (4, (.bipush 60, 2, 0, 60, 0, 0, 0, 0, 0, 0, [])), (6, (.if_icmp .eq 71, 3, 77, 0, 0, 0, 0, 0, 0, 0, [])), (9, (.aload_n 0, 1, 0, 0, 0, 0, 0, 0, 0, 0, [])), (10, (.iload_n 1, 1, 1, 0, 0, 0, 0, 0, 0, 0, [])), (11, (.invokevirtual 200, 3, 1, 0, 0, 0, 129, 10, 0, 0, [])), (14, (.ifCond .eq 63, 3, 77, 0, 0, 0, 0, 0, 0, 0, [])), (17, (.aload_n 0, 1, 0, 0, 0, 0, 0, 0, 0, 0, [])), (18, (.iload_n 2, 1, 2, 0, 0, 0, 0, 0, 0, 0, [])), (19, (.invokevirtual 185, 3, 1, 0, 0, 0, 128, 10, 0, 0, [])), (22, (.ifCond .eq 55, 3, 77, 0, 0, 0, 0, 0, 0, 0, [])), (25, (.iload_n 3, 1, 3, 0, 0, 0, 0, 0, 0, 0, [])), (26, (.i2l, 1, 0, 0, 0, 0, 0, 0, 0, 0, [])), (27, (.lconst 0, 1, 0, 0, 0, 0, 0, 0, 0, 0, [])), (28, (.ldc2_w 193, 3, 0, 0, 9, 0, 0, 0, 0, 0, [])), (31, (.invokestatic 175, 3, 3, 0, 0, 0, 126, 0, 0, 0, [])), (34, (.ifCond .eq 43, 3, 77, 0, 0, 0, 0, 0, 0, 0, [])), (37, (.iload 4, 2, 4, 0, 0, 0, 0, 0, 0, 0, [])), (39, (.invokestatic 203, 3, 1, 0, 0, 0, 127, 0, 0, 0, [])), (42, (.ifCond .eq 35, 3, 77, 0, 0, 0, 0, 0, 0, 0, [])), (45, (.iload 5, 2, 5, 0, 0, 0, 0, 0, 0, 0, [])), (47, (.i2l, 1, 0, 0, 0, 0, 0, 0, 0, 0, [])), (48, (.iload 4, 2, 4, 0, 0, 0, 0, 0, 0, 0, [])), (50, (.i2l, 1, 0, 0, 0, 0, 0, 0, 0, 0, [])), (51, (.ldc2_w 173, 3, 0, 0, 2879, 0, 0, 0, 0, 0, [])), (54, (.invokestatic 175, 3, 3, 0, 0, 0, 126, 0, 0, 0, [])), (57, (.ifCond .eq 20, 3, 77, 0, 0, 0, 0, 0, 0, 0, [])), (60, (.iload 6, 2, 6, 0, 0, 0, 0, 0, 0, 0, [])), (62, (.i2l, 1, 0, 0, 0, 0, 0, 0, 0, 0, [])), (63, (.iload 4, 2, 4, 0, 0, 0, 0, 0, 0, 0, [])), (65, (.iconst 1, 1, 0, 1, 0, 0, 0, 0, 0, 0, [])), (66, (.iadd, 1, 0, 0, 0, 0, 0, 0, 0, 0, [])), (67, (.i2l, 1, 0, 0, 0, 0, 0, 0, 0, 0, [])), (68, (.ldc2_w 173, 3, 0, 0, 2879, 0, 0, 0, 0, 0, [])), (71, (.invokestatic 175, 3, 3, 0, 0, 0, 126, 0, 0, 0, [])), (74, (.ifCond .ne 5, 3, 79, 0, 0, 0, 0, 0, 0, 0, [])), (77, (.iconst (-1), 1, 0, -1, 0, 0, 0, 0, 0, 0, [])), (78, (.ireturn, 1, 0, 0, 0, 0, 0, 0, 0, 0, [])), (79, (.aload_n 0, 1, 0, 0, 0, 0, 0, 0, 0, 0, [])), (80, (.getfield 140, 3, 2, 0, 0, 9, 57, 0, 0, 0, [])), (83, (.aload_n 0, 1, 0, 0, 0, 0, 0, 0, 0, 0, [])), (84, (.getfield 461, 3, 0, 0, 0, 9, 6, 0, 0, 0, [])), (87, (.iload_n 1, 1, 1, 0, 0, 0, 0, 0, 0, 0, [])), (88, (.iastore, 1, 0, 0, 0, 0, 0, 0, 0, 0, [])), (89, (.aload_n 0, 1, 0, 0, 0, 0, 0, 0, 0, 0, [])), (90, (.getfield 143, 3, 2, 0, 0, 9, 58, 0, 0, 0, [])), (93, (.aload_n 0, 1, 0, 0, 0, 0, 0, 0, 0, 0, [])), (94, (.getfield 461, 3, 0, 0, 0, 9, 6, 0, 0, 0, [])), (97, (.iload_n 2, 1, 2, 0, 0, 0, 0, 0, 0, 0, [])), (98, (.iastore, 1, 0, 0, 0, 0, 0, 0, 0, 0, [])), (99, (.aload_n 0, 1, 0, 0, 0, 0, 0, 0, 0, 0, [])), (100, (.getfield 146, 3, 2, 0, 0, 9, 59, 0, 0, 0, [])), (103, (.aload_n 0, 1, 0, 0, 0, 0, 0, 0, 0, 0, [])), (104, (.getfield 461, 3, 0, 0, 0, 9, 6, 0, 0, 0, [])), (107, (.iload_n 3, 1, 3, 0, 0, 0, 0, 0, 0, 0, [])), (108, (.iastore, 1, 0, 0, 0, 0, 0, 0, 0, 0, [])), (109, (.aload_n 0, 1, 0, 0, 0, 0, 0, 0, 0, 0, [])), (110, (.getfield 149, 3, 2, 0, 0, 9, 60, 0, 0, 0, [])), (113, (.aload_n 0, 1, 0, 0, 0, 0, 0, 0, 0, 0, [])), (114, (.getfield 461, 3, 0, 0, 0, 9, 6, 0, 0, 0, [])), (117, (.iload 4, 2, 4, 0, 0, 0, 0, 0, 0, 0, [])), (119, (.iastore, 1, 0, 0, 0, 0, 0, 0, 0, 0, [])), (120, (.aload_n 0, 1, 0, 0, 0, 0, 0, 0, 0, 0, [])), (121, (.getfield 152, 3, 2, 0, 0, 9, 61, 0, 0, 0, [])), (124, (.aload_n 0, 1, 0, 0, 0, 0, 0, 0, 0, 0, [])), (125, (.getfield 461, 3, 0, 0, 0, 9, 6, 0, 0, 0, [])), (128, (.iload 5, 2, 5, 0, 0, 0, 0, 0, 0, 0, [])), (130, (.iastore, 1, 0, 0, 0, 0, 0, 0, 0, 0, [])), (131, (.aload_n 0, 1, 0, 0, 0, 0, 0, 0, 0, 0, [])), (132, (.getfield 155, 3, 2, 0, 0, 9, 62, 0, 0, 0, [])), (135, (.aload_n 0, 1, 0, 0, 0, 0, 0, 0, 0, 0, [])), (136, (.getfield 461, 3, 0, 0, 0, 9, 6, 0, 0, 0, [])), (139, (.iload 6, 2, 6, 0, 0, 0, 0, 0, 0, 0, [])), (141, (.iastore, 1, 0, 0, 0, 0, 0, 0, 0, 0, [])), (142, (.aload_n 0, 1, 0, 0, 0, 0, 0, 0, 0, 0, [])), (143, (.dup, 1, 0, 0, 0, 0, 0, 0, 0, 0, [])), (144, (.getfield 461, 3, 0, 0, 0, 9, 6, 0, 0, 0, [])), (147, (.iconst 1, 1, 0, 1, 0, 0, 0, 0, 0, 0, [])), (148, (.iadd, 1, 0, 0, 0, 0, 0, 0, 0, 0, [])), (149, (.putfield 461, 3, 0, 0, 0, 9, 6, 0, 0, 0, [])), (152, (.aload_n 0, 1, 0, 0, 0, 0, 0, 0, 0, 0, [])), (153, (.getfield 461, 3, 0, 0, 0, 9, 6, 0, 0, 0, [])), (156, (.iconst 1, 1, 0, 1, 0, 0, 0, 0, 0, 0, [])), (157, (.isub, 1, 0, 0, 0, 0, 0, 0, 0, 0, [])), (158, (.ireturn, 1, 0, 0, 0, 0, 0, 0, 0, 0, []))]
set_option maxRecDepth 100000 in
theorem ok_X9_order : tb_ok ctX9 m_X9_order t_X9_order = true := by decide +kernel
theorem i_X9_order_0 : tab t_X9_order 0 = some (.aload_n 0, 1, 0, 0, 0, 0, 0, 0, 0, 0, []) := rfl
theorem i_X9_order_1 : tab t_X9_order 1 = some (.getfield 461, 3, 0, 0, 0, 9, 6, 0, 0, 0, []) := rfl
theorem i_X9_order_4 : tab t_X9_order 4 = some (.bipush 60, 2, 0, 60, 0, 0, 0, 0, 0, 0, []) := rfl
theorem i_X9_order_6 : tab t_X9_order 6 = some (.if_icmp .eq 71, 3, 77, 0, 0, 0, 0, 0, 0, 0, []) := rfl
theorem i_X9_order_9 : tab t_X9_order 9 = some (.aload_n 0, 1, 0, 0, 0, 0, 0, 0, 0, 0, []) := rfl
theorem i_X9_order_10 : tab t_X9_order 10 = some (.iload_n 1, 1, 1, 0, 0, 0, 0, 0, 0, 0, []) := rfl
theorem i_X9_order_11 : tab t_X9_order 11 = some (.invokevirtual 200, 3, 1, 0, 0, 0, 129, 10, 0, 0, []) := rfl
theorem i_X9_order_14 : tab t_X9_order 14 = some (.ifCond .eq 63, 3, 77, 0, 0, 0, 0, 0, 0, 0, []) := rfl
theorem i_X9_order_17 : tab t_X9_order 17 = some (.aload_n 0, 1, 0, 0, 0, 0, 0, 0, 0, 0, []) := rfl
theorem i_X9_order_18 : tab t_X9_order 18 = some (.iload_n 2, 1, 2, 0, 0, 0, 0, 0, 0, 0, []) := rfl
theorem i_X9_order_19 : tab t_X9_order 19 = some (.invokevirtual 185, 3, 1, 0, 0, 0, 128, 10, 0, 0, []) := rfl
theorem i_X9_order_22 : tab t_X9_order 22 = some (.ifCond .eq 55, 3, 77, 0, 0, 0, 0, 0, 0, 0, []) := rfl
theorem i_X9_order_25 : tab t_X9_order 25 = some (.iload_n 3, 1, 3, 0, 0, 0, 0, 0, 0, 0, []) := rfl
theorem i_X9_order_26 : tab t_X9_order 26 = some (.i2l, 1, 0, 0, 0, 0, 0, 0, 0, 0, []) := rfl
theorem i_X9_order_27 : tab t_X9_order 27 = some (.lconst 0, 1, 0, 0, 0, 0, 0, 0, 0, 0, []) := rfl
theorem i_X9_order_28 : tab t_X9_order 28 = some (.ldc2_w 193, 3, 0, 0, 9, 0, 0, 0, 0, 0, []) := rfl
theorem i_X9_order_31 : tab t_X9_order 31 = some (.invokestatic 175, 3, 3, 0, 0, 0, 126, 0, 0, 0, []) := rfl
theorem i_X9_order_34 : tab t_X9_order 34 = some (.ifCond .eq 43, 3, 77, 0, 0, 0, 0, 0, 0, 0, []) := rfl
theorem i_X9_order_37 : tab t_X9_order 37 = some (.iload 4, 2, 4, 0, 0, 0, 0, 0, 0, 0, []) := rfl
theorem i_X9_order_39 : tab t_X9_order 39 = some (.invokestatic 203, 3, 1, 0, 0, 0, 127, 0, 0, 0, []) := rfl
theorem i_X9_order_42 : tab t_X9_order 42 = some (.ifCond .eq 35, 3, 77, 0, 0, 0, 0, 0, 0, 0, []) := rfl
theorem i_X9_order_45 : tab t_X9_order 45 = some (.iload 5, 2, 5, 0, 0, 0, 0, 0, 0, 0, []) := rfl
theorem i_X9_order_47 : tab t_X9_order 47 = some (.i2l, 1, 0, 0, 0, 0, 0, 0, 0, 0, []) := rfl
theorem i_X9_order_48 : tab t_X9_order 48 = some (.iload 4, 2, 4, 0, 0, 0, 0, 0, 0, 0, []) := rfl
theorem i_X9_order_50 : tab t_X9_order 50 = some (.i2l, 1, 0, 0, 0, 0, 0, 0, 0, 0, []) := rfl
theorem i_X9_order_51 : tab t_X9_order 51 = some (.ldc2_w 173, 3, 0, 0, 2879, 0, 0, 0, 0, 0, []) := rfl
theorem i_X9_order_54 : tab t_X9_order 54 = some (.invokestatic 175, 3, 3, 0, 0, 0, 126, 0, 0, 0, []) := rfl
theorem i_X9_order_57 : tab t_X9_order 57 = some (.ifCond .eq 20, 3, 77, 0, 0, 0, 0, 0, 0, 0, []) := rfl
theorem i_X9_order_60 : tab t_X9_order 60 = some (.iload 6, 2, 6, 0, 0, 0, 0, 0, 0, 0, []) := rfl
theorem i_X9_order_62 : tab t_X9_order 62 = some (.i2l, 1, 0, 0, 0, 0, 0, 0, 0, 0, []) := rfl
theorem i_X9_order_63 : tab t_X9_order 63 = some (.iload 4, 2, 4, 0, 0, 0, 0, 0, 0, 0, []) := rfl
theorem i_X9_order_65 : tab t_X9_order 65 = some (.iconst 1, 1, 0, 1, 0, 0, 0, 0, 0, 0, []) := rfl
theorem i_X9_order_66 : tab t_X9_order 66 = some (.iadd, 1, 0, 0, 0, 0, 0, 0, 0, 0, []) := rfl
theorem i_X9_order_67 : tab t_X9_order 67 = some (.i2l, 1, 0, 0, 0, 0, 0, 0, 0, 0, []) := rfl
theorem i_X9_order_68 : tab t_X9_order 68 = some (.ldc2_w 173, 3, 0, 0, 2879, 0, 0, 0, 0, 0, []) := rfl
theorem i_X9_order_71 : tab t_X9_order 71 = some (.invokestatic 175, 3, 3, 0, 0, 0, 126, 0, 0, 0, []) := rfl
theorem i_X9_order_74 : tab t_X9_order 74 = some (.ifCond .ne 5, 3, 79, 0, 0, 0, 0, 0, 0, 0, []) := rfl
theorem i_X9_order_77 : tab t_X9_order 77 = some (.iconst (-1), 1, 0, -1, 0, 0, 0, 0, 0, 0, []) := rfl
theorem i_X9_order_78 : tab t_X9_order 78 = some (.ireturn, 1, 0, 0, 0, 0, 0, 0, 0, 0, []) := rfl
theorem i_X9_order_79 : tab t_X9_order 79 = some (.aload_n 0, 1, 0, 0, 0, 0, 0, 0, 0, 0, []) := rfl
theorem i_X9_order_80 : tab t_X9_order 80 = some (.getfield 140, 3, 2, 0, 0, 9, 57, 0, 0, 0, []) := rfl
theorem i_X9_order_83 : tab t_X9_order 83 = some (.aload_n 0, 1, 0, 0, 0, 0, 0, 0, 0, 0, []) := rfl
theorem i_X9_order_84 : tab t_X9_order 84 = some (.getfield 461, 3, 0, 0, 0, 9, 6, 0, 0, 0, []) := rfl
theorem i_X9_order_87 : tab t_X9_order 87 = some (.iload_n 1, 1, 1, 0, 0, 0, 0, 0, 0, 0, []) := rfl
theorem i_X9_order_88 : tab t_X9_order 88 = some (.iastore, 1, 0, 0, 0, 0, 0, 0, 0, 0, []) := rfl
theorem i_X9_order_89 : tab t_X9_order 89 = some (.aload_n 0, 1, 0, 0, 0, 0, 0, 0, 0, 0, []) := rfl
theorem i_X9_order_90 : tab t_X9_order 90 = some (.getfield 143, 3, 2, 0, 0, 9, 58, 0, 0, 0, []) := rfl
theorem i_X9_order_93 : tab t_X9_order 93 = some (.aload_n 0, 1, 0, 0, 0, 0, 0, 0, 0, 0, []) := rfl
theorem i_X9_order_94 : tab t_X9_order 94 = some (.getfield 461, 3, 0, 0, 0, 9, 6, 0, 0, 0, []) := rfl
theorem i_X9_order_97 : tab t_X9_order 97 = some (.iload_n 2, 1, 2, 0, 0, 0, 0, 0, 0, 0, []) := rfl
theorem i_X9_order_98 : tab t_X9_order 98 = some (.iastore, 1, 0, 0, 0, 0, 0, 0, 0, 0, []) := rfl
theorem i_X9_order_99 : tab t_X9_order 99 = some (.aload_n 0, 1, 0, 0, 0, 0, 0, 0, 0, 0, []) := rfl
theorem i_X9_order_100 : tab t_X9_order 100 = some (.getfield 146, 3, 2, 0, 0, 9, 59, 0, 0, 0, []) := rfl
theorem i_X9_order_103 : tab t_X9_order 103 = some (.aload_n 0, 1, 0, 0, 0, 0, 0, 0, 0, 0, []) := rfl
theorem i_X9_order_104 : tab t_X9_order 104 = some (.getfield 461, 3, 0, 0, 0, 9, 6, 0, 0, 0, []) := rfl
theorem i_X9_order_107 : tab t_X9_order 107 = some (.iload_n 3, 1, 3, 0, 0, 0, 0, 0, 0, 0, []) := rfl
theorem i_X9_order_108 : tab t_X9_order 108 = some (.iastore, 1, 0, 0, 0, 0, 0, 0, 0, 0, []) := rfl
theorem i_X9_order_109 : tab t_X9_order 109 = some (.aload_n 0, 1, 0, 0, 0, 0, 0, 0, 0, 0, []) := rfl
theorem i_X9_order_110 : tab t_X9_order 110 = some (.getfield 149, 3, 2, 0, 0, 9, 60, 0, 0, 0, []) := rfl
theorem i_X9_order_113 : tab t_X9_order 113 = some (.aload_n 0, 1, 0, 0, 0, 0, 0, 0, 0, 0, []) := rfl
theorem i_X9_order_114 : tab t_X9_order 114 = some (.getfield 461, 3, 0, 0, 0, 9, 6, 0, 0, 0, []) := rfl
theorem i_X9_order_117 : tab t_X9_order 117 = some (.iload 4, 2, 4, 0, 0, 0, 0, 0, 0, 0, []) := rfl
theorem i_X9_order_119 : tab t_X9_order 119 = some (.iastore, 1, 0, 0, 0, 0, 0, 0, 0, 0, []) := rfl
theorem i_X9_order_120 : tab t_X9_order 120 = some (.aload_n 0, 1, 0, 0, 0, 0, 0, 0, 0, 0, []) := rfl
theorem i_X9_order_121 : tab t_X9_order 121 = some (.getfield 152, 3, 2, 0, 0, 9, 61, 0, 0, 0, []) := rfl
theorem i_X9_order_124 : tab t_X9_order 124 = some (.aload_n 0, 1, 0, 0, 0, 0, 0, 0, 0, 0, []) := rfl
theorem i_X9_order_125 : tab t_X9_order 125 = some (.getfield 461, 3, 0, 0, 0, 9, 6, 0, 0, 0, []) := rfl
theorem i_X9_order_128 : tab t_X9_order 128 = some (.iload 5, 2, 5, 0, 0, 0, 0, 0, 0, 0, []) := rfl
theorem i_X9_order_130 : tab t_X9_order 130 = some (.iastore, 1, 0, 0, 0, 0, 0, 0, 0, 0, []) := rfl
theorem i_X9_order_131 : tab t_X9_order 131 = some (.aload_n 0, 1, 0, 0, 0, 0, 0, 0, 0, 0, []) := rfl
theorem i_X9_order_132 : tab t_X9_order 132 = some (.getfield 155, 3, 2, 0, 0, 9, 62, 0, 0, 0, []) := rfl
theorem i_X9_order_135 : tab t_X9_order 135 = some (.aload_n 0, 1, 0, 0, 0, 0, 0, 0, 0, 0, []) := rfl
theorem i_X9_order_136 : tab t_X9_order 136 = some (.getfield 461, 3, 0, 0, 0, 9, 6, 0, 0, 0, []) := rfl
theorem i_X9_order_139 : tab t_X9_order 139 = some (.iload 6, 2, 6, 0, 0, 0, 0, 0, 0, 0, []) := rfl
theorem i_X9_order_141 : tab t_X9_order 141 = some (.iastore, 1, 0, 0, 0, 0, 0, 0, 0, 0, []) := rfl
theorem i_X9_order_142 : tab t_X9_order 142 = some (.aload_n 0, 1, 0, 0, 0, 0, 0, 0, 0, 0, []) := rfl
theorem i_X9_order_143 : tab t_X9_order 143 = some (.dup, 1, 0, 0, 0, 0, 0, 0, 0, 0, []) := rfl
theorem i_X9_order_144 : tab t_X9_order 144 = some (.getfield 461, 3, 0, 0, 0, 9, 6, 0, 0, 0, []) := rfl
theorem i_X9_order_147 : tab t_X9_order 147 = some (.iconst 1, 1, 0, 1, 0, 0, 0, 0, 0, 0, []) := rfl
theorem i_X9_order_148 : tab t_X9_order 148 = some (.iadd, 1, 0, 0, 0, 0, 0, 0, 0, 0, []) := rfl
theorem i_X9_order_149 : tab t_X9_order 149 = some (.putfield 461, 3, 0, 0, 0, 9, 6, 0, 0, 0, []) := rfl
theorem i_X9_order_152 : tab t_X9_order 152 = some (.aload_n 0, 1, 0, 0, 0, 0, 0, 0, 0, 0, []) := rfl
theorem i_X9_order_153 : tab t_X9_order 153 = some (.getfield 461, 3, 0, 0, 0, 9, 6, 0, 0, 0, []) := rfl
theorem i_X9_order_156 : tab t_X9_order 156 = some (.iconst 1, 1, 0, 1, 0, 0, 0, 0, 0, 0, []) := rfl
theorem i_X9_order_157 : tab t_X9_order 157 = some (.isub, 1, 0, 0, 0, 0, 0, 0, 0, 0, []) := rfl
theorem i_X9_order_158 : tab t_X9_order 158 = some (.ireturn, 1, 0, 0, 0, 0, 0, 0, 0, 0, []) := rfl
def t_X9_isOrder : List (Nat × rw_) := [(0, (.iload_n 1, 1, 1, 0, 0, 0, 0, 0, 0, 0, [])), (1, (.i2l, 1, 0, 0, 0, 0, 0, 0, 0, 0, [])), (2, (.lconst 0, 1, 0, 0, 0, 0, 0, 0, 0, 0, [])), (3, (.aload_n 0, 1, 0, 0, 0, 0, 0, 0, 0, 0, [])), (4, (.getfield 461, 3, 0, 0, 0, 9, 6, 0, 0, 0, [])), (7, (.iconst 1, 1, 0, 1, 0, 0, 0, 0, 0, 0, [])), (8, (.isub, 1, 0, 0, 0, 0, 0, 0, 0, 0, [])), (9, (.i2l, 1, 0, 0, 0, 0, 0, 0, 0, 0, [])), (10, (.invokestatic 175, 3, 3, 0, 0, 0, 126, 0, 0, 0, [])), (13, (.ireturn, 1, 0, 0, 0, 1, 0, 0, 0, 0, []))]
set_option maxRecDepth 100000 in
theorem ok_X9_isOrder : tb_ok ctX9 m_X9_isOrder t_X9_isOrder = true := by decide +kernel
theorem i_X9_isOrder_0 : tab t_X9_isOrder 0 = some (.iload_n 1, 1, 1, 0, 0, 0, 0, 0, 0, 0, []) := rfl
theorem i_X9_isOrder_1 : tab t_X9_isOrder 1 = some (.i2l, 1, 0, 0, 0, 0, 0, 0, 0, 0, []) := rfl
theorem i_X9_isOrder_2 : tab t_X9_isOrder 2 = some (.lconst 0, 1, 0, 0, 0, 0, 0, 0, 0, 0, []) := rfl
theorem i_X9_isOrder_3 : tab t_X9_isOrder 3 = some (.aload_n 0, 1, 0, 0, 0, 0, 0, 0, 0, 0, []) := rfl
theorem i_X9_isOrder_4 : tab t_X9_isOrder 4 = some (.getfield 461, 3, 0, 0, 0, 9, 6, 0, 0, 0, []) := rfl
theorem i_X9_isOrder_7 : tab t_X9_isOrder 7 = some (.iconst 1, 1, 0, 1, 0, 0, 0, 0, 0, 0, []) := rfl
theorem i_X9_isOrder_8 : tab t_X9_isOrder 8 = some (.isub, 1, 0, 0, 0, 0, 0, 0, 0, 0, []) := rfl
theorem i_X9_isOrder_9 : tab t_X9_isOrder 9 = some (.i2l, 1, 0, 0, 0, 0, 0, 0, 0, 0, []) := rfl
theorem i_X9_isOrder_10 : tab t_X9_isOrder 10 = some (.invokestatic 175, 3, 3, 0, 0, 0, 126, 0, 0, 0, []) := rfl
theorem i_X9_isOrder_13 : tab t_X9_isOrder 13 = some (.ireturn, 1, 0, 0, 0, 1, 0, 0, 0, 0, []) := rfl
def t_X9_seatOf : List (Nat × rw_) := [(0, (.iconst (-1), 1, 0, -1, 0, 0, 0, 0, 0, 0, [])), (1, (.istore_n 2, 1, 2, 0, 0, 0, 0, 0, 0, 0, [])), (2, (.aload_n 0, 1, 0, 0, 0, 0, 0, 0, 0, 0, [])), (3, (.getfield 143, 3, 2, 0, 0, 9, 58, 0, 0, 0, [])), (6, (.iload_n 1, 1, 1, 0, 0, 0, 0, 0, 0, 0, [])), (7, (.iaload, 1, 0, 0, 0, 0, 0, 0, 0, 0, [])), (8, (.istore_n 3, 1, 3, 0, 0, 0, 0, 0, 0, 0, [])), (9, (.iload_n 3, 1, 3, 0, 0, 0, 0, 0, 0, 0, [])), (10, (.iconst (-1), 1, 0, -1, 0, 0, 0, 0, 0, 0, [])), (11, (.if_icmp .eq 39, 3, 50, 0, 0, 0, 0, 0, 0, 0, [])), (14, (.aload_n 0, 1, 0, 0, 0, 0, 0, 0, 0, 0, [])), (15, (.iload_n 3, 1, 3, 0, 0, 0, 0, 0, 0, 0, [])), (16, (.aload_n 0, 1, 0, 0, 0, 0, 0, 0, 0, 0, [])), (17, (.getfield 149, 3, 2, 0, 0, 9, 60, 0, 0, 0, [])), (20, (.iload_n 1, 1, 1, 0, 0, 0, 0, 0, 0, 0, [])), (21, (.iaload, 1, 0, 0, 0, 0, 0, 0, 0, 0, [])), (22, (.invokevirtual 429, 3, 2, 0, 0, 0, 184, 10, 0, 0, [])), (25, (.aload_n 0, 1, 0, 0, 0, 0, 0, 0, 0, 0, [])), (26, (.getfield 140, 3, 2, 0, 0, 9, 57, 0, 0, 0, [])), (29, (.iload_n 1, 1, 1, 0, 0, 0, 0, 0, 0, 0, [])), (30, (.iaload, 1, 0, 0, 0, 0, 0, 0, 0, 0, [])), (31, (.if_icmp .ne 7, 3, 38, 0, 0, 0, 0, 0, 0, 0, [])), (34, (.iload_n 3, 1, 3, 0, 0, 0, 0, 0, 0, 0, [])), (35, (.goto 4, 3, 39, 0, 0, 0, 0, 0, 0, 0, [])), (38, (.iload_n 2, 1, 2, 0, 0, 0, 0, 0, 0, 0, [])), (39, (.istore_n 2, 1, 2, 0, 0, 0, 0, 0, 0, 0, [])), (40, (.aload_n 0, 1, 0, 0, 0, 0, 0, 0, 0, 0, [])), (41, (.getfield 13, 3, 2, 0, 0, 9, 8, 0, 0, 0, [])), (44, (.iload_n 3, 1, 3, 0, 0, 0, 0, 0, 0, 0, [])), (45, (.iaload, 1, 0, 0, 0, 0, 0, 0, 0, 0, [])), (46, (.istore_n 3, 1, 3, 0, 0, 0, 0, 0, 0, 0, [])), (47, (.goto (-38), 3, 9, 0, 0, 0, 0, 0, 0, 0, [])), (50, (.iload_n 2, 1, 2, 0, 0, 0, 0, 0, 0, 0, [])), (51, (.ireturn, 1, 0, 0, 0, 0, 0, 0, 0, 0, []))]
set_option maxRecDepth 100000 in
theorem ok_X9_seatOf : tb_ok ctX9 m_X9_seatOf t_X9_seatOf = true := by decide +kernel
theorem i_X9_seatOf_0 : tab t_X9_seatOf 0 = some (.iconst (-1), 1, 0, -1, 0, 0, 0, 0, 0, 0, []) := rfl
theorem i_X9_seatOf_1 : tab t_X9_seatOf 1 = some (.istore_n 2, 1, 2, 0, 0, 0, 0, 0, 0, 0, []) := rfl
theorem i_X9_seatOf_2 : tab t_X9_seatOf 2 = some (.aload_n 0, 1, 0, 0, 0, 0, 0, 0, 0, 0, []) := rfl
theorem i_X9_seatOf_3 : tab t_X9_seatOf 3 = some (.getfield 143, 3, 2, 0, 0, 9, 58, 0, 0, 0, []) := rfl
theorem i_X9_seatOf_6 : tab t_X9_seatOf 6 = some (.iload_n 1, 1, 1, 0, 0, 0, 0, 0, 0, 0, []) := rfl
theorem i_X9_seatOf_7 : tab t_X9_seatOf 7 = some (.iaload, 1, 0, 0, 0, 0, 0, 0, 0, 0, []) := rfl
theorem i_X9_seatOf_8 : tab t_X9_seatOf 8 = some (.istore_n 3, 1, 3, 0, 0, 0, 0, 0, 0, 0, []) := rfl
theorem i_X9_seatOf_9 : tab t_X9_seatOf 9 = some (.iload_n 3, 1, 3, 0, 0, 0, 0, 0, 0, 0, []) := rfl
theorem i_X9_seatOf_10 : tab t_X9_seatOf 10 = some (.iconst (-1), 1, 0, -1, 0, 0, 0, 0, 0, 0, []) := rfl
theorem i_X9_seatOf_11 : tab t_X9_seatOf 11 = some (.if_icmp .eq 39, 3, 50, 0, 0, 0, 0, 0, 0, 0, []) := rfl
theorem i_X9_seatOf_14 : tab t_X9_seatOf 14 = some (.aload_n 0, 1, 0, 0, 0, 0, 0, 0, 0, 0, []) := rfl
theorem i_X9_seatOf_15 : tab t_X9_seatOf 15 = some (.iload_n 3, 1, 3, 0, 0, 0, 0, 0, 0, 0, []) := rfl
theorem i_X9_seatOf_16 : tab t_X9_seatOf 16 = some (.aload_n 0, 1, 0, 0, 0, 0, 0, 0, 0, 0, []) := rfl
theorem i_X9_seatOf_17 : tab t_X9_seatOf 17 = some (.getfield 149, 3, 2, 0, 0, 9, 60, 0, 0, 0, []) := rfl
theorem i_X9_seatOf_20 : tab t_X9_seatOf 20 = some (.iload_n 1, 1, 1, 0, 0, 0, 0, 0, 0, 0, []) := rfl
theorem i_X9_seatOf_21 : tab t_X9_seatOf 21 = some (.iaload, 1, 0, 0, 0, 0, 0, 0, 0, 0, []) := rfl
theorem i_X9_seatOf_22 : tab t_X9_seatOf 22 = some (.invokevirtual 429, 3, 2, 0, 0, 0, 184, 10, 0, 0, []) := rfl
theorem i_X9_seatOf_25 : tab t_X9_seatOf 25 = some (.aload_n 0, 1, 0, 0, 0, 0, 0, 0, 0, 0, []) := rfl
theorem i_X9_seatOf_26 : tab t_X9_seatOf 26 = some (.getfield 140, 3, 2, 0, 0, 9, 57, 0, 0, 0, []) := rfl
theorem i_X9_seatOf_29 : tab t_X9_seatOf 29 = some (.iload_n 1, 1, 1, 0, 0, 0, 0, 0, 0, 0, []) := rfl
theorem i_X9_seatOf_30 : tab t_X9_seatOf 30 = some (.iaload, 1, 0, 0, 0, 0, 0, 0, 0, 0, []) := rfl
theorem i_X9_seatOf_31 : tab t_X9_seatOf 31 = some (.if_icmp .ne 7, 3, 38, 0, 0, 0, 0, 0, 0, 0, []) := rfl
theorem i_X9_seatOf_34 : tab t_X9_seatOf 34 = some (.iload_n 3, 1, 3, 0, 0, 0, 0, 0, 0, 0, []) := rfl
theorem i_X9_seatOf_35 : tab t_X9_seatOf 35 = some (.goto 4, 3, 39, 0, 0, 0, 0, 0, 0, 0, []) := rfl
theorem i_X9_seatOf_38 : tab t_X9_seatOf 38 = some (.iload_n 2, 1, 2, 0, 0, 0, 0, 0, 0, 0, []) := rfl
theorem i_X9_seatOf_39 : tab t_X9_seatOf 39 = some (.istore_n 2, 1, 2, 0, 0, 0, 0, 0, 0, 0, []) := rfl
theorem i_X9_seatOf_40 : tab t_X9_seatOf 40 = some (.aload_n 0, 1, 0, 0, 0, 0, 0, 0, 0, 0, []) := rfl
theorem i_X9_seatOf_41 : tab t_X9_seatOf 41 = some (.getfield 13, 3, 2, 0, 0, 9, 8, 0, 0, 0, []) := rfl
theorem i_X9_seatOf_44 : tab t_X9_seatOf 44 = some (.iload_n 3, 1, 3, 0, 0, 0, 0, 0, 0, 0, []) := rfl
theorem i_X9_seatOf_45 : tab t_X9_seatOf 45 = some (.iaload, 1, 0, 0, 0, 0, 0, 0, 0, 0, []) := rfl
theorem i_X9_seatOf_46 : tab t_X9_seatOf 46 = some (.istore_n 3, 1, 3, 0, 0, 0, 0, 0, 0, 0, []) := rfl
theorem i_X9_seatOf_47 : tab t_X9_seatOf 47 = some (.goto (-38), 3, 9, 0, 0, 0, 0, 0, 0, 0, []) := rfl
theorem i_X9_seatOf_50 : tab t_X9_seatOf 50 = some (.iload_n 2, 1, 2, 0, 0, 0, 0, 0, 0, 0, []) := rfl
theorem i_X9_seatOf_51 : tab t_X9_seatOf 51 = some (.ireturn, 1, 0, 0, 0, 0, 0, 0, 0, 0, []) := rfl
def t_X9_seat : List (Nat × rw_) := [(0, (.aload_n 0, 1, 0, 0, 0, 0, 0, 0, 0, 0, [])), (1, (.iload_n 1, 1, 1, 0, 0, 0, 0, 0, 0, 0, [])), (2, (.invokevirtual 464, 3, 1, 0, 0, 0, 201, 10, 0, 0, [])), (5, (.ifCond .eq 11, 3, 16, 0, 0, 0, 0, 0, 0, 0, [])), (8, (.aload_n 0, 1, 0, 0, 0, 0, 0, 0, 0, 0, [])), (9, (.iload_n 1, 1, 1, 0, 0, 0, 0, 0, 0, 0, [])), (10, (.invokevirtual 467, 3, 1, 0, 0, 0, 202, 10, 0, 0, [])), (13, (.goto 5, 3, 18, 0, 0, 0, 0, 0, 0, 0, [])), (16, (.bipush (-2), 2, 0, -2, 0, 0, 0, 0, 0, 0, [])), (18, (.ireturn, 1, 0, 0, 0, 0, 0, 0, 0, 0, []))]
set_option maxRecDepth 100000 in
theorem ok_X9_seat : tb_ok ctX9 m_X9_seat t_X9_seat = true := by decide +kernel
theorem i_X9_seat_0 : tab t_X9_seat 0 = some (.aload_n 0, 1, 0, 0, 0, 0, 0, 0, 0, 0, []) := rfl
theorem i_X9_seat_1 : tab t_X9_seat 1 = some (.iload_n 1, 1, 1, 0, 0, 0, 0, 0, 0, 0, []) := rfl
theorem i_X9_seat_2 : tab t_X9_seat 2 = some (.invokevirtual 464, 3, 1, 0, 0, 0, 201, 10, 0, 0, []) := rfl
theorem i_X9_seat_5 : tab t_X9_seat 5 = some (.ifCond .eq 11, 3, 16, 0, 0, 0, 0, 0, 0, 0, []) := rfl
theorem i_X9_seat_8 : tab t_X9_seat 8 = some (.aload_n 0, 1, 0, 0, 0, 0, 0, 0, 0, 0, []) := rfl
theorem i_X9_seat_9 : tab t_X9_seat 9 = some (.iload_n 1, 1, 1, 0, 0, 0, 0, 0, 0, 0, []) := rfl
theorem i_X9_seat_10 : tab t_X9_seat 10 = some (.invokevirtual 467, 3, 1, 0, 0, 0, 202, 10, 0, 0, []) := rfl
theorem i_X9_seat_13 : tab t_X9_seat 13 = some (.goto 5, 3, 18, 0, 0, 0, 0, 0, 0, 0, []) := rfl
theorem i_X9_seat_16 : tab t_X9_seat 16 = some (.bipush (-2), 2, 0, -2, 0, 0, 0, 0, 0, 0, []) := rfl
theorem i_X9_seat_18 : tab t_X9_seat 18 = some (.ireturn, 1, 0, 0, 0, 0, 0, 0, 0, 0, []) := rfl
def t_X9_isLapsed : List (Nat × rw_) := [(0, (.aload_n 0, 1, 0, 0, 0, 0, 0, 0, 0, 0, [])), (1, (.getfield 143, 3, 2, 0, 0, 9, 58, 0, 0, 0, [])), (4, (.iload_n 1, 1, 1, 0, 0, 0, 0, 0, 0, 0, [])), (5, (.iaload, 1, 0, 0, 0, 0, 0, 0, 0, 0, [])), (6, (.istore_n 3, 1, 3, 0, 0, 0, 0, 0, 0, 0, [])), (7, (.aload_n 0, 1, 0, 0, 0, 0, 0, 0, 0, 0, [])), (8, (.getfield 26, 3, 2, 0, 0, 9, 12, 0, 0, 0, [])), (11, (.iload_n 3, 1, 3, 0, 0, 0, 0, 0, 0, 0, [])), (12, (.iaload, 1, 0, 0, 0, 0, 0, 0, 0, 0, [])), (13, (.istore 4, 2, 4, 0, 0, 0, 0, 0, 0, 0, [])), (15, (.iload 4, 2, 4, 0, 0, 0, 0, 0, 0, 0, [])), (17, (.iconst (-1), 1, 0, -1, 0, 0, 0, 0, 0, 0, [])), (18, (.if_icmp .ne 5, 3, 23, 0, 0, 0, 0, 0, 0, 0, [])), (21, (.iconst 0, 1, 0, 0, 0, 0, 0, 0, 0, 0, [])), (22, (.ireturn, 1, 0, 0, 0, 1, 0, 0, 0, 0, [])), (23, (.aload_n 0, 1, 0, 0, 0, 0, 0, 0, 0, 0, [])), (24, (.iload_n 2, 1, 2, 0, 0, 0, 0, 0, 0, 0, [])), (25, (.invokevirtual 423, 3, 1, 0, 0, 0, 172, 10, 0, 0, [])), (28, (.aload_n 0, 1, 0, 0, 0, 0, 0, 0, 0, 0, [])), (29, (.aload_n 0, 1, 0, 0, 0, 0, 0, 0, 0, 0, [])), (30, (.getfield 140, 3, 2, 0, 0, 9, 57, 0, 0, 0, [])), (33, (.iload_n 1, 1, 1, 0, 0, 0, 0, 0, 0, 0, [])), (34, (.iaload, 1, 0, 0, 0, 0, 0, 0, 0, 0, [])), (35, (.iload_n 3, 1, 3, 0, 0, 0, 0, 0, 0, 0, [])), (36, (.iload_n 2, 1, 2, 0, 0, 0, 0, 0, 0, 0, [])), (37, (.invokevirtual 393, 3, 3, 0, 0, 0, 175, 10, 0, 0, [])), (40, (.aload_n 0, 1, 0, 0, 0, 0, 0, 0, 0, 0, [])), (41, (.getfield 105, 3, 2, 0, 0, 9, 46, 0, 0, 0, [])), (44, (.bipush 10, 2, 0, 10, 0, 0, 0, 0, 0, 0, [])), (46, (.aload_n 0, 1, 0, 0, 0, 0, 0, 0, 0, 0, [])), (47, (.getfield 112, 3, 2, 0, 0, 9, 48, 0, 0, 0, [])), (50, (.aload_n 0, 1, 0, 0, 0, 0, 0, 0, 0, 0, [])), (51, (.getfield 140, 3, 2, 0, 0, 9, 57, 0, 0, 0, [])), (54, (.iload_n 1, 1, 1, 0, 0, 0, 0, 0, 0, 0, [])), (55, (.iaload, 1, 0, 0, 0, 0, 0, 0, 0, 0, [])), (56, (.baload, 1, 0, 0, 0, 0, 0, 0, 0, 0, [])), (57, (.ifCond .eq 7, 3, 64, 0, 0, 0, 0, 0, 0, 0, [])), (60, (.lconst 1, 1, 0, 0, 1, 0, 0, 0, 0, 0, [])), (61, (.goto 4, 3, 65, 0, 0, 0, 0, 0, 0, 0, [])), (64, (.lconst 0, 1, 0, 0, 0, 0, 0, 0, 0, 0, [])), (65, (.lastore, 1, 0, 0, 0, 0, 0, 0, 0, 0, [])), (66, (.aload_n 0, 1, 0, 0, 0, 0, 0, 0, 0, 0, [])), (67, (.getfield 105, 3, 2, 0, 0, 9, 46, 0, 0, 0, [])), (70, (.bipush 11, 2, 0, 11, 0, 0, 0, 0, 0, 0, [])), (72, (.iload_n 2, 1, 2, 0, 0, 0, 0, 0, 0, 0, [])), (73, (.aload_n 0, 1, 0, 0, 0, 0, 0, 0, 0, 0, [])), (74, (.getfield 149, 3, 2, 0, 0, 9, 60, 0, 0, 0, [])), (77, (.iload_n 1, 1, 1, 0, 0, 0, 0, 0, 0, 0, [])), (78, (.iaload, 1, 0, 0, 0, 0, 0, 0, 0, 0, [])), (79, (.isub, 1, 0, 0, 0, 0, 0, 0, 0, 0, [])), (80, (.i2l, 1, 0, 0, 0, 0, 0, 0, 0, 0, [])), (81, (.lastore, 1, 0, 0, 0, 0, 0, 0, 0, 0, [])), (82, (.aload_n 0, 1, 0, 0, 0, 0, 0, 0, 0, 0, [])), (83, (.getfield 105, 3, 2, 0, 0, 9, 46, 0, 0, 0, [])), (86, (.bipush 12, 2, 0, 12, 0, 0, 0, 0, 0, 0, [])), (88, (.aload_n 0, 1, 0, 0, 0, 0, 0, 0, 0, 0, [])), (89, (.getfield 146, 3, 2, 0, 0, 9, 59, 0, 0, 0, [])), (92, (.iload_n 1, 1, 1, 0, 0, 0, 0, 0, 0, 0, [])), (93, (.iaload, 1, 0, 0, 0, 0, 0, 0, 0, 0, [])), (94, (.i2l, 1, 0, 0, 0, 0, 0, 0, 0, 0, [])), (95, (.lastore, 1, 0, 0, 0, 0, 0, 0, 0, 0, [])), (96, (.iconst 0, 1, 0, 0, 0, 0, 0, 0, 0, 0, [])), (97, (.istore 5, 2, 5, 0, 0, 0, 0, 0, 0, 0, [])), (99, (.iconst 0, 1, 0, 0, 0, 0, 0, 0, 0, 0, [])), (100, (.istore 6, 2, 6, 0, 0, 0, 0, 0, 0, 0, [])), (102, (.iload 6, 2, 6, 0, 0, 0, 0, 0, 0, 0, [])), (104, (.aload_n 0, 1, 0, 0, 0, 0, 0, 0, 0, 0, [])), (105, (.getfield 87, 3, 2, 0, 0, 9, 40, 0, 0, 0, [])), (108, (.iload 4, 2, 4, 0, 0, 0, 0, 0, 0, 0, [])), (110, (.iaload, 1, 0, 0, 0, 0, 0, 0, 0, 0, [])), (111, (.if_icmp .ge 67, 3, 178, 0, 0, 0, 0, 0, 0, 0, [])), (114, (.bipush 12, 2, 0, 12, 0, 0, 0, 0, 0, 0, [])), (116, (.iload 4, 2, 4, 0, 0, 0, 0, 0, 0, 0, [])), (118, (.imul, 1, 0, 0, 0, 0, 0, 0, 0, 0, [])), (119, (.iload 6, 2, 6, 0, 0, 0, 0, 0, 0, 0, [])), (121, (.iadd, 1, 0, 0, 0, 0, 0, 0, 0, 0, [])), (122, (.istore 7, 2, 7, 0, 0, 0, 0, 0, 0, 0, [])), (124, (.iload 5, 2, 5, 0, 0, 0, 0, 0, 0, 0, [])), (126, (.ifCond .ne 39, 3, 165, 0, 0, 0, 0, 0, 0, 0, [])), (129, (.aload_n 0, 1, 0, 0, 0, 0, 0, 0, 0, 0, [])), (130, (.getfield 90, 3, 2, 0, 0, 9, 41, 0, 0, 0, [])), (133, (.iload 7, 2, 7, 0, 0, 0, 0, 0, 0, 0, [])), (135, (.iaload, 1, 0, 0, 0, 0, 0, 0, 0, 0, [])), (136, (.iconst 2, 1, 0, 2, 0, 0, 0, 0, 0, 0, [])), (137, (.if_icmp .ne 32, 3, 169, 0, 0, 0, 0, 0, 0, 0, [])), (140, (.aload_n 0, 1, 0, 0, 0, 0, 0, 0, 0, 0, [])), (141, (.iload 4, 2, 4, 0, 0, 0, 0, 0, 0, 0, [])), (143, (.aload_n 0, 1, 0, 0, 0, 0, 0, 0, 0, 0, [])), (144, (.getfield 96, 3, 2, 0, 0, 9, 43, 0, 0, 0, [])), (147, (.iload 7, 2, 7, 0, 0, 0, 0, 0, 0, 0, [])), (149, (.iaload, 1, 0, 0, 0, 0, 0, 0, 0, 0, [])), (150, (.aload_n 0, 1, 0, 0, 0, 0, 0, 0, 0, 0, [])), (151, (.getfield 99, 3, 2, 0, 0, 9, 44, 0, 0, 0, [])), (154, (.iload 7, 2, 7, 0, 0, 0, 0, 0, 0, 0, [])), (156, (.iaload, 1, 0, 0, 0, 0, 0, 0, 0, 0, [])), (157, (.invokevirtual 397, 3, 3, 0, 0, 0, 171, 10, 0, 0, [])), (160, (.lconst 1, 1, 0, 0, 1, 0, 0, 0, 0, 0, [])), (161, (.lcmp, 1, 0, 0, 0, 0, 0, 0, 0, 0, [])), (162, (.ifCond .ne 7, 3, 169, 0, 0, 0, 0, 0, 0, 0, [])), (165, (.iconst 1, 1, 0, 1, 0, 0, 0, 0, 0, 0, [])), (166, (.goto 4, 3, 170, 0, 0, 0, 0, 0, 0, 0, [])), (169, (.iconst 0, 1, 0, 0, 0, 0, 0, 0, 0, 0, [])), (170, (.istore 5, 2, 5, 0, 0, 0, 0, 0, 0, 0, [])), (172, (.iinc 6 1, 3, 6, 1, 0, 0, 0, 0, 0, 0, [])), (175, (.goto (-73), 3, 102, 0, 0, 0, 0, 0, 0, 0, [])), (178, (.iload 5, 2, 5, 0, 0, 0, 0, 0, 0, 0, [])), (180, (.ireturn, 1, 0, 0, 0, 1, 0, 0, 0, 0, []))]
set_option maxRecDepth 100000 in
theorem ok_X9_isLapsed : tb_ok ctX9 m_X9_isLapsed t_X9_isLapsed = true := by decide +kernel
theorem i_X9_isLapsed_0 : tab t_X9_isLapsed 0 = some (.aload_n 0, 1, 0, 0, 0, 0, 0, 0, 0, 0, []) := rfl
theorem i_X9_isLapsed_1 : tab t_X9_isLapsed 1 = some (.getfield 143, 3, 2, 0, 0, 9, 58, 0, 0, 0, []) := rfl
theorem i_X9_isLapsed_4 : tab t_X9_isLapsed 4 = some (.iload_n 1, 1, 1, 0, 0, 0, 0, 0, 0, 0, []) := rfl
theorem i_X9_isLapsed_5 : tab t_X9_isLapsed 5 = some (.iaload, 1, 0, 0, 0, 0, 0, 0, 0, 0, []) := rfl
theorem i_X9_isLapsed_6 : tab t_X9_isLapsed 6 = some (.istore_n 3, 1, 3, 0, 0, 0, 0, 0, 0, 0, []) := rfl
theorem i_X9_isLapsed_7 : tab t_X9_isLapsed 7 = some (.aload_n 0, 1, 0, 0, 0, 0, 0, 0, 0, 0, []) := rfl
theorem i_X9_isLapsed_8 : tab t_X9_isLapsed 8 = some (.getfield 26, 3, 2, 0, 0, 9, 12, 0, 0, 0, []) := rfl
theorem i_X9_isLapsed_11 : tab t_X9_isLapsed 11 = some (.iload_n 3, 1, 3, 0, 0, 0, 0, 0, 0, 0, []) := rfl
theorem i_X9_isLapsed_12 : tab t_X9_isLapsed 12 = some (.iaload, 1, 0, 0, 0, 0, 0, 0, 0, 0, []) := rfl
theorem i_X9_isLapsed_13 : tab t_X9_isLapsed 13 = some (.istore 4, 2, 4, 0, 0, 0, 0, 0, 0, 0, []) := rfl
theorem i_X9_isLapsed_15 : tab t_X9_isLapsed 15 = some (.iload 4, 2, 4, 0, 0, 0, 0, 0, 0, 0, []) := rfl
theorem i_X9_isLapsed_17 : tab t_X9_isLapsed 17 = some (.iconst (-1), 1, 0, -1, 0, 0, 0, 0, 0, 0, []) := rfl
theorem i_X9_isLapsed_18 : tab t_X9_isLapsed 18 = some (.if_icmp .ne 5, 3, 23, 0, 0, 0, 0, 0, 0, 0, []) := rfl
theorem i_X9_isLapsed_21 : tab t_X9_isLapsed 21 = some (.iconst 0, 1, 0, 0, 0, 0, 0, 0, 0, 0, []) := rfl
theorem i_X9_isLapsed_22 : tab t_X9_isLapsed 22 = some (.ireturn, 1, 0, 0, 0, 1, 0, 0, 0, 0, []) := rfl
theorem i_X9_isLapsed_23 : tab t_X9_isLapsed 23 = some (.aload_n 0, 1, 0, 0, 0, 0, 0, 0, 0, 0, []) := rfl
theorem i_X9_isLapsed_24 : tab t_X9_isLapsed 24 = some (.iload_n 2, 1, 2, 0, 0, 0, 0, 0, 0, 0, []) := rfl
theorem i_X9_isLapsed_25 : tab t_X9_isLapsed 25 = some (.invokevirtual 423, 3, 1, 0, 0, 0, 172, 10, 0, 0, []) := rfl
theorem i_X9_isLapsed_28 : tab t_X9_isLapsed 28 = some (.aload_n 0, 1, 0, 0, 0, 0, 0, 0, 0, 0, []) := rfl
theorem i_X9_isLapsed_29 : tab t_X9_isLapsed 29 = some (.aload_n 0, 1, 0, 0, 0, 0, 0, 0, 0, 0, []) := rfl
theorem i_X9_isLapsed_30 : tab t_X9_isLapsed 30 = some (.getfield 140, 3, 2, 0, 0, 9, 57, 0, 0, 0, []) := rfl
theorem i_X9_isLapsed_33 : tab t_X9_isLapsed 33 = some (.iload_n 1, 1, 1, 0, 0, 0, 0, 0, 0, 0, []) := rfl
theorem i_X9_isLapsed_34 : tab t_X9_isLapsed 34 = some (.iaload, 1, 0, 0, 0, 0, 0, 0, 0, 0, []) := rfl
theorem i_X9_isLapsed_35 : tab t_X9_isLapsed 35 = some (.iload_n 3, 1, 3, 0, 0, 0, 0, 0, 0, 0, []) := rfl
theorem i_X9_isLapsed_36 : tab t_X9_isLapsed 36 = some (.iload_n 2, 1, 2, 0, 0, 0, 0, 0, 0, 0, []) := rfl
theorem i_X9_isLapsed_37 : tab t_X9_isLapsed 37 = some (.invokevirtual 393, 3, 3, 0, 0, 0, 175, 10, 0, 0, []) := rfl
theorem i_X9_isLapsed_40 : tab t_X9_isLapsed 40 = some (.aload_n 0, 1, 0, 0, 0, 0, 0, 0, 0, 0, []) := rfl
theorem i_X9_isLapsed_41 : tab t_X9_isLapsed 41 = some (.getfield 105, 3, 2, 0, 0, 9, 46, 0, 0, 0, []) := rfl
theorem i_X9_isLapsed_44 : tab t_X9_isLapsed 44 = some (.bipush 10, 2, 0, 10, 0, 0, 0, 0, 0, 0, []) := rfl
theorem i_X9_isLapsed_46 : tab t_X9_isLapsed 46 = some (.aload_n 0, 1, 0, 0, 0, 0, 0, 0, 0, 0, []) := rfl
theorem i_X9_isLapsed_47 : tab t_X9_isLapsed 47 = some (.getfield 112, 3, 2, 0, 0, 9, 48, 0, 0, 0, []) := rfl
theorem i_X9_isLapsed_50 : tab t_X9_isLapsed 50 = some (.aload_n 0, 1, 0, 0, 0, 0, 0, 0, 0, 0, []) := rfl
theorem i_X9_isLapsed_51 : tab t_X9_isLapsed 51 = some (.getfield 140, 3, 2, 0, 0, 9, 57, 0, 0, 0, []) := rfl
theorem i_X9_isLapsed_54 : tab t_X9_isLapsed 54 = some (.iload_n 1, 1, 1, 0, 0, 0, 0, 0, 0, 0, []) := rfl
theorem i_X9_isLapsed_55 : tab t_X9_isLapsed 55 = some (.iaload, 1, 0, 0, 0, 0, 0, 0, 0, 0, []) := rfl
theorem i_X9_isLapsed_56 : tab t_X9_isLapsed 56 = some (.baload, 1, 0, 0, 0, 0, 0, 0, 0, 0, []) := rfl
theorem i_X9_isLapsed_57 : tab t_X9_isLapsed 57 = some (.ifCond .eq 7, 3, 64, 0, 0, 0, 0, 0, 0, 0, []) := rfl
theorem i_X9_isLapsed_60 : tab t_X9_isLapsed 60 = some (.lconst 1, 1, 0, 0, 1, 0, 0, 0, 0, 0, []) := rfl
theorem i_X9_isLapsed_61 : tab t_X9_isLapsed 61 = some (.goto 4, 3, 65, 0, 0, 0, 0, 0, 0, 0, []) := rfl
theorem i_X9_isLapsed_64 : tab t_X9_isLapsed 64 = some (.lconst 0, 1, 0, 0, 0, 0, 0, 0, 0, 0, []) := rfl
theorem i_X9_isLapsed_65 : tab t_X9_isLapsed 65 = some (.lastore, 1, 0, 0, 0, 0, 0, 0, 0, 0, []) := rfl
theorem i_X9_isLapsed_66 : tab t_X9_isLapsed 66 = some (.aload_n 0, 1, 0, 0, 0, 0, 0, 0, 0, 0, []) := rfl
theorem i_X9_isLapsed_67 : tab t_X9_isLapsed 67 = some (.getfield 105, 3, 2, 0, 0, 9, 46, 0, 0, 0, []) := rfl
theorem i_X9_isLapsed_70 : tab t_X9_isLapsed 70 = some (.bipush 11, 2, 0, 11, 0, 0, 0, 0, 0, 0, []) := rfl
theorem i_X9_isLapsed_72 : tab t_X9_isLapsed 72 = some (.iload_n 2, 1, 2, 0, 0, 0, 0, 0, 0, 0, []) := rfl
theorem i_X9_isLapsed_73 : tab t_X9_isLapsed 73 = some (.aload_n 0, 1, 0, 0, 0, 0, 0, 0, 0, 0, []) := rfl
theorem i_X9_isLapsed_74 : tab t_X9_isLapsed 74 = some (.getfield 149, 3, 2, 0, 0, 9, 60, 0, 0, 0, []) := rfl
theorem i_X9_isLapsed_77 : tab t_X9_isLapsed 77 = some (.iload_n 1, 1, 1, 0, 0, 0, 0, 0, 0, 0, []) := rfl
theorem i_X9_isLapsed_78 : tab t_X9_isLapsed 78 = some (.iaload, 1, 0, 0, 0, 0, 0, 0, 0, 0, []) := rfl
theorem i_X9_isLapsed_79 : tab t_X9_isLapsed 79 = some (.isub, 1, 0, 0, 0, 0, 0, 0, 0, 0, []) := rfl
theorem i_X9_isLapsed_80 : tab t_X9_isLapsed 80 = some (.i2l, 1, 0, 0, 0, 0, 0, 0, 0, 0, []) := rfl
theorem i_X9_isLapsed_81 : tab t_X9_isLapsed 81 = some (.lastore, 1, 0, 0, 0, 0, 0, 0, 0, 0, []) := rfl
theorem i_X9_isLapsed_82 : tab t_X9_isLapsed 82 = some (.aload_n 0, 1, 0, 0, 0, 0, 0, 0, 0, 0, []) := rfl
theorem i_X9_isLapsed_83 : tab t_X9_isLapsed 83 = some (.getfield 105, 3, 2, 0, 0, 9, 46, 0, 0, 0, []) := rfl
theorem i_X9_isLapsed_86 : tab t_X9_isLapsed 86 = some (.bipush 12, 2, 0, 12, 0, 0, 0, 0, 0, 0, []) := rfl
theorem i_X9_isLapsed_88 : tab t_X9_isLapsed 88 = some (.aload_n 0, 1, 0, 0, 0, 0, 0, 0, 0, 0, []) := rfl
theorem i_X9_isLapsed_89 : tab t_X9_isLapsed 89 = some (.getfield 146, 3, 2, 0, 0, 9, 59, 0, 0, 0, []) := rfl
theorem i_X9_isLapsed_92 : tab t_X9_isLapsed 92 = some (.iload_n 1, 1, 1, 0, 0, 0, 0, 0, 0, 0, []) := rfl
theorem i_X9_isLapsed_93 : tab t_X9_isLapsed 93 = some (.iaload, 1, 0, 0, 0, 0, 0, 0, 0, 0, []) := rfl
theorem i_X9_isLapsed_94 : tab t_X9_isLapsed 94 = some (.i2l, 1, 0, 0, 0, 0, 0, 0, 0, 0, []) := rfl
theorem i_X9_isLapsed_95 : tab t_X9_isLapsed 95 = some (.lastore, 1, 0, 0, 0, 0, 0, 0, 0, 0, []) := rfl
theorem i_X9_isLapsed_96 : tab t_X9_isLapsed 96 = some (.iconst 0, 1, 0, 0, 0, 0, 0, 0, 0, 0, []) := rfl
theorem i_X9_isLapsed_97 : tab t_X9_isLapsed 97 = some (.istore 5, 2, 5, 0, 0, 0, 0, 0, 0, 0, []) := rfl
theorem i_X9_isLapsed_99 : tab t_X9_isLapsed 99 = some (.iconst 0, 1, 0, 0, 0, 0, 0, 0, 0, 0, []) := rfl
theorem i_X9_isLapsed_100 : tab t_X9_isLapsed 100 = some (.istore 6, 2, 6, 0, 0, 0, 0, 0, 0, 0, []) := rfl
theorem i_X9_isLapsed_102 : tab t_X9_isLapsed 102 = some (.iload 6, 2, 6, 0, 0, 0, 0, 0, 0, 0, []) := rfl
theorem i_X9_isLapsed_104 : tab t_X9_isLapsed 104 = some (.aload_n 0, 1, 0, 0, 0, 0, 0, 0, 0, 0, []) := rfl
theorem i_X9_isLapsed_105 : tab t_X9_isLapsed 105 = some (.getfield 87, 3, 2, 0, 0, 9, 40, 0, 0, 0, []) := rfl
theorem i_X9_isLapsed_108 : tab t_X9_isLapsed 108 = some (.iload 4, 2, 4, 0, 0, 0, 0, 0, 0, 0, []) := rfl
theorem i_X9_isLapsed_110 : tab t_X9_isLapsed 110 = some (.iaload, 1, 0, 0, 0, 0, 0, 0, 0, 0, []) := rfl
theorem i_X9_isLapsed_111 : tab t_X9_isLapsed 111 = some (.if_icmp .ge 67, 3, 178, 0, 0, 0, 0, 0, 0, 0, []) := rfl
theorem i_X9_isLapsed_114 : tab t_X9_isLapsed 114 = some (.bipush 12, 2, 0, 12, 0, 0, 0, 0, 0, 0, []) := rfl
theorem i_X9_isLapsed_116 : tab t_X9_isLapsed 116 = some (.iload 4, 2, 4, 0, 0, 0, 0, 0, 0, 0, []) := rfl
theorem i_X9_isLapsed_118 : tab t_X9_isLapsed 118 = some (.imul, 1, 0, 0, 0, 0, 0, 0, 0, 0, []) := rfl
theorem i_X9_isLapsed_119 : tab t_X9_isLapsed 119 = some (.iload 6, 2, 6, 0, 0, 0, 0, 0, 0, 0, []) := rfl
theorem i_X9_isLapsed_121 : tab t_X9_isLapsed 121 = some (.iadd, 1, 0, 0, 0, 0, 0, 0, 0, 0, []) := rfl
theorem i_X9_isLapsed_122 : tab t_X9_isLapsed 122 = some (.istore 7, 2, 7, 0, 0, 0, 0, 0, 0, 0, []) := rfl
theorem i_X9_isLapsed_124 : tab t_X9_isLapsed 124 = some (.iload 5, 2, 5, 0, 0, 0, 0, 0, 0, 0, []) := rfl
theorem i_X9_isLapsed_126 : tab t_X9_isLapsed 126 = some (.ifCond .ne 39, 3, 165, 0, 0, 0, 0, 0, 0, 0, []) := rfl
theorem i_X9_isLapsed_129 : tab t_X9_isLapsed 129 = some (.aload_n 0, 1, 0, 0, 0, 0, 0, 0, 0, 0, []) := rfl
theorem i_X9_isLapsed_130 : tab t_X9_isLapsed 130 = some (.getfield 90, 3, 2, 0, 0, 9, 41, 0, 0, 0, []) := rfl
theorem i_X9_isLapsed_133 : tab t_X9_isLapsed 133 = some (.iload 7, 2, 7, 0, 0, 0, 0, 0, 0, 0, []) := rfl
theorem i_X9_isLapsed_135 : tab t_X9_isLapsed 135 = some (.iaload, 1, 0, 0, 0, 0, 0, 0, 0, 0, []) := rfl
theorem i_X9_isLapsed_136 : tab t_X9_isLapsed 136 = some (.iconst 2, 1, 0, 2, 0, 0, 0, 0, 0, 0, []) := rfl
theorem i_X9_isLapsed_137 : tab t_X9_isLapsed 137 = some (.if_icmp .ne 32, 3, 169, 0, 0, 0, 0, 0, 0, 0, []) := rfl
theorem i_X9_isLapsed_140 : tab t_X9_isLapsed 140 = some (.aload_n 0, 1, 0, 0, 0, 0, 0, 0, 0, 0, []) := rfl
theorem i_X9_isLapsed_141 : tab t_X9_isLapsed 141 = some (.iload 4, 2, 4, 0, 0, 0, 0, 0, 0, 0, []) := rfl
theorem i_X9_isLapsed_143 : tab t_X9_isLapsed 143 = some (.aload_n 0, 1, 0, 0, 0, 0, 0, 0, 0, 0, []) := rfl
theorem i_X9_isLapsed_144 : tab t_X9_isLapsed 144 = some (.getfield 96, 3, 2, 0, 0, 9, 43, 0, 0, 0, []) := rfl
theorem i_X9_isLapsed_147 : tab t_X9_isLapsed 147 = some (.iload 7, 2, 7, 0, 0, 0, 0, 0, 0, 0, []) := rfl
theorem i_X9_isLapsed_149 : tab t_X9_isLapsed 149 = some (.iaload, 1, 0, 0, 0, 0, 0, 0, 0, 0, []) := rfl
theorem i_X9_isLapsed_150 : tab t_X9_isLapsed 150 = some (.aload_n 0, 1, 0, 0, 0, 0, 0, 0, 0, 0, []) := rfl
theorem i_X9_isLapsed_151 : tab t_X9_isLapsed 151 = some (.getfield 99, 3, 2, 0, 0, 9, 44, 0, 0, 0, []) := rfl
theorem i_X9_isLapsed_154 : tab t_X9_isLapsed 154 = some (.iload 7, 2, 7, 0, 0, 0, 0, 0, 0, 0, []) := rfl
theorem i_X9_isLapsed_156 : tab t_X9_isLapsed 156 = some (.iaload, 1, 0, 0, 0, 0, 0, 0, 0, 0, []) := rfl
theorem i_X9_isLapsed_157 : tab t_X9_isLapsed 157 = some (.invokevirtual 397, 3, 3, 0, 0, 0, 171, 10, 0, 0, []) := rfl
theorem i_X9_isLapsed_160 : tab t_X9_isLapsed 160 = some (.lconst 1, 1, 0, 0, 1, 0, 0, 0, 0, 0, []) := rfl
theorem i_X9_isLapsed_161 : tab t_X9_isLapsed 161 = some (.lcmp, 1, 0, 0, 0, 0, 0, 0, 0, 0, []) := rfl
theorem i_X9_isLapsed_162 : tab t_X9_isLapsed 162 = some (.ifCond .ne 7, 3, 169, 0, 0, 0, 0, 0, 0, 0, []) := rfl
theorem i_X9_isLapsed_165 : tab t_X9_isLapsed 165 = some (.iconst 1, 1, 0, 1, 0, 0, 0, 0, 0, 0, []) := rfl
theorem i_X9_isLapsed_166 : tab t_X9_isLapsed 166 = some (.goto 4, 3, 170, 0, 0, 0, 0, 0, 0, 0, []) := rfl
theorem i_X9_isLapsed_169 : tab t_X9_isLapsed 169 = some (.iconst 0, 1, 0, 0, 0, 0, 0, 0, 0, 0, []) := rfl
theorem i_X9_isLapsed_170 : tab t_X9_isLapsed 170 = some (.istore 5, 2, 5, 0, 0, 0, 0, 0, 0, 0, []) := rfl
theorem i_X9_isLapsed_172 : tab t_X9_isLapsed 172 = some (.iinc 6 1, 3, 6, 1, 0, 0, 0, 0, 0, 0, []) := rfl
theorem i_X9_isLapsed_175 : tab t_X9_isLapsed 175 = some (.goto (-73), 3, 102, 0, 0, 0, 0, 0, 0, 0, []) := rfl
theorem i_X9_isLapsed_178 : tab t_X9_isLapsed 178 = some (.iload 5, 2, 5, 0, 0, 0, 0, 0, 0, 0, []) := rfl
theorem i_X9_isLapsed_180 : tab t_X9_isLapsed 180 = some (.ireturn, 1, 0, 0, 0, 1, 0, 0, 0, 0, []) := rfl
def t_X9_isInForce : List (Nat × rw_) := [(0, (.iload_n 2, 1, 2, 0, 0, 0, 0, 0, 0, 0, [])), (1, (.aload_n 0, 1, 0, 0, 0, 0, 0, 0, 0, 0, [])), (2, (.getfield 152, 3, 2, 0, 0, 9, 61, 0, 0, 0, [])), (5, (.iload_n 1, 1, 1, 0, 0, 0, 0, 0, 0, 0, [])), (6, (.iaload, 1, 0, 0, 0, 0, 0, 0, 0, 0, [])), (7, (.if_icmp .lt 35, 3, 42, 0, 0, 0, 0, 0, 0, 0, [])), (10, (.iload_n 2, 1, 2, 0, 0, 0, 0, 0, 0, 0, [])), (11, (.aload_n 0, 1, 0, 0, 0, 0, 0, 0, 0, 0, [])), (12, (.getfield 155, 3, 2, 0, 0, 9, 62, 0, 0, 0, [])), (15, (.iload_n 1, 1, 1, 0, 0, 0, 0, 0, 0, 0, [])), (16, (.iaload, 1, 0, 0, 0, 0, 0, 0, 0, 0, [])), (17, (.if_icmp .ge 25, 3, 42, 0, 0, 0, 0, 0, 0, 0, [])), (20, (.aload_n 0, 1, 0, 0, 0, 0, 0, 0, 0, 0, [])), (21, (.iload_n 1, 1, 1, 0, 0, 0, 0, 0, 0, 0, [])), (22, (.invokevirtual 467, 3, 1, 0, 0, 0, 202, 10, 0, 0, [])), (25, (.iconst (-1), 1, 0, -1, 0, 0, 0, 0, 0, 0, [])), (26, (.if_icmp .eq 16, 3, 42, 0, 0, 0, 0, 0, 0, 0, [])), (29, (.aload_n 0, 1, 0, 0, 0, 0, 0, 0, 0, 0, [])), (30, (.iload_n 1, 1, 1, 0, 0, 0, 0, 0, 0, 0, [])), (31, (.iload_n 2, 1, 2, 0, 0, 0, 0, 0, 0, 0, [])), (32, (.invokevirtual 470, 3, 2, 0, 0, 0, 204, 10, 0, 0, [])), (35, (.ifCond .ne 7, 3, 42, 0, 0, 0, 0, 0, 0, 0, [])), (38, (.iconst 1, 1, 0, 1, 0, 0, 0, 0, 0, 0, [])), (39, (.goto 4, 3, 43, 0, 0, 0, 0, 0, 0, 0, [])), (42, (.iconst 0, 1, 0, 0, 0, 0, 0, 0, 0, 0, [])), (43, (.ireturn, 1, 0, 0, 0, 1, 0, 0, 0, 0, []))]
set_option maxRecDepth 100000 in
theorem ok_X9_isInForce : tb_ok ctX9 m_X9_isInForce t_X9_isInForce = true := by decide +kernel
theorem i_X9_isInForce_0 : tab t_X9_isInForce 0 = some (.iload_n 2, 1, 2, 0, 0, 0, 0, 0, 0, 0, []) := rfl
theorem i_X9_isInForce_1 : tab t_X9_isInForce 1 = some (.aload_n 0, 1, 0, 0, 0, 0, 0, 0, 0, 0, []) := rfl
theorem i_X9_isInForce_2 : tab t_X9_isInForce 2 = some (.getfield 152, 3, 2, 0, 0, 9, 61, 0, 0, 0, []) := rfl
theorem i_X9_isInForce_5 : tab t_X9_isInForce 5 = some (.iload_n 1, 1, 1, 0, 0, 0, 0, 0, 0, 0, []) := rfl
theorem i_X9_isInForce_6 : tab t_X9_isInForce 6 = some (.iaload, 1, 0, 0, 0, 0, 0, 0, 0, 0, []) := rfl
theorem i_X9_isInForce_7 : tab t_X9_isInForce 7 = some (.if_icmp .lt 35, 3, 42, 0, 0, 0, 0, 0, 0, 0, []) := rfl
theorem i_X9_isInForce_10 : tab t_X9_isInForce 10 = some (.iload_n 2, 1, 2, 0, 0, 0, 0, 0, 0, 0, []) := rfl
theorem i_X9_isInForce_11 : tab t_X9_isInForce 11 = some (.aload_n 0, 1, 0, 0, 0, 0, 0, 0, 0, 0, []) := rfl
theorem i_X9_isInForce_12 : tab t_X9_isInForce 12 = some (.getfield 155, 3, 2, 0, 0, 9, 62, 0, 0, 0, []) := rfl
theorem i_X9_isInForce_15 : tab t_X9_isInForce 15 = some (.iload_n 1, 1, 1, 0, 0, 0, 0, 0, 0, 0, []) := rfl
theorem i_X9_isInForce_16 : tab t_X9_isInForce 16 = some (.iaload, 1, 0, 0, 0, 0, 0, 0, 0, 0, []) := rfl
theorem i_X9_isInForce_17 : tab t_X9_isInForce 17 = some (.if_icmp .ge 25, 3, 42, 0, 0, 0, 0, 0, 0, 0, []) := rfl
theorem i_X9_isInForce_20 : tab t_X9_isInForce 20 = some (.aload_n 0, 1, 0, 0, 0, 0, 0, 0, 0, 0, []) := rfl
theorem i_X9_isInForce_21 : tab t_X9_isInForce 21 = some (.iload_n 1, 1, 1, 0, 0, 0, 0, 0, 0, 0, []) := rfl
theorem i_X9_isInForce_22 : tab t_X9_isInForce 22 = some (.invokevirtual 467, 3, 1, 0, 0, 0, 202, 10, 0, 0, []) := rfl
theorem i_X9_isInForce_25 : tab t_X9_isInForce 25 = some (.iconst (-1), 1, 0, -1, 0, 0, 0, 0, 0, 0, []) := rfl
theorem i_X9_isInForce_26 : tab t_X9_isInForce 26 = some (.if_icmp .eq 16, 3, 42, 0, 0, 0, 0, 0, 0, 0, []) := rfl
theorem i_X9_isInForce_29 : tab t_X9_isInForce 29 = some (.aload_n 0, 1, 0, 0, 0, 0, 0, 0, 0, 0, []) := rfl
theorem i_X9_isInForce_30 : tab t_X9_isInForce 30 = some (.iload_n 1, 1, 1, 0, 0, 0, 0, 0, 0, 0, []) := rfl
theorem i_X9_isInForce_31 : tab t_X9_isInForce 31 = some (.iload_n 2, 1, 2, 0, 0, 0, 0, 0, 0, 0, []) := rfl
theorem i_X9_isInForce_32 : tab t_X9_isInForce 32 = some (.invokevirtual 470, 3, 2, 0, 0, 0, 204, 10, 0, 0, []) := rfl
theorem i_X9_isInForce_35 : tab t_X9_isInForce 35 = some (.ifCond .ne 7, 3, 42, 0, 0, 0, 0, 0, 0, 0, []) := rfl
theorem i_X9_isInForce_38 : tab t_X9_isInForce 38 = some (.iconst 1, 1, 0, 1, 0, 0, 0, 0, 0, 0, []) := rfl
theorem i_X9_isInForce_39 : tab t_X9_isInForce 39 = some (.goto 4, 3, 43, 0, 0, 0, 0, 0, 0, 0, []) := rfl
theorem i_X9_isInForce_42 : tab t_X9_isInForce 42 = some (.iconst 0, 1, 0, 0, 0, 0, 0, 0, 0, 0, []) := rfl
theorem i_X9_isInForce_43 : tab t_X9_isInForce 43 = some (.ireturn, 1, 0, 0, 0, 1, 0, 0, 0, 0, []) := rfl
def t_X9_force : List (Nat × rw_) := [(0, (.aload_n 0, 1, 0, 0, 0, 0, 0, 0, 0, 0, [])), (1, (.iload_n 1, 1, 1, 0, 0, 0, 0, 0, 0, 0, [])), (2, (.invokevirtual 464, 3, 1, 0, 0, 0, 201, 10, 0, 0, [])), (5, (.ifCond .eq 10, 3, 15, 0, 0, 0, 0, 0, 0, 0, [])), (8, (.iload_n 2, 1, 2, 0, 0, 0, 0, 0, 0, 0, [])), (9, (.invokestatic 203, 3, 1, 0, 0, 0, 127, 0, 0, 0, [])), (12, (.ifCond .ne 7, 3, 19, 0, 0, 0, 0, 0, 0, 0, [])), (15, (.iconst (-1), 1, 0, -1, 0, 0, 0, 0, 0, 0, [])), (16, (.goto 17, 3, 33, 0, 0, 0, 0, 0, 0, 0, [])), (19, (.aload_n 0, 1, 0, 0, 0, 0, 0, 0, 0, 0, [])), (20, (.iload_n 1, 1, 1, 0, 0, 0, 0, 0, 0, 0, [])), (21, (.iload_n 2, 1, 2, 0, 0, 0, 0, 0, 0, 0, [])), (22, (.invokevirtual 473, 3, 2, 0, 0, 0, 205, 10, 0, 0, [])), (25, (.ifCond .eq 7, 3, 32, 0, 0, 0, 0, 0, 0, 0, [])), (28, (.iconst 1, 1, 0, 1, 0, 0, 0, 0, 0, 0, [])), (29, (.goto 4, 3, 33, 0, 0, 0, 0, 0, 0, 0, [])), (32, (.iconst 0, 1, 0, 0, 0, 0, 0, 0, 0, 0, [])), (33, (.ireturn, 1, 0, 0, 0, 0, 0, 0, 0, 0, []))]
set_option maxRecDepth 100000 in
theorem ok_X9_force : tb_ok ctX9 m_X9_force t_X9_force = true := by decide +kernel
theorem i_X9_force_0 : tab t_X9_force 0 = some (.aload_n 0, 1, 0, 0, 0, 0, 0, 0, 0, 0, []) := rfl
theorem i_X9_force_1 : tab t_X9_force 1 = some (.iload_n 1, 1, 1, 0, 0, 0, 0, 0, 0, 0, []) := rfl
theorem i_X9_force_2 : tab t_X9_force 2 = some (.invokevirtual 464, 3, 1, 0, 0, 0, 201, 10, 0, 0, []) := rfl
theorem i_X9_force_5 : tab t_X9_force 5 = some (.ifCond .eq 10, 3, 15, 0, 0, 0, 0, 0, 0, 0, []) := rfl
theorem i_X9_force_8 : tab t_X9_force 8 = some (.iload_n 2, 1, 2, 0, 0, 0, 0, 0, 0, 0, []) := rfl
theorem i_X9_force_9 : tab t_X9_force 9 = some (.invokestatic 203, 3, 1, 0, 0, 0, 127, 0, 0, 0, []) := rfl
theorem i_X9_force_12 : tab t_X9_force 12 = some (.ifCond .ne 7, 3, 19, 0, 0, 0, 0, 0, 0, 0, []) := rfl
theorem i_X9_force_15 : tab t_X9_force 15 = some (.iconst (-1), 1, 0, -1, 0, 0, 0, 0, 0, 0, []) := rfl
theorem i_X9_force_16 : tab t_X9_force 16 = some (.goto 17, 3, 33, 0, 0, 0, 0, 0, 0, 0, []) := rfl
theorem i_X9_force_19 : tab t_X9_force 19 = some (.aload_n 0, 1, 0, 0, 0, 0, 0, 0, 0, 0, []) := rfl
theorem i_X9_force_20 : tab t_X9_force 20 = some (.iload_n 1, 1, 1, 0, 0, 0, 0, 0, 0, 0, []) := rfl
theorem i_X9_force_21 : tab t_X9_force 21 = some (.iload_n 2, 1, 2, 0, 0, 0, 0, 0, 0, 0, []) := rfl
theorem i_X9_force_22 : tab t_X9_force 22 = some (.invokevirtual 473, 3, 2, 0, 0, 0, 205, 10, 0, 0, []) := rfl
theorem i_X9_force_25 : tab t_X9_force 25 = some (.ifCond .eq 7, 3, 32, 0, 0, 0, 0, 0, 0, 0, []) := rfl
theorem i_X9_force_28 : tab t_X9_force 28 = some (.iconst 1, 1, 0, 1, 0, 0, 0, 0, 0, 0, []) := rfl
theorem i_X9_force_29 : tab t_X9_force 29 = some (.goto 4, 3, 33, 0, 0, 0, 0, 0, 0, 0, []) := rfl
theorem i_X9_force_32 : tab t_X9_force 32 = some (.iconst 0, 1, 0, 0, 0, 0, 0, 0, 0, 0, []) := rfl
theorem i_X9_force_33 : tab t_X9_force 33 = some (.ireturn, 1, 0, 0, 0, 0, 0, 0, 0, 0, []) := rfl
def t_X9_level : List (Nat × rw_) := [(0, (.iconst 0, 1, 0, 0, 0, 0, 0, 0, 0, 0, [])), (1, (.istore_n 2, 1, 2, 0, 0, 0, 0, 0, 0, 0, [])), (2, (.aload_n 0, 1, 0, 0, 0, 0, 0, 0, 0, 0, [])), (3, (.getfield 13, 3, 2, 0, 0, 9, 8, 0, 0, 0, [])), (6, (.iload_n 1, 1, 1, 0, 0, 0, 0, 0, 0, 0, [])), (7, (.iaload, 1, 0, 0, 0, 0, 0, 0, 0, 0, [])), (8, (.istore_n 3, 1, 3, 0, 0, 0, 0, 0, 0, 0, [])), (9, (.iload_n 3, 1, 3, 0, 0, 0, 0, 0, 0, 0, [])), (10, (.iconst (-1), 1, 0, -1, 0, 0, 0, 0, 0, 0, [])), (11, (.if_icmp .eq 16, 3, 27, 0, 0, 0, 0, 0, 0, 0, [])), (14, (.iinc 2 1, 3, 2, 1, 0, 0, 0, 0, 0, 0, [])), (17, (.aload_n 0, 1, 0, 0, 0, 0, 0, 0, 0, 0, [])), (18, (.getfield 13, 3, 2, 0, 0, 9, 8, 0, 0, 0, [])), (21, (.iload_n 3, 1, 3, 0, 0, 0, 0, 0, 0, 0, [])), (22, (.iaload, 1, 0, 0, 0, 0, 0, 0, 0, 0, [])), (23, (.istore_n 3, 1, 3, 0, 0, 0, 0, 0, 0, 0, [])), (24, (.goto (-15), 3, 9, 0, 0, 0, 0, 0, 0, 0, [])), (27, (.iload_n 2, 1, 2, 0, 0, 0, 0, 0, 0, 0, [])), (28, (.ireturn, 1, 0, 0, 0, 0, 0, 0, 0, 0, []))]
set_option maxRecDepth 100000 in
theorem ok_X9_level : tb_ok ctX9 m_X9_level t_X9_level = true := by decide +kernel
theorem i_X9_level_0 : tab t_X9_level 0 = some (.iconst 0, 1, 0, 0, 0, 0, 0, 0, 0, 0, []) := rfl
theorem i_X9_level_1 : tab t_X9_level 1 = some (.istore_n 2, 1, 2, 0, 0, 0, 0, 0, 0, 0, []) := rfl
theorem i_X9_level_2 : tab t_X9_level 2 = some (.aload_n 0, 1, 0, 0, 0, 0, 0, 0, 0, 0, []) := rfl
theorem i_X9_level_3 : tab t_X9_level 3 = some (.getfield 13, 3, 2, 0, 0, 9, 8, 0, 0, 0, []) := rfl
theorem i_X9_level_6 : tab t_X9_level 6 = some (.iload_n 1, 1, 1, 0, 0, 0, 0, 0, 0, 0, []) := rfl
theorem i_X9_level_7 : tab t_X9_level 7 = some (.iaload, 1, 0, 0, 0, 0, 0, 0, 0, 0, []) := rfl
theorem i_X9_level_8 : tab t_X9_level 8 = some (.istore_n 3, 1, 3, 0, 0, 0, 0, 0, 0, 0, []) := rfl
theorem i_X9_level_9 : tab t_X9_level 9 = some (.iload_n 3, 1, 3, 0, 0, 0, 0, 0, 0, 0, []) := rfl
theorem i_X9_level_10 : tab t_X9_level 10 = some (.iconst (-1), 1, 0, -1, 0, 0, 0, 0, 0, 0, []) := rfl
theorem i_X9_level_11 : tab t_X9_level 11 = some (.if_icmp .eq 16, 3, 27, 0, 0, 0, 0, 0, 0, 0, []) := rfl
theorem i_X9_level_14 : tab t_X9_level 14 = some (.iinc 2 1, 3, 2, 1, 0, 0, 0, 0, 0, 0, []) := rfl
theorem i_X9_level_17 : tab t_X9_level 17 = some (.aload_n 0, 1, 0, 0, 0, 0, 0, 0, 0, 0, []) := rfl
theorem i_X9_level_18 : tab t_X9_level 18 = some (.getfield 13, 3, 2, 0, 0, 9, 8, 0, 0, 0, []) := rfl
theorem i_X9_level_21 : tab t_X9_level 21 = some (.iload_n 3, 1, 3, 0, 0, 0, 0, 0, 0, 0, []) := rfl
theorem i_X9_level_22 : tab t_X9_level 22 = some (.iaload, 1, 0, 0, 0, 0, 0, 0, 0, 0, []) := rfl
theorem i_X9_level_23 : tab t_X9_level 23 = some (.istore_n 3, 1, 3, 0, 0, 0, 0, 0, 0, 0, []) := rfl
theorem i_X9_level_24 : tab t_X9_level 24 = some (.goto (-15), 3, 9, 0, 0, 0, 0, 0, 0, 0, []) := rfl
theorem i_X9_level_27 : tab t_X9_level 27 = some (.iload_n 2, 1, 2, 0, 0, 0, 0, 0, 0, 0, []) := rfl
theorem i_X9_level_28 : tab t_X9_level 28 = some (.ireturn, 1, 0, 0, 0, 0, 0, 0, 0, 0, []) := rfl
def t_X9_binding : List (Nat × rw_) := [(0, (.iconst (-1), 1, 0, -1, 0, 0, 0, 0, 0, 0, [])), (1, (.istore_n 3, 1, 3, 0, 0, 0, 0, 0, 0, 0, [])), (2, (.iconst 0, 1, 0, 0, 0, 0, 0, 0, 0, 0, [])), (3, (.istore 4, 2, 4, 0, 0, 0, 0, 0, 0, 0, [])), (5, (.iload 4, 2, 4, 0, 0, 0, 0, 0, 0, 0, [])), (7, (.aload_n 0, 1, 0, 0, 0, 0, 0, 0, 0, 0, [])), (8, (.getfield 461, 3, 0, 0, 0, 9, 6, 0, 0, 0, [])), (11, (.if_icmp .ge 99, 3, 110, 0, 0, 0, 0, 0, 0, 0, [])), (14, (.aload_n 0, 1, 0, 0, 0, 0, 0, 0, 0, 0, [])), (15, (.getfield 143, 3, 2, 0, 0, 9, 58, 0, 0, 0, [])), (18, (.iload 4, 2, 4, 0, 0, 0, 0, 0, 0, 0, [])), (20, (.iaload, 1, 0, 0, 0, 0, 0, 0, 0, 0, [])), (21, (.iload_n 1, 1, 1, 0, 0, 0, 0, 0, 0, 0, [])), (22, (.if_icmp .ne 82, 3, 104, 0, 0, 0, 0, 0, 0, 0, [])), (25, (.aload_n 0, 1, 0, 0, 0, 0, 0, 0, 0, 0, [])), (26, (.iload 4, 2, 4, 0, 0, 0, 0, 0, 0, 0, [])), (28, (.iload_n 2, 1, 2, 0, 0, 0, 0, 0, 0, 0, [])), (29, (.invokevirtual 473, 3, 2, 0, 0, 0, 205, 10, 0, 0, [])), (32, (.ifCond .eq 72, 3, 104, 0, 0, 0, 0, 0, 0, 0, [])), (35, (.iload_n 3, 1, 3, 0, 0, 0, 0, 0, 0, 0, [])), (36, (.iconst (-1), 1, 0, -1, 0, 0, 0, 0, 0, 0, [])), (37, (.if_icmp .ne 7, 3, 44, 0, 0, 0, 0, 0, 0, 0, [])), (40, (.iconst 0, 1, 0, 0, 0, 0, 0, 0, 0, 0, [])), (41, (.goto 23, 3, 64, 0, 0, 0, 0, 0, 0, 0, [])), (44, (.aload_n 0, 1, 0, 0, 0, 0, 0, 0, 0, 0, [])), (45, (.aload_n 0, 1, 0, 0, 0, 0, 0, 0, 0, 0, [])), (46, (.iload 4, 2, 4, 0, 0, 0, 0, 0, 0, 0, [])), (48, (.invokevirtual 467, 3, 1, 0, 0, 0, 202, 10, 0, 0, [])), (51, (.invokevirtual 476, 3, 1, 0, 0, 0, 207, 10, 0, 0, [])), (54, (.aload_n 0, 1, 0, 0, 0, 0, 0, 0, 0, 0, [])), (55, (.aload_n 0, 1, 0, 0, 0, 0, 0, 0, 0, 0, [])), (56, (.iload_n 3, 1, 3, 0, 0, 0, 0, 0, 0, 0, [])), (57, (.invokevirtual 467, 3, 1, 0, 0, 0, 202, 10, 0, 0, [])), (60, (.invokevirtual 476, 3, 1, 0, 0, 0, 207, 10, 0, 0, [])), (63, (.isub, 1, 0, 0, 0, 0, 0, 0, 0, 0, [])), (64, (.istore 5, 2, 5, 0, 0, 0, 0, 0, 0, 0, [])), (66, (.iload_n 3, 1, 3, 0, 0, 0, 0, 0, 0, 0, [])), (67, (.iconst (-1), 1, 0, -1, 0, 0, 0, 0, 0, 0, [])), (68, (.if_icmp .eq 29, 3, 97, 0, 0, 0, 0, 0, 0, 0, [])), (71, (.iload 5, 2, 5, 0, 0, 0, 0, 0, 0, 0, [])), (73, (.ifCond .lt 24, 3, 97, 0, 0, 0, 0, 0, 0, 0, [])), (76, (.iload 5, 2, 5, 0, 0, 0, 0, 0, 0, 0, [])), (78, (.ifCond .ne 24, 3, 102, 0, 0, 0, 0, 0, 0, 0, [])), (81, (.aload_n 0, 1, 0, 0, 0, 0, 0, 0, 0, 0, [])), (82, (.getfield 149, 3, 2, 0, 0, 9, 60, 0, 0, 0, [])), (85, (.iload 4, 2, 4, 0, 0, 0, 0, 0, 0, 0, [])), (87, (.iaload, 1, 0, 0, 0, 0, 0, 0, 0, 0, [])), (88, (.aload_n 0, 1, 0, 0, 0, 0, 0, 0, 0, 0, [])), (89, (.getfield 149, 3, 2, 0, 0, 9, 60, 0, 0, 0, [])), (92, (.iload_n 3, 1, 3, 0, 0, 0, 0, 0, 0, 0, [])), (93, (.iaload, 1, 0, 0, 0, 0, 0, 0, 0, 0, [])), (94, (.if_icmp .lt 8, 3, 102, 0, 0, 0, 0, 0, 0, 0, [])), (97, (.iload 4, 2, 4, 0, 0, 0, 0, 0, 0, 0, [])), (99, (.goto 4, 3, 103, 0, 0, 0, 0, 0, 0, 0, [])), (102, (.iload_n 3, 1, 3, 0, 0, 0, 0, 0, 0, 0, [])), (103, (.istore_n 3, 1, 3, 0, 0, 0, 0, 0, 0, 0, [])), (104, (.iinc 4 1, 3, 4, 1, 0, 0, 0, 0, 0, 0, [])), (107, (.goto (-102), 3, 5, 0, 0, 0, 0, 0, 0, 0, [])), (110, (.iload_n 3, 1, 3, 0, 0, 0, 0, 0, 0, 0, [])), (111, (.ireturn, 1, 0, 0, 0, 0, 0, 0, 0, 0, []))]
set_option maxRecDepth 100000 in
theorem ok_X9_binding : tb_ok ctX9 m_X9_binding t_X9_binding = true := by decide +kernel
theorem i_X9_binding_0 : tab t_X9_binding 0 = some (.iconst (-1), 1, 0, -1, 0, 0, 0, 0, 0, 0, []) := rfl
theorem i_X9_binding_1 : tab t_X9_binding 1 = some (.istore_n 3, 1, 3, 0, 0, 0, 0, 0, 0, 0, []) := rfl
theorem i_X9_binding_2 : tab t_X9_binding 2 = some (.iconst 0, 1, 0, 0, 0, 0, 0, 0, 0, 0, []) := rfl
theorem i_X9_binding_3 : tab t_X9_binding 3 = some (.istore 4, 2, 4, 0, 0, 0, 0, 0, 0, 0, []) := rfl
theorem i_X9_binding_5 : tab t_X9_binding 5 = some (.iload 4, 2, 4, 0, 0, 0, 0, 0, 0, 0, []) := rfl
theorem i_X9_binding_7 : tab t_X9_binding 7 = some (.aload_n 0, 1, 0, 0, 0, 0, 0, 0, 0, 0, []) := rfl
theorem i_X9_binding_8 : tab t_X9_binding 8 = some (.getfield 461, 3, 0, 0, 0, 9, 6, 0, 0, 0, []) := rfl
theorem i_X9_binding_11 : tab t_X9_binding 11 = some (.if_icmp .ge 99, 3, 110, 0, 0, 0, 0, 0, 0, 0, []) := rfl
theorem i_X9_binding_14 : tab t_X9_binding 14 = some (.aload_n 0, 1, 0, 0, 0, 0, 0, 0, 0, 0, []) := rfl
theorem i_X9_binding_15 : tab t_X9_binding 15 = some (.getfield 143, 3, 2, 0, 0, 9, 58, 0, 0, 0, []) := rfl
theorem i_X9_binding_18 : tab t_X9_binding 18 = some (.iload 4, 2, 4, 0, 0, 0, 0, 0, 0, 0, []) := rfl
theorem i_X9_binding_20 : tab t_X9_binding 20 = some (.iaload, 1, 0, 0, 0, 0, 0, 0, 0, 0, []) := rfl
theorem i_X9_binding_21 : tab t_X9_binding 21 = some (.iload_n 1, 1, 1, 0, 0, 0, 0, 0, 0, 0, []) := rfl
theorem i_X9_binding_22 : tab t_X9_binding 22 = some (.if_icmp .ne 82, 3, 104, 0, 0, 0, 0, 0, 0, 0, []) := rfl
theorem i_X9_binding_25 : tab t_X9_binding 25 = some (.aload_n 0, 1, 0, 0, 0, 0, 0, 0, 0, 0, []) := rfl
theorem i_X9_binding_26 : tab t_X9_binding 26 = some (.iload 4, 2, 4, 0, 0, 0, 0, 0, 0, 0, []) := rfl
theorem i_X9_binding_28 : tab t_X9_binding 28 = some (.iload_n 2, 1, 2, 0, 0, 0, 0, 0, 0, 0, []) := rfl
theorem i_X9_binding_29 : tab t_X9_binding 29 = some (.invokevirtual 473, 3, 2, 0, 0, 0, 205, 10, 0, 0, []) := rfl
theorem i_X9_binding_32 : tab t_X9_binding 32 = some (.ifCond .eq 72, 3, 104, 0, 0, 0, 0, 0, 0, 0, []) := rfl
theorem i_X9_binding_35 : tab t_X9_binding 35 = some (.iload_n 3, 1, 3, 0, 0, 0, 0, 0, 0, 0, []) := rfl
theorem i_X9_binding_36 : tab t_X9_binding 36 = some (.iconst (-1), 1, 0, -1, 0, 0, 0, 0, 0, 0, []) := rfl
theorem i_X9_binding_37 : tab t_X9_binding 37 = some (.if_icmp .ne 7, 3, 44, 0, 0, 0, 0, 0, 0, 0, []) := rfl
theorem i_X9_binding_40 : tab t_X9_binding 40 = some (.iconst 0, 1, 0, 0, 0, 0, 0, 0, 0, 0, []) := rfl
theorem i_X9_binding_41 : tab t_X9_binding 41 = some (.goto 23, 3, 64, 0, 0, 0, 0, 0, 0, 0, []) := rfl
theorem i_X9_binding_44 : tab t_X9_binding 44 = some (.aload_n 0, 1, 0, 0, 0, 0, 0, 0, 0, 0, []) := rfl
theorem i_X9_binding_45 : tab t_X9_binding 45 = some (.aload_n 0, 1, 0, 0, 0, 0, 0, 0, 0, 0, []) := rfl
theorem i_X9_binding_46 : tab t_X9_binding 46 = some (.iload 4, 2, 4, 0, 0, 0, 0, 0, 0, 0, []) := rfl
theorem i_X9_binding_48 : tab t_X9_binding 48 = some (.invokevirtual 467, 3, 1, 0, 0, 0, 202, 10, 0, 0, []) := rfl
theorem i_X9_binding_51 : tab t_X9_binding 51 = some (.invokevirtual 476, 3, 1, 0, 0, 0, 207, 10, 0, 0, []) := rfl
theorem i_X9_binding_54 : tab t_X9_binding 54 = some (.aload_n 0, 1, 0, 0, 0, 0, 0, 0, 0, 0, []) := rfl
theorem i_X9_binding_55 : tab t_X9_binding 55 = some (.aload_n 0, 1, 0, 0, 0, 0, 0, 0, 0, 0, []) := rfl
theorem i_X9_binding_56 : tab t_X9_binding 56 = some (.iload_n 3, 1, 3, 0, 0, 0, 0, 0, 0, 0, []) := rfl
theorem i_X9_binding_57 : tab t_X9_binding 57 = some (.invokevirtual 467, 3, 1, 0, 0, 0, 202, 10, 0, 0, []) := rfl
theorem i_X9_binding_60 : tab t_X9_binding 60 = some (.invokevirtual 476, 3, 1, 0, 0, 0, 207, 10, 0, 0, []) := rfl
theorem i_X9_binding_63 : tab t_X9_binding 63 = some (.isub, 1, 0, 0, 0, 0, 0, 0, 0, 0, []) := rfl
theorem i_X9_binding_64 : tab t_X9_binding 64 = some (.istore 5, 2, 5, 0, 0, 0, 0, 0, 0, 0, []) := rfl
theorem i_X9_binding_66 : tab t_X9_binding 66 = some (.iload_n 3, 1, 3, 0, 0, 0, 0, 0, 0, 0, []) := rfl
theorem i_X9_binding_67 : tab t_X9_binding 67 = some (.iconst (-1), 1, 0, -1, 0, 0, 0, 0, 0, 0, []) := rfl
theorem i_X9_binding_68 : tab t_X9_binding 68 = some (.if_icmp .eq 29, 3, 97, 0, 0, 0, 0, 0, 0, 0, []) := rfl
theorem i_X9_binding_71 : tab t_X9_binding 71 = some (.iload 5, 2, 5, 0, 0, 0, 0, 0, 0, 0, []) := rfl
theorem i_X9_binding_73 : tab t_X9_binding 73 = some (.ifCond .lt 24, 3, 97, 0, 0, 0, 0, 0, 0, 0, []) := rfl
theorem i_X9_binding_76 : tab t_X9_binding 76 = some (.iload 5, 2, 5, 0, 0, 0, 0, 0, 0, 0, []) := rfl
theorem i_X9_binding_78 : tab t_X9_binding 78 = some (.ifCond .ne 24, 3, 102, 0, 0, 0, 0, 0, 0, 0, []) := rfl
theorem i_X9_binding_81 : tab t_X9_binding 81 = some (.aload_n 0, 1, 0, 0, 0, 0, 0, 0, 0, 0, []) := rfl
theorem i_X9_binding_82 : tab t_X9_binding 82 = some (.getfield 149, 3, 2, 0, 0, 9, 60, 0, 0, 0, []) := rfl
theorem i_X9_binding_85 : tab t_X9_binding 85 = some (.iload 4, 2, 4, 0, 0, 0, 0, 0, 0, 0, []) := rfl
theorem i_X9_binding_87 : tab t_X9_binding 87 = some (.iaload, 1, 0, 0, 0, 0, 0, 0, 0, 0, []) := rfl
theorem i_X9_binding_88 : tab t_X9_binding 88 = some (.aload_n 0, 1, 0, 0, 0, 0, 0, 0, 0, 0, []) := rfl
theorem i_X9_binding_89 : tab t_X9_binding 89 = some (.getfield 149, 3, 2, 0, 0, 9, 60, 0, 0, 0, []) := rfl
theorem i_X9_binding_92 : tab t_X9_binding 92 = some (.iload_n 3, 1, 3, 0, 0, 0, 0, 0, 0, 0, []) := rfl
theorem i_X9_binding_93 : tab t_X9_binding 93 = some (.iaload, 1, 0, 0, 0, 0, 0, 0, 0, 0, []) := rfl
theorem i_X9_binding_94 : tab t_X9_binding 94 = some (.if_icmp .lt 8, 3, 102, 0, 0, 0, 0, 0, 0, 0, []) := rfl
theorem i_X9_binding_97 : tab t_X9_binding 97 = some (.iload 4, 2, 4, 0, 0, 0, 0, 0, 0, 0, []) := rfl
theorem i_X9_binding_99 : tab t_X9_binding 99 = some (.goto 4, 3, 103, 0, 0, 0, 0, 0, 0, 0, []) := rfl
theorem i_X9_binding_102 : tab t_X9_binding 102 = some (.iload_n 3, 1, 3, 0, 0, 0, 0, 0, 0, 0, []) := rfl
theorem i_X9_binding_103 : tab t_X9_binding 103 = some (.istore_n 3, 1, 3, 0, 0, 0, 0, 0, 0, 0, []) := rfl
theorem i_X9_binding_104 : tab t_X9_binding 104 = some (.iinc 4 1, 3, 4, 1, 0, 0, 0, 0, 0, 0, []) := rfl
theorem i_X9_binding_107 : tab t_X9_binding 107 = some (.goto (-102), 3, 5, 0, 0, 0, 0, 0, 0, 0, []) := rfl
theorem i_X9_binding_110 : tab t_X9_binding 110 = some (.iload_n 3, 1, 3, 0, 0, 0, 0, 0, 0, 0, []) := rfl
theorem i_X9_binding_111 : tab t_X9_binding 111 = some (.ireturn, 1, 0, 0, 0, 0, 0, 0, 0, 0, []) := rfl
def t_X9_bound : List (Nat × rw_) := [(0, (.aload_n 0, 1, 0, 0, 0, 0, 0, 0, 0, 0, [])), (1, (.iload_n 1, 1, 1, 0, 0, 0, 0, 0, 0, 0, [])), (2, (.invokevirtual 185, 3, 1, 0, 0, 0, 128, 10, 0, 0, [])), (5, (.ifCond .eq 19, 3, 24, 0, 0, 0, 0, 0, 0, 0, [])), (8, (.iload_n 2, 1, 2, 0, 0, 0, 0, 0, 0, 0, [])), (9, (.invokestatic 203, 3, 1, 0, 0, 0, 127, 0, 0, 0, [])), (12, (.ifCond .eq 12, 3, 24, 0, 0, 0, 0, 0, 0, 0, [])), (15, (.aload_n 0, 1, 0, 0, 0, 0, 0, 0, 0, 0, [])), (16, (.iload_n 1, 1, 1, 0, 0, 0, 0, 0, 0, 0, [])), (17, (.iload_n 2, 1, 2, 0, 0, 0, 0, 0, 0, 0, [])), (18, (.invokevirtual 479, 3, 2, 0, 0, 0, 208, 10, 0, 0, [])), (21, (.goto 5, 3, 26, 0, 0, 0, 0, 0, 0, 0, [])), (24, (.bipush (-2), 2, 0, -2, 0, 0, 0, 0, 0, 0, [])), (26, (.ireturn, 1, 0, 0, 0, 0, 0, 0, 0, 0, []))]
set_option maxRecDepth 100000 in
theorem ok_X9_bound : tb_ok ctX9 m_X9_bound t_X9_bound = true := by decide +kernel
theorem i_X9_bound_0 : tab t_X9_bound 0 = some (.aload_n 0, 1, 0, 0, 0, 0, 0, 0, 0, 0, []) := rfl
theorem i_X9_bound_1 : tab t_X9_bound 1 = some (.iload_n 1, 1, 1, 0, 0, 0, 0, 0, 0, 0, []) := rfl
theorem i_X9_bound_2 : tab t_X9_bound 2 = some (.invokevirtual 185, 3, 1, 0, 0, 0, 128, 10, 0, 0, []) := rfl
theorem i_X9_bound_5 : tab t_X9_bound 5 = some (.ifCond .eq 19, 3, 24, 0, 0, 0, 0, 0, 0, 0, []) := rfl
theorem i_X9_bound_8 : tab t_X9_bound 8 = some (.iload_n 2, 1, 2, 0, 0, 0, 0, 0, 0, 0, []) := rfl
theorem i_X9_bound_9 : tab t_X9_bound 9 = some (.invokestatic 203, 3, 1, 0, 0, 0, 127, 0, 0, 0, []) := rfl
theorem i_X9_bound_12 : tab t_X9_bound 12 = some (.ifCond .eq 12, 3, 24, 0, 0, 0, 0, 0, 0, 0, []) := rfl
theorem i_X9_bound_15 : tab t_X9_bound 15 = some (.aload_n 0, 1, 0, 0, 0, 0, 0, 0, 0, 0, []) := rfl
theorem i_X9_bound_16 : tab t_X9_bound 16 = some (.iload_n 1, 1, 1, 0, 0, 0, 0, 0, 0, 0, []) := rfl
theorem i_X9_bound_17 : tab t_X9_bound 17 = some (.iload_n 2, 1, 2, 0, 0, 0, 0, 0, 0, 0, []) := rfl
theorem i_X9_bound_18 : tab t_X9_bound 18 = some (.invokevirtual 479, 3, 2, 0, 0, 0, 208, 10, 0, 0, []) := rfl
theorem i_X9_bound_21 : tab t_X9_bound 21 = some (.goto 5, 3, 26, 0, 0, 0, 0, 0, 0, 0, []) := rfl
theorem i_X9_bound_24 : tab t_X9_bound 24 = some (.bipush (-2), 2, 0, -2, 0, 0, 0, 0, 0, 0, []) := rfl
theorem i_X9_bound_26 : tab t_X9_bound 26 = some (.ireturn, 1, 0, 0, 0, 0, 0, 0, 0, 0, []) := rfl
def t_X9_cross : List (Nat × rw_) := [(0, (.aload_n 0, 1, 0, 0, 0, 0, 0, 0, 0, 0, [])), (1, (.iload_n 1, 1, 1, 0, 0, 0, 0, 0, 0, 0, [])), (2, (.invokevirtual 185, 3, 1, 0, 0, 0, 128, 10, 0, 0, [])), (5, (.ifCond .eq 10, 3, 15, 0, 0, 0, 0, 0, 0, 0, [])), (8, (.iload_n 2, 1, 2, 0, 0, 0, 0, 0, 0, 0, [])), (9, (.invokestatic 203, 3, 1, 0, 0, 0, 127, 0, 0, 0, [])), (12, (.ifCond .ne 5, 3, 17, 0, 0, 0, 0, 0, 0, 0, [])), (15, (.iconst (-1), 1, 0, -1, 0, 0, 0, 0, 0, 0, [])), (16, (.ireturn, 1, 0, 0, 0, 0, 0, 0, 0, 0, [])), (17, (.iconst 0, 1, 0, 0, 0, 0, 0, 0, 0, 0, [])), (18, (.istore_n 3, 1, 3, 0, 0, 0, 0, 0, 0, 0, [])), (19, (.iconst 0, 1, 0, 0, 0, 0, 0, 0, 0, 0, [])), (20, (.istore 4, 2, 4, 0, 0, 0, 0, 0, 0, 0, [])), (22, (.iload 4, 2, 4, 0, 0, 0, 0, 0, 0, 0, [])), (24, (.aload_n 0, 1, 0, 0, 0, 0, 0, 0, 0, 0, [])), (25, (.getfield 461, 3, 0, 0, 0, 9, 6, 0, 0, 0, [])), (28, (.if_icmp .ge 92, 3, 120, 0, 0, 0, 0, 0, 0, 0, [])), (31, (.iconst 0, 1, 0, 0, 0, 0, 0, 0, 0, 0, [])), (32, (.istore 5, 2, 5, 0, 0, 0, 0, 0, 0, 0, [])), (34, (.iload 5, 2, 5, 0, 0, 0, 0, 0, 0, 0, [])), (36, (.iload 4, 2, 4, 0, 0, 0, 0, 0, 0, 0, [])), (38, (.if_icmp .ge 76, 3, 114, 0, 0, 0, 0, 0, 0, 0, [])), (41, (.aload_n 0, 1, 0, 0, 0, 0, 0, 0, 0, 0, [])), (42, (.getfield 143, 3, 2, 0, 0, 9, 58, 0, 0, 0, [])), (45, (.iload 4, 2, 4, 0, 0, 0, 0, 0, 0, 0, [])), (47, (.iaload, 1, 0, 0, 0, 0, 0, 0, 0, 0, [])), (48, (.iload_n 1, 1, 1, 0, 0, 0, 0, 0, 0, 0, [])), (49, (.if_icmp .ne 65, 3, 114, 0, 0, 0, 0, 0, 0, 0, [])), (52, (.iload_n 3, 1, 3, 0, 0, 0, 0, 0, 0, 0, [])), (53, (.aload_n 0, 1, 0, 0, 0, 0, 0, 0, 0, 0, [])), (54, (.getfield 143, 3, 2, 0, 0, 9, 58, 0, 0, 0, [])), (57, (.iload 5, 2, 5, 0, 0, 0, 0, 0, 0, 0, [])), (59, (.iaload, 1, 0, 0, 0, 0, 0, 0, 0, 0, [])), (60, (.iload_n 1, 1, 1, 0, 0, 0, 0, 0, 0, 0, [])), (61, (.if_icmp .ne 44, 3, 105, 0, 0, 0, 0, 0, 0, 0, [])), (64, (.aload_n 0, 1, 0, 0, 0, 0, 0, 0, 0, 0, [])), (65, (.getfield 146, 3, 2, 0, 0, 9, 59, 0, 0, 0, [])), (68, (.iload 5, 2, 5, 0, 0, 0, 0, 0, 0, 0, [])), (70, (.iaload, 1, 0, 0, 0, 0, 0, 0, 0, 0, [])), (71, (.aload_n 0, 1, 0, 0, 0, 0, 0, 0, 0, 0, [])), (72, (.getfield 146, 3, 2, 0, 0, 9, 59, 0, 0, 0, [])), (75, (.iload 4, 2, 4, 0, 0, 0, 0, 0, 0, 0, [])), (77, (.iaload, 1, 0, 0, 0, 0, 0, 0, 0, 0, [])), (78, (.if_icmp .eq 27, 3, 105, 0, 0, 0, 0, 0, 0, 0, [])), (81, (.aload_n 0, 1, 0, 0, 0, 0, 0, 0, 0, 0, [])), (82, (.iload 4, 2, 4, 0, 0, 0, 0, 0, 0, 0, [])), (84, (.iload_n 2, 1, 2, 0, 0, 0, 0, 0, 0, 0, [])), (85, (.invokevirtual 473, 3, 2, 0, 0, 0, 205, 10, 0, 0, [])), (88, (.ifCond .eq 17, 3, 105, 0, 0, 0, 0, 0, 0, 0, [])), (91, (.aload_n 0, 1, 0, 0, 0, 0, 0, 0, 0, 0, [])), (92, (.iload 5, 2, 5, 0, 0, 0, 0, 0, 0, 0, [])), (94, (.iload_n 2, 1, 2, 0, 0, 0, 0, 0, 0, 0, [])), (95, (.invokevirtual 473, 3, 2, 0, 0, 0, 205, 10, 0, 0, [])), (98, (.ifCond .eq 7, 3, 105, 0, 0, 0, 0, 0, 0, 0, [])), (101, (.iconst 1, 1, 0, 1, 0, 0, 0, 0, 0, 0, [])), (102, (.goto 4, 3, 106, 0, 0, 0, 0, 0, 0, 0, [])), (105, (.iconst 0, 1, 0, 0, 0, 0, 0, 0, 0, 0, [])), (106, (.iadd, 1, 0, 0, 0, 0, 0, 0, 0, 0, [])), (107, (.istore_n 3, 1, 3, 0, 0, 0, 0, 0, 0, 0, [])), (108, (.iinc 5 1, 3, 5, 1, 0, 0, 0, 0, 0, 0, [])), (111, (.goto (-77), 3, 34, 0, 0, 0, 0, 0, 0, 0, [])), (114, (.iinc 4 1, 3, 4, 1, 0, 0, 0, 0, 0, 0, [])), (117, (.goto (-95), 3, 22, 0, 0, 0, 0, 0, 0, 0, [])), (120, (.iload_n 3, 1, 3, 0, 0, 0, 0, 0, 0, 0, [])), (121, (.ireturn, 1, 0, 0, 0, 0, 0, 0, 0, 0, []))]
set_option maxRecDepth 100000 in
theorem ok_X9_cross : tb_ok ctX9 m_X9_cross t_X9_cross = true := by decide +kernel
theorem i_X9_cross_0 : tab t_X9_cross 0 = some (.aload_n 0, 1, 0, 0, 0, 0, 0, 0, 0, 0, []) := rfl
theorem i_X9_cross_1 : tab t_X9_cross 1 = some (.iload_n 1, 1, 1, 0, 0, 0, 0, 0, 0, 0, []) := rfl
theorem i_X9_cross_2 : tab t_X9_cross 2 = some (.invokevirtual 185, 3, 1, 0, 0, 0, 128, 10, 0, 0, []) := rfl
theorem i_X9_cross_5 : tab t_X9_cross 5 = some (.ifCond .eq 10, 3, 15, 0, 0, 0, 0, 0, 0, 0, []) := rfl
theorem i_X9_cross_8 : tab t_X9_cross 8 = some (.iload_n 2, 1, 2, 0, 0, 0, 0, 0, 0, 0, []) := rfl
theorem i_X9_cross_9 : tab t_X9_cross 9 = some (.invokestatic 203, 3, 1, 0, 0, 0, 127, 0, 0, 0, []) := rfl
theorem i_X9_cross_12 : tab t_X9_cross 12 = some (.ifCond .ne 5, 3, 17, 0, 0, 0, 0, 0, 0, 0, []) := rfl
theorem i_X9_cross_15 : tab t_X9_cross 15 = some (.iconst (-1), 1, 0, -1, 0, 0, 0, 0, 0, 0, []) := rfl
theorem i_X9_cross_16 : tab t_X9_cross 16 = some (.ireturn, 1, 0, 0, 0, 0, 0, 0, 0, 0, []) := rfl
theorem i_X9_cross_17 : tab t_X9_cross 17 = some (.iconst 0, 1, 0, 0, 0, 0, 0, 0, 0, 0, []) := rfl
theorem i_X9_cross_18 : tab t_X9_cross 18 = some (.istore_n 3, 1, 3, 0, 0, 0, 0, 0, 0, 0, []) := rfl
theorem i_X9_cross_19 : tab t_X9_cross 19 = some (.iconst 0, 1, 0, 0, 0, 0, 0, 0, 0, 0, []) := rfl
theorem i_X9_cross_20 : tab t_X9_cross 20 = some (.istore 4, 2, 4, 0, 0, 0, 0, 0, 0, 0, []) := rfl
theorem i_X9_cross_22 : tab t_X9_cross 22 = some (.iload 4, 2, 4, 0, 0, 0, 0, 0, 0, 0, []) := rfl
theorem i_X9_cross_24 : tab t_X9_cross 24 = some (.aload_n 0, 1, 0, 0, 0, 0, 0, 0, 0, 0, []) := rfl
theorem i_X9_cross_25 : tab t_X9_cross 25 = some (.getfield 461, 3, 0, 0, 0, 9, 6, 0, 0, 0, []) := rfl
theorem i_X9_cross_28 : tab t_X9_cross 28 = some (.if_icmp .ge 92, 3, 120, 0, 0, 0, 0, 0, 0, 0, []) := rfl
theorem i_X9_cross_31 : tab t_X9_cross 31 = some (.iconst 0, 1, 0, 0, 0, 0, 0, 0, 0, 0, []) := rfl
theorem i_X9_cross_32 : tab t_X9_cross 32 = some (.istore 5, 2, 5, 0, 0, 0, 0, 0, 0, 0, []) := rfl
theorem i_X9_cross_34 : tab t_X9_cross 34 = some (.iload 5, 2, 5, 0, 0, 0, 0, 0, 0, 0, []) := rfl
theorem i_X9_cross_36 : tab t_X9_cross 36 = some (.iload 4, 2, 4, 0, 0, 0, 0, 0, 0, 0, []) := rfl
theorem i_X9_cross_38 : tab t_X9_cross 38 = some (.if_icmp .ge 76, 3, 114, 0, 0, 0, 0, 0, 0, 0, []) := rfl
theorem i_X9_cross_41 : tab t_X9_cross 41 = some (.aload_n 0, 1, 0, 0, 0, 0, 0, 0, 0, 0, []) := rfl
theorem i_X9_cross_42 : tab t_X9_cross 42 = some (.getfield 143, 3, 2, 0, 0, 9, 58, 0, 0, 0, []) := rfl
theorem i_X9_cross_45 : tab t_X9_cross 45 = some (.iload 4, 2, 4, 0, 0, 0, 0, 0, 0, 0, []) := rfl
theorem i_X9_cross_47 : tab t_X9_cross 47 = some (.iaload, 1, 0, 0, 0, 0, 0, 0, 0, 0, []) := rfl
theorem i_X9_cross_48 : tab t_X9_cross 48 = some (.iload_n 1, 1, 1, 0, 0, 0, 0, 0, 0, 0, []) := rfl
theorem i_X9_cross_49 : tab t_X9_cross 49 = some (.if_icmp .ne 65, 3, 114, 0, 0, 0, 0, 0, 0, 0, []) := rfl
theorem i_X9_cross_52 : tab t_X9_cross 52 = some (.iload_n 3, 1, 3, 0, 0, 0, 0, 0, 0, 0, []) := rfl
theorem i_X9_cross_53 : tab t_X9_cross 53 = some (.aload_n 0, 1, 0, 0, 0, 0, 0, 0, 0, 0, []) := rfl
theorem i_X9_cross_54 : tab t_X9_cross 54 = some (.getfield 143, 3, 2, 0, 0, 9, 58, 0, 0, 0, []) := rfl
theorem i_X9_cross_57 : tab t_X9_cross 57 = some (.iload 5, 2, 5, 0, 0, 0, 0, 0, 0, 0, []) := rfl
theorem i_X9_cross_59 : tab t_X9_cross 59 = some (.iaload, 1, 0, 0, 0, 0, 0, 0, 0, 0, []) := rfl
theorem i_X9_cross_60 : tab t_X9_cross 60 = some (.iload_n 1, 1, 1, 0, 0, 0, 0, 0, 0, 0, []) := rfl
theorem i_X9_cross_61 : tab t_X9_cross 61 = some (.if_icmp .ne 44, 3, 105, 0, 0, 0, 0, 0, 0, 0, []) := rfl
theorem i_X9_cross_64 : tab t_X9_cross 64 = some (.aload_n 0, 1, 0, 0, 0, 0, 0, 0, 0, 0, []) := rfl
theorem i_X9_cross_65 : tab t_X9_cross 65 = some (.getfield 146, 3, 2, 0, 0, 9, 59, 0, 0, 0, []) := rfl
theorem i_X9_cross_68 : tab t_X9_cross 68 = some (.iload 5, 2, 5, 0, 0, 0, 0, 0, 0, 0, []) := rfl
theorem i_X9_cross_70 : tab t_X9_cross 70 = some (.iaload, 1, 0, 0, 0, 0, 0, 0, 0, 0, []) := rfl
theorem i_X9_cross_71 : tab t_X9_cross 71 = some (.aload_n 0, 1, 0, 0, 0, 0, 0, 0, 0, 0, []) := rfl
theorem i_X9_cross_72 : tab t_X9_cross 72 = some (.getfield 146, 3, 2, 0, 0, 9, 59, 0, 0, 0, []) := rfl
theorem i_X9_cross_75 : tab t_X9_cross 75 = some (.iload 4, 2, 4, 0, 0, 0, 0, 0, 0, 0, []) := rfl
theorem i_X9_cross_77 : tab t_X9_cross 77 = some (.iaload, 1, 0, 0, 0, 0, 0, 0, 0, 0, []) := rfl
theorem i_X9_cross_78 : tab t_X9_cross 78 = some (.if_icmp .eq 27, 3, 105, 0, 0, 0, 0, 0, 0, 0, []) := rfl
theorem i_X9_cross_81 : tab t_X9_cross 81 = some (.aload_n 0, 1, 0, 0, 0, 0, 0, 0, 0, 0, []) := rfl
theorem i_X9_cross_82 : tab t_X9_cross 82 = some (.iload 4, 2, 4, 0, 0, 0, 0, 0, 0, 0, []) := rfl
theorem i_X9_cross_84 : tab t_X9_cross 84 = some (.iload_n 2, 1, 2, 0, 0, 0, 0, 0, 0, 0, []) := rfl
theorem i_X9_cross_85 : tab t_X9_cross 85 = some (.invokevirtual 473, 3, 2, 0, 0, 0, 205, 10, 0, 0, []) := rfl
theorem i_X9_cross_88 : tab t_X9_cross 88 = some (.ifCond .eq 17, 3, 105, 0, 0, 0, 0, 0, 0, 0, []) := rfl
theorem i_X9_cross_91 : tab t_X9_cross 91 = some (.aload_n 0, 1, 0, 0, 0, 0, 0, 0, 0, 0, []) := rfl
theorem i_X9_cross_92 : tab t_X9_cross 92 = some (.iload 5, 2, 5, 0, 0, 0, 0, 0, 0, 0, []) := rfl
theorem i_X9_cross_94 : tab t_X9_cross 94 = some (.iload_n 2, 1, 2, 0, 0, 0, 0, 0, 0, 0, []) := rfl
theorem i_X9_cross_95 : tab t_X9_cross 95 = some (.invokevirtual 473, 3, 2, 0, 0, 0, 205, 10, 0, 0, []) := rfl
theorem i_X9_cross_98 : tab t_X9_cross 98 = some (.ifCond .eq 7, 3, 105, 0, 0, 0, 0, 0, 0, 0, []) := rfl
theorem i_X9_cross_101 : tab t_X9_cross 101 = some (.iconst 1, 1, 0, 1, 0, 0, 0, 0, 0, 0, []) := rfl
theorem i_X9_cross_102 : tab t_X9_cross 102 = some (.goto 4, 3, 106, 0, 0, 0, 0, 0, 0, 0, []) := rfl
theorem i_X9_cross_105 : tab t_X9_cross 105 = some (.iconst 0, 1, 0, 0, 0, 0, 0, 0, 0, 0, []) := rfl
theorem i_X9_cross_106 : tab t_X9_cross 106 = some (.iadd, 1, 0, 0, 0, 0, 0, 0, 0, 0, []) := rfl
theorem i_X9_cross_107 : tab t_X9_cross 107 = some (.istore_n 3, 1, 3, 0, 0, 0, 0, 0, 0, 0, []) := rfl
theorem i_X9_cross_108 : tab t_X9_cross 108 = some (.iinc 5 1, 3, 5, 1, 0, 0, 0, 0, 0, 0, []) := rfl
theorem i_X9_cross_111 : tab t_X9_cross 111 = some (.goto (-77), 3, 34, 0, 0, 0, 0, 0, 0, 0, []) := rfl
theorem i_X9_cross_114 : tab t_X9_cross 114 = some (.iinc 4 1, 3, 4, 1, 0, 0, 0, 0, 0, 0, []) := rfl
theorem i_X9_cross_117 : tab t_X9_cross 117 = some (.goto (-95), 3, 22, 0, 0, 0, 0, 0, 0, 0, []) := rfl
theorem i_X9_cross_120 : tab t_X9_cross 120 = some (.iload_n 3, 1, 3, 0, 0, 0, 0, 0, 0, 0, []) := rfl
theorem i_X9_cross_121 : tab t_X9_cross 121 = some (.ireturn, 1, 0, 0, 0, 0, 0, 0, 0, 0, []) := rfl
def t_X9_answers_ : List (Nat × rw_) := [(0, (.aload_n 0, 1, 0, 0, 0, 0, 0, 0, 0, 0, [])), (1, (.iload_n 1, 1, 1, 0, 0, 0, 0, 0, 0, 0, [])), (2, (.invokevirtual 185, 3, 1, 0, 0, 0, 128, 10, 0, 0, [])), (5, (.ifCond .eq 22, 3, 27, 0, 0, 0, 0, 0, 0, 0, [])), (8, (.iload_n 2, 1, 2, 0, 0, 0, 0, 0, 0, 0, [])), (9, (.invokestatic 203, 3, 1, 0, 0, 0, 127, 0, 0, 0, [])), (12, (.ifCond .eq 15, 3, 27, 0, 0, 0, 0, 0, 0, 0, [])), (15, (.iload_n 3, 1, 3, 0, 0, 0, 0, 0, 0, 0, [])), (16, (.i2l, 1, 0, 0, 0, 0, 0, 0, 0, 0, [])), (17, (.lconst 0, 1, 0, 0, 0, 0, 0, 0, 0, 0, [])), (18, (.ldc2_w 193, 3, 0, 0, 9, 0, 0, 0, 0, 0, [])), (21, (.invokestatic 175, 3, 3, 0, 0, 0, 126, 0, 0, 0, [])), (24, (.ifCond .ne 6, 3, 30, 0, 0, 0, 0, 0, 0, 0, [])), (27, (.bipush (-2), 2, 0, -2, 0, 0, 0, 0, 0, 0, [])), (29, (.ireturn, 1, 0, 0, 0, 0, 0, 0, 0, 0, [])), (30, (.aload_n 0, 1, 0, 0, 0, 0, 0, 0, 0, 0, [])), (31, (.iload_n 1, 1, 1, 0, 0, 0, 0, 0, 0, 0, [])), (32, (.iload_n 2, 1, 2, 0, 0, 0, 0, 0, 0, 0, [])), (33, (.invokevirtual 479, 3, 2, 0, 0, 0, 208, 10, 0, 0, [])), (36, (.istore 4, 2, 4, 0, 0, 0, 0, 0, 0, 0, [])), (38, (.iload 4, 2, 4, 0, 0, 0, 0, 0, 0, 0, [])), (40, (.iconst (-1), 1, 0, -1, 0, 0, 0, 0, 0, 0, [])), (41, (.if_icmp .eq 24, 3, 65, 0, 0, 0, 0, 0, 0, 0, [])), (44, (.aload_n 0, 1, 0, 0, 0, 0, 0, 0, 0, 0, [])), (45, (.getfield 146, 3, 2, 0, 0, 9, 59, 0, 0, 0, [])), (48, (.iload 4, 2, 4, 0, 0, 0, 0, 0, 0, 0, [])), (50, (.iaload, 1, 0, 0, 0, 0, 0, 0, 0, 0, [])), (51, (.iload_n 3, 1, 3, 0, 0, 0, 0, 0, 0, 0, [])), (52, (.if_icmp .ne 13, 3, 65, 0, 0, 0, 0, 0, 0, 0, [])), (55, (.aload_n 0, 1, 0, 0, 0, 0, 0, 0, 0, 0, [])), (56, (.getfield 140, 3, 2, 0, 0, 9, 57, 0, 0, 0, [])), (59, (.iload 4, 2, 4, 0, 0, 0, 0, 0, 0, 0, [])), (61, (.iaload, 1, 0, 0, 0, 0, 0, 0, 0, 0, [])), (62, (.goto 9, 3, 71, 0, 0, 0, 0, 0, 0, 0, [])), (65, (.aload_n 0, 1, 0, 0, 0, 0, 0, 0, 0, 0, [])), (66, (.iload_n 1, 1, 1, 0, 0, 0, 0, 0, 0, 0, [])), (67, (.iload_n 2, 1, 2, 0, 0, 0, 0, 0, 0, 0, [])), (68, (.invokevirtual 429, 3, 2, 0, 0, 0, 184, 10, 0, 0, [])), (71, (.ireturn, 1, 0, 0, 0, 0, 0, 0, 0, 0, []))]
set_option maxRecDepth 100000 in
theorem ok_X9_answers_ : tb_ok ctX9 m_X9_answers_ t_X9_answers_ = true := by decide +kernel
theorem i_X9_answers__0 : tab t_X9_answers_ 0 = some (.aload_n 0, 1, 0, 0, 0, 0, 0, 0, 0, 0, []) := rfl
theorem i_X9_answers__1 : tab t_X9_answers_ 1 = some (.iload_n 1, 1, 1, 0, 0, 0, 0, 0, 0, 0, []) := rfl
theorem i_X9_answers__2 : tab t_X9_answers_ 2 = some (.invokevirtual 185, 3, 1, 0, 0, 0, 128, 10, 0, 0, []) := rfl
theorem i_X9_answers__5 : tab t_X9_answers_ 5 = some (.ifCond .eq 22, 3, 27, 0, 0, 0, 0, 0, 0, 0, []) := rfl
theorem i_X9_answers__8 : tab t_X9_answers_ 8 = some (.iload_n 2, 1, 2, 0, 0, 0, 0, 0, 0, 0, []) := rfl
theorem i_X9_answers__9 : tab t_X9_answers_ 9 = some (.invokestatic 203, 3, 1, 0, 0, 0, 127, 0, 0, 0, []) := rfl
theorem i_X9_answers__12 : tab t_X9_answers_ 12 = some (.ifCond .eq 15, 3, 27, 0, 0, 0, 0, 0, 0, 0, []) := rfl
theorem i_X9_answers__15 : tab t_X9_answers_ 15 = some (.iload_n 3, 1, 3, 0, 0, 0, 0, 0, 0, 0, []) := rfl
theorem i_X9_answers__16 : tab t_X9_answers_ 16 = some (.i2l, 1, 0, 0, 0, 0, 0, 0, 0, 0, []) := rfl
theorem i_X9_answers__17 : tab t_X9_answers_ 17 = some (.lconst 0, 1, 0, 0, 0, 0, 0, 0, 0, 0, []) := rfl
theorem i_X9_answers__18 : tab t_X9_answers_ 18 = some (.ldc2_w 193, 3, 0, 0, 9, 0, 0, 0, 0, 0, []) := rfl
theorem i_X9_answers__21 : tab t_X9_answers_ 21 = some (.invokestatic 175, 3, 3, 0, 0, 0, 126, 0, 0, 0, []) := rfl
theorem i_X9_answers__24 : tab t_X9_answers_ 24 = some (.ifCond .ne 6, 3, 30, 0, 0, 0, 0, 0, 0, 0, []) := rfl
theorem i_X9_answers__27 : tab t_X9_answers_ 27 = some (.bipush (-2), 2, 0, -2, 0, 0, 0, 0, 0, 0, []) := rfl
theorem i_X9_answers__29 : tab t_X9_answers_ 29 = some (.ireturn, 1, 0, 0, 0, 0, 0, 0, 0, 0, []) := rfl
theorem i_X9_answers__30 : tab t_X9_answers_ 30 = some (.aload_n 0, 1, 0, 0, 0, 0, 0, 0, 0, 0, []) := rfl
theorem i_X9_answers__31 : tab t_X9_answers_ 31 = some (.iload_n 1, 1, 1, 0, 0, 0, 0, 0, 0, 0, []) := rfl
theorem i_X9_answers__32 : tab t_X9_answers_ 32 = some (.iload_n 2, 1, 2, 0, 0, 0, 0, 0, 0, 0, []) := rfl
theorem i_X9_answers__33 : tab t_X9_answers_ 33 = some (.invokevirtual 479, 3, 2, 0, 0, 0, 208, 10, 0, 0, []) := rfl
theorem i_X9_answers__36 : tab t_X9_answers_ 36 = some (.istore 4, 2, 4, 0, 0, 0, 0, 0, 0, 0, []) := rfl
theorem i_X9_answers__38 : tab t_X9_answers_ 38 = some (.iload 4, 2, 4, 0, 0, 0, 0, 0, 0, 0, []) := rfl
theorem i_X9_answers__40 : tab t_X9_answers_ 40 = some (.iconst (-1), 1, 0, -1, 0, 0, 0, 0, 0, 0, []) := rfl
theorem i_X9_answers__41 : tab t_X9_answers_ 41 = some (.if_icmp .eq 24, 3, 65, 0, 0, 0, 0, 0, 0, 0, []) := rfl
theorem i_X9_answers__44 : tab t_X9_answers_ 44 = some (.aload_n 0, 1, 0, 0, 0, 0, 0, 0, 0, 0, []) := rfl
theorem i_X9_answers__45 : tab t_X9_answers_ 45 = some (.getfield 146, 3, 2, 0, 0, 9, 59, 0, 0, 0, []) := rfl
theorem i_X9_answers__48 : tab t_X9_answers_ 48 = some (.iload 4, 2, 4, 0, 0, 0, 0, 0, 0, 0, []) := rfl
theorem i_X9_answers__50 : tab t_X9_answers_ 50 = some (.iaload, 1, 0, 0, 0, 0, 0, 0, 0, 0, []) := rfl
theorem i_X9_answers__51 : tab t_X9_answers_ 51 = some (.iload_n 3, 1, 3, 0, 0, 0, 0, 0, 0, 0, []) := rfl
theorem i_X9_answers__52 : tab t_X9_answers_ 52 = some (.if_icmp .ne 13, 3, 65, 0, 0, 0, 0, 0, 0, 0, []) := rfl
theorem i_X9_answers__55 : tab t_X9_answers_ 55 = some (.aload_n 0, 1, 0, 0, 0, 0, 0, 0, 0, 0, []) := rfl
theorem i_X9_answers__56 : tab t_X9_answers_ 56 = some (.getfield 140, 3, 2, 0, 0, 9, 57, 0, 0, 0, []) := rfl
theorem i_X9_answers__59 : tab t_X9_answers_ 59 = some (.iload 4, 2, 4, 0, 0, 0, 0, 0, 0, 0, []) := rfl
theorem i_X9_answers__61 : tab t_X9_answers_ 61 = some (.iaload, 1, 0, 0, 0, 0, 0, 0, 0, 0, []) := rfl
theorem i_X9_answers__62 : tab t_X9_answers_ 62 = some (.goto 9, 3, 71, 0, 0, 0, 0, 0, 0, 0, []) := rfl
theorem i_X9_answers__65 : tab t_X9_answers_ 65 = some (.aload_n 0, 1, 0, 0, 0, 0, 0, 0, 0, 0, []) := rfl
theorem i_X9_answers__66 : tab t_X9_answers_ 66 = some (.iload_n 1, 1, 1, 0, 0, 0, 0, 0, 0, 0, []) := rfl
theorem i_X9_answers__67 : tab t_X9_answers_ 67 = some (.iload_n 2, 1, 2, 0, 0, 0, 0, 0, 0, 0, []) := rfl
theorem i_X9_answers__68 : tab t_X9_answers_ 68 = some (.invokevirtual 429, 3, 2, 0, 0, 0, 184, 10, 0, 0, []) := rfl
theorem i_X9_answers__71 : tab t_X9_answers_ 71 = some (.ireturn, 1, 0, 0, 0, 0, 0, 0, 0, 0, []) := rfl
def t_X9_gaps : List (Nat × rw_) := [(0, (.aload_n 0, 1, 0, 0, 0, 0, 0, 0, 0, 0, [])), (1, (.iload_n 1, 1, 1, 0, 0, 0, 0, 0, 0, 0, [])), (2, (.invokevirtual 185, 3, 1, 0, 0, 0, 128, 10, 0, 0, [])), (5, (.ifCond .eq 45, 3, 50, 0, 0, 0, 0, 0, 0, 0, [])), (8, (.iload_n 2, 1, 2, 0, 0, 0, 0, 0, 0, 0, [])), (9, (.invokestatic 203, 3, 1, 0, 0, 0, 127, 0, 0, 0, [])), (12, (.ifCond .eq 38, 3, 50, 0, 0, 0, 0, 0, 0, 0, [])), (15, (.iload_n 3, 1, 3, 0, 0, 0, 0, 0, 0, 0, [])), (16, (.i2l, 1, 0, 0, 0, 0, 0, 0, 0, 0, [])), (17, (.iload_n 2, 1, 2, 0, 0, 0, 0, 0, 0, 0, [])), (18, (.i2l, 1, 0, 0, 0, 0, 0, 0, 0, 0, [])), (19, (.ldc2_w 173, 3, 0, 0, 2879, 0, 0, 0, 0, 0, [])), (22, (.invokestatic 175, 3, 3, 0, 0, 0, 126, 0, 0, 0, [])), (25, (.ifCond .eq 25, 3, 50, 0, 0, 0, 0, 0, 0, 0, [])), (28, (.iload_n 3, 1, 3, 0, 0, 0, 0, 0, 0, 0, [])), (29, (.iload_n 2, 1, 2, 0, 0, 0, 0, 0, 0, 0, [])), (30, (.isub, 1, 0, 0, 0, 0, 0, 0, 0, 0, [])), (31, (.sipush 300, 3, 0, 300, 0, 0, 0, 0, 0, 0, [])), (34, (.if_icmp .ge 16, 3, 50, 0, 0, 0, 0, 0, 0, 0, [])), (37, (.iload 4, 2, 4, 0, 0, 0, 0, 0, 0, 0, [])), (39, (.i2l, 1, 0, 0, 0, 0, 0, 0, 0, 0, [])), (40, (.lconst 0, 1, 0, 0, 0, 0, 0, 0, 0, 0, [])), (41, (.ldc2_w 189, 3, 0, 0, 3, 0, 0, 0, 0, 0, [])), (44, (.invokestatic 175, 3, 3, 0, 0, 0, 126, 0, 0, 0, [])), (47, (.ifCond .ne 6, 3, 53, 0, 0, 0, 0, 0, 0, 0, [])), (50, (.bipush (-2), 2, 0, -2, 0, 0, 0, 0, 0, 0, [])), (52, (.ireturn, 1, 0, 0, 0, 0, 0, 0, 0, 0, [])), (53, (.iconst 0, 1, 0, 0, 0, 0, 0, 0, 0, 0, [])), (54, (.istore 5, 2, 5, 0, 0, 0, 0, 0, 0, 0, [])), (56, (.iconst 0, 1, 0, 0, 0, 0, 0, 0, 0, 0, [])), (57, (.istore 6, 2, 6, 0, 0, 0, 0, 0, 0, 0, [])), (59, (.iconst (-1), 1, 0, -1, 0, 0, 0, 0, 0, 0, [])), (60, (.istore 7, 2, 7, 0, 0, 0, 0, 0, 0, 0, [])), (62, (.iconst 0, 1, 0, 0, 0, 0, 0, 0, 0, 0, [])), (63, (.istore 8, 2, 8, 0, 0, 0, 0, 0, 0, 0, [])), (65, (.iconst 0, 1, 0, 0, 0, 0, 0, 0, 0, 0, [])), (66, (.istore 9, 2, 9, 0, 0, 0, 0, 0, 0, 0, [])), (68, (.iconst (-1), 1, 0, -1, 0, 0, 0, 0, 0, 0, [])), (69, (.istore 10, 2, 10, 0, 0, 0, 0, 0, 0, 0, [])), (71, (.iload_n 2, 1, 2, 0, 0, 0, 0, 0, 0, 0, [])), (72, (.istore 11, 2, 11, 0, 0, 0, 0, 0, 0, 0, [])), (74, (.iload 11, 2, 11, 0, 0, 0, 0, 0, 0, 0, [])), (76, (.iload_n 3, 1, 3, 0, 0, 0, 0, 0, 0, 0, [])), (77, (.if_icmp .gt 114, 3, 191, 0, 0, 0, 0, 0, 0, 0, [])), (80, (.aload_n 0, 1, 0, 0, 0, 0, 0, 0, 0, 0, [])), (81, (.iload_n 1, 1, 1, 0, 0, 0, 0, 0, 0, 0, [])), (82, (.iload 11, 2, 11, 0, 0, 0, 0, 0, 0, 0, [])), (84, (.invokevirtual 429, 3, 2, 0, 0, 0, 184, 10, 0, 0, [])), (87, (.istore 12, 2, 12, 0, 0, 0, 0, 0, 0, 0, [])), (89, (.iload 12, 2, 12, 0, 0, 0, 0, 0, 0, 0, [])), (91, (.iconst (-1), 1, 0, -1, 0, 0, 0, 0, 0, 0, [])), (92, (.if_icmp .ne 10, 3, 102, 0, 0, 0, 0, 0, 0, 0, [])), (95, (.iload 9, 2, 9, 0, 0, 0, 0, 0, 0, 0, [])), (97, (.iconst 1, 1, 0, 1, 0, 0, 0, 0, 0, 0, [])), (98, (.iadd, 1, 0, 0, 0, 0, 0, 0, 0, 0, [])), (99, (.goto 4, 3, 103, 0, 0, 0, 0, 0, 0, 0, [])), (102, (.iconst 0, 1, 0, 0, 0, 0, 0, 0, 0, 0, [])), (103, (.istore 9, 2, 9, 0, 0, 0, 0, 0, 0, 0, [])), (105, (.iload 5, 2, 5, 0, 0, 0, 0, 0, 0, 0, [])), (107, (.iload 12, 2, 12, 0, 0, 0, 0, 0, 0, 0, [])), (109, (.iconst (-1), 1, 0, -1, 0, 0, 0, 0, 0, 0, [])), (110, (.if_icmp .ne 7, 3, 117, 0, 0, 0, 0, 0, 0, 0, [])), (113, (.iconst 1, 1, 0, 1, 0, 0, 0, 0, 0, 0, [])), (114, (.goto 4, 3, 118, 0, 0, 0, 0, 0, 0, 0, [])), (117, (.iconst 0, 1, 0, 0, 0, 0, 0, 0, 0, 0, [])), (118, (.iadd, 1, 0, 0, 0, 0, 0, 0, 0, 0, [])), (119, (.istore 5, 2, 5, 0, 0, 0, 0, 0, 0, 0, [])), (121, (.iload 12, 2, 12, 0, 0, 0, 0, 0, 0, 0, [])), (123, (.iconst (-1), 1, 0, -1, 0, 0, 0, 0, 0, 0, [])), (124, (.if_icmp .ne 14, 3, 138, 0, 0, 0, 0, 0, 0, 0, [])), (127, (.iload 7, 2, 7, 0, 0, 0, 0, 0, 0, 0, [])), (129, (.iconst (-1), 1, 0, -1, 0, 0, 0, 0, 0, 0, [])), (130, (.if_icmp .ne 8, 3, 138, 0, 0, 0, 0, 0, 0, 0, [])), (133, (.iload 11, 2, 11, 0, 0, 0, 0, 0, 0, 0, [])), (135, (.goto 5, 3, 140, 0, 0, 0, 0, 0, 0, 0, [])), (138, (.iload 7, 2, 7, 0, 0, 0, 0, 0, 0, 0, [])), (140, (.istore 7, 2, 7, 0, 0, 0, 0, 0, 0, 0, [])), (142, (.iload 9, 2, 9, 0, 0, 0, 0, 0, 0, 0, [])), (144, (.iload 6, 2, 6, 0, 0, 0, 0, 0, 0, 0, [])), (146, (.if_icmp .le 8, 3, 154, 0, 0, 0, 0, 0, 0, 0, [])), (149, (.iload 9, 2, 9, 0, 0, 0, 0, 0, 0, 0, [])), (151, (.goto 5, 3, 156, 0, 0, 0, 0, 0, 0, 0, [])), (154, (.iload 6, 2, 6, 0, 0, 0, 0, 0, 0, 0, [])), (156, (.istore 6, 2, 6, 0, 0, 0, 0, 0, 0, 0, [])), (158, (.iload 8, 2, 8, 0, 0, 0, 0, 0, 0, 0, [])), (160, (.iload 11, 2, 11, 0, 0, 0, 0, 0, 0, 0, [])), (162, (.iload_n 2, 1, 2, 0, 0, 0, 0, 0, 0, 0, [])), (163, (.if_icmp .le 14, 3, 177, 0, 0, 0, 0, 0, 0, 0, [])), (166, (.iload 12, 2, 12, 0, 0, 0, 0, 0, 0, 0, [])), (168, (.iload 10, 2, 10, 0, 0, 0, 0, 0, 0, 0, [])), (170, (.if_icmp .eq 7, 3, 177, 0, 0, 0, 0, 0, 0, 0, [])), (173, (.iconst 1, 1, 0, 1, 0, 0, 0, 0, 0, 0, [])), (174, (.goto 4, 3, 178, 0, 0, 0, 0, 0, 0, 0, [])), (177, (.iconst 0, 1, 0, 0, 0, 0, 0, 0, 0, 0, [])), (178, (.iadd, 1, 0, 0, 0, 0, 0, 0, 0, 0, [])), (179, (.istore 8, 2, 8, 0, 0, 0, 0, 0, 0, 0, [])), (181, (.iload 12, 2, 12, 0, 0, 0, 0, 0, 0, 0, [])), (183, (.istore 10, 2, 10, 0, 0, 0, 0, 0, 0, 0, [])), (185, (.iinc 11 1, 3, 11, 1, 0, 0, 0, 0, 0, 0, [])), (188, (.goto (-114), 3, 74, 0, 0, 0, 0, 0, 0, 0, [])), (191, (.iload 4, 2, 4, 0, 0, 0, 0, 0, 0, 0, [])), (193, (.ifCond .ne 8, 3, 201, 0, 0, 0, 0, 0, 0, 0, [])), (196, (.iload 5, 2, 5, 0, 0, 0, 0, 0, 0, 0, [])), (198, (.goto 27, 3, 225, 0, 0, 0, 0, 0, 0, 0, [])), (201, (.iload 4, 2, 4, 0, 0, 0, 0, 0, 0, 0, [])), (203, (.iconst 1, 1, 0, 1, 0, 0, 0, 0, 0, 0, [])), (204, (.if_icmp .ne 8, 3, 212, 0, 0, 0, 0, 0, 0, 0, [])), (207, (.iload 6, 2, 6, 0, 0, 0, 0, 0, 0, 0, [])), (209, (.goto 16, 3, 225, 0, 0, 0, 0, 0, 0, 0, [])), (212, (.iload 4, 2, 4, 0, 0, 0, 0, 0, 0, 0, [])), (214, (.iconst 2, 1, 0, 2, 0, 0, 0, 0, 0, 0, [])), (215, (.if_icmp .ne 8, 3, 223, 0, 0, 0, 0, 0, 0, 0, [])), (218, (.iload 7, 2, 7, 0, 0, 0, 0, 0, 0, 0, [])), (220, (.goto 5, 3, 225, 0, 0, 0, 0, 0, 0, 0, [])), (223, (.iload 8, 2, 8, 0, 0, 0, 0, 0, 0, 0, [])), (225, (.ireturn, 1, 0, 0, 0, 0, 0, 0, 0, 0, []))]
set_option maxRecDepth 100000 in
theorem ok_X9_gaps : tb_ok ctX9 m_X9_gaps t_X9_gaps = true := by decide +kernel
theorem i_X9_gaps_0 : tab t_X9_gaps 0 = some (.aload_n 0, 1, 0, 0, 0, 0, 0, 0, 0, 0, []) := rfl
theorem i_X9_gaps_1 : tab t_X9_gaps 1 = some (.iload_n 1, 1, 1, 0, 0, 0, 0, 0, 0, 0, []) := rfl
theorem i_X9_gaps_2 : tab t_X9_gaps 2 = some (.invokevirtual 185, 3, 1, 0, 0, 0, 128, 10, 0, 0, []) := rfl
theorem i_X9_gaps_5 : tab t_X9_gaps 5 = some (.ifCond .eq 45, 3, 50, 0, 0, 0, 0, 0, 0, 0, []) := rfl
theorem i_X9_gaps_8 : tab t_X9_gaps 8 = some (.iload_n 2, 1, 2, 0, 0, 0, 0, 0, 0, 0, []) := rfl
theorem i_X9_gaps_9 : tab t_X9_gaps 9 = some (.invokestatic 203, 3, 1, 0, 0, 0, 127, 0, 0, 0, []) := rfl
theorem i_X9_gaps_12 : tab t_X9_gaps 12 = some (.ifCond .eq 38, 3, 50, 0, 0, 0, 0, 0, 0, 0, []) := rfl
theorem i_X9_gaps_15 : tab t_X9_gaps 15 = some (.iload_n 3, 1, 3, 0, 0, 0, 0, 0, 0, 0, []) := rfl
theorem i_X9_gaps_16 : tab t_X9_gaps 16 = some (.i2l, 1, 0, 0, 0, 0, 0, 0, 0, 0, []) := rfl
theorem i_X9_gaps_17 : tab t_X9_gaps 17 = some (.iload_n 2, 1, 2, 0, 0, 0, 0, 0, 0, 0, []) := rfl
theorem i_X9_gaps_18 : tab t_X9_gaps 18 = some (.i2l, 1, 0, 0, 0, 0, 0, 0, 0, 0, []) := rfl
theorem i_X9_gaps_19 : tab t_X9_gaps 19 = some (.ldc2_w 173, 3, 0, 0, 2879, 0, 0, 0, 0, 0, []) := rfl
theorem i_X9_gaps_22 : tab t_X9_gaps 22 = some (.invokestatic 175, 3, 3, 0, 0, 0, 126, 0, 0, 0, []) := rfl
theorem i_X9_gaps_25 : tab t_X9_gaps 25 = some (.ifCond .eq 25, 3, 50, 0, 0, 0, 0, 0, 0, 0, []) := rfl
theorem i_X9_gaps_28 : tab t_X9_gaps 28 = some (.iload_n 3, 1, 3, 0, 0, 0, 0, 0, 0, 0, []) := rfl
theorem i_X9_gaps_29 : tab t_X9_gaps 29 = some (.iload_n 2, 1, 2, 0, 0, 0, 0, 0, 0, 0, []) := rfl
theorem i_X9_gaps_30 : tab t_X9_gaps 30 = some (.isub, 1, 0, 0, 0, 0, 0, 0, 0, 0, []) := rfl
theorem i_X9_gaps_31 : tab t_X9_gaps 31 = some (.sipush 300, 3, 0, 300, 0, 0, 0, 0, 0, 0, []) := rfl
theorem i_X9_gaps_34 : tab t_X9_gaps 34 = some (.if_icmp .ge 16, 3, 50, 0, 0, 0, 0, 0, 0, 0, []) := rfl
theorem i_X9_gaps_37 : tab t_X9_gaps 37 = some (.iload 4, 2, 4, 0, 0, 0, 0, 0, 0, 0, []) := rfl
theorem i_X9_gaps_39 : tab t_X9_gaps 39 = some (.i2l, 1, 0, 0, 0, 0, 0, 0, 0, 0, []) := rfl
theorem i_X9_gaps_40 : tab t_X9_gaps 40 = some (.lconst 0, 1, 0, 0, 0, 0, 0, 0, 0, 0, []) := rfl
theorem i_X9_gaps_41 : tab t_X9_gaps 41 = some (.ldc2_w 189, 3, 0, 0, 3, 0, 0, 0, 0, 0, []) := rfl
theorem i_X9_gaps_44 : tab t_X9_gaps 44 = some (.invokestatic 175, 3, 3, 0, 0, 0, 126, 0, 0, 0, []) := rfl
theorem i_X9_gaps_47 : tab t_X9_gaps 47 = some (.ifCond .ne 6, 3, 53, 0, 0, 0, 0, 0, 0, 0, []) := rfl
theorem i_X9_gaps_50 : tab t_X9_gaps 50 = some (.bipush (-2), 2, 0, -2, 0, 0, 0, 0, 0, 0, []) := rfl
theorem i_X9_gaps_52 : tab t_X9_gaps 52 = some (.ireturn, 1, 0, 0, 0, 0, 0, 0, 0, 0, []) := rfl
theorem i_X9_gaps_53 : tab t_X9_gaps 53 = some (.iconst 0, 1, 0, 0, 0, 0, 0, 0, 0, 0, []) := rfl
theorem i_X9_gaps_54 : tab t_X9_gaps 54 = some (.istore 5, 2, 5, 0, 0, 0, 0, 0, 0, 0, []) := rfl
theorem i_X9_gaps_56 : tab t_X9_gaps 56 = some (.iconst 0, 1, 0, 0, 0, 0, 0, 0, 0, 0, []) := rfl
theorem i_X9_gaps_57 : tab t_X9_gaps 57 = some (.istore 6, 2, 6, 0, 0, 0, 0, 0, 0, 0, []) := rfl
theorem i_X9_gaps_59 : tab t_X9_gaps 59 = some (.iconst (-1), 1, 0, -1, 0, 0, 0, 0, 0, 0, []) := rfl
theorem i_X9_gaps_60 : tab t_X9_gaps 60 = some (.istore 7, 2, 7, 0, 0, 0, 0, 0, 0, 0, []) := rfl
theorem i_X9_gaps_62 : tab t_X9_gaps 62 = some (.iconst 0, 1, 0, 0, 0, 0, 0, 0, 0, 0, []) := rfl
theorem i_X9_gaps_63 : tab t_X9_gaps 63 = some (.istore 8, 2, 8, 0, 0, 0, 0, 0, 0, 0, []) := rfl
theorem i_X9_gaps_65 : tab t_X9_gaps 65 = some (.iconst 0, 1, 0, 0, 0, 0, 0, 0, 0, 0, []) := rfl
theorem i_X9_gaps_66 : tab t_X9_gaps 66 = some (.istore 9, 2, 9, 0, 0, 0, 0, 0, 0, 0, []) := rfl
theorem i_X9_gaps_68 : tab t_X9_gaps 68 = some (.iconst (-1), 1, 0, -1, 0, 0, 0, 0, 0, 0, []) := rfl
theorem i_X9_gaps_69 : tab t_X9_gaps 69 = some (.istore 10, 2, 10, 0, 0, 0, 0, 0, 0, 0, []) := rfl
theorem i_X9_gaps_71 : tab t_X9_gaps 71 = some (.iload_n 2, 1, 2, 0, 0, 0, 0, 0, 0, 0, []) := rfl
theorem i_X9_gaps_72 : tab t_X9_gaps 72 = some (.istore 11, 2, 11, 0, 0, 0, 0, 0, 0, 0, []) := rfl
theorem i_X9_gaps_74 : tab t_X9_gaps 74 = some (.iload 11, 2, 11, 0, 0, 0, 0, 0, 0, 0, []) := rfl
theorem i_X9_gaps_76 : tab t_X9_gaps 76 = some (.iload_n 3, 1, 3, 0, 0, 0, 0, 0, 0, 0, []) := rfl
theorem i_X9_gaps_77 : tab t_X9_gaps 77 = some (.if_icmp .gt 114, 3, 191, 0, 0, 0, 0, 0, 0, 0, []) := rfl
theorem i_X9_gaps_80 : tab t_X9_gaps 80 = some (.aload_n 0, 1, 0, 0, 0, 0, 0, 0, 0, 0, []) := rfl
theorem i_X9_gaps_81 : tab t_X9_gaps 81 = some (.iload_n 1, 1, 1, 0, 0, 0, 0, 0, 0, 0, []) := rfl
theorem i_X9_gaps_82 : tab t_X9_gaps 82 = some (.iload 11, 2, 11, 0, 0, 0, 0, 0, 0, 0, []) := rfl
theorem i_X9_gaps_84 : tab t_X9_gaps 84 = some (.invokevirtual 429, 3, 2, 0, 0, 0, 184, 10, 0, 0, []) := rfl
theorem i_X9_gaps_87 : tab t_X9_gaps 87 = some (.istore 12, 2, 12, 0, 0, 0, 0, 0, 0, 0, []) := rfl
theorem i_X9_gaps_89 : tab t_X9_gaps 89 = some (.iload 12, 2, 12, 0, 0, 0, 0, 0, 0, 0, []) := rfl
theorem i_X9_gaps_91 : tab t_X9_gaps 91 = some (.iconst (-1), 1, 0, -1, 0, 0, 0, 0, 0, 0, []) := rfl
theorem i_X9_gaps_92 : tab t_X9_gaps 92 = some (.if_icmp .ne 10, 3, 102, 0, 0, 0, 0, 0, 0, 0, []) := rfl
theorem i_X9_gaps_95 : tab t_X9_gaps 95 = some (.iload 9, 2, 9, 0, 0, 0, 0, 0, 0, 0, []) := rfl
theorem i_X9_gaps_97 : tab t_X9_gaps 97 = some (.iconst 1, 1, 0, 1, 0, 0, 0, 0, 0, 0, []) := rfl
theorem i_X9_gaps_98 : tab t_X9_gaps 98 = some (.iadd, 1, 0, 0, 0, 0, 0, 0, 0, 0, []) := rfl
theorem i_X9_gaps_99 : tab t_X9_gaps 99 = some (.goto 4, 3, 103, 0, 0, 0, 0, 0, 0, 0, []) := rfl
theorem i_X9_gaps_102 : tab t_X9_gaps 102 = some (.iconst 0, 1, 0, 0, 0, 0, 0, 0, 0, 0, []) := rfl
theorem i_X9_gaps_103 : tab t_X9_gaps 103 = some (.istore 9, 2, 9, 0, 0, 0, 0, 0, 0, 0, []) := rfl
theorem i_X9_gaps_105 : tab t_X9_gaps 105 = some (.iload 5, 2, 5, 0, 0, 0, 0, 0, 0, 0, []) := rfl
theorem i_X9_gaps_107 : tab t_X9_gaps 107 = some (.iload 12, 2, 12, 0, 0, 0, 0, 0, 0, 0, []) := rfl
theorem i_X9_gaps_109 : tab t_X9_gaps 109 = some (.iconst (-1), 1, 0, -1, 0, 0, 0, 0, 0, 0, []) := rfl
theorem i_X9_gaps_110 : tab t_X9_gaps 110 = some (.if_icmp .ne 7, 3, 117, 0, 0, 0, 0, 0, 0, 0, []) := rfl
theorem i_X9_gaps_113 : tab t_X9_gaps 113 = some (.iconst 1, 1, 0, 1, 0, 0, 0, 0, 0, 0, []) := rfl
theorem i_X9_gaps_114 : tab t_X9_gaps 114 = some (.goto 4, 3, 118, 0, 0, 0, 0, 0, 0, 0, []) := rfl
theorem i_X9_gaps_117 : tab t_X9_gaps 117 = some (.iconst 0, 1, 0, 0, 0, 0, 0, 0, 0, 0, []) := rfl
theorem i_X9_gaps_118 : tab t_X9_gaps 118 = some (.iadd, 1, 0, 0, 0, 0, 0, 0, 0, 0, []) := rfl
theorem i_X9_gaps_119 : tab t_X9_gaps 119 = some (.istore 5, 2, 5, 0, 0, 0, 0, 0, 0, 0, []) := rfl
theorem i_X9_gaps_121 : tab t_X9_gaps 121 = some (.iload 12, 2, 12, 0, 0, 0, 0, 0, 0, 0, []) := rfl
theorem i_X9_gaps_123 : tab t_X9_gaps 123 = some (.iconst (-1), 1, 0, -1, 0, 0, 0, 0, 0, 0, []) := rfl
theorem i_X9_gaps_124 : tab t_X9_gaps 124 = some (.if_icmp .ne 14, 3, 138, 0, 0, 0, 0, 0, 0, 0, []) := rfl
theorem i_X9_gaps_127 : tab t_X9_gaps 127 = some (.iload 7, 2, 7, 0, 0, 0, 0, 0, 0, 0, []) := rfl
theorem i_X9_gaps_129 : tab t_X9_gaps 129 = some (.iconst (-1), 1, 0, -1, 0, 0, 0, 0, 0, 0, []) := rfl
theorem i_X9_gaps_130 : tab t_X9_gaps 130 = some (.if_icmp .ne 8, 3, 138, 0, 0, 0, 0, 0, 0, 0, []) := rfl
theorem i_X9_gaps_133 : tab t_X9_gaps 133 = some (.iload 11, 2, 11, 0, 0, 0, 0, 0, 0, 0, []) := rfl
theorem i_X9_gaps_135 : tab t_X9_gaps 135 = some (.goto 5, 3, 140, 0, 0, 0, 0, 0, 0, 0, []) := rfl
theorem i_X9_gaps_138 : tab t_X9_gaps 138 = some (.iload 7, 2, 7, 0, 0, 0, 0, 0, 0, 0, []) := rfl
theorem i_X9_gaps_140 : tab t_X9_gaps 140 = some (.istore 7, 2, 7, 0, 0, 0, 0, 0, 0, 0, []) := rfl
theorem i_X9_gaps_142 : tab t_X9_gaps 142 = some (.iload 9, 2, 9, 0, 0, 0, 0, 0, 0, 0, []) := rfl
theorem i_X9_gaps_144 : tab t_X9_gaps 144 = some (.iload 6, 2, 6, 0, 0, 0, 0, 0, 0, 0, []) := rfl
theorem i_X9_gaps_146 : tab t_X9_gaps 146 = some (.if_icmp .le 8, 3, 154, 0, 0, 0, 0, 0, 0, 0, []) := rfl
theorem i_X9_gaps_149 : tab t_X9_gaps 149 = some (.iload 9, 2, 9, 0, 0, 0, 0, 0, 0, 0, []) := rfl
theorem i_X9_gaps_151 : tab t_X9_gaps 151 = some (.goto 5, 3, 156, 0, 0, 0, 0, 0, 0, 0, []) := rfl
theorem i_X9_gaps_154 : tab t_X9_gaps 154 = some (.iload 6, 2, 6, 0, 0, 0, 0, 0, 0, 0, []) := rfl
theorem i_X9_gaps_156 : tab t_X9_gaps 156 = some (.istore 6, 2, 6, 0, 0, 0, 0, 0, 0, 0, []) := rfl
theorem i_X9_gaps_158 : tab t_X9_gaps 158 = some (.iload 8, 2, 8, 0, 0, 0, 0, 0, 0, 0, []) := rfl
theorem i_X9_gaps_160 : tab t_X9_gaps 160 = some (.iload 11, 2, 11, 0, 0, 0, 0, 0, 0, 0, []) := rfl
theorem i_X9_gaps_162 : tab t_X9_gaps 162 = some (.iload_n 2, 1, 2, 0, 0, 0, 0, 0, 0, 0, []) := rfl
theorem i_X9_gaps_163 : tab t_X9_gaps 163 = some (.if_icmp .le 14, 3, 177, 0, 0, 0, 0, 0, 0, 0, []) := rfl
theorem i_X9_gaps_166 : tab t_X9_gaps 166 = some (.iload 12, 2, 12, 0, 0, 0, 0, 0, 0, 0, []) := rfl
theorem i_X9_gaps_168 : tab t_X9_gaps 168 = some (.iload 10, 2, 10, 0, 0, 0, 0, 0, 0, 0, []) := rfl
theorem i_X9_gaps_170 : tab t_X9_gaps 170 = some (.if_icmp .eq 7, 3, 177, 0, 0, 0, 0, 0, 0, 0, []) := rfl
theorem i_X9_gaps_173 : tab t_X9_gaps 173 = some (.iconst 1, 1, 0, 1, 0, 0, 0, 0, 0, 0, []) := rfl
theorem i_X9_gaps_174 : tab t_X9_gaps 174 = some (.goto 4, 3, 178, 0, 0, 0, 0, 0, 0, 0, []) := rfl
theorem i_X9_gaps_177 : tab t_X9_gaps 177 = some (.iconst 0, 1, 0, 0, 0, 0, 0, 0, 0, 0, []) := rfl
theorem i_X9_gaps_178 : tab t_X9_gaps 178 = some (.iadd, 1, 0, 0, 0, 0, 0, 0, 0, 0, []) := rfl
theorem i_X9_gaps_179 : tab t_X9_gaps 179 = some (.istore 8, 2, 8, 0, 0, 0, 0, 0, 0, 0, []) := rfl
theorem i_X9_gaps_181 : tab t_X9_gaps 181 = some (.iload 12, 2, 12, 0, 0, 0, 0, 0, 0, 0, []) := rfl
theorem i_X9_gaps_183 : tab t_X9_gaps 183 = some (.istore 10, 2, 10, 0, 0, 0, 0, 0, 0, 0, []) := rfl
theorem i_X9_gaps_185 : tab t_X9_gaps 185 = some (.iinc 11 1, 3, 11, 1, 0, 0, 0, 0, 0, 0, []) := rfl
theorem i_X9_gaps_188 : tab t_X9_gaps 188 = some (.goto (-114), 3, 74, 0, 0, 0, 0, 0, 0, 0, []) := rfl
theorem i_X9_gaps_191 : tab t_X9_gaps 191 = some (.iload 4, 2, 4, 0, 0, 0, 0, 0, 0, 0, []) := rfl
theorem i_X9_gaps_193 : tab t_X9_gaps 193 = some (.ifCond .ne 8, 3, 201, 0, 0, 0, 0, 0, 0, 0, []) := rfl
theorem i_X9_gaps_196 : tab t_X9_gaps 196 = some (.iload 5, 2, 5, 0, 0, 0, 0, 0, 0, 0, []) := rfl
theorem i_X9_gaps_198 : tab t_X9_gaps 198 = some (.goto 27, 3, 225, 0, 0, 0, 0, 0, 0, 0, []) := rfl
theorem i_X9_gaps_201 : tab t_X9_gaps 201 = some (.iload 4, 2, 4, 0, 0, 0, 0, 0, 0, 0, []) := rfl
theorem i_X9_gaps_203 : tab t_X9_gaps 203 = some (.iconst 1, 1, 0, 1, 0, 0, 0, 0, 0, 0, []) := rfl
theorem i_X9_gaps_204 : tab t_X9_gaps 204 = some (.if_icmp .ne 8, 3, 212, 0, 0, 0, 0, 0, 0, 0, []) := rfl
theorem i_X9_gaps_207 : tab t_X9_gaps 207 = some (.iload 6, 2, 6, 0, 0, 0, 0, 0, 0, 0, []) := rfl
theorem i_X9_gaps_209 : tab t_X9_gaps 209 = some (.goto 16, 3, 225, 0, 0, 0, 0, 0, 0, 0, []) := rfl
theorem i_X9_gaps_212 : tab t_X9_gaps 212 = some (.iload 4, 2, 4, 0, 0, 0, 0, 0, 0, 0, []) := rfl
theorem i_X9_gaps_214 : tab t_X9_gaps 214 = some (.iconst 2, 1, 0, 2, 0, 0, 0, 0, 0, 0, []) := rfl
theorem i_X9_gaps_215 : tab t_X9_gaps 215 = some (.if_icmp .ne 8, 3, 223, 0, 0, 0, 0, 0, 0, 0, []) := rfl
theorem i_X9_gaps_218 : tab t_X9_gaps 218 = some (.iload 7, 2, 7, 0, 0, 0, 0, 0, 0, 0, []) := rfl
theorem i_X9_gaps_220 : tab t_X9_gaps 220 = some (.goto 5, 3, 225, 0, 0, 0, 0, 0, 0, 0, []) := rfl
theorem i_X9_gaps_223 : tab t_X9_gaps 223 = some (.iload 8, 2, 8, 0, 0, 0, 0, 0, 0, 0, []) := rfl
theorem i_X9_gaps_225 : tab t_X9_gaps 225 = some (.ireturn, 1, 0, 0, 0, 0, 0, 0, 0, 0, []) := rfl
def t_X9_bits : List (Nat × rw_) := [(0, (.iconst 0, 1, 0, 0, 0, 0, 0, 0, 0, 0, [])), (1, (.istore_n 1, 1, 1, 0, 0, 0, 0, 0, 0, 0, [])), (2, (.iload_n 0, 1, 0, 0, 0, 0, 0, 0, 0, 0, [])), (3, (.istore_n 2, 1, 2, 0, 0, 0, 0, 0, 0, 0, [])), (4, (.iload_n 2, 1, 2, 0, 0, 0, 0, 0, 0, 0, [])), (5, (.ifCond .eq 15, 3, 20, 0, 0, 0, 0, 0, 0, 0, [])), (8, (.iinc 1 1, 3, 1, 1, 0, 0, 0, 0, 0, 0, [])), (11, (.iload_n 2, 1, 2, 0, 0, 0, 0, 0, 0, 0, [])), (12, (.iload_n 2, 1, 2, 0, 0, 0, 0, 0, 0, 0, [])), (13, (.iconst 1, 1, 0, 1, 0, 0, 0, 0, 0, 0, [])), (14, (.isub, 1, 0, 0, 0, 0, 0, 0, 0, 0, [])), (15, (.iand, 1, 0, 0, 0, 0, 0, 0, 0, 0, [])), (16, (.istore_n 2, 1, 2, 0, 0, 0, 0, 0, 0, 0, [])), (17, (.goto (-13), 3, 4, 0, 0, 0, 0, 0, 0, 0, [])), (20, (.iload_n 1, 1, 1, 0, 0, 0, 0, 0, 0, 0, [])), (21, (.ireturn, 1, 0, 0, 0, 0, 0, 0, 0, 0, []))]
set_option maxRecDepth 100000 in
theorem ok_X9_bits : tb_ok ctX9 m_X9_bits t_X9_bits = true := by decide +kernel
theorem i_X9_bits_0 : tab t_X9_bits 0 = some (.iconst 0, 1, 0, 0, 0, 0, 0, 0, 0, 0, []) := rfl
theorem i_X9_bits_1 : tab t_X9_bits 1 = some (.istore_n 1, 1, 1, 0, 0, 0, 0, 0, 0, 0, []) := rfl
theorem i_X9_bits_2 : tab t_X9_bits 2 = some (.iload_n 0, 1, 0, 0, 0, 0, 0, 0, 0, 0, []) := rfl
theorem i_X9_bits_3 : tab t_X9_bits 3 = some (.istore_n 2, 1, 2, 0, 0, 0, 0, 0, 0, 0, []) := rfl
theorem i_X9_bits_4 : tab t_X9_bits 4 = some (.iload_n 2, 1, 2, 0, 0, 0, 0, 0, 0, 0, []) := rfl
theorem i_X9_bits_5 : tab t_X9_bits 5 = some (.ifCond .eq 15, 3, 20, 0, 0, 0, 0, 0, 0, 0, []) := rfl
theorem i_X9_bits_8 : tab t_X9_bits 8 = some (.iinc 1 1, 3, 1, 1, 0, 0, 0, 0, 0, 0, []) := rfl
theorem i_X9_bits_11 : tab t_X9_bits 11 = some (.iload_n 2, 1, 2, 0, 0, 0, 0, 0, 0, 0, []) := rfl
theorem i_X9_bits_12 : tab t_X9_bits 12 = some (.iload_n 2, 1, 2, 0, 0, 0, 0, 0, 0, 0, []) := rfl
theorem i_X9_bits_13 : tab t_X9_bits 13 = some (.iconst 1, 1, 0, 1, 0, 0, 0, 0, 0, 0, []) := rfl
theorem i_X9_bits_14 : tab t_X9_bits 14 = some (.isub, 1, 0, 0, 0, 0, 0, 0, 0, 0, []) := rfl
theorem i_X9_bits_15 : tab t_X9_bits 15 = some (.iand, 1, 0, 0, 0, 0, 0, 0, 0, 0, []) := rfl
theorem i_X9_bits_16 : tab t_X9_bits 16 = some (.istore_n 2, 1, 2, 0, 0, 0, 0, 0, 0, 0, []) := rfl
theorem i_X9_bits_17 : tab t_X9_bits 17 = some (.goto (-13), 3, 4, 0, 0, 0, 0, 0, 0, 0, []) := rfl
theorem i_X9_bits_20 : tab t_X9_bits 20 = some (.iload_n 1, 1, 1, 0, 0, 0, 0, 0, 0, 0, []) := rfl
theorem i_X9_bits_21 : tab t_X9_bits 21 = some (.ireturn, 1, 0, 0, 0, 0, 0, 0, 0, 0, []) := rfl
def t_X9_doubted : List (Nat × rw_) := [(0, (.iconst (-1), 1, 0, -1, 0, 0, 0, 0, 0, 0, [])), (1, (.istore_n 3, 1, 3, 0, 0, 0, 0, 0, 0, 0, [])), (2, (.iconst 0, 1, 0, 0, 0, 0, 0, 0, 0, 0, [])), (3, (.istore 4, 2, 4, 0, 0, 0, 0, 0, 0, 0, [])), (5, (.iconst 0, 1, 0, 0, 0, 0, 0, 0, 0, 0, [])), (6, (.istore 5, 2, 5, 0, 0, 0, 0, 0, 0, 0, [])), (8, (.iload 5, 2, 5, 0, 0, 0, 0, 0, 0, 0, [])), (10, (.aload_n 0, 1, 0, 0, 0, 0, 0, 0, 0, 0, [])), (11, (.getfield 182, 3, 0, 0, 0, 9, 2, 0, 0, 0, [])), (14, (.if_icmp .ge 103, 3, 117, 0, 0, 0, 0, 0, 0, 0, [])), (17, (.aload_n 0, 1, 0, 0, 0, 0, 0, 0, 0, 0, [])), (18, (.aload_n 0, 1, 0, 0, 0, 0, 0, 0, 0, 0, [])), (19, (.getfield 44, 3, 2, 0, 0, 9, 18, 0, 0, 0, [])), (22, (.iload 5, 2, 5, 0, 0, 0, 0, 0, 0, 0, [])), (24, (.iaload, 1, 0, 0, 0, 0, 0, 0, 0, 0, [])), (25, (.iload_n 1, 1, 1, 0, 0, 0, 0, 0, 0, 0, [])), (26, (.invokevirtual 386, 3, 2, 0, 0, 0, 174, 10, 0, 0, [])), (29, (.iconst (-1), 1, 0, -1, 0, 0, 0, 0, 0, 0, [])), (30, (.if_icmp .eq 81, 3, 111, 0, 0, 0, 0, 0, 0, 0, [])), (33, (.aload_n 0, 1, 0, 0, 0, 0, 0, 0, 0, 0, [])), (34, (.iload 5, 2, 5, 0, 0, 0, 0, 0, 0, 0, [])), (36, (.iload_n 2, 1, 2, 0, 0, 0, 0, 0, 0, 0, [])), (37, (.invokevirtual 435, 3, 2, 0, 0, 0, 191, 10, 0, 0, [])), (40, (.ifCond .ne 71, 3, 111, 0, 0, 0, 0, 0, 0, 0, [])), (43, (.aload_n 0, 1, 0, 0, 0, 0, 0, 0, 0, 0, [])), (44, (.invokevirtual 449, 3, 0, 0, 0, 0, 194, 10, 0, 0, [])), (47, (.aload_n 0, 1, 0, 0, 0, 0, 0, 0, 0, 0, [])), (48, (.getfield 137, 3, 2, 0, 0, 9, 56, 0, 0, 0, [])), (51, (.iload 5, 2, 5, 0, 0, 0, 0, 0, 0, 0, [])), (53, (.iconst 1, 1, 0, 1, 0, 0, 0, 0, 0, 0, [])), (54, (.bastore, 1, 0, 0, 0, 2, 0, 0, 0, 0, [])), (55, (.aload_n 0, 1, 0, 0, 0, 0, 0, 0, 0, 0, [])), (56, (.iload_n 1, 1, 1, 0, 0, 0, 0, 0, 0, 0, [])), (57, (.iload_n 2, 1, 2, 0, 0, 0, 0, 0, 0, 0, [])), (58, (.invokevirtual 458, 3, 2, 0, 0, 0, 198, 10, 0, 0, [])), (61, (.invokestatic 482, 3, 1, 0, 0, 0, 213, 0, 0, 0, [])), (64, (.istore 6, 2, 6, 0, 0, 0, 0, 0, 0, 0, [])), (66, (.iload_n 3, 1, 3, 0, 0, 0, 0, 0, 0, 0, [])), (67, (.iconst (-1), 1, 0, -1, 0, 0, 0, 0, 0, 0, [])), (68, (.if_icmp .eq 10, 3, 78, 0, 0, 0, 0, 0, 0, 0, [])), (71, (.iload 6, 2, 6, 0, 0, 0, 0, 0, 0, 0, [])), (73, (.iload 4, 2, 4, 0, 0, 0, 0, 0, 0, 0, [])), (75, (.if_icmp .le 7, 3, 82, 0, 0, 0, 0, 0, 0, 0, [])), (78, (.iconst 1, 1, 0, 1, 0, 0, 0, 0, 0, 0, [])), (79, (.goto 4, 3, 83, 0, 0, 0, 0, 0, 0, 0, [])), (82, (.iconst 0, 1, 0, 0, 0, 0, 0, 0, 0, 0, [])), (83, (.istore 7, 2, 7, 0, 0, 0, 0, 0, 0, 0, [])), (85, (.iload 7, 2, 7, 0, 0, 0, 0, 0, 0, 0, [])), (87, (.ifCond .eq 8, 3, 95, 0, 0, 0, 0, 0, 0, 0, [])), (90, (.iload 5, 2, 5, 0, 0, 0, 0, 0, 0, 0, [])), (92, (.goto 4, 3, 96, 0, 0, 0, 0, 0, 0, 0, [])), (95, (.iload_n 3, 1, 3, 0, 0, 0, 0, 0, 0, 0, [])), (96, (.istore_n 3, 1, 3, 0, 0, 0, 0, 0, 0, 0, [])), (97, (.iload 7, 2, 7, 0, 0, 0, 0, 0, 0, 0, [])), (99, (.ifCond .eq 8, 3, 107, 0, 0, 0, 0, 0, 0, 0, [])), (102, (.iload 6, 2, 6, 0, 0, 0, 0, 0, 0, 0, [])), (104, (.goto 5, 3, 109, 0, 0, 0, 0, 0, 0, 0, [])), (107, (.iload 4, 2, 4, 0, 0, 0, 0, 0, 0, 0, [])), (109, (.istore 4, 2, 4, 0, 0, 0, 0, 0, 0, 0, [])), (111, (.iinc 5 1, 3, 5, 1, 0, 0, 0, 0, 0, 0, [])), (114, (.goto (-106), 3, 8, 0, 0, 0, 0, 0, 0, 0, [])), (117, (.aload_n 0, 1, 0, 0, 0, 0, 0, 0, 0, 0, [])), (118, (.iload 4, 2, 4, 0, 0, 0, 0, 0, 0, 0, [])), (120, (.putfield 485, 3, 0, 0, 0, 9, 63, 0, 0, 0, [])), (123, (.iload_n 3, 1, 3, 0, 0, 0, 0, 0, 0, 0, [])), (124, (.ireturn, 1, 0, 0, 0, 0, 0, 0, 0, 0, []))]
set_option maxRecDepth 100000 in
theorem ok_X9_doubted : tb_ok ctX9 m_X9_doubted t_X9_doubted = true := by decide +kernel
theorem i_X9_doubted_0 : tab t_X9_doubted 0 = some (.iconst (-1), 1, 0, -1, 0, 0, 0, 0, 0, 0, []) := rfl
theorem i_X9_doubted_1 : tab t_X9_doubted 1 = some (.istore_n 3, 1, 3, 0, 0, 0, 0, 0, 0, 0, []) := rfl
theorem i_X9_doubted_2 : tab t_X9_doubted 2 = some (.iconst 0, 1, 0, 0, 0, 0, 0, 0, 0, 0, []) := rfl
theorem i_X9_doubted_3 : tab t_X9_doubted 3 = some (.istore 4, 2, 4, 0, 0, 0, 0, 0, 0, 0, []) := rfl
theorem i_X9_doubted_5 : tab t_X9_doubted 5 = some (.iconst 0, 1, 0, 0, 0, 0, 0, 0, 0, 0, []) := rfl
theorem i_X9_doubted_6 : tab t_X9_doubted 6 = some (.istore 5, 2, 5, 0, 0, 0, 0, 0, 0, 0, []) := rfl
theorem i_X9_doubted_8 : tab t_X9_doubted 8 = some (.iload 5, 2, 5, 0, 0, 0, 0, 0, 0, 0, []) := rfl
theorem i_X9_doubted_10 : tab t_X9_doubted 10 = some (.aload_n 0, 1, 0, 0, 0, 0, 0, 0, 0, 0, []) := rfl
theorem i_X9_doubted_11 : tab t_X9_doubted 11 = some (.getfield 182, 3, 0, 0, 0, 9, 2, 0, 0, 0, []) := rfl
theorem i_X9_doubted_14 : tab t_X9_doubted 14 = some (.if_icmp .ge 103, 3, 117, 0, 0, 0, 0, 0, 0, 0, []) := rfl
theorem i_X9_doubted_17 : tab t_X9_doubted 17 = some (.aload_n 0, 1, 0, 0, 0, 0, 0, 0, 0, 0, []) := rfl
theorem i_X9_doubted_18 : tab t_X9_doubted 18 = some (.aload_n 0, 1, 0, 0, 0, 0, 0, 0, 0, 0, []) := rfl
theorem i_X9_doubted_19 : tab t_X9_doubted 19 = some (.getfield 44, 3, 2, 0, 0, 9, 18, 0, 0, 0, []) := rfl
theorem i_X9_doubted_22 : tab t_X9_doubted 22 = some (.iload 5, 2, 5, 0, 0, 0, 0, 0, 0, 0, []) := rfl
theorem i_X9_doubted_24 : tab t_X9_doubted 24 = some (.iaload, 1, 0, 0, 0, 0, 0, 0, 0, 0, []) := rfl
theorem i_X9_doubted_25 : tab t_X9_doubted 25 = some (.iload_n 1, 1, 1, 0, 0, 0, 0, 0, 0, 0, []) := rfl
theorem i_X9_doubted_26 : tab t_X9_doubted 26 = some (.invokevirtual 386, 3, 2, 0, 0, 0, 174, 10, 0, 0, []) := rfl
theorem i_X9_doubted_29 : tab t_X9_doubted 29 = some (.iconst (-1), 1, 0, -1, 0, 0, 0, 0, 0, 0, []) := rfl
theorem i_X9_doubted_30 : tab t_X9_doubted 30 = some (.if_icmp .eq 81, 3, 111, 0, 0, 0, 0, 0, 0, 0, []) := rfl
theorem i_X9_doubted_33 : tab t_X9_doubted 33 = some (.aload_n 0, 1, 0, 0, 0, 0, 0, 0, 0, 0, []) := rfl
theorem i_X9_doubted_34 : tab t_X9_doubted 34 = some (.iload 5, 2, 5, 0, 0, 0, 0, 0, 0, 0, []) := rfl
theorem i_X9_doubted_36 : tab t_X9_doubted 36 = some (.iload_n 2, 1, 2, 0, 0, 0, 0, 0, 0, 0, []) := rfl
theorem i_X9_doubted_37 : tab t_X9_doubted 37 = some (.invokevirtual 435, 3, 2, 0, 0, 0, 191, 10, 0, 0, []) := rfl
theorem i_X9_doubted_40 : tab t_X9_doubted 40 = some (.ifCond .ne 71, 3, 111, 0, 0, 0, 0, 0, 0, 0, []) := rfl
theorem i_X9_doubted_43 : tab t_X9_doubted 43 = some (.aload_n 0, 1, 0, 0, 0, 0, 0, 0, 0, 0, []) := rfl
theorem i_X9_doubted_44 : tab t_X9_doubted 44 = some (.invokevirtual 449, 3, 0, 0, 0, 0, 194, 10, 0, 0, []) := rfl
theorem i_X9_doubted_47 : tab t_X9_doubted 47 = some (.aload_n 0, 1, 0, 0, 0, 0, 0, 0, 0, 0, []) := rfl
theorem i_X9_doubted_48 : tab t_X9_doubted 48 = some (.getfield 137, 3, 2, 0, 0, 9, 56, 0, 0, 0, []) := rfl
theorem i_X9_doubted_51 : tab t_X9_doubted 51 = some (.iload 5, 2, 5, 0, 0, 0, 0, 0, 0, 0, []) := rfl
theorem i_X9_doubted_53 : tab t_X9_doubted 53 = some (.iconst 1, 1, 0, 1, 0, 0, 0, 0, 0, 0, []) := rfl
theorem i_X9_doubted_54 : tab t_X9_doubted 54 = some (.bastore, 1, 0, 0, 0, 2, 0, 0, 0, 0, []) := rfl
theorem i_X9_doubted_55 : tab t_X9_doubted 55 = some (.aload_n 0, 1, 0, 0, 0, 0, 0, 0, 0, 0, []) := rfl
theorem i_X9_doubted_56 : tab t_X9_doubted 56 = some (.iload_n 1, 1, 1, 0, 0, 0, 0, 0, 0, 0, []) := rfl
theorem i_X9_doubted_57 : tab t_X9_doubted 57 = some (.iload_n 2, 1, 2, 0, 0, 0, 0, 0, 0, 0, []) := rfl
theorem i_X9_doubted_58 : tab t_X9_doubted 58 = some (.invokevirtual 458, 3, 2, 0, 0, 0, 198, 10, 0, 0, []) := rfl
theorem i_X9_doubted_61 : tab t_X9_doubted 61 = some (.invokestatic 482, 3, 1, 0, 0, 0, 213, 0, 0, 0, []) := rfl
theorem i_X9_doubted_64 : tab t_X9_doubted 64 = some (.istore 6, 2, 6, 0, 0, 0, 0, 0, 0, 0, []) := rfl
theorem i_X9_doubted_66 : tab t_X9_doubted 66 = some (.iload_n 3, 1, 3, 0, 0, 0, 0, 0, 0, 0, []) := rfl
theorem i_X9_doubted_67 : tab t_X9_doubted 67 = some (.iconst (-1), 1, 0, -1, 0, 0, 0, 0, 0, 0, []) := rfl
theorem i_X9_doubted_68 : tab t_X9_doubted 68 = some (.if_icmp .eq 10, 3, 78, 0, 0, 0, 0, 0, 0, 0, []) := rfl
theorem i_X9_doubted_71 : tab t_X9_doubted 71 = some (.iload 6, 2, 6, 0, 0, 0, 0, 0, 0, 0, []) := rfl
theorem i_X9_doubted_73 : tab t_X9_doubted 73 = some (.iload 4, 2, 4, 0, 0, 0, 0, 0, 0, 0, []) := rfl
theorem i_X9_doubted_75 : tab t_X9_doubted 75 = some (.if_icmp .le 7, 3, 82, 0, 0, 0, 0, 0, 0, 0, []) := rfl
theorem i_X9_doubted_78 : tab t_X9_doubted 78 = some (.iconst 1, 1, 0, 1, 0, 0, 0, 0, 0, 0, []) := rfl
theorem i_X9_doubted_79 : tab t_X9_doubted 79 = some (.goto 4, 3, 83, 0, 0, 0, 0, 0, 0, 0, []) := rfl
theorem i_X9_doubted_82 : tab t_X9_doubted 82 = some (.iconst 0, 1, 0, 0, 0, 0, 0, 0, 0, 0, []) := rfl
theorem i_X9_doubted_83 : tab t_X9_doubted 83 = some (.istore 7, 2, 7, 0, 0, 0, 0, 0, 0, 0, []) := rfl
theorem i_X9_doubted_85 : tab t_X9_doubted 85 = some (.iload 7, 2, 7, 0, 0, 0, 0, 0, 0, 0, []) := rfl
theorem i_X9_doubted_87 : tab t_X9_doubted 87 = some (.ifCond .eq 8, 3, 95, 0, 0, 0, 0, 0, 0, 0, []) := rfl
theorem i_X9_doubted_90 : tab t_X9_doubted 90 = some (.iload 5, 2, 5, 0, 0, 0, 0, 0, 0, 0, []) := rfl
theorem i_X9_doubted_92 : tab t_X9_doubted 92 = some (.goto 4, 3, 96, 0, 0, 0, 0, 0, 0, 0, []) := rfl
theorem i_X9_doubted_95 : tab t_X9_doubted 95 = some (.iload_n 3, 1, 3, 0, 0, 0, 0, 0, 0, 0, []) := rfl
theorem i_X9_doubted_96 : tab t_X9_doubted 96 = some (.istore_n 3, 1, 3, 0, 0, 0, 0, 0, 0, 0, []) := rfl
theorem i_X9_doubted_97 : tab t_X9_doubted 97 = some (.iload 7, 2, 7, 0, 0, 0, 0, 0, 0, 0, []) := rfl
theorem i_X9_doubted_99 : tab t_X9_doubted 99 = some (.ifCond .eq 8, 3, 107, 0, 0, 0, 0, 0, 0, 0, []) := rfl
theorem i_X9_doubted_102 : tab t_X9_doubted 102 = some (.iload 6, 2, 6, 0, 0, 0, 0, 0, 0, 0, []) := rfl
theorem i_X9_doubted_104 : tab t_X9_doubted 104 = some (.goto 5, 3, 109, 0, 0, 0, 0, 0, 0, 0, []) := rfl
theorem i_X9_doubted_107 : tab t_X9_doubted 107 = some (.iload 4, 2, 4, 0, 0, 0, 0, 0, 0, 0, []) := rfl
theorem i_X9_doubted_109 : tab t_X9_doubted 109 = some (.istore 4, 2, 4, 0, 0, 0, 0, 0, 0, 0, []) := rfl
theorem i_X9_doubted_111 : tab t_X9_doubted 111 = some (.iinc 5 1, 3, 5, 1, 0, 0, 0, 0, 0, 0, []) := rfl
theorem i_X9_doubted_114 : tab t_X9_doubted 114 = some (.goto (-106), 3, 8, 0, 0, 0, 0, 0, 0, 0, []) := rfl
theorem i_X9_doubted_117 : tab t_X9_doubted 117 = some (.aload_n 0, 1, 0, 0, 0, 0, 0, 0, 0, 0, []) := rfl
theorem i_X9_doubted_118 : tab t_X9_doubted 118 = some (.iload 4, 2, 4, 0, 0, 0, 0, 0, 0, 0, []) := rfl
theorem i_X9_doubted_120 : tab t_X9_doubted 120 = some (.putfield 485, 3, 0, 0, 0, 9, 63, 0, 0, 0, []) := rfl
theorem i_X9_doubted_123 : tab t_X9_doubted 123 = some (.iload_n 3, 1, 3, 0, 0, 0, 0, 0, 0, 0, []) := rfl
theorem i_X9_doubted_124 : tab t_X9_doubted 124 = some (.ireturn, 1, 0, 0, 0, 0, 0, 0, 0, 0, []) := rfl
def t_X9_doubt : List (Nat × rw_) := [(0, (.aload_n 0, 1, 0, 0, 0, 0, 0, 0, 0, 0, [])), (1, (.iload_n 1, 1, 1, 0, 0, 0, 0, 0, 0, 0, [])), (2, (.invokevirtual 185, 3, 1, 0, 0, 0, 128, 10, 0, 0, [])), (5, (.ifCond .eq 20, 3, 25, 0, 0, 0, 0, 0, 0, 0, [])), (8, (.iload_n 2, 1, 2, 0, 0, 0, 0, 0, 0, 0, [])), (9, (.invokestatic 203, 3, 1, 0, 0, 0, 127, 0, 0, 0, [])), (12, (.ifCond .eq 13, 3, 25, 0, 0, 0, 0, 0, 0, 0, [])), (15, (.iload_n 3, 1, 3, 0, 0, 0, 0, 0, 0, 0, [])), (16, (.i2l, 1, 0, 0, 0, 0, 0, 0, 0, 0, [])), (17, (.lconst 0, 1, 0, 0, 0, 0, 0, 0, 0, 0, [])), (18, (.lconst 1, 1, 0, 0, 1, 0, 0, 0, 0, 0, [])), (19, (.invokestatic 175, 3, 3, 0, 0, 0, 126, 0, 0, 0, [])), (22, (.ifCond .ne 6, 3, 28, 0, 0, 0, 0, 0, 0, 0, [])), (25, (.bipush (-2), 2, 0, -2, 0, 0, 0, 0, 0, 0, [])), (27, (.ireturn, 1, 0, 0, 0, 0, 0, 0, 0, 0, [])), (28, (.aload_n 0, 1, 0, 0, 0, 0, 0, 0, 0, 0, [])), (29, (.iload_n 1, 1, 1, 0, 0, 0, 0, 0, 0, 0, [])), (30, (.iload_n 2, 1, 2, 0, 0, 0, 0, 0, 0, 0, [])), (31, (.invokevirtual 488, 3, 2, 0, 0, 0, 214, 10, 0, 0, [])), (34, (.istore 4, 2, 4, 0, 0, 0, 0, 0, 0, 0, [])), (36, (.iload_n 3, 1, 3, 0, 0, 0, 0, 0, 0, 0, [])), (37, (.ifCond .ne 8, 3, 45, 0, 0, 0, 0, 0, 0, 0, [])), (40, (.iload 4, 2, 4, 0, 0, 0, 0, 0, 0, 0, [])), (42, (.goto 7, 3, 49, 0, 0, 0, 0, 0, 0, 0, [])), (45, (.aload_n 0, 1, 0, 0, 0, 0, 0, 0, 0, 0, [])), (46, (.getfield 485, 3, 0, 0, 0, 9, 63, 0, 0, 0, [])), (49, (.ireturn, 1, 0, 0, 0, 0, 0, 0, 0, 0, []))]
set_option maxRecDepth 100000 in
theorem ok_X9_doubt : tb_ok ctX9 m_X9_doubt t_X9_doubt = true := by decide +kernel
theorem i_X9_doubt_0 : tab t_X9_doubt 0 = some (.aload_n 0, 1, 0, 0, 0, 0, 0, 0, 0, 0, []) := rfl
theorem i_X9_doubt_1 : tab t_X9_doubt 1 = some (.iload_n 1, 1, 1, 0, 0, 0, 0, 0, 0, 0, []) := rfl
theorem i_X9_doubt_2 : tab t_X9_doubt 2 = some (.invokevirtual 185, 3, 1, 0, 0, 0, 128, 10, 0, 0, []) := rfl
theorem i_X9_doubt_5 : tab t_X9_doubt 5 = some (.ifCond .eq 20, 3, 25, 0, 0, 0, 0, 0, 0, 0, []) := rfl
theorem i_X9_doubt_8 : tab t_X9_doubt 8 = some (.iload_n 2, 1, 2, 0, 0, 0, 0, 0, 0, 0, []) := rfl
theorem i_X9_doubt_9 : tab t_X9_doubt 9 = some (.invokestatic 203, 3, 1, 0, 0, 0, 127, 0, 0, 0, []) := rfl
theorem i_X9_doubt_12 : tab t_X9_doubt 12 = some (.ifCond .eq 13, 3, 25, 0, 0, 0, 0, 0, 0, 0, []) := rfl
theorem i_X9_doubt_15 : tab t_X9_doubt 15 = some (.iload_n 3, 1, 3, 0, 0, 0, 0, 0, 0, 0, []) := rfl
theorem i_X9_doubt_16 : tab t_X9_doubt 16 = some (.i2l, 1, 0, 0, 0, 0, 0, 0, 0, 0, []) := rfl
theorem i_X9_doubt_17 : tab t_X9_doubt 17 = some (.lconst 0, 1, 0, 0, 0, 0, 0, 0, 0, 0, []) := rfl
theorem i_X9_doubt_18 : tab t_X9_doubt 18 = some (.lconst 1, 1, 0, 0, 1, 0, 0, 0, 0, 0, []) := rfl
theorem i_X9_doubt_19 : tab t_X9_doubt 19 = some (.invokestatic 175, 3, 3, 0, 0, 0, 126, 0, 0, 0, []) := rfl
theorem i_X9_doubt_22 : tab t_X9_doubt 22 = some (.ifCond .ne 6, 3, 28, 0, 0, 0, 0, 0, 0, 0, []) := rfl
theorem i_X9_doubt_25 : tab t_X9_doubt 25 = some (.bipush (-2), 2, 0, -2, 0, 0, 0, 0, 0, 0, []) := rfl
theorem i_X9_doubt_27 : tab t_X9_doubt 27 = some (.ireturn, 1, 0, 0, 0, 0, 0, 0, 0, 0, []) := rfl
theorem i_X9_doubt_28 : tab t_X9_doubt 28 = some (.aload_n 0, 1, 0, 0, 0, 0, 0, 0, 0, 0, []) := rfl
theorem i_X9_doubt_29 : tab t_X9_doubt 29 = some (.iload_n 1, 1, 1, 0, 0, 0, 0, 0, 0, 0, []) := rfl
theorem i_X9_doubt_30 : tab t_X9_doubt 30 = some (.iload_n 2, 1, 2, 0, 0, 0, 0, 0, 0, 0, []) := rfl
theorem i_X9_doubt_31 : tab t_X9_doubt 31 = some (.invokevirtual 488, 3, 2, 0, 0, 0, 214, 10, 0, 0, []) := rfl
theorem i_X9_doubt_34 : tab t_X9_doubt 34 = some (.istore 4, 2, 4, 0, 0, 0, 0, 0, 0, 0, []) := rfl
theorem i_X9_doubt_36 : tab t_X9_doubt 36 = some (.iload_n 3, 1, 3, 0, 0, 0, 0, 0, 0, 0, []) := rfl
theorem i_X9_doubt_37 : tab t_X9_doubt 37 = some (.ifCond .ne 8, 3, 45, 0, 0, 0, 0, 0, 0, 0, []) := rfl
theorem i_X9_doubt_40 : tab t_X9_doubt 40 = some (.iload 4, 2, 4, 0, 0, 0, 0, 0, 0, 0, []) := rfl
theorem i_X9_doubt_42 : tab t_X9_doubt 42 = some (.goto 7, 3, 49, 0, 0, 0, 0, 0, 0, 0, []) := rfl
theorem i_X9_doubt_45 : tab t_X9_doubt 45 = some (.aload_n 0, 1, 0, 0, 0, 0, 0, 0, 0, 0, []) := rfl
theorem i_X9_doubt_46 : tab t_X9_doubt 46 = some (.getfield 485, 3, 0, 0, 0, 9, 63, 0, 0, 0, []) := rfl
theorem i_X9_doubt_49 : tab t_X9_doubt 49 = some (.ireturn, 1, 0, 0, 0, 0, 0, 0, 0, 0, []) := rfl
def t_X9_allied : List (Nat × rw_) := [(0, (.aload_n 0, 1, 0, 0, 0, 0, 0, 0, 0, 0, [])), (1, (.iload_n 1, 1, 1, 0, 0, 0, 0, 0, 0, 0, [])), (2, (.invokevirtual 185, 3, 1, 0, 0, 0, 128, 10, 0, 0, [])), (5, (.ifCond .eq 40, 3, 45, 0, 0, 0, 0, 0, 0, 0, [])), (8, (.aload_n 0, 1, 0, 0, 0, 0, 0, 0, 0, 0, [])), (9, (.iload_n 2, 1, 2, 0, 0, 0, 0, 0, 0, 0, [])), (10, (.invokevirtual 185, 3, 1, 0, 0, 0, 128, 10, 0, 0, [])), (13, (.ifCond .eq 32, 3, 45, 0, 0, 0, 0, 0, 0, 0, [])), (16, (.iload_n 1, 1, 1, 0, 0, 0, 0, 0, 0, 0, [])), (17, (.iload_n 2, 1, 2, 0, 0, 0, 0, 0, 0, 0, [])), (18, (.if_icmp .eq 27, 3, 45, 0, 0, 0, 0, 0, 0, 0, [])), (21, (.iload_n 3, 1, 3, 0, 0, 0, 0, 0, 0, 0, [])), (22, (.i2l, 1, 0, 0, 0, 0, 0, 0, 0, 0, [])), (23, (.lconst 0, 1, 0, 0, 0, 0, 0, 0, 0, 0, [])), (24, (.aload_n 0, 1, 0, 0, 0, 0, 0, 0, 0, 0, [])), (25, (.getfield 294, 3, 0, 0, 0, 9, 32, 0, 0, 0, [])), (28, (.iconst 1, 1, 0, 1, 0, 0, 0, 0, 0, 0, [])), (29, (.isub, 1, 0, 0, 0, 0, 0, 0, 0, 0, [])), (30, (.i2l, 1, 0, 0, 0, 0, 0, 0, 0, 0, [])), (31, (.invokestatic 175, 3, 3, 0, 0, 0, 126, 0, 0, 0, [])), (34, (.ifCond .eq 11, 3, 45, 0, 0, 0, 0, 0, 0, 0, [])), (37, (.iload 4, 2, 4, 0, 0, 0, 0, 0, 0, 0, [])), (39, (.invokestatic 203, 3, 1, 0, 0, 0, 127, 0, 0, 0, [])), (42, (.ifCond .ne 6, 3, 48, 0, 0, 0, 0, 0, 0, 0, [])), (45, (.bipush (-2), 2, 0, -2, 0, 0, 0, 0, 0, 0, [])), (47, (.ireturn, 1, 0, 0, 0, 0, 0, 0, 0, 0, [])), (48, (.aload_n 0, 1, 0, 0, 0, 0, 0, 0, 0, 0, [])), (49, (.iload_n 1, 1, 1, 0, 0, 0, 0, 0, 0, 0, [])), (50, (.iload 4, 2, 4, 0, 0, 0, 0, 0, 0, 0, [])), (52, (.invokevirtual 429, 3, 2, 0, 0, 0, 184, 10, 0, 0, [])), (55, (.istore 5, 2, 5, 0, 0, 0, 0, 0, 0, 0, [])), (57, (.aload_n 0, 1, 0, 0, 0, 0, 0, 0, 0, 0, [])), (58, (.iload_n 2, 1, 2, 0, 0, 0, 0, 0, 0, 0, [])), (59, (.iload 4, 2, 4, 0, 0, 0, 0, 0, 0, 0, [])), (61, (.invokevirtual 429, 3, 2, 0, 0, 0, 184, 10, 0, 0, [])), (64, (.istore 6, 2, 6, 0, 0, 0, 0, 0, 0, 0, [])), (66, (.iload 5, 2, 5, 0, 0, 0, 0, 0, 0, 0, [])), (68, (.iconst (-1), 1, 0, -1, 0, 0, 0, 0, 0, 0, [])), (69, (.if_icmp .eq 16, 3, 85, 0, 0, 0, 0, 0, 0, 0, [])), (72, (.iload 6, 2, 6, 0, 0, 0, 0, 0, 0, 0, [])), (74, (.iconst (-1), 1, 0, -1, 0, 0, 0, 0, 0, 0, [])), (75, (.if_icmp .eq 10, 3, 85, 0, 0, 0, 0, 0, 0, 0, [])), (78, (.iload 5, 2, 5, 0, 0, 0, 0, 0, 0, 0, [])), (80, (.iload 6, 2, 6, 0, 0, 0, 0, 0, 0, 0, [])), (82, (.if_icmp .ne 17, 3, 99, 0, 0, 0, 0, 0, 0, 0, [])), (85, (.iload 5, 2, 5, 0, 0, 0, 0, 0, 0, 0, [])), (87, (.iconst (-1), 1, 0, -1, 0, 0, 0, 0, 0, 0, [])), (88, (.if_icmp .ne 8, 3, 96, 0, 0, 0, 0, 0, 0, 0, [])), (91, (.iload 6, 2, 6, 0, 0, 0, 0, 0, 0, 0, [])), (93, (.goto 5, 3, 98, 0, 0, 0, 0, 0, 0, 0, [])), (96, (.iload 5, 2, 5, 0, 0, 0, 0, 0, 0, 0, [])), (98, (.ireturn, 1, 0, 0, 0, 0, 0, 0, 0, 0, [])), (99, (.aload_n 0, 1, 0, 0, 0, 0, 0, 0, 0, 0, [])), (100, (.iload 5, 2, 5, 0, 0, 0, 0, 0, 0, 0, [])), (102, (.iload_n 1, 1, 1, 0, 0, 0, 0, 0, 0, 0, [])), (103, (.iload 4, 2, 4, 0, 0, 0, 0, 0, 0, 0, [])), (105, (.iload_n 3, 1, 3, 0, 0, 0, 0, 0, 0, 0, [])), (106, (.invokevirtual 410, 3, 4, 0, 0, 0, 177, 10, 0, 0, [])), (109, (.pop, 1, 0, 0, 0, 0, 0, 0, 0, 0, [])), (110, (.aload_n 0, 1, 0, 0, 0, 0, 0, 0, 0, 0, [])), (111, (.iload 6, 2, 6, 0, 0, 0, 0, 0, 0, 0, [])), (113, (.iload_n 2, 1, 2, 0, 0, 0, 0, 0, 0, 0, [])), (114, (.iload 4, 2, 4, 0, 0, 0, 0, 0, 0, 0, [])), (116, (.iload_n 3, 1, 3, 0, 0, 0, 0, 0, 0, 0, [])), (117, (.invokevirtual 410, 3, 4, 0, 0, 0, 177, 10, 0, 0, [])), (120, (.pop, 1, 0, 0, 0, 0, 0, 0, 0, 0, [])), (121, (.aload_n 0, 1, 0, 0, 0, 0, 0, 0, 0, 0, [])), (122, (.iload 5, 2, 5, 0, 0, 0, 0, 0, 0, 0, [])), (124, (.iload 6, 2, 6, 0, 0, 0, 0, 0, 0, 0, [])), (126, (.iload_n 3, 1, 3, 0, 0, 0, 0, 0, 0, 0, [])), (127, (.invokevirtual 414, 3, 3, 0, 0, 0, 179, 10, 0, 0, [])), (130, (.ifCond .eq 8, 3, 138, 0, 0, 0, 0, 0, 0, 0, [])), (133, (.iload 5, 2, 5, 0, 0, 0, 0, 0, 0, 0, [])), (135, (.goto 5, 3, 140, 0, 0, 0, 0, 0, 0, 0, [])), (138, (.iload 6, 2, 6, 0, 0, 0, 0, 0, 0, 0, [])), (140, (.ireturn, 1, 0, 0, 0, 0, 0, 0, 0, 0, []))]
set_option maxRecDepth 100000 in
theorem ok_X9_allied : tb_ok ctX9 m_X9_allied t_X9_allied = true := by decide +kernel
theorem i_X9_allied_0 : tab t_X9_allied 0 = some (.aload_n 0, 1, 0, 0, 0, 0, 0, 0, 0, 0, []) := rfl
theorem i_X9_allied_1 : tab t_X9_allied 1 = some (.iload_n 1, 1, 1, 0, 0, 0, 0, 0, 0, 0, []) := rfl
theorem i_X9_allied_2 : tab t_X9_allied 2 = some (.invokevirtual 185, 3, 1, 0, 0, 0, 128, 10, 0, 0, []) := rfl
theorem i_X9_allied_5 : tab t_X9_allied 5 = some (.ifCond .eq 40, 3, 45, 0, 0, 0, 0, 0, 0, 0, []) := rfl
theorem i_X9_allied_8 : tab t_X9_allied 8 = some (.aload_n 0, 1, 0, 0, 0, 0, 0, 0, 0, 0, []) := rfl
theorem i_X9_allied_9 : tab t_X9_allied 9 = some (.iload_n 2, 1, 2, 0, 0, 0, 0, 0, 0, 0, []) := rfl
theorem i_X9_allied_10 : tab t_X9_allied 10 = some (.invokevirtual 185, 3, 1, 0, 0, 0, 128, 10, 0, 0, []) := rfl
theorem i_X9_allied_13 : tab t_X9_allied 13 = some (.ifCond .eq 32, 3, 45, 0, 0, 0, 0, 0, 0, 0, []) := rfl
theorem i_X9_allied_16 : tab t_X9_allied 16 = some (.iload_n 1, 1, 1, 0, 0, 0, 0, 0, 0, 0, []) := rfl
theorem i_X9_allied_17 : tab t_X9_allied 17 = some (.iload_n 2, 1, 2, 0, 0, 0, 0, 0, 0, 0, []) := rfl
theorem i_X9_allied_18 : tab t_X9_allied 18 = some (.if_icmp .eq 27, 3, 45, 0, 0, 0, 0, 0, 0, 0, []) := rfl
theorem i_X9_allied_21 : tab t_X9_allied 21 = some (.iload_n 3, 1, 3, 0, 0, 0, 0, 0, 0, 0, []) := rfl
theorem i_X9_allied_22 : tab t_X9_allied 22 = some (.i2l, 1, 0, 0, 0, 0, 0, 0, 0, 0, []) := rfl
theorem i_X9_allied_23 : tab t_X9_allied 23 = some (.lconst 0, 1, 0, 0, 0, 0, 0, 0, 0, 0, []) := rfl
theorem i_X9_allied_24 : tab t_X9_allied 24 = some (.aload_n 0, 1, 0, 0, 0, 0, 0, 0, 0, 0, []) := rfl
theorem i_X9_allied_25 : tab t_X9_allied 25 = some (.getfield 294, 3, 0, 0, 0, 9, 32, 0, 0, 0, []) := rfl
theorem i_X9_allied_28 : tab t_X9_allied 28 = some (.iconst 1, 1, 0, 1, 0, 0, 0, 0, 0, 0, []) := rfl
theorem i_X9_allied_29 : tab t_X9_allied 29 = some (.isub, 1, 0, 0, 0, 0, 0, 0, 0, 0, []) := rfl
theorem i_X9_allied_30 : tab t_X9_allied 30 = some (.i2l, 1, 0, 0, 0, 0, 0, 0, 0, 0, []) := rfl
theorem i_X9_allied_31 : tab t_X9_allied 31 = some (.invokestatic 175, 3, 3, 0, 0, 0, 126, 0, 0, 0, []) := rfl
theorem i_X9_allied_34 : tab t_X9_allied 34 = some (.ifCond .eq 11, 3, 45, 0, 0, 0, 0, 0, 0, 0, []) := rfl
theorem i_X9_allied_37 : tab t_X9_allied 37 = some (.iload 4, 2, 4, 0, 0, 0, 0, 0, 0, 0, []) := rfl
theorem i_X9_allied_39 : tab t_X9_allied 39 = some (.invokestatic 203, 3, 1, 0, 0, 0, 127, 0, 0, 0, []) := rfl
theorem i_X9_allied_42 : tab t_X9_allied 42 = some (.ifCond .ne 6, 3, 48, 0, 0, 0, 0, 0, 0, 0, []) := rfl
theorem i_X9_allied_45 : tab t_X9_allied 45 = some (.bipush (-2), 2, 0, -2, 0, 0, 0, 0, 0, 0, []) := rfl
theorem i_X9_allied_47 : tab t_X9_allied 47 = some (.ireturn, 1, 0, 0, 0, 0, 0, 0, 0, 0, []) := rfl
theorem i_X9_allied_48 : tab t_X9_allied 48 = some (.aload_n 0, 1, 0, 0, 0, 0, 0, 0, 0, 0, []) := rfl
theorem i_X9_allied_49 : tab t_X9_allied 49 = some (.iload_n 1, 1, 1, 0, 0, 0, 0, 0, 0, 0, []) := rfl
theorem i_X9_allied_50 : tab t_X9_allied 50 = some (.iload 4, 2, 4, 0, 0, 0, 0, 0, 0, 0, []) := rfl
theorem i_X9_allied_52 : tab t_X9_allied 52 = some (.invokevirtual 429, 3, 2, 0, 0, 0, 184, 10, 0, 0, []) := rfl
theorem i_X9_allied_55 : tab t_X9_allied 55 = some (.istore 5, 2, 5, 0, 0, 0, 0, 0, 0, 0, []) := rfl
theorem i_X9_allied_57 : tab t_X9_allied 57 = some (.aload_n 0, 1, 0, 0, 0, 0, 0, 0, 0, 0, []) := rfl
theorem i_X9_allied_58 : tab t_X9_allied 58 = some (.iload_n 2, 1, 2, 0, 0, 0, 0, 0, 0, 0, []) := rfl
theorem i_X9_allied_59 : tab t_X9_allied 59 = some (.iload 4, 2, 4, 0, 0, 0, 0, 0, 0, 0, []) := rfl
theorem i_X9_allied_61 : tab t_X9_allied 61 = some (.invokevirtual 429, 3, 2, 0, 0, 0, 184, 10, 0, 0, []) := rfl
theorem i_X9_allied_64 : tab t_X9_allied 64 = some (.istore 6, 2, 6, 0, 0, 0, 0, 0, 0, 0, []) := rfl
theorem i_X9_allied_66 : tab t_X9_allied 66 = some (.iload 5, 2, 5, 0, 0, 0, 0, 0, 0, 0, []) := rfl
theorem i_X9_allied_68 : tab t_X9_allied 68 = some (.iconst (-1), 1, 0, -1, 0, 0, 0, 0, 0, 0, []) := rfl
theorem i_X9_allied_69 : tab t_X9_allied 69 = some (.if_icmp .eq 16, 3, 85, 0, 0, 0, 0, 0, 0, 0, []) := rfl
theorem i_X9_allied_72 : tab t_X9_allied 72 = some (.iload 6, 2, 6, 0, 0, 0, 0, 0, 0, 0, []) := rfl
theorem i_X9_allied_74 : tab t_X9_allied 74 = some (.iconst (-1), 1, 0, -1, 0, 0, 0, 0, 0, 0, []) := rfl
theorem i_X9_allied_75 : tab t_X9_allied 75 = some (.if_icmp .eq 10, 3, 85, 0, 0, 0, 0, 0, 0, 0, []) := rfl
theorem i_X9_allied_78 : tab t_X9_allied 78 = some (.iload 5, 2, 5, 0, 0, 0, 0, 0, 0, 0, []) := rfl
theorem i_X9_allied_80 : tab t_X9_allied 80 = some (.iload 6, 2, 6, 0, 0, 0, 0, 0, 0, 0, []) := rfl
theorem i_X9_allied_82 : tab t_X9_allied 82 = some (.if_icmp .ne 17, 3, 99, 0, 0, 0, 0, 0, 0, 0, []) := rfl
theorem i_X9_allied_85 : tab t_X9_allied 85 = some (.iload 5, 2, 5, 0, 0, 0, 0, 0, 0, 0, []) := rfl
theorem i_X9_allied_87 : tab t_X9_allied 87 = some (.iconst (-1), 1, 0, -1, 0, 0, 0, 0, 0, 0, []) := rfl
theorem i_X9_allied_88 : tab t_X9_allied 88 = some (.if_icmp .ne 8, 3, 96, 0, 0, 0, 0, 0, 0, 0, []) := rfl
theorem i_X9_allied_91 : tab t_X9_allied 91 = some (.iload 6, 2, 6, 0, 0, 0, 0, 0, 0, 0, []) := rfl
theorem i_X9_allied_93 : tab t_X9_allied 93 = some (.goto 5, 3, 98, 0, 0, 0, 0, 0, 0, 0, []) := rfl
theorem i_X9_allied_96 : tab t_X9_allied 96 = some (.iload 5, 2, 5, 0, 0, 0, 0, 0, 0, 0, []) := rfl
theorem i_X9_allied_98 : tab t_X9_allied 98 = some (.ireturn, 1, 0, 0, 0, 0, 0, 0, 0, 0, []) := rfl
theorem i_X9_allied_99 : tab t_X9_allied 99 = some (.aload_n 0, 1, 0, 0, 0, 0, 0, 0, 0, 0, []) := rfl
theorem i_X9_allied_100 : tab t_X9_allied 100 = some (.iload 5, 2, 5, 0, 0, 0, 0, 0, 0, 0, []) := rfl
theorem i_X9_allied_102 : tab t_X9_allied 102 = some (.iload_n 1, 1, 1, 0, 0, 0, 0, 0, 0, 0, []) := rfl
theorem i_X9_allied_103 : tab t_X9_allied 103 = some (.iload 4, 2, 4, 0, 0, 0, 0, 0, 0, 0, []) := rfl
theorem i_X9_allied_105 : tab t_X9_allied 105 = some (.iload_n 3, 1, 3, 0, 0, 0, 0, 0, 0, 0, []) := rfl
theorem i_X9_allied_106 : tab t_X9_allied 106 = some (.invokevirtual 410, 3, 4, 0, 0, 0, 177, 10, 0, 0, []) := rfl
theorem i_X9_allied_109 : tab t_X9_allied 109 = some (.pop, 1, 0, 0, 0, 0, 0, 0, 0, 0, []) := rfl
theorem i_X9_allied_110 : tab t_X9_allied 110 = some (.aload_n 0, 1, 0, 0, 0, 0, 0, 0, 0, 0, []) := rfl
theorem i_X9_allied_111 : tab t_X9_allied 111 = some (.iload 6, 2, 6, 0, 0, 0, 0, 0, 0, 0, []) := rfl
theorem i_X9_allied_113 : tab t_X9_allied 113 = some (.iload_n 2, 1, 2, 0, 0, 0, 0, 0, 0, 0, []) := rfl
theorem i_X9_allied_114 : tab t_X9_allied 114 = some (.iload 4, 2, 4, 0, 0, 0, 0, 0, 0, 0, []) := rfl
theorem i_X9_allied_116 : tab t_X9_allied 116 = some (.iload_n 3, 1, 3, 0, 0, 0, 0, 0, 0, 0, []) := rfl
theorem i_X9_allied_117 : tab t_X9_allied 117 = some (.invokevirtual 410, 3, 4, 0, 0, 0, 177, 10, 0, 0, []) := rfl
theorem i_X9_allied_120 : tab t_X9_allied 120 = some (.pop, 1, 0, 0, 0, 0, 0, 0, 0, 0, []) := rfl
theorem i_X9_allied_121 : tab t_X9_allied 121 = some (.aload_n 0, 1, 0, 0, 0, 0, 0, 0, 0, 0, []) := rfl
theorem i_X9_allied_122 : tab t_X9_allied 122 = some (.iload 5, 2, 5, 0, 0, 0, 0, 0, 0, 0, []) := rfl
theorem i_X9_allied_124 : tab t_X9_allied 124 = some (.iload 6, 2, 6, 0, 0, 0, 0, 0, 0, 0, []) := rfl
theorem i_X9_allied_126 : tab t_X9_allied 126 = some (.iload_n 3, 1, 3, 0, 0, 0, 0, 0, 0, 0, []) := rfl
theorem i_X9_allied_127 : tab t_X9_allied 127 = some (.invokevirtual 414, 3, 3, 0, 0, 0, 179, 10, 0, 0, []) := rfl
theorem i_X9_allied_130 : tab t_X9_allied 130 = some (.ifCond .eq 8, 3, 138, 0, 0, 0, 0, 0, 0, 0, []) := rfl
theorem i_X9_allied_133 : tab t_X9_allied 133 = some (.iload 5, 2, 5, 0, 0, 0, 0, 0, 0, 0, []) := rfl
theorem i_X9_allied_135 : tab t_X9_allied 135 = some (.goto 5, 3, 140, 0, 0, 0, 0, 0, 0, 0, []) := rfl
theorem i_X9_allied_138 : tab t_X9_allied 138 = some (.iload 6, 2, 6, 0, 0, 0, 0, 0, 0, 0, []) := rfl
theorem i_X9_allied_140 : tab t_X9_allied 140 = some (.ireturn, 1, 0, 0, 0, 0, 0, 0, 0, 0, []) := rfl
def t_X9_mended : List (Nat × rw_) := [(0, (.aload_n 0, 1, 0, 0, 0, 0, 0, 0, 0, 0, [])), (1, (.iload_n 1, 1, 1, 0, 0, 0, 0, 0, 0, 0, [])), (2, (.invokevirtual 185, 3, 1, 0, 0, 0, 128, 10, 0, 0, [])), (5, (.ifCond .eq 20, 3, 25, 0, 0, 0, 0, 0, 0, 0, [])), (8, (.iload_n 2, 1, 2, 0, 0, 0, 0, 0, 0, 0, [])), (9, (.invokestatic 203, 3, 1, 0, 0, 0, 127, 0, 0, 0, [])), (12, (.ifCond .eq 13, 3, 25, 0, 0, 0, 0, 0, 0, 0, [])), (15, (.iload_n 3, 1, 3, 0, 0, 0, 0, 0, 0, 0, [])), (16, (.i2l, 1, 0, 0, 0, 0, 0, 0, 0, 0, [])), (17, (.lconst 0, 1, 0, 0, 0, 0, 0, 0, 0, 0, [])), (18, (.lconst 1, 1, 0, 0, 1, 0, 0, 0, 0, 0, [])), (19, (.invokestatic 175, 3, 3, 0, 0, 0, 126, 0, 0, 0, [])), (22, (.ifCond .ne 6, 3, 28, 0, 0, 0, 0, 0, 0, 0, [])), (25, (.bipush (-2), 2, 0, -2, 0, 0, 0, 0, 0, 0, [])), (27, (.ireturn, 1, 0, 0, 0, 0, 0, 0, 0, 0, [])), (28, (.aload_n 0, 1, 0, 0, 0, 0, 0, 0, 0, 0, [])), (29, (.getfield 26, 3, 2, 0, 0, 9, 12, 0, 0, 0, [])), (32, (.iload_n 1, 1, 1, 0, 0, 0, 0, 0, 0, 0, [])), (33, (.iaload, 1, 0, 0, 0, 0, 0, 0, 0, 0, [])), (34, (.istore 4, 2, 4, 0, 0, 0, 0, 0, 0, 0, [])), (36, (.iconst (-1), 1, 0, -1, 0, 0, 0, 0, 0, 0, [])), (37, (.istore 5, 2, 5, 0, 0, 0, 0, 0, 0, 0, [])), (39, (.iconst 0, 1, 0, 0, 0, 0, 0, 0, 0, 0, [])), (40, (.istore 6, 2, 6, 0, 0, 0, 0, 0, 0, 0, [])), (42, (.iconst 0, 1, 0, 0, 0, 0, 0, 0, 0, 0, [])), (43, (.istore 7, 2, 7, 0, 0, 0, 0, 0, 0, 0, [])), (45, (.iload 7, 2, 7, 0, 0, 0, 0, 0, 0, 0, [])), (47, (.aload_n 0, 1, 0, 0, 0, 0, 0, 0, 0, 0, [])), (48, (.getfield 294, 3, 0, 0, 0, 9, 32, 0, 0, 0, [])), (51, (.if_icmp .ge 49, 3, 100, 0, 0, 0, 0, 0, 0, 0, [])), (54, (.aload_n 0, 1, 0, 0, 0, 0, 0, 0, 0, 0, [])), (55, (.getfield 26, 3, 2, 0, 0, 9, 12, 0, 0, 0, [])), (58, (.iload_n 1, 1, 1, 0, 0, 0, 0, 0, 0, 0, [])), (59, (.iload 7, 2, 7, 0, 0, 0, 0, 0, 0, 0, [])), (61, (.iastore, 1, 0, 0, 0, 0, 0, 0, 0, 0, [])), (62, (.aload_n 0, 1, 0, 0, 0, 0, 0, 0, 0, 0, [])), (63, (.iload_n 1, 1, 1, 0, 0, 0, 0, 0, 0, 0, [])), (64, (.iload_n 2, 1, 2, 0, 0, 0, 0, 0, 0, 0, [])), (65, (.invokevirtual 488, 3, 2, 0, 0, 0, 214, 10, 0, 0, [])), (68, (.pop, 1, 0, 0, 0, 0, 0, 0, 0, 0, [])), (69, (.iload 5, 2, 5, 0, 0, 0, 0, 0, 0, 0, [])), (71, (.iconst (-1), 1, 0, -1, 0, 0, 0, 0, 0, 0, [])), (72, (.if_icmp .eq 12, 3, 84, 0, 0, 0, 0, 0, 0, 0, [])), (75, (.aload_n 0, 1, 0, 0, 0, 0, 0, 0, 0, 0, [])), (76, (.getfield 485, 3, 0, 0, 0, 9, 63, 0, 0, 0, [])), (79, (.iload 6, 2, 6, 0, 0, 0, 0, 0, 0, 0, [])), (81, (.if_icmp .ge 13, 3, 94, 0, 0, 0, 0, 0, 0, 0, [])), (84, (.iload 7, 2, 7, 0, 0, 0, 0, 0, 0, 0, [])), (86, (.istore 5, 2, 5, 0, 0, 0, 0, 0, 0, 0, [])), (88, (.aload_n 0, 1, 0, 0, 0, 0, 0, 0, 0, 0, [])), (89, (.getfield 485, 3, 0, 0, 0, 9, 63, 0, 0, 0, [])), (92, (.istore 6, 2, 6, 0, 0, 0, 0, 0, 0, 0, [])), (94, (.iinc 7 1, 3, 7, 1, 0, 0, 0, 0, 0, 0, [])), (97, (.goto (-52), 3, 45, 0, 0, 0, 0, 0, 0, 0, [])), (100, (.aload_n 0, 1, 0, 0, 0, 0, 0, 0, 0, 0, [])), (101, (.getfield 26, 3, 2, 0, 0, 9, 12, 0, 0, 0, [])), (104, (.iload_n 1, 1, 1, 0, 0, 0, 0, 0, 0, 0, [])), (105, (.iload 4, 2, 4, 0, 0, 0, 0, 0, 0, 0, [])), (107, (.iastore, 1, 0, 0, 0, 0, 0, 0, 0, 0, [])), (108, (.iload_n 3, 1, 3, 0, 0, 0, 0, 0, 0, 0, [])), (109, (.ifCond .ne 8, 3, 117, 0, 0, 0, 0, 0, 0, 0, [])), (112, (.iload 5, 2, 5, 0, 0, 0, 0, 0, 0, 0, [])), (114, (.goto 5, 3, 119, 0, 0, 0, 0, 0, 0, 0, [])), (117, (.iload 6, 2, 6, 0, 0, 0, 0, 0, 0, 0, [])), (119, (.ireturn, 1, 0, 0, 0, 0, 0, 0, 0, 0, []))]
set_option maxRecDepth 100000 in
theorem ok_X9_mended : tb_ok ctX9 m_X9_mended t_X9_mended = true := by decide +kernel
theorem i_X9_mended_0 : tab t_X9_mended 0 = some (.aload_n 0, 1, 0, 0, 0, 0, 0, 0, 0, 0, []) := rfl
theorem i_X9_mended_1 : tab t_X9_mended 1 = some (.iload_n 1, 1, 1, 0, 0, 0, 0, 0, 0, 0, []) := rfl
theorem i_X9_mended_2 : tab t_X9_mended 2 = some (.invokevirtual 185, 3, 1, 0, 0, 0, 128, 10, 0, 0, []) := rfl
theorem i_X9_mended_5 : tab t_X9_mended 5 = some (.ifCond .eq 20, 3, 25, 0, 0, 0, 0, 0, 0, 0, []) := rfl
theorem i_X9_mended_8 : tab t_X9_mended 8 = some (.iload_n 2, 1, 2, 0, 0, 0, 0, 0, 0, 0, []) := rfl
theorem i_X9_mended_9 : tab t_X9_mended 9 = some (.invokestatic 203, 3, 1, 0, 0, 0, 127, 0, 0, 0, []) := rfl
theorem i_X9_mended_12 : tab t_X9_mended 12 = some (.ifCond .eq 13, 3, 25, 0, 0, 0, 0, 0, 0, 0, []) := rfl
theorem i_X9_mended_15 : tab t_X9_mended 15 = some (.iload_n 3, 1, 3, 0, 0, 0, 0, 0, 0, 0, []) := rfl
theorem i_X9_mended_16 : tab t_X9_mended 16 = some (.i2l, 1, 0, 0, 0, 0, 0, 0, 0, 0, []) := rfl
theorem i_X9_mended_17 : tab t_X9_mended 17 = some (.lconst 0, 1, 0, 0, 0, 0, 0, 0, 0, 0, []) := rfl
theorem i_X9_mended_18 : tab t_X9_mended 18 = some (.lconst 1, 1, 0, 0, 1, 0, 0, 0, 0, 0, []) := rfl
theorem i_X9_mended_19 : tab t_X9_mended 19 = some (.invokestatic 175, 3, 3, 0, 0, 0, 126, 0, 0, 0, []) := rfl
theorem i_X9_mended_22 : tab t_X9_mended 22 = some (.ifCond .ne 6, 3, 28, 0, 0, 0, 0, 0, 0, 0, []) := rfl
theorem i_X9_mended_25 : tab t_X9_mended 25 = some (.bipush (-2), 2, 0, -2, 0, 0, 0, 0, 0, 0, []) := rfl
theorem i_X9_mended_27 : tab t_X9_mended 27 = some (.ireturn, 1, 0, 0, 0, 0, 0, 0, 0, 0, []) := rfl
theorem i_X9_mended_28 : tab t_X9_mended 28 = some (.aload_n 0, 1, 0, 0, 0, 0, 0, 0, 0, 0, []) := rfl
theorem i_X9_mended_29 : tab t_X9_mended 29 = some (.getfield 26, 3, 2, 0, 0, 9, 12, 0, 0, 0, []) := rfl
theorem i_X9_mended_32 : tab t_X9_mended 32 = some (.iload_n 1, 1, 1, 0, 0, 0, 0, 0, 0, 0, []) := rfl
theorem i_X9_mended_33 : tab t_X9_mended 33 = some (.iaload, 1, 0, 0, 0, 0, 0, 0, 0, 0, []) := rfl
theorem i_X9_mended_34 : tab t_X9_mended 34 = some (.istore 4, 2, 4, 0, 0, 0, 0, 0, 0, 0, []) := rfl
theorem i_X9_mended_36 : tab t_X9_mended 36 = some (.iconst (-1), 1, 0, -1, 0, 0, 0, 0, 0, 0, []) := rfl
theorem i_X9_mended_37 : tab t_X9_mended 37 = some (.istore 5, 2, 5, 0, 0, 0, 0, 0, 0, 0, []) := rfl
theorem i_X9_mended_39 : tab t_X9_mended 39 = some (.iconst 0, 1, 0, 0, 0, 0, 0, 0, 0, 0, []) := rfl
theorem i_X9_mended_40 : tab t_X9_mended 40 = some (.istore 6, 2, 6, 0, 0, 0, 0, 0, 0, 0, []) := rfl
theorem i_X9_mended_42 : tab t_X9_mended 42 = some (.iconst 0, 1, 0, 0, 0, 0, 0, 0, 0, 0, []) := rfl
theorem i_X9_mended_43 : tab t_X9_mended 43 = some (.istore 7, 2, 7, 0, 0, 0, 0, 0, 0, 0, []) := rfl
theorem i_X9_mended_45 : tab t_X9_mended 45 = some (.iload 7, 2, 7, 0, 0, 0, 0, 0, 0, 0, []) := rfl
theorem i_X9_mended_47 : tab t_X9_mended 47 = some (.aload_n 0, 1, 0, 0, 0, 0, 0, 0, 0, 0, []) := rfl
theorem i_X9_mended_48 : tab t_X9_mended 48 = some (.getfield 294, 3, 0, 0, 0, 9, 32, 0, 0, 0, []) := rfl
theorem i_X9_mended_51 : tab t_X9_mended 51 = some (.if_icmp .ge 49, 3, 100, 0, 0, 0, 0, 0, 0, 0, []) := rfl
theorem i_X9_mended_54 : tab t_X9_mended 54 = some (.aload_n 0, 1, 0, 0, 0, 0, 0, 0, 0, 0, []) := rfl
theorem i_X9_mended_55 : tab t_X9_mended 55 = some (.getfield 26, 3, 2, 0, 0, 9, 12, 0, 0, 0, []) := rfl
theorem i_X9_mended_58 : tab t_X9_mended 58 = some (.iload_n 1, 1, 1, 0, 0, 0, 0, 0, 0, 0, []) := rfl
theorem i_X9_mended_59 : tab t_X9_mended 59 = some (.iload 7, 2, 7, 0, 0, 0, 0, 0, 0, 0, []) := rfl
theorem i_X9_mended_61 : tab t_X9_mended 61 = some (.iastore, 1, 0, 0, 0, 0, 0, 0, 0, 0, []) := rfl
theorem i_X9_mended_62 : tab t_X9_mended 62 = some (.aload_n 0, 1, 0, 0, 0, 0, 0, 0, 0, 0, []) := rfl
theorem i_X9_mended_63 : tab t_X9_mended 63 = some (.iload_n 1, 1, 1, 0, 0, 0, 0, 0, 0, 0, []) := rfl
theorem i_X9_mended_64 : tab t_X9_mended 64 = some (.iload_n 2, 1, 2, 0, 0, 0, 0, 0, 0, 0, []) := rfl
theorem i_X9_mended_65 : tab t_X9_mended 65 = some (.invokevirtual 488, 3, 2, 0, 0, 0, 214, 10, 0, 0, []) := rfl
theorem i_X9_mended_68 : tab t_X9_mended 68 = some (.pop, 1, 0, 0, 0, 0, 0, 0, 0, 0, []) := rfl
theorem i_X9_mended_69 : tab t_X9_mended 69 = some (.iload 5, 2, 5, 0, 0, 0, 0, 0, 0, 0, []) := rfl
theorem i_X9_mended_71 : tab t_X9_mended 71 = some (.iconst (-1), 1, 0, -1, 0, 0, 0, 0, 0, 0, []) := rfl
theorem i_X9_mended_72 : tab t_X9_mended 72 = some (.if_icmp .eq 12, 3, 84, 0, 0, 0, 0, 0, 0, 0, []) := rfl
theorem i_X9_mended_75 : tab t_X9_mended 75 = some (.aload_n 0, 1, 0, 0, 0, 0, 0, 0, 0, 0, []) := rfl
theorem i_X9_mended_76 : tab t_X9_mended 76 = some (.getfield 485, 3, 0, 0, 0, 9, 63, 0, 0, 0, []) := rfl
theorem i_X9_mended_79 : tab t_X9_mended 79 = some (.iload 6, 2, 6, 0, 0, 0, 0, 0, 0, 0, []) := rfl
theorem i_X9_mended_81 : tab t_X9_mended 81 = some (.if_icmp .ge 13, 3, 94, 0, 0, 0, 0, 0, 0, 0, []) := rfl
theorem i_X9_mended_84 : tab t_X9_mended 84 = some (.iload 7, 2, 7, 0, 0, 0, 0, 0, 0, 0, []) := rfl
theorem i_X9_mended_86 : tab t_X9_mended 86 = some (.istore 5, 2, 5, 0, 0, 0, 0, 0, 0, 0, []) := rfl
theorem i_X9_mended_88 : tab t_X9_mended 88 = some (.aload_n 0, 1, 0, 0, 0, 0, 0, 0, 0, 0, []) := rfl
theorem i_X9_mended_89 : tab t_X9_mended 89 = some (.getfield 485, 3, 0, 0, 0, 9, 63, 0, 0, 0, []) := rfl
theorem i_X9_mended_92 : tab t_X9_mended 92 = some (.istore 6, 2, 6, 0, 0, 0, 0, 0, 0, 0, []) := rfl
theorem i_X9_mended_94 : tab t_X9_mended 94 = some (.iinc 7 1, 3, 7, 1, 0, 0, 0, 0, 0, 0, []) := rfl
theorem i_X9_mended_97 : tab t_X9_mended 97 = some (.goto (-52), 3, 45, 0, 0, 0, 0, 0, 0, 0, []) := rfl
theorem i_X9_mended_100 : tab t_X9_mended 100 = some (.aload_n 0, 1, 0, 0, 0, 0, 0, 0, 0, 0, []) := rfl
theorem i_X9_mended_101 : tab t_X9_mended 101 = some (.getfield 26, 3, 2, 0, 0, 9, 12, 0, 0, 0, []) := rfl
theorem i_X9_mended_104 : tab t_X9_mended 104 = some (.iload_n 1, 1, 1, 0, 0, 0, 0, 0, 0, 0, []) := rfl
theorem i_X9_mended_105 : tab t_X9_mended 105 = some (.iload 4, 2, 4, 0, 0, 0, 0, 0, 0, 0, []) := rfl
theorem i_X9_mended_107 : tab t_X9_mended 107 = some (.iastore, 1, 0, 0, 0, 0, 0, 0, 0, 0, []) := rfl
theorem i_X9_mended_108 : tab t_X9_mended 108 = some (.iload_n 3, 1, 3, 0, 0, 0, 0, 0, 0, 0, []) := rfl
theorem i_X9_mended_109 : tab t_X9_mended 109 = some (.ifCond .ne 8, 3, 117, 0, 0, 0, 0, 0, 0, 0, []) := rfl
theorem i_X9_mended_112 : tab t_X9_mended 112 = some (.iload 5, 2, 5, 0, 0, 0, 0, 0, 0, 0, []) := rfl
theorem i_X9_mended_114 : tab t_X9_mended 114 = some (.goto 5, 3, 119, 0, 0, 0, 0, 0, 0, 0, []) := rfl
theorem i_X9_mended_117 : tab t_X9_mended 117 = some (.iload 6, 2, 6, 0, 0, 0, 0, 0, 0, 0, []) := rfl
theorem i_X9_mended_119 : tab t_X9_mended 119 = some (.ireturn, 1, 0, 0, 0, 0, 0, 0, 0, 0, []) := rfl
def t_X9_judge : List (Nat × rw_) := [(0, (.aload_n 0, 1, 0, 0, 0, 0, 0, 0, 0, 0, [])), (1, (.iload_n 1, 1, 1, 0, 0, 0, 0, 0, 0, 0, [])), (2, (.invokevirtual 185, 3, 1, 0, 0, 0, 128, 10, 0, 0, [])), (5, (.ifCond .eq 47, 3, 52, 0, 0, 0, 0, 0, 0, 0, [])), (8, (.iload_n 2, 1, 2, 0, 0, 0, 0, 0, 0, 0, [])), (9, (.invokestatic 203, 3, 1, 0, 0, 0, 127, 0, 0, 0, [])), (12, (.ifCond .eq 40, 3, 52, 0, 0, 0, 0, 0, 0, 0, [])), (15, (.iload_n 3, 1, 3, 0, 0, 0, 0, 0, 0, 0, [])), (16, (.i2l, 1, 0, 0, 0, 0, 0, 0, 0, 0, [])), (17, (.iload_n 2, 1, 2, 0, 0, 0, 0, 0, 0, 0, [])), (18, (.i2l, 1, 0, 0, 0, 0, 0, 0, 0, 0, [])), (19, (.ldc2_w 173, 3, 0, 0, 2879, 0, 0, 0, 0, 0, [])), (22, (.invokestatic 175, 3, 3, 0, 0, 0, 126, 0, 0, 0, [])), (25, (.ifCond .eq 27, 3, 52, 0, 0, 0, 0, 0, 0, 0, [])), (28, (.iload_n 3, 1, 3, 0, 0, 0, 0, 0, 0, 0, [])), (29, (.iload_n 2, 1, 2, 0, 0, 0, 0, 0, 0, 0, [])), (30, (.isub, 1, 0, 0, 0, 0, 0, 0, 0, 0, [])), (31, (.sipush 300, 3, 0, 300, 0, 0, 0, 0, 0, 0, [])), (34, (.if_icmp .ge 18, 3, 52, 0, 0, 0, 0, 0, 0, 0, [])), (37, (.iload 4, 2, 4, 0, 0, 0, 0, 0, 0, 0, [])), (39, (.iconst (-1), 1, 0, -1, 0, 0, 0, 0, 0, 0, [])), (40, (.if_icmp .eq 15, 3, 55, 0, 0, 0, 0, 0, 0, 0, [])), (43, (.aload_n 0, 1, 0, 0, 0, 0, 0, 0, 0, 0, [])), (44, (.iload 4, 2, 4, 0, 0, 0, 0, 0, 0, 0, [])), (46, (.invokevirtual 200, 3, 1, 0, 0, 0, 129, 10, 0, 0, [])), (49, (.ifCond .ne 6, 3, 55, 0, 0, 0, 0, 0, 0, 0, [])), (52, (.bipush (-2), 2, 0, -2, 0, 0, 0, 0, 0, 0, [])), (54, (.ireturn, 1, 0, 0, 0, 0, 0, 0, 0, 0, [])), (55, (.iload_n 2, 1, 2, 0, 0, 0, 0, 0, 0, 0, [])), (56, (.istore 5, 2, 5, 0, 0, 0, 0, 0, 0, 0, [])), (58, (.iload 5, 2, 5, 0, 0, 0, 0, 0, 0, 0, [])), (60, (.iload_n 3, 1, 3, 0, 0, 0, 0, 0, 0, 0, [])), (61, (.if_icmp .gt 21, 3, 82, 0, 0, 0, 0, 0, 0, 0, [])), (64, (.aload_n 0, 1, 0, 0, 0, 0, 0, 0, 0, 0, [])), (65, (.iload_n 1, 1, 1, 0, 0, 0, 0, 0, 0, 0, [])), (66, (.iload 5, 2, 5, 0, 0, 0, 0, 0, 0, 0, [])), (68, (.invokevirtual 429, 3, 2, 0, 0, 0, 184, 10, 0, 0, [])), (71, (.iload 4, 2, 4, 0, 0, 0, 0, 0, 0, 0, [])), (73, (.if_icmp .ne 9, 3, 82, 0, 0, 0, 0, 0, 0, 0, [])), (76, (.iinc 5 1, 3, 5, 1, 0, 0, 0, 0, 0, 0, [])), (79, (.goto (-21), 3, 58, 0, 0, 0, 0, 0, 0, 0, [])), (82, (.iload 5, 2, 5, 0, 0, 0, 0, 0, 0, 0, [])), (84, (.iload_n 3, 1, 3, 0, 0, 0, 0, 0, 0, 0, [])), (85, (.if_icmp .le 7, 3, 92, 0, 0, 0, 0, 0, 0, 0, [])), (88, (.iconst (-1), 1, 0, -1, 0, 0, 0, 0, 0, 0, [])), (89, (.goto 5, 3, 94, 0, 0, 0, 0, 0, 0, 0, [])), (92, (.iload 5, 2, 5, 0, 0, 0, 0, 0, 0, 0, [])), (94, (.ireturn, 1, 0, 0, 0, 0, 0, 0, 0, 0, []))]
set_option maxRecDepth 100000 in
theorem ok_X9_judge : tb_ok ctX9 m_X9_judge t_X9_judge = true := by decide +kernel
theorem i_X9_judge_0 : tab t_X9_judge 0 = some (.aload_n 0, 1, 0, 0, 0, 0, 0, 0, 0, 0, []) := rfl
theorem i_X9_judge_1 : tab t_X9_judge 1 = some (.iload_n 1, 1, 1, 0, 0, 0, 0, 0, 0, 0, []) := rfl
theorem i_X9_judge_2 : tab t_X9_judge 2 = some (.invokevirtual 185, 3, 1, 0, 0, 0, 128, 10, 0, 0, []) := rfl
theorem i_X9_judge_5 : tab t_X9_judge 5 = some (.ifCond .eq 47, 3, 52, 0, 0, 0, 0, 0, 0, 0, []) := rfl
theorem i_X9_judge_8 : tab t_X9_judge 8 = some (.iload_n 2, 1, 2, 0, 0, 0, 0, 0, 0, 0, []) := rfl
theorem i_X9_judge_9 : tab t_X9_judge 9 = some (.invokestatic 203, 3, 1, 0, 0, 0, 127, 0, 0, 0, []) := rfl
theorem i_X9_judge_12 : tab t_X9_judge 12 = some (.ifCond .eq 40, 3, 52, 0, 0, 0, 0, 0, 0, 0, []) := rfl
theorem i_X9_judge_15 : tab t_X9_judge 15 = some (.iload_n 3, 1, 3, 0, 0, 0, 0, 0, 0, 0, []) := rfl
theorem i_X9_judge_16 : tab t_X9_judge 16 = some (.i2l, 1, 0, 0, 0, 0, 0, 0, 0, 0, []) := rfl
theorem i_X9_judge_17 : tab t_X9_judge 17 = some (.iload_n 2, 1, 2, 0, 0, 0, 0, 0, 0, 0, []) := rfl
theorem i_X9_judge_18 : tab t_X9_judge 18 = some (.i2l, 1, 0, 0, 0, 0, 0, 0, 0, 0, []) := rfl
theorem i_X9_judge_19 : tab t_X9_judge 19 = some (.ldc2_w 173, 3, 0, 0, 2879, 0, 0, 0, 0, 0, []) := rfl
theorem i_X9_judge_22 : tab t_X9_judge 22 = some (.invokestatic 175, 3, 3, 0, 0, 0, 126, 0, 0, 0, []) := rfl
theorem i_X9_judge_25 : tab t_X9_judge 25 = some (.ifCond .eq 27, 3, 52, 0, 0, 0, 0, 0, 0, 0, []) := rfl
theorem i_X9_judge_28 : tab t_X9_judge 28 = some (.iload_n 3, 1, 3, 0, 0, 0, 0, 0, 0, 0, []) := rfl
theorem i_X9_judge_29 : tab t_X9_judge 29 = some (.iload_n 2, 1, 2, 0, 0, 0, 0, 0, 0, 0, []) := rfl
theorem i_X9_judge_30 : tab t_X9_judge 30 = some (.isub, 1, 0, 0, 0, 0, 0, 0, 0, 0, []) := rfl
theorem i_X9_judge_31 : tab t_X9_judge 31 = some (.sipush 300, 3, 0, 300, 0, 0, 0, 0, 0, 0, []) := rfl
theorem i_X9_judge_34 : tab t_X9_judge 34 = some (.if_icmp .ge 18, 3, 52, 0, 0, 0, 0, 0, 0, 0, []) := rfl
theorem i_X9_judge_37 : tab t_X9_judge 37 = some (.iload 4, 2, 4, 0, 0, 0, 0, 0, 0, 0, []) := rfl
theorem i_X9_judge_39 : tab t_X9_judge 39 = some (.iconst (-1), 1, 0, -1, 0, 0, 0, 0, 0, 0, []) := rfl
theorem i_X9_judge_40 : tab t_X9_judge 40 = some (.if_icmp .eq 15, 3, 55, 0, 0, 0, 0, 0, 0, 0, []) := rfl
theorem i_X9_judge_43 : tab t_X9_judge 43 = some (.aload_n 0, 1, 0, 0, 0, 0, 0, 0, 0, 0, []) := rfl
theorem i_X9_judge_44 : tab t_X9_judge 44 = some (.iload 4, 2, 4, 0, 0, 0, 0, 0, 0, 0, []) := rfl
theorem i_X9_judge_46 : tab t_X9_judge 46 = some (.invokevirtual 200, 3, 1, 0, 0, 0, 129, 10, 0, 0, []) := rfl
theorem i_X9_judge_49 : tab t_X9_judge 49 = some (.ifCond .ne 6, 3, 55, 0, 0, 0, 0, 0, 0, 0, []) := rfl
theorem i_X9_judge_52 : tab t_X9_judge 52 = some (.bipush (-2), 2, 0, -2, 0, 0, 0, 0, 0, 0, []) := rfl
theorem i_X9_judge_54 : tab t_X9_judge 54 = some (.ireturn, 1, 0, 0, 0, 0, 0, 0, 0, 0, []) := rfl
theorem i_X9_judge_55 : tab t_X9_judge 55 = some (.iload_n 2, 1, 2, 0, 0, 0, 0, 0, 0, 0, []) := rfl
theorem i_X9_judge_56 : tab t_X9_judge 56 = some (.istore 5, 2, 5, 0, 0, 0, 0, 0, 0, 0, []) := rfl
theorem i_X9_judge_58 : tab t_X9_judge 58 = some (.iload 5, 2, 5, 0, 0, 0, 0, 0, 0, 0, []) := rfl
theorem i_X9_judge_60 : tab t_X9_judge 60 = some (.iload_n 3, 1, 3, 0, 0, 0, 0, 0, 0, 0, []) := rfl
theorem i_X9_judge_61 : tab t_X9_judge 61 = some (.if_icmp .gt 21, 3, 82, 0, 0, 0, 0, 0, 0, 0, []) := rfl
theorem i_X9_judge_64 : tab t_X9_judge 64 = some (.aload_n 0, 1, 0, 0, 0, 0, 0, 0, 0, 0, []) := rfl
theorem i_X9_judge_65 : tab t_X9_judge 65 = some (.iload_n 1, 1, 1, 0, 0, 0, 0, 0, 0, 0, []) := rfl
theorem i_X9_judge_66 : tab t_X9_judge 66 = some (.iload 5, 2, 5, 0, 0, 0, 0, 0, 0, 0, []) := rfl
theorem i_X9_judge_68 : tab t_X9_judge 68 = some (.invokevirtual 429, 3, 2, 0, 0, 0, 184, 10, 0, 0, []) := rfl
theorem i_X9_judge_71 : tab t_X9_judge 71 = some (.iload 4, 2, 4, 0, 0, 0, 0, 0, 0, 0, []) := rfl
theorem i_X9_judge_73 : tab t_X9_judge 73 = some (.if_icmp .ne 9, 3, 82, 0, 0, 0, 0, 0, 0, 0, []) := rfl
theorem i_X9_judge_76 : tab t_X9_judge 76 = some (.iinc 5 1, 3, 5, 1, 0, 0, 0, 0, 0, 0, []) := rfl
theorem i_X9_judge_79 : tab t_X9_judge 79 = some (.goto (-21), 3, 58, 0, 0, 0, 0, 0, 0, 0, []) := rfl
theorem i_X9_judge_82 : tab t_X9_judge 82 = some (.iload 5, 2, 5, 0, 0, 0, 0, 0, 0, 0, []) := rfl
theorem i_X9_judge_84 : tab t_X9_judge 84 = some (.iload_n 3, 1, 3, 0, 0, 0, 0, 0, 0, 0, []) := rfl
theorem i_X9_judge_85 : tab t_X9_judge 85 = some (.if_icmp .le 7, 3, 92, 0, 0, 0, 0, 0, 0, 0, []) := rfl
theorem i_X9_judge_88 : tab t_X9_judge 88 = some (.iconst (-1), 1, 0, -1, 0, 0, 0, 0, 0, 0, []) := rfl
theorem i_X9_judge_89 : tab t_X9_judge 89 = some (.goto 5, 3, 94, 0, 0, 0, 0, 0, 0, 0, []) := rfl
theorem i_X9_judge_92 : tab t_X9_judge 92 = some (.iload 5, 2, 5, 0, 0, 0, 0, 0, 0, 0, []) := rfl
theorem i_X9_judge_94 : tab t_X9_judge 94 = some (.ireturn, 1, 0, 0, 0, 0, 0, 0, 0, 0, []) := rfl
def t_X9_hangs : List (Nat × rw_) := [(0, (.iload_n 1, 1, 1, 0, 0, 0, 0, 0, 0, 0, [])), (1, (.i2l, 1, 0, 0, 0, 0, 0, 0, 0, 0, [])), (2, (.lconst 0, 1, 0, 0, 0, 0, 0, 0, 0, 0, [])), (3, (.aload_n 0, 1, 0, 0, 0, 0, 0, 0, 0, 0, [])), (4, (.getfield 432, 3, 0, 0, 0, 9, 5, 0, 0, 0, [])), (7, (.iconst 1, 1, 0, 1, 0, 0, 0, 0, 0, 0, [])), (8, (.isub, 1, 0, 0, 0, 0, 0, 0, 0, 0, [])), (9, (.i2l, 1, 0, 0, 0, 0, 0, 0, 0, 0, [])), (10, (.invokestatic 175, 3, 3, 0, 0, 0, 126, 0, 0, 0, [])), (13, (.ifCond .eq 18, 3, 31, 0, 0, 0, 0, 0, 0, 0, [])), (16, (.aload_n 0, 1, 0, 0, 0, 0, 0, 0, 0, 0, [])), (17, (.iload_n 2, 1, 2, 0, 0, 0, 0, 0, 0, 0, [])), (18, (.invokevirtual 185, 3, 1, 0, 0, 0, 128, 10, 0, 0, [])), (21, (.ifCond .eq 10, 3, 31, 0, 0, 0, 0, 0, 0, 0, [])), (24, (.iload_n 3, 1, 3, 0, 0, 0, 0, 0, 0, 0, [])), (25, (.invokestatic 203, 3, 1, 0, 0, 0, 127, 0, 0, 0, [])), (28, (.ifCond .ne 7, 3, 35, 0, 0, 0, 0, 0, 0, 0, [])), (31, (.sipush (-1000), 3, 0, -1000, 0, 0, 0, 0, 0, 0, [])), (34, (.ireturn, 1, 0, 0, 0, 0, 0, 0, 0, 0, [])), (35, (.aload_n 0, 1, 0, 0, 0, 0, 0, 0, 0, 0, [])), (36, (.invokevirtual 449, 3, 0, 0, 0, 0, 194, 10, 0, 0, [])), (39, (.aload_n 0, 1, 0, 0, 0, 0, 0, 0, 0, 0, [])), (40, (.iload_n 2, 1, 2, 0, 0, 0, 0, 0, 0, 0, [])), (41, (.iload_n 3, 1, 3, 0, 0, 0, 0, 0, 0, 0, [])), (42, (.invokevirtual 458, 3, 2, 0, 0, 0, 198, 10, 0, 0, [])), (45, (.invokestatic 482, 3, 1, 0, 0, 0, 213, 0, 0, 0, [])), (48, (.istore 4, 2, 4, 0, 0, 0, 0, 0, 0, 0, [])), (50, (.aload_n 0, 1, 0, 0, 0, 0, 0, 0, 0, 0, [])), (51, (.iload_n 1, 1, 1, 0, 0, 0, 0, 0, 0, 0, [])), (52, (.putfield 134, 3, 0, 0, 0, 9, 55, 0, 0, 0, [])), (55, (.aload_n 0, 1, 0, 0, 0, 0, 0, 0, 0, 0, [])), (56, (.iload_n 2, 1, 2, 0, 0, 0, 0, 0, 0, 0, [])), (57, (.iload_n 3, 1, 3, 0, 0, 0, 0, 0, 0, 0, [])), (58, (.invokevirtual 458, 3, 2, 0, 0, 0, 198, 10, 0, 0, [])), (61, (.invokestatic 482, 3, 1, 0, 0, 0, 213, 0, 0, 0, [])), (64, (.istore 5, 2, 5, 0, 0, 0, 0, 0, 0, 0, [])), (66, (.aload_n 0, 1, 0, 0, 0, 0, 0, 0, 0, 0, [])), (67, (.iconst (-1), 1, 0, -1, 0, 0, 0, 0, 0, 0, [])), (68, (.putfield 134, 3, 0, 0, 0, 9, 55, 0, 0, 0, [])), (71, (.iload 5, 2, 5, 0, 0, 0, 0, 0, 0, 0, [])), (73, (.iload 4, 2, 4, 0, 0, 0, 0, 0, 0, 0, [])), (75, (.isub, 1, 0, 0, 0, 0, 0, 0, 0, 0, [])), (76, (.ireturn, 1, 0, 0, 0, 0, 0, 0, 0, 0, []))]
set_option maxRecDepth 100000 in
theorem ok_X9_hangs : tb_ok ctX9 m_X9_hangs t_X9_hangs = true := by decide +kernel
theorem i_X9_hangs_0 : tab t_X9_hangs 0 = some (.iload_n 1, 1, 1, 0, 0, 0, 0, 0, 0, 0, []) := rfl
theorem i_X9_hangs_1 : tab t_X9_hangs 1 = some (.i2l, 1, 0, 0, 0, 0, 0, 0, 0, 0, []) := rfl
theorem i_X9_hangs_2 : tab t_X9_hangs 2 = some (.lconst 0, 1, 0, 0, 0, 0, 0, 0, 0, 0, []) := rfl
theorem i_X9_hangs_3 : tab t_X9_hangs 3 = some (.aload_n 0, 1, 0, 0, 0, 0, 0, 0, 0, 0, []) := rfl
theorem i_X9_hangs_4 : tab t_X9_hangs 4 = some (.getfield 432, 3, 0, 0, 0, 9, 5, 0, 0, 0, []) := rfl
theorem i_X9_hangs_7 : tab t_X9_hangs 7 = some (.iconst 1, 1, 0, 1, 0, 0, 0, 0, 0, 0, []) := rfl
theorem i_X9_hangs_8 : tab t_X9_hangs 8 = some (.isub, 1, 0, 0, 0, 0, 0, 0, 0, 0, []) := rfl
theorem i_X9_hangs_9 : tab t_X9_hangs 9 = some (.i2l, 1, 0, 0, 0, 0, 0, 0, 0, 0, []) := rfl
theorem i_X9_hangs_10 : tab t_X9_hangs 10 = some (.invokestatic 175, 3, 3, 0, 0, 0, 126, 0, 0, 0, []) := rfl
theorem i_X9_hangs_13 : tab t_X9_hangs 13 = some (.ifCond .eq 18, 3, 31, 0, 0, 0, 0, 0, 0, 0, []) := rfl
theorem i_X9_hangs_16 : tab t_X9_hangs 16 = some (.aload_n 0, 1, 0, 0, 0, 0, 0, 0, 0, 0, []) := rfl
theorem i_X9_hangs_17 : tab t_X9_hangs 17 = some (.iload_n 2, 1, 2, 0, 0, 0, 0, 0, 0, 0, []) := rfl
theorem i_X9_hangs_18 : tab t_X9_hangs 18 = some (.invokevirtual 185, 3, 1, 0, 0, 0, 128, 10, 0, 0, []) := rfl
theorem i_X9_hangs_21 : tab t_X9_hangs 21 = some (.ifCond .eq 10, 3, 31, 0, 0, 0, 0, 0, 0, 0, []) := rfl
theorem i_X9_hangs_24 : tab t_X9_hangs 24 = some (.iload_n 3, 1, 3, 0, 0, 0, 0, 0, 0, 0, []) := rfl
theorem i_X9_hangs_25 : tab t_X9_hangs 25 = some (.invokestatic 203, 3, 1, 0, 0, 0, 127, 0, 0, 0, []) := rfl
theorem i_X9_hangs_28 : tab t_X9_hangs 28 = some (.ifCond .ne 7, 3, 35, 0, 0, 0, 0, 0, 0, 0, []) := rfl
theorem i_X9_hangs_31 : tab t_X9_hangs 31 = some (.sipush (-1000), 3, 0, -1000, 0, 0, 0, 0, 0, 0, []) := rfl
theorem i_X9_hangs_34 : tab t_X9_hangs 34 = some (.ireturn, 1, 0, 0, 0, 0, 0, 0, 0, 0, []) := rfl
theorem i_X9_hangs_35 : tab t_X9_hangs 35 = some (.aload_n 0, 1, 0, 0, 0, 0, 0, 0, 0, 0, []) := rfl
theorem i_X9_hangs_36 : tab t_X9_hangs 36 = some (.invokevirtual 449, 3, 0, 0, 0, 0, 194, 10, 0, 0, []) := rfl
theorem i_X9_hangs_39 : tab t_X9_hangs 39 = some (.aload_n 0, 1, 0, 0, 0, 0, 0, 0, 0, 0, []) := rfl
theorem i_X9_hangs_40 : tab t_X9_hangs 40 = some (.iload_n 2, 1, 2, 0, 0, 0, 0, 0, 0, 0, []) := rfl
theorem i_X9_hangs_41 : tab t_X9_hangs 41 = some (.iload_n 3, 1, 3, 0, 0, 0, 0, 0, 0, 0, []) := rfl
theorem i_X9_hangs_42 : tab t_X9_hangs 42 = some (.invokevirtual 458, 3, 2, 0, 0, 0, 198, 10, 0, 0, []) := rfl
theorem i_X9_hangs_45 : tab t_X9_hangs 45 = some (.invokestatic 482, 3, 1, 0, 0, 0, 213, 0, 0, 0, []) := rfl
theorem i_X9_hangs_48 : tab t_X9_hangs 48 = some (.istore 4, 2, 4, 0, 0, 0, 0, 0, 0, 0, []) := rfl
theorem i_X9_hangs_50 : tab t_X9_hangs 50 = some (.aload_n 0, 1, 0, 0, 0, 0, 0, 0, 0, 0, []) := rfl
theorem i_X9_hangs_51 : tab t_X9_hangs 51 = some (.iload_n 1, 1, 1, 0, 0, 0, 0, 0, 0, 0, []) := rfl
theorem i_X9_hangs_52 : tab t_X9_hangs 52 = some (.putfield 134, 3, 0, 0, 0, 9, 55, 0, 0, 0, []) := rfl
theorem i_X9_hangs_55 : tab t_X9_hangs 55 = some (.aload_n 0, 1, 0, 0, 0, 0, 0, 0, 0, 0, []) := rfl
theorem i_X9_hangs_56 : tab t_X9_hangs 56 = some (.iload_n 2, 1, 2, 0, 0, 0, 0, 0, 0, 0, []) := rfl
theorem i_X9_hangs_57 : tab t_X9_hangs 57 = some (.iload_n 3, 1, 3, 0, 0, 0, 0, 0, 0, 0, []) := rfl
theorem i_X9_hangs_58 : tab t_X9_hangs 58 = some (.invokevirtual 458, 3, 2, 0, 0, 0, 198, 10, 0, 0, []) := rfl
theorem i_X9_hangs_61 : tab t_X9_hangs 61 = some (.invokestatic 482, 3, 1, 0, 0, 0, 213, 0, 0, 0, []) := rfl
theorem i_X9_hangs_64 : tab t_X9_hangs 64 = some (.istore 5, 2, 5, 0, 0, 0, 0, 0, 0, 0, []) := rfl
theorem i_X9_hangs_66 : tab t_X9_hangs 66 = some (.aload_n 0, 1, 0, 0, 0, 0, 0, 0, 0, 0, []) := rfl
theorem i_X9_hangs_67 : tab t_X9_hangs 67 = some (.iconst (-1), 1, 0, -1, 0, 0, 0, 0, 0, 0, []) := rfl
theorem i_X9_hangs_68 : tab t_X9_hangs 68 = some (.putfield 134, 3, 0, 0, 0, 9, 55, 0, 0, 0, []) := rfl
theorem i_X9_hangs_71 : tab t_X9_hangs 71 = some (.iload 5, 2, 5, 0, 0, 0, 0, 0, 0, 0, []) := rfl
theorem i_X9_hangs_73 : tab t_X9_hangs 73 = some (.iload 4, 2, 4, 0, 0, 0, 0, 0, 0, 0, []) := rfl
theorem i_X9_hangs_75 : tab t_X9_hangs 75 = some (.isub, 1, 0, 0, 0, 0, 0, 0, 0, 0, []) := rfl
theorem i_X9_hangs_76 : tab t_X9_hangs 76 = some (.ireturn, 1, 0, 0, 0, 0, 0, 0, 0, 0, []) := rfl
def t_X9_brief : List (Nat × rw_) := [(0, (.aload_n 0, 1, 0, 0, 0, 0, 0, 0, 0, 0, [])), (1, (.iload_n 1, 1, 1, 0, 0, 0, 0, 0, 0, 0, [])), (2, (.invokevirtual 185, 3, 1, 0, 0, 0, 128, 10, 0, 0, [])), (5, (.ifCond .eq 36, 3, 41, 0, 0, 0, 0, 0, 0, 0, [])), (8, (.iload_n 2, 1, 2, 0, 0, 0, 0, 0, 0, 0, [])), (9, (.invokestatic 203, 3, 1, 0, 0, 0, 127, 0, 0, 0, [])), (12, (.ifCond .eq 29, 3, 41, 0, 0, 0, 0, 0, 0, 0, [])), (15, (.iload_n 3, 1, 3, 0, 0, 0, 0, 0, 0, 0, [])), (16, (.i2l, 1, 0, 0, 0, 0, 0, 0, 0, 0, [])), (17, (.lconst 1, 1, 0, 0, 1, 0, 0, 0, 0, 0, [])), (18, (.ldc2_w 491, 3, 0, 0, 8, 0, 0, 0, 0, 0, [])), (21, (.invokestatic 175, 3, 3, 0, 0, 0, 126, 0, 0, 0, [])), (24, (.ifCond .eq 17, 3, 41, 0, 0, 0, 0, 0, 0, 0, [])), (27, (.iload 4, 2, 4, 0, 0, 0, 0, 0, 0, 0, [])), (29, (.i2l, 1, 0, 0, 0, 0, 0, 0, 0, 0, [])), (30, (.lconst 0, 1, 0, 0, 0, 0, 0, 0, 0, 0, [])), (31, (.iload_n 3, 1, 3, 0, 0, 0, 0, 0, 0, 0, [])), (32, (.iconst 1, 1, 0, 1, 0, 0, 0, 0, 0, 0, [])), (33, (.isub, 1, 0, 0, 0, 0, 0, 0, 0, 0, [])), (34, (.i2l, 1, 0, 0, 0, 0, 0, 0, 0, 0, [])), (35, (.invokestatic 175, 3, 3, 0, 0, 0, 126, 0, 0, 0, [])), (38, (.ifCond .ne 5, 3, 43, 0, 0, 0, 0, 0, 0, 0, [])), (41, (.iconst (-1), 1, 0, -1, 0, 0, 0, 0, 0, 0, [])), (42, (.ireturn, 1, 0, 0, 0, 0, 0, 0, 0, 0, [])), (43, (.aload_n 0, 1, 0, 0, 0, 0, 0, 0, 0, 0, [])), (44, (.iload_n 2, 1, 2, 0, 0, 0, 0, 0, 0, 0, [])), (45, (.invokevirtual 423, 3, 1, 0, 0, 0, 172, 10, 0, 0, [])), (48, (.aload_n 0, 1, 0, 0, 0, 0, 0, 0, 0, 0, [])), (49, (.iload_n 1, 1, 1, 0, 0, 0, 0, 0, 0, 0, [])), (50, (.iload_n 2, 1, 2, 0, 0, 0, 0, 0, 0, 0, [])), (51, (.invokevirtual 417, 3, 2, 0, 0, 0, 180, 10, 0, 0, [])), (54, (.istore 5, 2, 5, 0, 0, 0, 0, 0, 0, 0, [])), (56, (.iload 5, 2, 5, 0, 0, 0, 0, 0, 0, 0, [])), (58, (.invokestatic 482, 3, 1, 0, 0, 0, 213, 0, 0, 0, [])), (61, (.iload_n 3, 1, 3, 0, 0, 0, 0, 0, 0, 0, [])), (62, (.if_icmp .ge 6, 3, 68, 0, 0, 0, 0, 0, 0, 0, [])), (65, (.bipush (-2), 2, 0, -2, 0, 0, 0, 0, 0, 0, [])), (67, (.ireturn, 1, 0, 0, 0, 0, 0, 0, 0, 0, [])), (68, (.iconst 0, 1, 0, 0, 0, 0, 0, 0, 0, 0, [])), (69, (.istore 6, 2, 6, 0, 0, 0, 0, 0, 0, 0, [])), (71, (.iload 6, 2, 6, 0, 0, 0, 0, 0, 0, 0, [])), (73, (.iload 4, 2, 4, 0, 0, 0, 0, 0, 0, 0, [])), (75, (.if_icmp .ge 25, 3, 100, 0, 0, 0, 0, 0, 0, 0, [])), (78, (.iload 5, 2, 5, 0, 0, 0, 0, 0, 0, 0, [])), (80, (.iconst 1, 1, 0, 1, 0, 0, 0, 0, 0, 0, [])), (81, (.aload_n 0, 1, 0, 0, 0, 0, 0, 0, 0, 0, [])), (82, (.iload 5, 2, 5, 0, 0, 0, 0, 0, 0, 0, [])), (84, (.iload_n 1, 1, 1, 0, 0, 0, 0, 0, 0, 0, [])), (85, (.invokevirtual 420, 3, 2, 0, 0, 0, 181, 10, 0, 0, [])), (88, (.ishl, 1, 0, 0, 0, 0, 0, 0, 0, 0, [])), (89, (.iconst (-1), 1, 0, -1, 0, 0, 0, 0, 0, 0, [])), (90, (.ixor, 1, 0, 0, 0, 0, 0, 0, 0, 0, [])), (91, (.iand, 1, 0, 0, 0, 0, 0, 0, 0, 0, [])), (92, (.istore 5, 2, 5, 0, 0, 0, 0, 0, 0, 0, [])), (94, (.iinc 6 1, 3, 6, 1, 0, 0, 0, 0, 0, 0, [])), (97, (.goto (-26), 3, 71, 0, 0, 0, 0, 0, 0, 0, [])), (100, (.aload_n 0, 1, 0, 0, 0, 0, 0, 0, 0, 0, [])), (101, (.iload 5, 2, 5, 0, 0, 0, 0, 0, 0, 0, [])), (103, (.iload_n 1, 1, 1, 0, 0, 0, 0, 0, 0, 0, [])), (104, (.invokevirtual 420, 3, 2, 0, 0, 0, 181, 10, 0, 0, [])), (107, (.ireturn, 1, 0, 0, 0, 0, 0, 0, 0, 0, []))]
set_option maxRecDepth 100000 in
theorem ok_X9_brief : tb_ok ctX9 m_X9_brief t_X9_brief = true := by decide +kernel
theorem i_X9_brief_0 : tab t_X9_brief 0 = some (.aload_n 0, 1, 0, 0, 0, 0, 0, 0, 0, 0, []) := rfl
theorem i_X9_brief_1 : tab t_X9_brief 1 = some (.iload_n 1, 1, 1, 0, 0, 0, 0, 0, 0, 0, []) := rfl
theorem i_X9_brief_2 : tab t_X9_brief 2 = some (.invokevirtual 185, 3, 1, 0, 0, 0, 128, 10, 0, 0, []) := rfl
theorem i_X9_brief_5 : tab t_X9_brief 5 = some (.ifCond .eq 36, 3, 41, 0, 0, 0, 0, 0, 0, 0, []) := rfl
theorem i_X9_brief_8 : tab t_X9_brief 8 = some (.iload_n 2, 1, 2, 0, 0, 0, 0, 0, 0, 0, []) := rfl
theorem i_X9_brief_9 : tab t_X9_brief 9 = some (.invokestatic 203, 3, 1, 0, 0, 0, 127, 0, 0, 0, []) := rfl
theorem i_X9_brief_12 : tab t_X9_brief 12 = some (.ifCond .eq 29, 3, 41, 0, 0, 0, 0, 0, 0, 0, []) := rfl
theorem i_X9_brief_15 : tab t_X9_brief 15 = some (.iload_n 3, 1, 3, 0, 0, 0, 0, 0, 0, 0, []) := rfl
theorem i_X9_brief_16 : tab t_X9_brief 16 = some (.i2l, 1, 0, 0, 0, 0, 0, 0, 0, 0, []) := rfl
theorem i_X9_brief_17 : tab t_X9_brief 17 = some (.lconst 1, 1, 0, 0, 1, 0, 0, 0, 0, 0, []) := rfl
theorem i_X9_brief_18 : tab t_X9_brief 18 = some (.ldc2_w 491, 3, 0, 0, 8, 0, 0, 0, 0, 0, []) := rfl
theorem i_X9_brief_21 : tab t_X9_brief 21 = some (.invokestatic 175, 3, 3, 0, 0, 0, 126, 0, 0, 0, []) := rfl
theorem i_X9_brief_24 : tab t_X9_brief 24 = some (.ifCond .eq 17, 3, 41, 0, 0, 0, 0, 0, 0, 0, []) := rfl
theorem i_X9_brief_27 : tab t_X9_brief 27 = some (.iload 4, 2, 4, 0, 0, 0, 0, 0, 0, 0, []) := rfl
theorem i_X9_brief_29 : tab t_X9_brief 29 = some (.i2l, 1, 0, 0, 0, 0, 0, 0, 0, 0, []) := rfl
theorem i_X9_brief_30 : tab t_X9_brief 30 = some (.lconst 0, 1, 0, 0, 0, 0, 0, 0, 0, 0, []) := rfl
theorem i_X9_brief_31 : tab t_X9_brief 31 = some (.iload_n 3, 1, 3, 0, 0, 0, 0, 0, 0, 0, []) := rfl
theorem i_X9_brief_32 : tab t_X9_brief 32 = some (.iconst 1, 1, 0, 1, 0, 0, 0, 0, 0, 0, []) := rfl
theorem i_X9_brief_33 : tab t_X9_brief 33 = some (.isub, 1, 0, 0, 0, 0, 0, 0, 0, 0, []) := rfl
theorem i_X9_brief_34 : tab t_X9_brief 34 = some (.i2l, 1, 0, 0, 0, 0, 0, 0, 0, 0, []) := rfl
theorem i_X9_brief_35 : tab t_X9_brief 35 = some (.invokestatic 175, 3, 3, 0, 0, 0, 126, 0, 0, 0, []) := rfl
theorem i_X9_brief_38 : tab t_X9_brief 38 = some (.ifCond .ne 5, 3, 43, 0, 0, 0, 0, 0, 0, 0, []) := rfl
theorem i_X9_brief_41 : tab t_X9_brief 41 = some (.iconst (-1), 1, 0, -1, 0, 0, 0, 0, 0, 0, []) := rfl
theorem i_X9_brief_42 : tab t_X9_brief 42 = some (.ireturn, 1, 0, 0, 0, 0, 0, 0, 0, 0, []) := rfl
theorem i_X9_brief_43 : tab t_X9_brief 43 = some (.aload_n 0, 1, 0, 0, 0, 0, 0, 0, 0, 0, []) := rfl
theorem i_X9_brief_44 : tab t_X9_brief 44 = some (.iload_n 2, 1, 2, 0, 0, 0, 0, 0, 0, 0, []) := rfl
theorem i_X9_brief_45 : tab t_X9_brief 45 = some (.invokevirtual 423, 3, 1, 0, 0, 0, 172, 10, 0, 0, []) := rfl
theorem i_X9_brief_48 : tab t_X9_brief 48 = some (.aload_n 0, 1, 0, 0, 0, 0, 0, 0, 0, 0, []) := rfl
theorem i_X9_brief_49 : tab t_X9_brief 49 = some (.iload_n 1, 1, 1, 0, 0, 0, 0, 0, 0, 0, []) := rfl
theorem i_X9_brief_50 : tab t_X9_brief 50 = some (.iload_n 2, 1, 2, 0, 0, 0, 0, 0, 0, 0, []) := rfl
theorem i_X9_brief_51 : tab t_X9_brief 51 = some (.invokevirtual 417, 3, 2, 0, 0, 0, 180, 10, 0, 0, []) := rfl
theorem i_X9_brief_54 : tab t_X9_brief 54 = some (.istore 5, 2, 5, 0, 0, 0, 0, 0, 0, 0, []) := rfl
theorem i_X9_brief_56 : tab t_X9_brief 56 = some (.iload 5, 2, 5, 0, 0, 0, 0, 0, 0, 0, []) := rfl
theorem i_X9_brief_58 : tab t_X9_brief 58 = some (.invokestatic 482, 3, 1, 0, 0, 0, 213, 0, 0, 0, []) := rfl
theorem i_X9_brief_61 : tab t_X9_brief 61 = some (.iload_n 3, 1, 3, 0, 0, 0, 0, 0, 0, 0, []) := rfl
theorem i_X9_brief_62 : tab t_X9_brief 62 = some (.if_icmp .ge 6, 3, 68, 0, 0, 0, 0, 0, 0, 0, []) := rfl
theorem i_X9_brief_65 : tab t_X9_brief 65 = some (.bipush (-2), 2, 0, -2, 0, 0, 0, 0, 0, 0, []) := rfl
theorem i_X9_brief_67 : tab t_X9_brief 67 = some (.ireturn, 1, 0, 0, 0, 0, 0, 0, 0, 0, []) := rfl
theorem i_X9_brief_68 : tab t_X9_brief 68 = some (.iconst 0, 1, 0, 0, 0, 0, 0, 0, 0, 0, []) := rfl
theorem i_X9_brief_69 : tab t_X9_brief 69 = some (.istore 6, 2, 6, 0, 0, 0, 0, 0, 0, 0, []) := rfl
theorem i_X9_brief_71 : tab t_X9_brief 71 = some (.iload 6, 2, 6, 0, 0, 0, 0, 0, 0, 0, []) := rfl
theorem i_X9_brief_73 : tab t_X9_brief 73 = some (.iload 4, 2, 4, 0, 0, 0, 0, 0, 0, 0, []) := rfl
theorem i_X9_brief_75 : tab t_X9_brief 75 = some (.if_icmp .ge 25, 3, 100, 0, 0, 0, 0, 0, 0, 0, []) := rfl
theorem i_X9_brief_78 : tab t_X9_brief 78 = some (.iload 5, 2, 5, 0, 0, 0, 0, 0, 0, 0, []) := rfl
theorem i_X9_brief_80 : tab t_X9_brief 80 = some (.iconst 1, 1, 0, 1, 0, 0, 0, 0, 0, 0, []) := rfl
theorem i_X9_brief_81 : tab t_X9_brief 81 = some (.aload_n 0, 1, 0, 0, 0, 0, 0, 0, 0, 0, []) := rfl
theorem i_X9_brief_82 : tab t_X9_brief 82 = some (.iload 5, 2, 5, 0, 0, 0, 0, 0, 0, 0, []) := rfl
theorem i_X9_brief_84 : tab t_X9_brief 84 = some (.iload_n 1, 1, 1, 0, 0, 0, 0, 0, 0, 0, []) := rfl
theorem i_X9_brief_85 : tab t_X9_brief 85 = some (.invokevirtual 420, 3, 2, 0, 0, 0, 181, 10, 0, 0, []) := rfl
theorem i_X9_brief_88 : tab t_X9_brief 88 = some (.ishl, 1, 0, 0, 0, 0, 0, 0, 0, 0, []) := rfl
theorem i_X9_brief_89 : tab t_X9_brief 89 = some (.iconst (-1), 1, 0, -1, 0, 0, 0, 0, 0, 0, []) := rfl
theorem i_X9_brief_90 : tab t_X9_brief 90 = some (.ixor, 1, 0, 0, 0, 0, 0, 0, 0, 0, []) := rfl
theorem i_X9_brief_91 : tab t_X9_brief 91 = some (.iand, 1, 0, 0, 0, 0, 0, 0, 0, 0, []) := rfl
theorem i_X9_brief_92 : tab t_X9_brief 92 = some (.istore 5, 2, 5, 0, 0, 0, 0, 0, 0, 0, []) := rfl
theorem i_X9_brief_94 : tab t_X9_brief 94 = some (.iinc 6 1, 3, 6, 1, 0, 0, 0, 0, 0, 0, []) := rfl
theorem i_X9_brief_97 : tab t_X9_brief 97 = some (.goto (-26), 3, 71, 0, 0, 0, 0, 0, 0, 0, []) := rfl
theorem i_X9_brief_100 : tab t_X9_brief 100 = some (.aload_n 0, 1, 0, 0, 0, 0, 0, 0, 0, 0, []) := rfl
theorem i_X9_brief_101 : tab t_X9_brief 101 = some (.iload 5, 2, 5, 0, 0, 0, 0, 0, 0, 0, []) := rfl
theorem i_X9_brief_103 : tab t_X9_brief 103 = some (.iload_n 1, 1, 1, 0, 0, 0, 0, 0, 0, 0, []) := rfl
theorem i_X9_brief_104 : tab t_X9_brief 104 = some (.invokevirtual 420, 3, 2, 0, 0, 0, 181, 10, 0, 0, []) := rfl
theorem i_X9_brief_107 : tab t_X9_brief 107 = some (.ireturn, 1, 0, 0, 0, 0, 0, 0, 0, 0, []) := rfl
def t_X9_fights : List (Nat × rw_) := [(0, (.aload_n 0, 1, 0, 0, 0, 0, 0, 0, 0, 0, [])), (1, (.iload_n 1, 1, 1, 0, 0, 0, 0, 0, 0, 0, [])), (2, (.invokevirtual 185, 3, 1, 0, 0, 0, 128, 10, 0, 0, [])), (5, (.ifCond .eq 51, 3, 56, 0, 0, 0, 0, 0, 0, 0, [])), (8, (.iload_n 2, 1, 2, 0, 0, 0, 0, 0, 0, 0, [])), (9, (.invokestatic 203, 3, 1, 0, 0, 0, 127, 0, 0, 0, [])), (12, (.ifCond .eq 44, 3, 56, 0, 0, 0, 0, 0, 0, 0, [])), (15, (.iload_n 3, 1, 3, 0, 0, 0, 0, 0, 0, 0, [])), (16, (.ifCond .lt 40, 3, 56, 0, 0, 0, 0, 0, 0, 0, [])), (19, (.iload 4, 2, 4, 0, 0, 0, 0, 0, 0, 0, [])), (21, (.i2l, 1, 0, 0, 0, 0, 0, 0, 0, 0, [])), (22, (.lconst 0, 1, 0, 0, 0, 0, 0, 0, 0, 0, [])), (23, (.ldc2_w 493, 3, 0, 0, 100, 0, 0, 0, 0, 0, [])), (26, (.invokestatic 175, 3, 3, 0, 0, 0, 126, 0, 0, 0, [])), (29, (.ifCond .eq 27, 3, 56, 0, 0, 0, 0, 0, 0, 0, [])), (32, (.iload 5, 2, 5, 0, 0, 0, 0, 0, 0, 0, [])), (34, (.i2l, 1, 0, 0, 0, 0, 0, 0, 0, 0, [])), (35, (.lconst 1, 1, 0, 0, 1, 0, 0, 0, 0, 0, [])), (36, (.ldc2_w 495, 3, 0, 0, 50, 0, 0, 0, 0, 0, [])), (39, (.invokestatic 175, 3, 3, 0, 0, 0, 126, 0, 0, 0, [])), (42, (.ifCond .eq 14, 3, 56, 0, 0, 0, 0, 0, 0, 0, [])), (45, (.iload 6, 2, 6, 0, 0, 0, 0, 0, 0, 0, [])), (47, (.i2l, 1, 0, 0, 0, 0, 0, 0, 0, 0, [])), (48, (.lconst 0, 1, 0, 0, 0, 0, 0, 0, 0, 0, [])), (49, (.lconst 1, 1, 0, 0, 1, 0, 0, 0, 0, 0, [])), (50, (.invokestatic 175, 3, 3, 0, 0, 0, 126, 0, 0, 0, [])), (53, (.ifCond .ne 5, 3, 58, 0, 0, 0, 0, 0, 0, 0, [])), (56, (.iconst (-1), 1, 0, -1, 0, 0, 0, 0, 0, 0, [])), (57, (.ireturn, 1, 0, 0, 0, 0, 0, 0, 0, 0, [])), (58, (.aload_n 0, 1, 0, 0, 0, 0, 0, 0, 0, 0, [])), (59, (.iload_n 3, 1, 3, 0, 0, 0, 0, 0, 0, 0, [])), (60, (.i2l, 1, 0, 0, 0, 0, 0, 0, 0, 0, [])), (61, (.putfield 497, 3, 1, 0, 0, 9, 64, 0, 0, 0, [])), (64, (.iconst 0, 1, 0, 0, 0, 0, 0, 0, 0, 0, [])), (65, (.istore 7, 2, 7, 0, 0, 0, 0, 0, 0, 0, [])), (67, (.iconst 0, 1, 0, 0, 0, 0, 0, 0, 0, 0, [])), (68, (.istore 8, 2, 8, 0, 0, 0, 0, 0, 0, 0, [])), (70, (.iload 8, 2, 8, 0, 0, 0, 0, 0, 0, 0, [])), (72, (.iload 5, 2, 5, 0, 0, 0, 0, 0, 0, 0, [])), (74, (.if_icmp .ge 134, 3, 208, 0, 0, 0, 0, 0, 0, 0, [])), (77, (.aload_n 0, 1, 0, 0, 0, 0, 0, 0, 0, 0, [])), (78, (.invokevirtual 449, 3, 0, 0, 0, 0, 194, 10, 0, 0, [])), (81, (.iconst 0, 1, 0, 0, 0, 0, 0, 0, 0, 0, [])), (82, (.istore 9, 2, 9, 0, 0, 0, 0, 0, 0, 0, [])), (84, (.iload 9, 2, 9, 0, 0, 0, 0, 0, 0, 0, [])), (86, (.aload_n 0, 1, 0, 0, 0, 0, 0, 0, 0, 0, [])), (87, (.getfield 182, 3, 0, 0, 0, 9, 2, 0, 0, 0, [])), (90, (.if_icmp .ge 70, 3, 160, 0, 0, 0, 0, 0, 0, 0, [])), (93, (.aload_n 0, 1, 0, 0, 0, 0, 0, 0, 0, 0, [])), (94, (.iload 9, 2, 9, 0, 0, 0, 0, 0, 0, 0, [])), (96, (.iload_n 2, 1, 2, 0, 0, 0, 0, 0, 0, 0, [])), (97, (.invokevirtual 435, 3, 2, 0, 0, 0, 191, 10, 0, 0, [])), (100, (.ifCond .ne 54, 3, 154, 0, 0, 0, 0, 0, 0, 0, [])), (103, (.aload_n 0, 1, 0, 0, 0, 0, 0, 0, 0, 0, [])), (104, (.aload_n 0, 1, 0, 0, 0, 0, 0, 0, 0, 0, [])), (105, (.getfield 497, 3, 1, 0, 0, 9, 64, 0, 0, 0, [])), (108, (.ldc2_w 501, 3, 0, 0, 1103515245, 0, 0, 0, 0, 0, [])), (111, (.lmul, 1, 0, 0, 0, 0, 0, 0, 0, 0, [])), (112, (.ldc2_w 503, 3, 0, 0, 12345, 0, 0, 0, 0, 0, [])), (115, (.ladd, 1, 0, 0, 0, 0, 0, 0, 0, 0, [])), (116, (.ldc2_w 505, 3, 0, 0, 2147483648, 0, 0, 0, 0, 0, [])), (119, (.lrem, 1, 0, 0, 0, 0, 0, 0, 0, 0, [])), (120, (.putfield 497, 3, 1, 0, 0, 9, 64, 0, 0, 0, [])), (123, (.aload_n 0, 1, 0, 0, 0, 0, 0, 0, 0, 0, [])), (124, (.getfield 137, 3, 2, 0, 0, 9, 56, 0, 0, 0, [])), (127, (.iload 9, 2, 9, 0, 0, 0, 0, 0, 0, 0, [])), (129, (.aload_n 0, 1, 0, 0, 0, 0, 0, 0, 0, 0, [])), (130, (.getfield 497, 3, 1, 0, 0, 9, 64, 0, 0, 0, [])), (133, (.ldc2_w 507, 3, 0, 0, 65536, 0, 0, 0, 0, 0, [])), (136, (.ldiv, 1, 0, 0, 0, 0, 0, 0, 0, 0, [])), (137, (.ldc2_w 493, 3, 0, 0, 100, 0, 0, 0, 0, 0, [])), (140, (.lrem, 1, 0, 0, 0, 0, 0, 0, 0, 0, [])), (141, (.iload 4, 2, 4, 0, 0, 0, 0, 0, 0, 0, [])), (143, (.i2l, 1, 0, 0, 0, 0, 0, 0, 0, 0, [])), (144, (.lcmp, 1, 0, 0, 0, 0, 0, 0, 0, 0, [])), (145, (.ifCond .ge 7, 3, 152, 0, 0, 0, 0, 0, 0, 0, [])), (148, (.iconst 1, 1, 0, 1, 0, 0, 0, 0, 0, 0, [])), (149, (.goto 4, 3, 153, 0, 0, 0, 0, 0, 0, 0, [])), (152, (.iconst 0, 1, 0, 0, 0, 0, 0, 0, 0, 0, [])), (153, (.bastore, 1, 0, 0, 0, 2, 0, 0, 0, 0, [])), (154, (.iinc 9 1, 3, 9, 1, 0, 0, 0, 0, 0, 0, [])), (157, (.goto (-73), 3, 84, 0, 0, 0, 0, 0, 0, 0, [])), (160, (.iload 7, 2, 7, 0, 0, 0, 0, 0, 0, 0, [])), (162, (.iload 6, 2, 6, 0, 0, 0, 0, 0, 0, 0, [])), (164, (.ifCond .ne 21, 3, 185, 0, 0, 0, 0, 0, 0, 0, [])), (167, (.aload_n 0, 1, 0, 0, 0, 0, 0, 0, 0, 0, [])), (168, (.iload_n 1, 1, 1, 0, 0, 0, 0, 0, 0, 0, [])), (169, (.iload_n 2, 1, 2, 0, 0, 0, 0, 0, 0, 0, [])), (170, (.invokevirtual 455, 3, 2, 0, 0, 0, 197, 10, 0, 0, [])), (173, (.iconst (-1), 1, 0, -1, 0, 0, 0, 0, 0, 0, [])), (174, (.if_icmp .ne 7, 3, 181, 0, 0, 0, 0, 0, 0, 0, [])), (177, (.iconst 1, 1, 0, 1, 0, 0, 0, 0, 0, 0, [])), (178, (.goto 21, 3, 199, 0, 0, 0, 0, 0, 0, 0, [])), (181, (.iconst 0, 1, 0, 0, 0, 0, 0, 0, 0, 0, [])), (182, (.goto 17, 3, 199, 0, 0, 0, 0, 0, 0, 0, [])), (185, (.aload_n 0, 1, 0, 0, 0, 0, 0, 0, 0, 0, [])), (186, (.iload_n 1, 1, 1, 0, 0, 0, 0, 0, 0, 0, [])), (187, (.iload_n 2, 1, 2, 0, 0, 0, 0, 0, 0, 0, [])), (188, (.invokevirtual 458, 3, 2, 0, 0, 0, 198, 10, 0, 0, [])), (191, (.ifCond .eq 7, 3, 198, 0, 0, 0, 0, 0, 0, 0, [])), (194, (.iconst 1, 1, 0, 1, 0, 0, 0, 0, 0, 0, [])), (195, (.goto 4, 3, 199, 0, 0, 0, 0, 0, 0, 0, [])), (198, (.iconst 0, 1, 0, 0, 0, 0, 0, 0, 0, 0, [])), (199, (.iadd, 1, 0, 0, 0, 0, 0, 0, 0, 0, [])), (200, (.istore 7, 2, 7, 0, 0, 0, 0, 0, 0, 0, [])), (202, (.iinc 8 1, 3, 8, 1, 0, 0, 0, 0, 0, 0, [])), (205, (.goto (-135), 3, 70, 0, 0, 0, 0, 0, 0, 0, [])), (208, (.iload 7, 2, 7, 0, 0, 0, 0, 0, 0, 0, [])), (210, (.ireturn, 1, 0, 0, 0, 0, 0, 0, 0, 0, []))]
set_option maxRecDepth 100000 in
theorem ok_X9_fights : tb_ok ctX9 m_X9_fights t_X9_fights = true := by decide +kernel
theorem i_X9_fights_0 : tab t_X9_fights 0 = some (.aload_n 0, 1, 0, 0, 0, 0, 0, 0, 0, 0, []) := rfl
theorem i_X9_fights_1 : tab t_X9_fights 1 = some (.iload_n 1, 1, 1, 0, 0, 0, 0, 0, 0, 0, []) := rfl
theorem i_X9_fights_2 : tab t_X9_fights 2 = some (.invokevirtual 185, 3, 1, 0, 0, 0, 128, 10, 0, 0, []) := rfl
theorem i_X9_fights_5 : tab t_X9_fights 5 = some (.ifCond .eq 51, 3, 56, 0, 0, 0, 0, 0, 0, 0, []) := rfl
theorem i_X9_fights_8 : tab t_X9_fights 8 = some (.iload_n 2, 1, 2, 0, 0, 0, 0, 0, 0, 0, []) := rfl
theorem i_X9_fights_9 : tab t_X9_fights 9 = some (.invokestatic 203, 3, 1, 0, 0, 0, 127, 0, 0, 0, []) := rfl
theorem i_X9_fights_12 : tab t_X9_fights 12 = some (.ifCond .eq 44, 3, 56, 0, 0, 0, 0, 0, 0, 0, []) := rfl
theorem i_X9_fights_15 : tab t_X9_fights 15 = some (.iload_n 3, 1, 3, 0, 0, 0, 0, 0, 0, 0, []) := rfl
theorem i_X9_fights_16 : tab t_X9_fights 16 = some (.ifCond .lt 40, 3, 56, 0, 0, 0, 0, 0, 0, 0, []) := rfl
theorem i_X9_fights_19 : tab t_X9_fights 19 = some (.iload 4, 2, 4, 0, 0, 0, 0, 0, 0, 0, []) := rfl
theorem i_X9_fights_21 : tab t_X9_fights 21 = some (.i2l, 1, 0, 0, 0, 0, 0, 0, 0, 0, []) := rfl
theorem i_X9_fights_22 : tab t_X9_fights 22 = some (.lconst 0, 1, 0, 0, 0, 0, 0, 0, 0, 0, []) := rfl
theorem i_X9_fights_23 : tab t_X9_fights 23 = some (.ldc2_w 493, 3, 0, 0, 100, 0, 0, 0, 0, 0, []) := rfl
theorem i_X9_fights_26 : tab t_X9_fights 26 = some (.invokestatic 175, 3, 3, 0, 0, 0, 126, 0, 0, 0, []) := rfl
theorem i_X9_fights_29 : tab t_X9_fights 29 = some (.ifCond .eq 27, 3, 56, 0, 0, 0, 0, 0, 0, 0, []) := rfl
theorem i_X9_fights_32 : tab t_X9_fights 32 = some (.iload 5, 2, 5, 0, 0, 0, 0, 0, 0, 0, []) := rfl
theorem i_X9_fights_34 : tab t_X9_fights 34 = some (.i2l, 1, 0, 0, 0, 0, 0, 0, 0, 0, []) := rfl
theorem i_X9_fights_35 : tab t_X9_fights 35 = some (.lconst 1, 1, 0, 0, 1, 0, 0, 0, 0, 0, []) := rfl
theorem i_X9_fights_36 : tab t_X9_fights 36 = some (.ldc2_w 495, 3, 0, 0, 50, 0, 0, 0, 0, 0, []) := rfl
theorem i_X9_fights_39 : tab t_X9_fights 39 = some (.invokestatic 175, 3, 3, 0, 0, 0, 126, 0, 0, 0, []) := rfl
theorem i_X9_fights_42 : tab t_X9_fights 42 = some (.ifCond .eq 14, 3, 56, 0, 0, 0, 0, 0, 0, 0, []) := rfl
theorem i_X9_fights_45 : tab t_X9_fights 45 = some (.iload 6, 2, 6, 0, 0, 0, 0, 0, 0, 0, []) := rfl
theorem i_X9_fights_47 : tab t_X9_fights 47 = some (.i2l, 1, 0, 0, 0, 0, 0, 0, 0, 0, []) := rfl
theorem i_X9_fights_48 : tab t_X9_fights 48 = some (.lconst 0, 1, 0, 0, 0, 0, 0, 0, 0, 0, []) := rfl
theorem i_X9_fights_49 : tab t_X9_fights 49 = some (.lconst 1, 1, 0, 0, 1, 0, 0, 0, 0, 0, []) := rfl
theorem i_X9_fights_50 : tab t_X9_fights 50 = some (.invokestatic 175, 3, 3, 0, 0, 0, 126, 0, 0, 0, []) := rfl
theorem i_X9_fights_53 : tab t_X9_fights 53 = some (.ifCond .ne 5, 3, 58, 0, 0, 0, 0, 0, 0, 0, []) := rfl
theorem i_X9_fights_56 : tab t_X9_fights 56 = some (.iconst (-1), 1, 0, -1, 0, 0, 0, 0, 0, 0, []) := rfl
theorem i_X9_fights_57 : tab t_X9_fights 57 = some (.ireturn, 1, 0, 0, 0, 0, 0, 0, 0, 0, []) := rfl
theorem i_X9_fights_58 : tab t_X9_fights 58 = some (.aload_n 0, 1, 0, 0, 0, 0, 0, 0, 0, 0, []) := rfl
theorem i_X9_fights_59 : tab t_X9_fights 59 = some (.iload_n 3, 1, 3, 0, 0, 0, 0, 0, 0, 0, []) := rfl
theorem i_X9_fights_60 : tab t_X9_fights 60 = some (.i2l, 1, 0, 0, 0, 0, 0, 0, 0, 0, []) := rfl
theorem i_X9_fights_61 : tab t_X9_fights 61 = some (.putfield 497, 3, 1, 0, 0, 9, 64, 0, 0, 0, []) := rfl
theorem i_X9_fights_64 : tab t_X9_fights 64 = some (.iconst 0, 1, 0, 0, 0, 0, 0, 0, 0, 0, []) := rfl
theorem i_X9_fights_65 : tab t_X9_fights 65 = some (.istore 7, 2, 7, 0, 0, 0, 0, 0, 0, 0, []) := rfl
theorem i_X9_fights_67 : tab t_X9_fights 67 = some (.iconst 0, 1, 0, 0, 0, 0, 0, 0, 0, 0, []) := rfl
theorem i_X9_fights_68 : tab t_X9_fights 68 = some (.istore 8, 2, 8, 0, 0, 0, 0, 0, 0, 0, []) := rfl
theorem i_X9_fights_70 : tab t_X9_fights 70 = some (.iload 8, 2, 8, 0, 0, 0, 0, 0, 0, 0, []) := rfl
theorem i_X9_fights_72 : tab t_X9_fights 72 = some (.iload 5, 2, 5, 0, 0, 0, 0, 0, 0, 0, []) := rfl
theorem i_X9_fights_74 : tab t_X9_fights 74 = some (.if_icmp .ge 134, 3, 208, 0, 0, 0, 0, 0, 0, 0, []) := rfl
theorem i_X9_fights_77 : tab t_X9_fights 77 = some (.aload_n 0, 1, 0, 0, 0, 0, 0, 0, 0, 0, []) := rfl
theorem i_X9_fights_78 : tab t_X9_fights 78 = some (.invokevirtual 449, 3, 0, 0, 0, 0, 194, 10, 0, 0, []) := rfl
theorem i_X9_fights_81 : tab t_X9_fights 81 = some (.iconst 0, 1, 0, 0, 0, 0, 0, 0, 0, 0, []) := rfl
theorem i_X9_fights_82 : tab t_X9_fights 82 = some (.istore 9, 2, 9, 0, 0, 0, 0, 0, 0, 0, []) := rfl
theorem i_X9_fights_84 : tab t_X9_fights 84 = some (.iload 9, 2, 9, 0, 0, 0, 0, 0, 0, 0, []) := rfl
theorem i_X9_fights_86 : tab t_X9_fights 86 = some (.aload_n 0, 1, 0, 0, 0, 0, 0, 0, 0, 0, []) := rfl
theorem i_X9_fights_87 : tab t_X9_fights 87 = some (.getfield 182, 3, 0, 0, 0, 9, 2, 0, 0, 0, []) := rfl
theorem i_X9_fights_90 : tab t_X9_fights 90 = some (.if_icmp .ge 70, 3, 160, 0, 0, 0, 0, 0, 0, 0, []) := rfl
theorem i_X9_fights_93 : tab t_X9_fights 93 = some (.aload_n 0, 1, 0, 0, 0, 0, 0, 0, 0, 0, []) := rfl
theorem i_X9_fights_94 : tab t_X9_fights 94 = some (.iload 9, 2, 9, 0, 0, 0, 0, 0, 0, 0, []) := rfl
theorem i_X9_fights_96 : tab t_X9_fights 96 = some (.iload_n 2, 1, 2, 0, 0, 0, 0, 0, 0, 0, []) := rfl
theorem i_X9_fights_97 : tab t_X9_fights 97 = some (.invokevirtual 435, 3, 2, 0, 0, 0, 191, 10, 0, 0, []) := rfl
theorem i_X9_fights_100 : tab t_X9_fights 100 = some (.ifCond .ne 54, 3, 154, 0, 0, 0, 0, 0, 0, 0, []) := rfl
theorem i_X9_fights_103 : tab t_X9_fights 103 = some (.aload_n 0, 1, 0, 0, 0, 0, 0, 0, 0, 0, []) := rfl
theorem i_X9_fights_104 : tab t_X9_fights 104 = some (.aload_n 0, 1, 0, 0, 0, 0, 0, 0, 0, 0, []) := rfl
theorem i_X9_fights_105 : tab t_X9_fights 105 = some (.getfield 497, 3, 1, 0, 0, 9, 64, 0, 0, 0, []) := rfl
theorem i_X9_fights_108 : tab t_X9_fights 108 = some (.ldc2_w 501, 3, 0, 0, 1103515245, 0, 0, 0, 0, 0, []) := rfl
theorem i_X9_fights_111 : tab t_X9_fights 111 = some (.lmul, 1, 0, 0, 0, 0, 0, 0, 0, 0, []) := rfl
theorem i_X9_fights_112 : tab t_X9_fights 112 = some (.ldc2_w 503, 3, 0, 0, 12345, 0, 0, 0, 0, 0, []) := rfl
theorem i_X9_fights_115 : tab t_X9_fights 115 = some (.ladd, 1, 0, 0, 0, 0, 0, 0, 0, 0, []) := rfl
theorem i_X9_fights_116 : tab t_X9_fights 116 = some (.ldc2_w 505, 3, 0, 0, 2147483648, 0, 0, 0, 0, 0, []) := rfl
theorem i_X9_fights_119 : tab t_X9_fights 119 = some (.lrem, 1, 0, 0, 0, 0, 0, 0, 0, 0, []) := rfl
theorem i_X9_fights_120 : tab t_X9_fights 120 = some (.putfield 497, 3, 1, 0, 0, 9, 64, 0, 0, 0, []) := rfl
theorem i_X9_fights_123 : tab t_X9_fights 123 = some (.aload_n 0, 1, 0, 0, 0, 0, 0, 0, 0, 0, []) := rfl
theorem i_X9_fights_124 : tab t_X9_fights 124 = some (.getfield 137, 3, 2, 0, 0, 9, 56, 0, 0, 0, []) := rfl
theorem i_X9_fights_127 : tab t_X9_fights 127 = some (.iload 9, 2, 9, 0, 0, 0, 0, 0, 0, 0, []) := rfl
theorem i_X9_fights_129 : tab t_X9_fights 129 = some (.aload_n 0, 1, 0, 0, 0, 0, 0, 0, 0, 0, []) := rfl
theorem i_X9_fights_130 : tab t_X9_fights 130 = some (.getfield 497, 3, 1, 0, 0, 9, 64, 0, 0, 0, []) := rfl
theorem i_X9_fights_133 : tab t_X9_fights 133 = some (.ldc2_w 507, 3, 0, 0, 65536, 0, 0, 0, 0, 0, []) := rfl
theorem i_X9_fights_136 : tab t_X9_fights 136 = some (.ldiv, 1, 0, 0, 0, 0, 0, 0, 0, 0, []) := rfl
theorem i_X9_fights_137 : tab t_X9_fights 137 = some (.ldc2_w 493, 3, 0, 0, 100, 0, 0, 0, 0, 0, []) := rfl
theorem i_X9_fights_140 : tab t_X9_fights 140 = some (.lrem, 1, 0, 0, 0, 0, 0, 0, 0, 0, []) := rfl
theorem i_X9_fights_141 : tab t_X9_fights 141 = some (.iload 4, 2, 4, 0, 0, 0, 0, 0, 0, 0, []) := rfl
theorem i_X9_fights_143 : tab t_X9_fights 143 = some (.i2l, 1, 0, 0, 0, 0, 0, 0, 0, 0, []) := rfl
theorem i_X9_fights_144 : tab t_X9_fights 144 = some (.lcmp, 1, 0, 0, 0, 0, 0, 0, 0, 0, []) := rfl
theorem i_X9_fights_145 : tab t_X9_fights 145 = some (.ifCond .ge 7, 3, 152, 0, 0, 0, 0, 0, 0, 0, []) := rfl
theorem i_X9_fights_148 : tab t_X9_fights 148 = some (.iconst 1, 1, 0, 1, 0, 0, 0, 0, 0, 0, []) := rfl
theorem i_X9_fights_149 : tab t_X9_fights 149 = some (.goto 4, 3, 153, 0, 0, 0, 0, 0, 0, 0, []) := rfl
theorem i_X9_fights_152 : tab t_X9_fights 152 = some (.iconst 0, 1, 0, 0, 0, 0, 0, 0, 0, 0, []) := rfl
theorem i_X9_fights_153 : tab t_X9_fights 153 = some (.bastore, 1, 0, 0, 0, 2, 0, 0, 0, 0, []) := rfl
theorem i_X9_fights_154 : tab t_X9_fights 154 = some (.iinc 9 1, 3, 9, 1, 0, 0, 0, 0, 0, 0, []) := rfl
theorem i_X9_fights_157 : tab t_X9_fights 157 = some (.goto (-73), 3, 84, 0, 0, 0, 0, 0, 0, 0, []) := rfl
theorem i_X9_fights_160 : tab t_X9_fights 160 = some (.iload 7, 2, 7, 0, 0, 0, 0, 0, 0, 0, []) := rfl
theorem i_X9_fights_162 : tab t_X9_fights 162 = some (.iload 6, 2, 6, 0, 0, 0, 0, 0, 0, 0, []) := rfl
theorem i_X9_fights_164 : tab t_X9_fights 164 = some (.ifCond .ne 21, 3, 185, 0, 0, 0, 0, 0, 0, 0, []) := rfl
theorem i_X9_fights_167 : tab t_X9_fights 167 = some (.aload_n 0, 1, 0, 0, 0, 0, 0, 0, 0, 0, []) := rfl
theorem i_X9_fights_168 : tab t_X9_fights 168 = some (.iload_n 1, 1, 1, 0, 0, 0, 0, 0, 0, 0, []) := rfl
theorem i_X9_fights_169 : tab t_X9_fights 169 = some (.iload_n 2, 1, 2, 0, 0, 0, 0, 0, 0, 0, []) := rfl
theorem i_X9_fights_170 : tab t_X9_fights 170 = some (.invokevirtual 455, 3, 2, 0, 0, 0, 197, 10, 0, 0, []) := rfl
theorem i_X9_fights_173 : tab t_X9_fights 173 = some (.iconst (-1), 1, 0, -1, 0, 0, 0, 0, 0, 0, []) := rfl
theorem i_X9_fights_174 : tab t_X9_fights 174 = some (.if_icmp .ne 7, 3, 181, 0, 0, 0, 0, 0, 0, 0, []) := rfl
theorem i_X9_fights_177 : tab t_X9_fights 177 = some (.iconst 1, 1, 0, 1, 0, 0, 0, 0, 0, 0, []) := rfl
theorem i_X9_fights_178 : tab t_X9_fights 178 = some (.goto 21, 3, 199, 0, 0, 0, 0, 0, 0, 0, []) := rfl
theorem i_X9_fights_181 : tab t_X9_fights 181 = some (.iconst 0, 1, 0, 0, 0, 0, 0, 0, 0, 0, []) := rfl
theorem i_X9_fights_182 : tab t_X9_fights 182 = some (.goto 17, 3, 199, 0, 0, 0, 0, 0, 0, 0, []) := rfl
theorem i_X9_fights_185 : tab t_X9_fights 185 = some (.aload_n 0, 1, 0, 0, 0, 0, 0, 0, 0, 0, []) := rfl
theorem i_X9_fights_186 : tab t_X9_fights 186 = some (.iload_n 1, 1, 1, 0, 0, 0, 0, 0, 0, 0, []) := rfl
theorem i_X9_fights_187 : tab t_X9_fights 187 = some (.iload_n 2, 1, 2, 0, 0, 0, 0, 0, 0, 0, []) := rfl
theorem i_X9_fights_188 : tab t_X9_fights 188 = some (.invokevirtual 458, 3, 2, 0, 0, 0, 198, 10, 0, 0, []) := rfl
theorem i_X9_fights_191 : tab t_X9_fights 191 = some (.ifCond .eq 7, 3, 198, 0, 0, 0, 0, 0, 0, 0, []) := rfl
theorem i_X9_fights_194 : tab t_X9_fights 194 = some (.iconst 1, 1, 0, 1, 0, 0, 0, 0, 0, 0, []) := rfl
theorem i_X9_fights_195 : tab t_X9_fights 195 = some (.goto 4, 3, 199, 0, 0, 0, 0, 0, 0, 0, []) := rfl
theorem i_X9_fights_198 : tab t_X9_fights 198 = some (.iconst 0, 1, 0, 0, 0, 0, 0, 0, 0, 0, []) := rfl
theorem i_X9_fights_199 : tab t_X9_fights 199 = some (.iadd, 1, 0, 0, 0, 0, 0, 0, 0, 0, []) := rfl
theorem i_X9_fights_200 : tab t_X9_fights 200 = some (.istore 7, 2, 7, 0, 0, 0, 0, 0, 0, 0, []) := rfl
theorem i_X9_fights_202 : tab t_X9_fights 202 = some (.iinc 8 1, 3, 8, 1, 0, 0, 0, 0, 0, 0, []) := rfl
theorem i_X9_fights_205 : tab t_X9_fights 205 = some (.goto (-135), 3, 70, 0, 0, 0, 0, 0, 0, 0, []) := rfl
theorem i_X9_fights_208 : tab t_X9_fights 208 = some (.iload 7, 2, 7, 0, 0, 0, 0, 0, 0, 0, []) := rfl
theorem i_X9_fights_210 : tab t_X9_fights 210 = some (.ireturn, 1, 0, 0, 0, 0, 0, 0, 0, 0, []) := rfl
def t_X9_carry : List (Nat × rw_) := [(0, (.iconst 0, 1, 0, 0, 0, 0, 0, 0, 0, 0, [])), (1, (.istore_n 2, 1, 2, 0, 0, 0, 0, 0, 0, 0, [])), (2, (.iload_n 2, 1, 2, 0, 0, 0, 0, 0, 0, 0, [])), (3, (.aload_n 1, 1, 1, 0, 0, 0, 0, 0, 0, 0, [])), (4, (.arraylength, 1, 0, 0, 0, 0, 0, 0, 0, 0, [])), (5, (.if_icmp .ge 53, 3, 58, 0, 0, 0, 0, 0, 0, 0, [])), (8, (.aload_n 0, 1, 0, 0, 0, 0, 0, 0, 0, 0, [])), (9, (.getfield 509, 3, 0, 0, 0, 9, 70, 0, 0, 0, [])), (12, (.ifCond .eq 18, 3, 30, 0, 0, 0, 0, 0, 0, 0, [])), (15, (.aload_n 1, 1, 1, 0, 0, 0, 0, 0, 0, 0, [])), (16, (.iload_n 2, 1, 2, 0, 0, 0, 0, 0, 0, 0, [])), (17, (.aload_n 0, 1, 0, 0, 0, 0, 0, 0, 0, 0, [])), (18, (.getfield 158, 3, 2, 0, 0, 9, 65, 0, 0, 0, [])), (21, (.aload_n 0, 1, 0, 0, 0, 0, 0, 0, 0, 0, [])), (22, (.getfield 513, 3, 0, 0, 0, 9, 69, 0, 0, 0, [])), (25, (.iaload, 1, 0, 0, 0, 0, 0, 0, 0, 0, [])), (26, (.iastore, 1, 0, 0, 0, 0, 0, 0, 0, 0, [])), (27, (.goto 15, 3, 42, 0, 0, 0, 0, 0, 0, 0, [])), (30, (.aload_n 0, 1, 0, 0, 0, 0, 0, 0, 0, 0, [])), (31, (.getfield 158, 3, 2, 0, 0, 9, 65, 0, 0, 0, [])), (34, (.aload_n 0, 1, 0, 0, 0, 0, 0, 0, 0, 0, [])), (35, (.getfield 513, 3, 0, 0, 0, 9, 69, 0, 0, 0, [])), (38, (.aload_n 1, 1, 1, 0, 0, 0, 0, 0, 0, 0, [])), (39, (.iload_n 2, 1, 2, 0, 0, 0, 0, 0, 0, 0, [])), (40, (.iaload, 1, 0, 0, 0, 0, 0, 0, 0, 0, [])), (41, (.iastore, 1, 0, 0, 0, 0, 0, 0, 0, 0, [])), (42, (.aload_n 0, 1, 0, 0, 0, 0, 0, 0, 0, 0, [])), (43, (.dup, 1, 0, 0, 0, 0, 0, 0, 0, 0, [])), (44, (.getfield 513, 3, 0, 0, 0, 9, 69, 0, 0, 0, [])), (47, (.iconst 1, 1, 0, 1, 0, 0, 0, 0, 0, 0, [])), (48, (.iadd, 1, 0, 0, 0, 0, 0, 0, 0, 0, [])), (49, (.putfield 513, 3, 0, 0, 0, 9, 69, 0, 0, 0, [])), (52, (.iinc 2 1, 3, 2, 1, 0, 0, 0, 0, 0, 0, [])), (55, (.goto (-53), 3, 2, 0, 0, 0, 0, 0, 0, 0, [])), (58, (.return_, 1, 0, 0, 0, 0, 0, 0, 0, 0, []))]
set_option maxRecDepth 100000 in
theorem ok_X9_carry : tb_ok ctX9 m_X9_carry t_X9_carry = true := by decide +kernel
theorem i_X9_carry_0 : tab t_X9_carry 0 = some (.iconst 0, 1, 0, 0, 0, 0, 0, 0, 0, 0, []) := rfl
theorem i_X9_carry_1 : tab t_X9_carry 1 = some (.istore_n 2, 1, 2, 0, 0, 0, 0, 0, 0, 0, []) := rfl
theorem i_X9_carry_2 : tab t_X9_carry 2 = some (.iload_n 2, 1, 2, 0, 0, 0, 0, 0, 0, 0, []) := rfl
theorem i_X9_carry_3 : tab t_X9_carry 3 = some (.aload_n 1, 1, 1, 0, 0, 0, 0, 0, 0, 0, []) := rfl
theorem i_X9_carry_4 : tab t_X9_carry 4 = some (.arraylength, 1, 0, 0, 0, 0, 0, 0, 0, 0, []) := rfl
theorem i_X9_carry_5 : tab t_X9_carry 5 = some (.if_icmp .ge 53, 3, 58, 0, 0, 0, 0, 0, 0, 0, []) := rfl
theorem i_X9_carry_8 : tab t_X9_carry 8 = some (.aload_n 0, 1, 0, 0, 0, 0, 0, 0, 0, 0, []) := rfl
theorem i_X9_carry_9 : tab t_X9_carry 9 = some (.getfield 509, 3, 0, 0, 0, 9, 70, 0, 0, 0, []) := rfl
theorem i_X9_carry_12 : tab t_X9_carry 12 = some (.ifCond .eq 18, 3, 30, 0, 0, 0, 0, 0, 0, 0, []) := rfl
theorem i_X9_carry_15 : tab t_X9_carry 15 = some (.aload_n 1, 1, 1, 0, 0, 0, 0, 0, 0, 0, []) := rfl
theorem i_X9_carry_16 : tab t_X9_carry 16 = some (.iload_n 2, 1, 2, 0, 0, 0, 0, 0, 0, 0, []) := rfl
theorem i_X9_carry_17 : tab t_X9_carry 17 = some (.aload_n 0, 1, 0, 0, 0, 0, 0, 0, 0, 0, []) := rfl
theorem i_X9_carry_18 : tab t_X9_carry 18 = some (.getfield 158, 3, 2, 0, 0, 9, 65, 0, 0, 0, []) := rfl
theorem i_X9_carry_21 : tab t_X9_carry 21 = some (.aload_n 0, 1, 0, 0, 0, 0, 0, 0, 0, 0, []) := rfl
theorem i_X9_carry_22 : tab t_X9_carry 22 = some (.getfield 513, 3, 0, 0, 0, 9, 69, 0, 0, 0, []) := rfl
theorem i_X9_carry_25 : tab t_X9_carry 25 = some (.iaload, 1, 0, 0, 0, 0, 0, 0, 0, 0, []) := rfl
theorem i_X9_carry_26 : tab t_X9_carry 26 = some (.iastore, 1, 0, 0, 0, 0, 0, 0, 0, 0, []) := rfl
theorem i_X9_carry_27 : tab t_X9_carry 27 = some (.goto 15, 3, 42, 0, 0, 0, 0, 0, 0, 0, []) := rfl
theorem i_X9_carry_30 : tab t_X9_carry 30 = some (.aload_n 0, 1, 0, 0, 0, 0, 0, 0, 0, 0, []) := rfl
theorem i_X9_carry_31 : tab t_X9_carry 31 = some (.getfield 158, 3, 2, 0, 0, 9, 65, 0, 0, 0, []) := rfl
theorem i_X9_carry_34 : tab t_X9_carry 34 = some (.aload_n 0, 1, 0, 0, 0, 0, 0, 0, 0, 0, []) := rfl
theorem i_X9_carry_35 : tab t_X9_carry 35 = some (.getfield 513, 3, 0, 0, 0, 9, 69, 0, 0, 0, []) := rfl
theorem i_X9_carry_38 : tab t_X9_carry 38 = some (.aload_n 1, 1, 1, 0, 0, 0, 0, 0, 0, 0, []) := rfl
theorem i_X9_carry_39 : tab t_X9_carry 39 = some (.iload_n 2, 1, 2, 0, 0, 0, 0, 0, 0, 0, []) := rfl
theorem i_X9_carry_40 : tab t_X9_carry 40 = some (.iaload, 1, 0, 0, 0, 0, 0, 0, 0, 0, []) := rfl
theorem i_X9_carry_41 : tab t_X9_carry 41 = some (.iastore, 1, 0, 0, 0, 0, 0, 0, 0, 0, []) := rfl
theorem i_X9_carry_42 : tab t_X9_carry 42 = some (.aload_n 0, 1, 0, 0, 0, 0, 0, 0, 0, 0, []) := rfl
theorem i_X9_carry_43 : tab t_X9_carry 43 = some (.dup, 1, 0, 0, 0, 0, 0, 0, 0, 0, []) := rfl
theorem i_X9_carry_44 : tab t_X9_carry 44 = some (.getfield 513, 3, 0, 0, 0, 9, 69, 0, 0, 0, []) := rfl
theorem i_X9_carry_47 : tab t_X9_carry 47 = some (.iconst 1, 1, 0, 1, 0, 0, 0, 0, 0, 0, []) := rfl
theorem i_X9_carry_48 : tab t_X9_carry 48 = some (.iadd, 1, 0, 0, 0, 0, 0, 0, 0, 0, []) := rfl
theorem i_X9_carry_49 : tab t_X9_carry 49 = some (.putfield 513, 3, 0, 0, 0, 9, 69, 0, 0, 0, []) := rfl
theorem i_X9_carry_52 : tab t_X9_carry 52 = some (.iinc 2 1, 3, 2, 1, 0, 0, 0, 0, 0, 0, []) := rfl
theorem i_X9_carry_55 : tab t_X9_carry 55 = some (.goto (-53), 3, 2, 0, 0, 0, 0, 0, 0, 0, []) := rfl
theorem i_X9_carry_58 : tab t_X9_carry 58 = some (.return_, 1, 0, 0, 0, 0, 0, 0, 0, 0, []) := rfl
def t_X9_carries : List (Nat × rw_) := [(0, (.aload_n 0, 1, 0, 0, 0, 0, 0, 0, 0, 0, [])), (1, (.sipush 2500, 3, 0, 2500, 0, 0, 0, 0, 0, 0, [])), (4, (.iload_n 1, 1, 1, 0, 0, 0, 0, 0, 0, 0, [])), (5, (.imul, 1, 0, 0, 0, 0, 0, 0, 0, 0, [])), (6, (.putfield 513, 3, 0, 0, 0, 9, 69, 0, 0, 0, [])), (9, (.aload_n 0, 1, 0, 0, 0, 0, 0, 0, 0, 0, [])), (10, (.aload_n 0, 1, 0, 0, 0, 0, 0, 0, 0, 0, [])), (11, (.getfield 161, 3, 2, 0, 0, 9, 66, 0, 0, 0, [])), (14, (.invokevirtual 516, 3, 1, 0, 0, 0, 222, 10, 0, 0, [])), (17, (.aload_n 0, 1, 0, 0, 0, 0, 0, 0, 0, 0, [])), (18, (.aload_n 0, 1, 0, 0, 0, 0, 0, 0, 0, 0, [])), (19, (.getfield 13, 3, 2, 0, 0, 9, 8, 0, 0, 0, [])), (22, (.invokevirtual 516, 3, 1, 0, 0, 0, 222, 10, 0, 0, [])), (25, (.aload_n 0, 1, 0, 0, 0, 0, 0, 0, 0, 0, [])), (26, (.aload_n 0, 1, 0, 0, 0, 0, 0, 0, 0, 0, [])), (27, (.getfield 17, 3, 2, 0, 0, 9, 9, 0, 0, 0, [])), (30, (.invokevirtual 516, 3, 1, 0, 0, 0, 222, 10, 0, 0, [])), (33, (.aload_n 0, 1, 0, 0, 0, 0, 0, 0, 0, 0, [])), (34, (.aload_n 0, 1, 0, 0, 0, 0, 0, 0, 0, 0, [])), (35, (.getfield 20, 3, 2, 0, 0, 9, 10, 0, 0, 0, [])), (38, (.invokevirtual 516, 3, 1, 0, 0, 0, 222, 10, 0, 0, [])), (41, (.aload_n 0, 1, 0, 0, 0, 0, 0, 0, 0, 0, [])), (42, (.aload_n 0, 1, 0, 0, 0, 0, 0, 0, 0, 0, [])), (43, (.getfield 23, 3, 2, 0, 0, 9, 11, 0, 0, 0, [])), (46, (.invokevirtual 516, 3, 1, 0, 0, 0, 222, 10, 0, 0, [])), (49, (.aload_n 0, 1, 0, 0, 0, 0, 0, 0, 0, 0, [])), (50, (.aload_n 0, 1, 0, 0, 0, 0, 0, 0, 0, 0, [])), (51, (.getfield 26, 3, 2, 0, 0, 9, 12, 0, 0, 0, [])), (54, (.invokevirtual 516, 3, 1, 0, 0, 0, 222, 10, 0, 0, [])), (57, (.aload_n 0, 1, 0, 0, 0, 0, 0, 0, 0, 0, [])), (58, (.aload_n 0, 1, 0, 0, 0, 0, 0, 0, 0, 0, [])), (59, (.getfield 29, 3, 2, 0, 0, 9, 13, 0, 0, 0, [])), (62, (.invokevirtual 516, 3, 1, 0, 0, 0, 222, 10, 0, 0, [])), (65, (.aload_n 0, 1, 0, 0, 0, 0, 0, 0, 0, 0, [])), (66, (.aload_n 0, 1, 0, 0, 0, 0, 0, 0, 0, 0, [])), (67, (.getfield 32, 3, 2, 0, 0, 9, 14, 0, 0, 0, [])), (70, (.invokevirtual 516, 3, 1, 0, 0, 0, 222, 10, 0, 0, [])), (73, (.aload_n 0, 1, 0, 0, 0, 0, 0, 0, 0, 0, [])), (74, (.aload_n 0, 1, 0, 0, 0, 0, 0, 0, 0, 0, [])), (75, (.getfield 35, 3, 2, 0, 0, 9, 15, 0, 0, 0, [])), (78, (.invokevirtual 516, 3, 1, 0, 0, 0, 222, 10, 0, 0, [])), (81, (.aload_n 0, 1, 0, 0, 0, 0, 0, 0, 0, 0, [])), (82, (.aload_n 0, 1, 0, 0, 0, 0, 0, 0, 0, 0, [])), (83, (.getfield 38, 3, 2, 0, 0, 9, 16, 0, 0, 0, [])), (86, (.invokevirtual 516, 3, 1, 0, 0, 0, 222, 10, 0, 0, [])), (89, (.aload_n 0, 1, 0, 0, 0, 0, 0, 0, 0, 0, [])), (90, (.aload_n 0, 1, 0, 0, 0, 0, 0, 0, 0, 0, [])), (91, (.getfield 41, 3, 2, 0, 0, 9, 17, 0, 0, 0, [])), (94, (.invokevirtual 516, 3, 1, 0, 0, 0, 222, 10, 0, 0, [])), (97, (.aload_n 0, 1, 0, 0, 0, 0, 0, 0, 0, 0, [])), (98, (.aload_n 0, 1, 0, 0, 0, 0, 0, 0, 0, 0, [])), (99, (.getfield 44, 3, 2, 0, 0, 9, 18, 0, 0, 0, [])), (102, (.invokevirtual 516, 3, 1, 0, 0, 0, 222, 10, 0, 0, [])), (105, (.aload_n 0, 1, 0, 0, 0, 0, 0, 0, 0, 0, [])), (106, (.aload_n 0, 1, 0, 0, 0, 0, 0, 0, 0, 0, [])), (107, (.getfield 47, 3, 2, 0, 0, 9, 19, 0, 0, 0, [])), (110, (.invokevirtual 516, 3, 1, 0, 0, 0, 222, 10, 0, 0, [])), (113, (.aload_n 0, 1, 0, 0, 0, 0, 0, 0, 0, 0, [])), (114, (.aload_n 0, 1, 0, 0, 0, 0, 0, 0, 0, 0, [])), (115, (.getfield 50, 3, 2, 0, 0, 9, 20, 0, 0, 0, [])), (118, (.invokevirtual 516, 3, 1, 0, 0, 0, 222, 10, 0, 0, [])), (121, (.aload_n 0, 1, 0, 0, 0, 0, 0, 0, 0, 0, [])), (122, (.aload_n 0, 1, 0, 0, 0, 0, 0, 0, 0, 0, [])), (123, (.getfield 53, 3, 2, 0, 0, 9, 21, 0, 0, 0, [])), (126, (.invokevirtual 516, 3, 1, 0, 0, 0, 222, 10, 0, 0, [])), (129, (.aload_n 0, 1, 0, 0, 0, 0, 0, 0, 0, 0, [])), (130, (.aload_n 0, 1, 0, 0, 0, 0, 0, 0, 0, 0, [])), (131, (.getfield 56, 3, 2, 0, 0, 9, 22, 0, 0, 0, [])), (134, (.invokevirtual 516, 3, 1, 0, 0, 0, 222, 10, 0, 0, [])), (137, (.aload_n 0, 1, 0, 0, 0, 0, 0, 0, 0, 0, [])), (138, (.aload_n 0, 1, 0, 0, 0, 0, 0, 0, 0, 0, [])), (139, (.getfield 59, 3, 2, 0, 0, 9, 23, 0, 0, 0, [])), (142, (.invokevirtual 516, 3, 1, 0, 0, 0, 222, 10, 0, 0, [])), (145, (.aload_n 0, 1, 0, 0, 0, 0, 0, 0, 0, 0, [])), (146, (.aload_n 0, 1, 0, 0, 0, 0, 0, 0, 0, 0, [])), (147, (.getfield 62, 3, 2, 0, 0, 9, 24, 0, 0, 0, [])), (150, (.invokevirtual 516, 3, 1, 0, 0, 0, 222, 10, 0, 0, [])), (153, (.aload_n 0, 1, 0, 0, 0, 0, 0, 0, 0, 0, [])), (154, (.aload_n 0, 1, 0, 0, 0, 0, 0, 0, 0, 0, [])), (155, (.getfield 65, 3, 2, 0, 0, 9, 25, 0, 0, 0, [])), (158, (.invokevirtual 516, 3, 1, 0, 0, 0, 222, 10, 0, 0, [])), (161, (.aload_n 0, 1, 0, 0, 0, 0, 0, 0, 0, 0, [])), (162, (.aload_n 0, 1, 0, 0, 0, 0, 0, 0, 0, 0, [])), (163, (.getfield 68, 3, 2, 0, 0, 9, 26, 0, 0, 0, [])), (166, (.invokevirtual 516, 3, 1, 0, 0, 0, 222, 10, 0, 0, [])), (169, (.aload_n 0, 1, 0, 0, 0, 0, 0, 0, 0, 0, [])), (170, (.aload_n 0, 1, 0, 0, 0, 0, 0, 0, 0, 0, [])), (171, (.getfield 71, 3, 2, 0, 0, 9, 27, 0, 0, 0, [])), (174, (.invokevirtual 516, 3, 1, 0, 0, 0, 222, 10, 0, 0, [])), (177, (.aload_n 0, 1, 0, 0, 0, 0, 0, 0, 0, 0, [])), (178, (.aload_n 0, 1, 0, 0, 0, 0, 0, 0, 0, 0, [])), (179, (.getfield 74, 3, 2, 0, 0, 9, 28, 0, 0, 0, [])), (182, (.invokevirtual 516, 3, 1, 0, 0, 0, 222, 10, 0, 0, [])), (185, (.aload_n 0, 1, 0, 0, 0, 0, 0, 0, 0, 0, [])), (186, (.aload_n 0, 1, 0, 0, 0, 0, 0, 0, 0, 0, [])), (187, (.getfield 164, 3, 2, 0, 0, 9, 67, 0, 0, 0, [])), (190, (.invokevirtual 516, 3, 1, 0, 0, 0, 222, 10, 0, 0, [])), (193, (.aload_n 0, 1, 0, 0, 0, 0, 0, 0, 0, 0, [])), (194, (.aload_n 0, 1, 0, 0, 0, 0, 0, 0, 0, 0, [])), (195, (.getfield 125, 3, 2, 0, 0, 9, 52, 0, 0, 0, [])), (198, (.invokevirtual 516, 3, 1, 0, 0, 0, 222, 10, 0, 0, [])), (201, (.aload_n 0, 1, 0, 0, 0, 0, 0, 0, 0, 0, [])), (202, (.aload_n 0, 1, 0, 0, 0, 0, 0, 0, 0, 0, [])), (203, (.getfield 128, 3, 2, 0, 0, 9, 53, 0, 0, 0, [])), (206, (.invokevirtual 516, 3, 1, 0, 0, 0, 222, 10, 0, 0, [])), (209, (.aload_n 0, 1, 0, 0, 0, 0, 0, 0, 0, 0, [])), (210, (.aload_n 0, 1, 0, 0, 0, 0, 0, 0, 0, 0, [])), (211, (.getfield 131, 3, 2, 0, 0, 9, 54, 0, 0, 0, [])), (214, (.invokevirtual 516, 3, 1, 0, 0, 0, 222, 10, 0, 0, [])), (217, (.aload_n 0, 1, 0, 0, 0, 0, 0, 0, 0, 0, [])), (218, (.aload_n 0, 1, 0, 0, 0, 0, 0, 0, 0, 0, [])), (219, (.getfield 140, 3, 2, 0, 0, 9, 57, 0, 0, 0, [])), (222, (.invokevirtual 516, 3, 1, 0, 0, 0, 222, 10, 0, 0, [])), (225, (.aload_n 0, 1, 0, 0, 0, 0, 0, 0, 0, 0, [])), (226, (.aload_n 0, 1, 0, 0, 0, 0, 0, 0, 0, 0, [])), (227, (.getfield 143, 3, 2, 0, 0, 9, 58, 0, 0, 0, [])), (230, (.invokevirtual 516, 3, 1, 0, 0, 0, 222, 10, 0, 0, [])), (233, (.aload_n 0, 1, 0, 0, 0, 0, 0, 0, 0, 0, [])), (234, (.aload_n 0, 1, 0, 0, 0, 0, 0, 0, 0, 0, [])), (235, (.getfield 146, 3, 2, 0, 0, 9, 59, 0, 0, 0, [])), (238, (.invokevirtual 516, 3, 1, 0, 0, 0, 222, 10, 0, 0, [])), (241, (.aload_n 0, 1, 0, 0, 0, 0, 0, 0, 0, 0, [])), (242, (.aload_n 0, 1, 0, 0, 0, 0, 0, 0, 0, 0, [])), (243, (.getfield 149, 3, 2, 0, 0, 9, 60, 0, 0, 0, [])), (246, (.invokevirtual 516, 3, 1, 0, 0, 0, 222, 10, 0, 0, [])), (249, (.aload_n 0, 1, 0, 0, 0, 0, 0, 0, 0, 0, [])), (250, (.aload_n 0, 1, 0, 0, 0, 0, 0, 0, 0, 0, [])), (251, (.getfield 152, 3, 2, 0, 0, 9, 61, 0, 0, 0, [])), (254, (.invokevirtual 516, 3, 1, 0, 0, 0, 222, 10, 0, 0, [])), (257, (.aload_n 0, 1, 0, 0, 0, 0, 0, 0, 0, 0, [])), (258, (.aload_n 0, 1, 0, 0, 0, 0, 0, 0, 0, 0, [])), (259, (.getfield 155, 3, 2, 0, 0, 9, 62, 0, 0, 0, [])), (262, (.invokevirtual 516, 3, 1, 0, 0, 0, 222, 10, 0, 0, [])), (265, (.return_, 1, 0, 0, 0, 0, 0, 0, 0, 0, []))]
set_option maxRecDepth 100000 in
theorem ok_X9_carries : tb_ok ctX9 m_X9_carries t_X9_carries = true := by decide +kernel
theorem i_X9_carries_0 : tab t_X9_carries 0 = some (.aload_n 0, 1, 0, 0, 0, 0, 0, 0, 0, 0, []) := rfl
theorem i_X9_carries_1 : tab t_X9_carries 1 = some (.sipush 2500, 3, 0, 2500, 0, 0, 0, 0, 0, 0, []) := rfl
theorem i_X9_carries_4 : tab t_X9_carries 4 = some (.iload_n 1, 1, 1, 0, 0, 0, 0, 0, 0, 0, []) := rfl
theorem i_X9_carries_5 : tab t_X9_carries 5 = some (.imul, 1, 0, 0, 0, 0, 0, 0, 0, 0, []) := rfl
theorem i_X9_carries_6 : tab t_X9_carries 6 = some (.putfield 513, 3, 0, 0, 0, 9, 69, 0, 0, 0, []) := rfl
theorem i_X9_carries_9 : tab t_X9_carries 9 = some (.aload_n 0, 1, 0, 0, 0, 0, 0, 0, 0, 0, []) := rfl
theorem i_X9_carries_10 : tab t_X9_carries 10 = some (.aload_n 0, 1, 0, 0, 0, 0, 0, 0, 0, 0, []) := rfl
theorem i_X9_carries_11 : tab t_X9_carries 11 = some (.getfield 161, 3, 2, 0, 0, 9, 66, 0, 0, 0, []) := rfl
theorem i_X9_carries_14 : tab t_X9_carries 14 = some (.invokevirtual 516, 3, 1, 0, 0, 0, 222, 10, 0, 0, []) := rfl
theorem i_X9_carries_17 : tab t_X9_carries 17 = some (.aload_n 0, 1, 0, 0, 0, 0, 0, 0, 0, 0, []) := rfl
theorem i_X9_carries_18 : tab t_X9_carries 18 = some (.aload_n 0, 1, 0, 0, 0, 0, 0, 0, 0, 0, []) := rfl
theorem i_X9_carries_19 : tab t_X9_carries 19 = some (.getfield 13, 3, 2, 0, 0, 9, 8, 0, 0, 0, []) := rfl
theorem i_X9_carries_22 : tab t_X9_carries 22 = some (.invokevirtual 516, 3, 1, 0, 0, 0, 222, 10, 0, 0, []) := rfl
theorem i_X9_carries_25 : tab t_X9_carries 25 = some (.aload_n 0, 1, 0, 0, 0, 0, 0, 0, 0, 0, []) := rfl
theorem i_X9_carries_26 : tab t_X9_carries 26 = some (.aload_n 0, 1, 0, 0, 0, 0, 0, 0, 0, 0, []) := rfl
theorem i_X9_carries_27 : tab t_X9_carries 27 = some (.getfield 17, 3, 2, 0, 0, 9, 9, 0, 0, 0, []) := rfl
theorem i_X9_carries_30 : tab t_X9_carries 30 = some (.invokevirtual 516, 3, 1, 0, 0, 0, 222, 10, 0, 0, []) := rfl
theorem i_X9_carries_33 : tab t_X9_carries 33 = some (.aload_n 0, 1, 0, 0, 0, 0, 0, 0, 0, 0, []) := rfl
theorem i_X9_carries_34 : tab t_X9_carries 34 = some (.aload_n 0, 1, 0, 0, 0, 0, 0, 0, 0, 0, []) := rfl
theorem i_X9_carries_35 : tab t_X9_carries 35 = some (.getfield 20, 3, 2, 0, 0, 9, 10, 0, 0, 0, []) := rfl
theorem i_X9_carries_38 : tab t_X9_carries 38 = some (.invokevirtual 516, 3, 1, 0, 0, 0, 222, 10, 0, 0, []) := rfl
theorem i_X9_carries_41 : tab t_X9_carries 41 = some (.aload_n 0, 1, 0, 0, 0, 0, 0, 0, 0, 0, []) := rfl
theorem i_X9_carries_42 : tab t_X9_carries 42 = some (.aload_n 0, 1, 0, 0, 0, 0, 0, 0, 0, 0, []) := rfl
theorem i_X9_carries_43 : tab t_X9_carries 43 = some (.getfield 23, 3, 2, 0, 0, 9, 11, 0, 0, 0, []) := rfl
theorem i_X9_carries_46 : tab t_X9_carries 46 = some (.invokevirtual 516, 3, 1, 0, 0, 0, 222, 10, 0, 0, []) := rfl
theorem i_X9_carries_49 : tab t_X9_carries 49 = some (.aload_n 0, 1, 0, 0, 0, 0, 0, 0, 0, 0, []) := rfl
theorem i_X9_carries_50 : tab t_X9_carries 50 = some (.aload_n 0, 1, 0, 0, 0, 0, 0, 0, 0, 0, []) := rfl
theorem i_X9_carries_51 : tab t_X9_carries 51 = some (.getfield 26, 3, 2, 0, 0, 9, 12, 0, 0, 0, []) := rfl
theorem i_X9_carries_54 : tab t_X9_carries 54 = some (.invokevirtual 516, 3, 1, 0, 0, 0, 222, 10, 0, 0, []) := rfl
theorem i_X9_carries_57 : tab t_X9_carries 57 = some (.aload_n 0, 1, 0, 0, 0, 0, 0, 0, 0, 0, []) := rfl
theorem i_X9_carries_58 : tab t_X9_carries 58 = some (.aload_n 0, 1, 0, 0, 0, 0, 0, 0, 0, 0, []) := rfl
theorem i_X9_carries_59 : tab t_X9_carries 59 = some (.getfield 29, 3, 2, 0, 0, 9, 13, 0, 0, 0, []) := rfl
theorem i_X9_carries_62 : tab t_X9_carries 62 = some (.invokevirtual 516, 3, 1, 0, 0, 0, 222, 10, 0, 0, []) := rfl
theorem i_X9_carries_65 : tab t_X9_carries 65 = some (.aload_n 0, 1, 0, 0, 0, 0, 0, 0, 0, 0, []) := rfl
theorem i_X9_carries_66 : tab t_X9_carries 66 = some (.aload_n 0, 1, 0, 0, 0, 0, 0, 0, 0, 0, []) := rfl
theorem i_X9_carries_67 : tab t_X9_carries 67 = some (.getfield 32, 3, 2, 0, 0, 9, 14, 0, 0, 0, []) := rfl
theorem i_X9_carries_70 : tab t_X9_carries 70 = some (.invokevirtual 516, 3, 1, 0, 0, 0, 222, 10, 0, 0, []) := rfl
theorem i_X9_carries_73 : tab t_X9_carries 73 = some (.aload_n 0, 1, 0, 0, 0, 0, 0, 0, 0, 0, []) := rfl
theorem i_X9_carries_74 : tab t_X9_carries 74 = some (.aload_n 0, 1, 0, 0, 0, 0, 0, 0, 0, 0, []) := rfl
theorem i_X9_carries_75 : tab t_X9_carries 75 = some (.getfield 35, 3, 2, 0, 0, 9, 15, 0, 0, 0, []) := rfl
theorem i_X9_carries_78 : tab t_X9_carries 78 = some (.invokevirtual 516, 3, 1, 0, 0, 0, 222, 10, 0, 0, []) := rfl
theorem i_X9_carries_81 : tab t_X9_carries 81 = some (.aload_n 0, 1, 0, 0, 0, 0, 0, 0, 0, 0, []) := rfl
theorem i_X9_carries_82 : tab t_X9_carries 82 = some (.aload_n 0, 1, 0, 0, 0, 0, 0, 0, 0, 0, []) := rfl
theorem i_X9_carries_83 : tab t_X9_carries 83 = some (.getfield 38, 3, 2, 0, 0, 9, 16, 0, 0, 0, []) := rfl
theorem i_X9_carries_86 : tab t_X9_carries 86 = some (.invokevirtual 516, 3, 1, 0, 0, 0, 222, 10, 0, 0, []) := rfl
theorem i_X9_carries_89 : tab t_X9_carries 89 = some (.aload_n 0, 1, 0, 0, 0, 0, 0, 0, 0, 0, []) := rfl
theorem i_X9_carries_90 : tab t_X9_carries 90 = some (.aload_n 0, 1, 0, 0, 0, 0, 0, 0, 0, 0, []) := rfl
theorem i_X9_carries_91 : tab t_X9_carries 91 = some (.getfield 41, 3, 2, 0, 0, 9, 17, 0, 0, 0, []) := rfl
theorem i_X9_carries_94 : tab t_X9_carries 94 = some (.invokevirtual 516, 3, 1, 0, 0, 0, 222, 10, 0, 0, []) := rfl
theorem i_X9_carries_97 : tab t_X9_carries 97 = some (.aload_n 0, 1, 0, 0, 0, 0, 0, 0, 0, 0, []) := rfl
theorem i_X9_carries_98 : tab t_X9_carries 98 = some (.aload_n 0, 1, 0, 0, 0, 0, 0, 0, 0, 0, []) := rfl
theorem i_X9_carries_99 : tab t_X9_carries 99 = some (.getfield 44, 3, 2, 0, 0, 9, 18, 0, 0, 0, []) := rfl
theorem i_X9_carries_102 : tab t_X9_carries 102 = some (.invokevirtual 516, 3, 1, 0, 0, 0, 222, 10, 0, 0, []) := rfl
theorem i_X9_carries_105 : tab t_X9_carries 105 = some (.aload_n 0, 1, 0, 0, 0, 0, 0, 0, 0, 0, []) := rfl
theorem i_X9_carries_106 : tab t_X9_carries 106 = some (.aload_n 0, 1, 0, 0, 0, 0, 0, 0, 0, 0, []) := rfl
theorem i_X9_carries_107 : tab t_X9_carries 107 = some (.getfield 47, 3, 2, 0, 0, 9, 19, 0, 0, 0, []) := rfl
theorem i_X9_carries_110 : tab t_X9_carries 110 = some (.invokevirtual 516, 3, 1, 0, 0, 0, 222, 10, 0, 0, []) := rfl
theorem i_X9_carries_113 : tab t_X9_carries 113 = some (.aload_n 0, 1, 0, 0, 0, 0, 0, 0, 0, 0, []) := rfl
theorem i_X9_carries_114 : tab t_X9_carries 114 = some (.aload_n 0, 1, 0, 0, 0, 0, 0, 0, 0, 0, []) := rfl
theorem i_X9_carries_115 : tab t_X9_carries 115 = some (.getfield 50, 3, 2, 0, 0, 9, 20, 0, 0, 0, []) := rfl
theorem i_X9_carries_118 : tab t_X9_carries 118 = some (.invokevirtual 516, 3, 1, 0, 0, 0, 222, 10, 0, 0, []) := rfl
theorem i_X9_carries_121 : tab t_X9_carries 121 = some (.aload_n 0, 1, 0, 0, 0, 0, 0, 0, 0, 0, []) := rfl
theorem i_X9_carries_122 : tab t_X9_carries 122 = some (.aload_n 0, 1, 0, 0, 0, 0, 0, 0, 0, 0, []) := rfl
theorem i_X9_carries_123 : tab t_X9_carries 123 = some (.getfield 53, 3, 2, 0, 0, 9, 21, 0, 0, 0, []) := rfl
theorem i_X9_carries_126 : tab t_X9_carries 126 = some (.invokevirtual 516, 3, 1, 0, 0, 0, 222, 10, 0, 0, []) := rfl
theorem i_X9_carries_129 : tab t_X9_carries 129 = some (.aload_n 0, 1, 0, 0, 0, 0, 0, 0, 0, 0, []) := rfl
theorem i_X9_carries_130 : tab t_X9_carries 130 = some (.aload_n 0, 1, 0, 0, 0, 0, 0, 0, 0, 0, []) := rfl
theorem i_X9_carries_131 : tab t_X9_carries 131 = some (.getfield 56, 3, 2, 0, 0, 9, 22, 0, 0, 0, []) := rfl
theorem i_X9_carries_134 : tab t_X9_carries 134 = some (.invokevirtual 516, 3, 1, 0, 0, 0, 222, 10, 0, 0, []) := rfl
theorem i_X9_carries_137 : tab t_X9_carries 137 = some (.aload_n 0, 1, 0, 0, 0, 0, 0, 0, 0, 0, []) := rfl
theorem i_X9_carries_138 : tab t_X9_carries 138 = some (.aload_n 0, 1, 0, 0, 0, 0, 0, 0, 0, 0, []) := rfl
theorem i_X9_carries_139 : tab t_X9_carries 139 = some (.getfield 59, 3, 2, 0, 0, 9, 23, 0, 0, 0, []) := rfl
theorem i_X9_carries_142 : tab t_X9_carries 142 = some (.invokevirtual 516, 3, 1, 0, 0, 0, 222, 10, 0, 0, []) := rfl
theorem i_X9_carries_145 : tab t_X9_carries 145 = some (.aload_n 0, 1, 0, 0, 0, 0, 0, 0, 0, 0, []) := rfl
theorem i_X9_carries_146 : tab t_X9_carries 146 = some (.aload_n 0, 1, 0, 0, 0, 0, 0, 0, 0, 0, []) := rfl
theorem i_X9_carries_147 : tab t_X9_carries 147 = some (.getfield 62, 3, 2, 0, 0, 9, 24, 0, 0, 0, []) := rfl
theorem i_X9_carries_150 : tab t_X9_carries 150 = some (.invokevirtual 516, 3, 1, 0, 0, 0, 222, 10, 0, 0, []) := rfl
theorem i_X9_carries_153 : tab t_X9_carries 153 = some (.aload_n 0, 1, 0, 0, 0, 0, 0, 0, 0, 0, []) := rfl
theorem i_X9_carries_154 : tab t_X9_carries 154 = some (.aload_n 0, 1, 0, 0, 0, 0, 0, 0, 0, 0, []) := rfl
theorem i_X9_carries_155 : tab t_X9_carries 155 = some (.getfield 65, 3, 2, 0, 0, 9, 25, 0, 0, 0, []) := rfl
theorem i_X9_carries_158 : tab t_X9_carries 158 = some (.invokevirtual 516, 3, 1, 0, 0, 0, 222, 10, 0, 0, []) := rfl
theorem i_X9_carries_161 : tab t_X9_carries 161 = some (.aload_n 0, 1, 0, 0, 0, 0, 0, 0, 0, 0, []) := rfl
theorem i_X9_carries_162 : tab t_X9_carries 162 = some (.aload_n 0, 1, 0, 0, 0, 0, 0, 0, 0, 0, []) := rfl
theorem i_X9_carries_163 : tab t_X9_carries 163 = some (.getfield 68, 3, 2, 0, 0, 9, 26, 0, 0, 0, []) := rfl
theorem i_X9_carries_166 : tab t_X9_carries 166 = some (.invokevirtual 516, 3, 1, 0, 0, 0, 222, 10, 0, 0, []) := rfl
theorem i_X9_carries_169 : tab t_X9_carries 169 = some (.aload_n 0, 1, 0, 0, 0, 0, 0, 0, 0, 0, []) := rfl
theorem i_X9_carries_170 : tab t_X9_carries 170 = some (.aload_n 0, 1, 0, 0, 0, 0, 0, 0, 0, 0, []) := rfl
theorem i_X9_carries_171 : tab t_X9_carries 171 = some (.getfield 71, 3, 2, 0, 0, 9, 27, 0, 0, 0, []) := rfl
theorem i_X9_carries_174 : tab t_X9_carries 174 = some (.invokevirtual 516, 3, 1, 0, 0, 0, 222, 10, 0, 0, []) := rfl
theorem i_X9_carries_177 : tab t_X9_carries 177 = some (.aload_n 0, 1, 0, 0, 0, 0, 0, 0, 0, 0, []) := rfl
theorem i_X9_carries_178 : tab t_X9_carries 178 = some (.aload_n 0, 1, 0, 0, 0, 0, 0, 0, 0, 0, []) := rfl
theorem i_X9_carries_179 : tab t_X9_carries 179 = some (.getfield 74, 3, 2, 0, 0, 9, 28, 0, 0, 0, []) := rfl
theorem i_X9_carries_182 : tab t_X9_carries 182 = some (.invokevirtual 516, 3, 1, 0, 0, 0, 222, 10, 0, 0, []) := rfl
theorem i_X9_carries_185 : tab t_X9_carries 185 = some (.aload_n 0, 1, 0, 0, 0, 0, 0, 0, 0, 0, []) := rfl
theorem i_X9_carries_186 : tab t_X9_carries 186 = some (.aload_n 0, 1, 0, 0, 0, 0, 0, 0, 0, 0, []) := rfl
theorem i_X9_carries_187 : tab t_X9_carries 187 = some (.getfield 164, 3, 2, 0, 0, 9, 67, 0, 0, 0, []) := rfl
theorem i_X9_carries_190 : tab t_X9_carries 190 = some (.invokevirtual 516, 3, 1, 0, 0, 0, 222, 10, 0, 0, []) := rfl
theorem i_X9_carries_193 : tab t_X9_carries 193 = some (.aload_n 0, 1, 0, 0, 0, 0, 0, 0, 0, 0, []) := rfl
theorem i_X9_carries_194 : tab t_X9_carries 194 = some (.aload_n 0, 1, 0, 0, 0, 0, 0, 0, 0, 0, []) := rfl
theorem i_X9_carries_195 : tab t_X9_carries 195 = some (.getfield 125, 3, 2, 0, 0, 9, 52, 0, 0, 0, []) := rfl
theorem i_X9_carries_198 : tab t_X9_carries 198 = some (.invokevirtual 516, 3, 1, 0, 0, 0, 222, 10, 0, 0, []) := rfl
theorem i_X9_carries_201 : tab t_X9_carries 201 = some (.aload_n 0, 1, 0, 0, 0, 0, 0, 0, 0, 0, []) := rfl
theorem i_X9_carries_202 : tab t_X9_carries 202 = some (.aload_n 0, 1, 0, 0, 0, 0, 0, 0, 0, 0, []) := rfl
theorem i_X9_carries_203 : tab t_X9_carries 203 = some (.getfield 128, 3, 2, 0, 0, 9, 53, 0, 0, 0, []) := rfl
theorem i_X9_carries_206 : tab t_X9_carries 206 = some (.invokevirtual 516, 3, 1, 0, 0, 0, 222, 10, 0, 0, []) := rfl
theorem i_X9_carries_209 : tab t_X9_carries 209 = some (.aload_n 0, 1, 0, 0, 0, 0, 0, 0, 0, 0, []) := rfl
theorem i_X9_carries_210 : tab t_X9_carries 210 = some (.aload_n 0, 1, 0, 0, 0, 0, 0, 0, 0, 0, []) := rfl
theorem i_X9_carries_211 : tab t_X9_carries 211 = some (.getfield 131, 3, 2, 0, 0, 9, 54, 0, 0, 0, []) := rfl
theorem i_X9_carries_214 : tab t_X9_carries 214 = some (.invokevirtual 516, 3, 1, 0, 0, 0, 222, 10, 0, 0, []) := rfl
theorem i_X9_carries_217 : tab t_X9_carries 217 = some (.aload_n 0, 1, 0, 0, 0, 0, 0, 0, 0, 0, []) := rfl
theorem i_X9_carries_218 : tab t_X9_carries 218 = some (.aload_n 0, 1, 0, 0, 0, 0, 0, 0, 0, 0, []) := rfl
theorem i_X9_carries_219 : tab t_X9_carries 219 = some (.getfield 140, 3, 2, 0, 0, 9, 57, 0, 0, 0, []) := rfl
theorem i_X9_carries_222 : tab t_X9_carries 222 = some (.invokevirtual 516, 3, 1, 0, 0, 0, 222, 10, 0, 0, []) := rfl
theorem i_X9_carries_225 : tab t_X9_carries 225 = some (.aload_n 0, 1, 0, 0, 0, 0, 0, 0, 0, 0, []) := rfl
theorem i_X9_carries_226 : tab t_X9_carries 226 = some (.aload_n 0, 1, 0, 0, 0, 0, 0, 0, 0, 0, []) := rfl
theorem i_X9_carries_227 : tab t_X9_carries 227 = some (.getfield 143, 3, 2, 0, 0, 9, 58, 0, 0, 0, []) := rfl
theorem i_X9_carries_230 : tab t_X9_carries 230 = some (.invokevirtual 516, 3, 1, 0, 0, 0, 222, 10, 0, 0, []) := rfl
theorem i_X9_carries_233 : tab t_X9_carries 233 = some (.aload_n 0, 1, 0, 0, 0, 0, 0, 0, 0, 0, []) := rfl
theorem i_X9_carries_234 : tab t_X9_carries 234 = some (.aload_n 0, 1, 0, 0, 0, 0, 0, 0, 0, 0, []) := rfl
theorem i_X9_carries_235 : tab t_X9_carries 235 = some (.getfield 146, 3, 2, 0, 0, 9, 59, 0, 0, 0, []) := rfl
theorem i_X9_carries_238 : tab t_X9_carries 238 = some (.invokevirtual 516, 3, 1, 0, 0, 0, 222, 10, 0, 0, []) := rfl
theorem i_X9_carries_241 : tab t_X9_carries 241 = some (.aload_n 0, 1, 0, 0, 0, 0, 0, 0, 0, 0, []) := rfl
theorem i_X9_carries_242 : tab t_X9_carries 242 = some (.aload_n 0, 1, 0, 0, 0, 0, 0, 0, 0, 0, []) := rfl
theorem i_X9_carries_243 : tab t_X9_carries 243 = some (.getfield 149, 3, 2, 0, 0, 9, 60, 0, 0, 0, []) := rfl
theorem i_X9_carries_246 : tab t_X9_carries 246 = some (.invokevirtual 516, 3, 1, 0, 0, 0, 222, 10, 0, 0, []) := rfl
theorem i_X9_carries_249 : tab t_X9_carries 249 = some (.aload_n 0, 1, 0, 0, 0, 0, 0, 0, 0, 0, []) := rfl
theorem i_X9_carries_250 : tab t_X9_carries 250 = some (.aload_n 0, 1, 0, 0, 0, 0, 0, 0, 0, 0, []) := rfl
theorem i_X9_carries_251 : tab t_X9_carries 251 = some (.getfield 152, 3, 2, 0, 0, 9, 61, 0, 0, 0, []) := rfl
theorem i_X9_carries_254 : tab t_X9_carries 254 = some (.invokevirtual 516, 3, 1, 0, 0, 0, 222, 10, 0, 0, []) := rfl
theorem i_X9_carries_257 : tab t_X9_carries 257 = some (.aload_n 0, 1, 0, 0, 0, 0, 0, 0, 0, 0, []) := rfl
theorem i_X9_carries_258 : tab t_X9_carries 258 = some (.aload_n 0, 1, 0, 0, 0, 0, 0, 0, 0, 0, []) := rfl
theorem i_X9_carries_259 : tab t_X9_carries 259 = some (.getfield 155, 3, 2, 0, 0, 9, 62, 0, 0, 0, []) := rfl
theorem i_X9_carries_262 : tab t_X9_carries 262 = some (.invokevirtual 516, 3, 1, 0, 0, 0, 222, 10, 0, 0, []) := rfl
theorem i_X9_carries_265 : tab t_X9_carries 265 = some (.return_, 1, 0, 0, 0, 0, 0, 0, 0, 0, []) := rfl
def t_X9_mark : List (Nat × rw_) := [(0, (.iload_n 1, 1, 1, 0, 0, 0, 0, 0, 0, 0, [])), (1, (.i2l, 1, 0, 0, 0, 0, 0, 0, 0, 0, [])), (2, (.lconst 0, 1, 0, 0, 0, 0, 0, 0, 0, 0, [])), (3, (.ldc2_w 189, 3, 0, 0, 3, 0, 0, 0, 0, 0, [])), (6, (.invokestatic 175, 3, 3, 0, 0, 0, 126, 0, 0, 0, [])), (9, (.ifCond .ne 5, 3, 14, 0, 0, 0, 0, 0, 0, 0, [])), (12, (.iconst (-1), 1, 0, -1, 0, 0, 0, 0, 0, 0, [])), (13, (.ireturn, 1, 0, 0, 0, 0, 0, 0, 0, 0, [])), (14, (.aload_n 0, 1, 0, 0, 0, 0, 0, 0, 0, 0, [])), (15, (.getfield 161, 3, 2, 0, 0, 9, 66, 0, 0, 0, [])), (18, (.iconst 0, 1, 0, 0, 0, 0, 0, 0, 0, 0, [])), (19, (.aload_n 0, 1, 0, 0, 0, 0, 0, 0, 0, 0, [])), (20, (.getfield 179, 3, 0, 0, 0, 9, 1, 0, 0, 0, [])), (23, (.iastore, 1, 0, 0, 0, 0, 0, 0, 0, 0, [])), (24, (.aload_n 0, 1, 0, 0, 0, 0, 0, 0, 0, 0, [])), (25, (.getfield 161, 3, 2, 0, 0, 9, 66, 0, 0, 0, [])), (28, (.iconst 1, 1, 0, 1, 0, 0, 0, 0, 0, 0, [])), (29, (.aload_n 0, 1, 0, 0, 0, 0, 0, 0, 0, 0, [])), (30, (.getfield 182, 3, 0, 0, 0, 9, 2, 0, 0, 0, [])), (33, (.iastore, 1, 0, 0, 0, 0, 0, 0, 0, 0, [])), (34, (.aload_n 0, 1, 0, 0, 0, 0, 0, 0, 0, 0, [])), (35, (.getfield 161, 3, 2, 0, 0, 9, 66, 0, 0, 0, [])), (38, (.iconst 2, 1, 0, 2, 0, 0, 0, 0, 0, 0, [])), (39, (.aload_n 0, 1, 0, 0, 0, 0, 0, 0, 0, 0, [])), (40, (.getfield 197, 3, 0, 0, 0, 9, 3, 0, 0, 0, [])), (43, (.iastore, 1, 0, 0, 0, 0, 0, 0, 0, 0, [])), (44, (.aload_n 0, 1, 0, 0, 0, 0, 0, 0, 0, 0, [])), (45, (.getfield 161, 3, 2, 0, 0, 9, 66, 0, 0, 0, [])), (48, (.iconst 3, 1, 0, 3, 0, 0, 0, 0, 0, 0, [])), (49, (.aload_n 0, 1, 0, 0, 0, 0, 0, 0, 0, 0, [])), (50, (.getfield 223, 3, 0, 0, 0, 9, 4, 0, 0, 0, [])), (53, (.iastore, 1, 0, 0, 0, 0, 0, 0, 0, 0, [])), (54, (.aload_n 0, 1, 0, 0, 0, 0, 0, 0, 0, 0, [])), (55, (.getfield 161, 3, 2, 0, 0, 9, 66, 0, 0, 0, [])), (58, (.iconst 4, 1, 0, 4, 0, 0, 0, 0, 0, 0, [])), (59, (.aload_n 0, 1, 0, 0, 0, 0, 0, 0, 0, 0, [])), (60, (.getfield 432, 3, 0, 0, 0, 9, 5, 0, 0, 0, [])), (63, (.iastore, 1, 0, 0, 0, 0, 0, 0, 0, 0, [])), (64, (.aload_n 0, 1, 0, 0, 0, 0, 0, 0, 0, 0, [])), (65, (.getfield 161, 3, 2, 0, 0, 9, 66, 0, 0, 0, [])), (68, (.iconst 5, 1, 0, 5, 0, 0, 0, 0, 0, 0, [])), (69, (.aload_n 0, 1, 0, 0, 0, 0, 0, 0, 0, 0, [])), (70, (.getfield 461, 3, 0, 0, 0, 9, 6, 0, 0, 0, [])), (73, (.iastore, 1, 0, 0, 0, 0, 0, 0, 0, 0, [])), (74, (.aload_n 0, 1, 0, 0, 0, 0, 0, 0, 0, 0, [])), (75, (.getfield 161, 3, 2, 0, 0, 9, 66, 0, 0, 0, [])), (78, (.bipush 6, 2, 0, 6, 0, 0, 0, 0, 0, 0, [])), (80, (.aload_n 0, 1, 0, 0, 0, 0, 0, 0, 0, 0, [])), (81, (.getfield 7, 3, 0, 0, 0, 9, 7, 0, 0, 0, [])), (84, (.iastore, 1, 0, 0, 0, 0, 0, 0, 0, 0, [])), (85, (.iconst 0, 1, 0, 0, 0, 0, 0, 0, 0, 0, [])), (86, (.istore_n 2, 1, 2, 0, 0, 0, 0, 0, 0, 0, [])), (87, (.iload_n 2, 1, 2, 0, 0, 0, 0, 0, 0, 0, [])), (88, (.sipush 200, 3, 0, 200, 0, 0, 0, 0, 0, 0, [])), (91, (.if_icmp .ge 29, 3, 120, 0, 0, 0, 0, 0, 0, 0, [])), (94, (.aload_n 0, 1, 0, 0, 0, 0, 0, 0, 0, 0, [])), (95, (.getfield 164, 3, 2, 0, 0, 9, 67, 0, 0, 0, [])), (98, (.iload_n 2, 1, 2, 0, 0, 0, 0, 0, 0, 0, [])), (99, (.aload_n 0, 1, 0, 0, 0, 0, 0, 0, 0, 0, [])), (100, (.getfield 122, 3, 2, 0, 0, 9, 51, 0, 0, 0, [])), (103, (.iload_n 2, 1, 2, 0, 0, 0, 0, 0, 0, 0, [])), (104, (.baload, 1, 0, 0, 0, 0, 0, 0, 0, 0, [])), (105, (.ifCond .eq 7, 3, 112, 0, 0, 0, 0, 0, 0, 0, [])), (108, (.iconst 1, 1, 0, 1, 0, 0, 0, 0, 0, 0, [])), (109, (.goto 4, 3, 113, 0, 0, 0, 0, 0, 0, 0, [])), (112, (.iconst 0, 1, 0, 0, 0, 0, 0, 0, 0, 0, [])), (113, (.iastore, 1, 0, 0, 0, 0, 0, 0, 0, 0, [])), (114, (.iinc 2 1, 3, 2, 1, 0, 0, 0, 0, 0, 0, [])), (117, (.goto (-30), 3, 87, 0, 0, 0, 0, 0, 0, 0, [])), (120, (.aload_n 0, 1, 0, 0, 0, 0, 0, 0, 0, 0, [])), (121, (.getfield 167, 3, 2, 0, 0, 9, 68, 0, 0, 0, [])), (124, (.iload_n 1, 1, 1, 0, 0, 0, 0, 0, 0, 0, [])), (125, (.iconst 1, 1, 0, 1, 0, 0, 0, 0, 0, 0, [])), (126, (.bastore, 1, 0, 0, 0, 2, 0, 0, 0, 0, [])), (127, (.aload_n 0, 1, 0, 0, 0, 0, 0, 0, 0, 0, [])), (128, (.iconst 0, 1, 0, 0, 0, 0, 0, 0, 0, 0, [])), (129, (.putfield 509, 3, 0, 0, 0, 9, 70, 0, 0, 0, [])), (132, (.aload_n 0, 1, 0, 0, 0, 0, 0, 0, 0, 0, [])), (133, (.iload_n 1, 1, 1, 0, 0, 0, 0, 0, 0, 0, [])), (134, (.invokevirtual 520, 3, 1, 0, 0, 0, 223, 10, 0, 0, [])), (137, (.aload_n 0, 1, 0, 0, 0, 0, 0, 0, 0, 0, [])), (138, (.getfield 182, 3, 0, 0, 0, 9, 2, 0, 0, 0, [])), (141, (.ireturn, 1, 0, 0, 0, 0, 0, 0, 0, 0, []))]
set_option maxRecDepth 100000 in
theorem ok_X9_mark : tb_ok ctX9 m_X9_mark t_X9_mark = true := by decide +kernel
theorem i_X9_mark_0 : tab t_X9_mark 0 = some (.iload_n 1, 1, 1, 0, 0, 0, 0, 0, 0, 0, []) := rfl
theorem i_X9_mark_1 : tab t_X9_mark 1 = some (.i2l, 1, 0, 0, 0, 0, 0, 0, 0, 0, []) := rfl
theorem i_X9_mark_2 : tab t_X9_mark 2 = some (.lconst 0, 1, 0, 0, 0, 0, 0, 0, 0, 0, []) := rfl
theorem i_X9_mark_3 : tab t_X9_mark 3 = some (.ldc2_w 189, 3, 0, 0, 3, 0, 0, 0, 0, 0, []) := rfl
theorem i_X9_mark_6 : tab t_X9_mark 6 = some (.invokestatic 175, 3, 3, 0, 0, 0, 126, 0, 0, 0, []) := rfl
theorem i_X9_mark_9 : tab t_X9_mark 9 = some (.ifCond .ne 5, 3, 14, 0, 0, 0, 0, 0, 0, 0, []) := rfl
theorem i_X9_mark_12 : tab t_X9_mark 12 = some (.iconst (-1), 1, 0, -1, 0, 0, 0, 0, 0, 0, []) := rfl
theorem i_X9_mark_13 : tab t_X9_mark 13 = some (.ireturn, 1, 0, 0, 0, 0, 0, 0, 0, 0, []) := rfl
theorem i_X9_mark_14 : tab t_X9_mark 14 = some (.aload_n 0, 1, 0, 0, 0, 0, 0, 0, 0, 0, []) := rfl
theorem i_X9_mark_15 : tab t_X9_mark 15 = some (.getfield 161, 3, 2, 0, 0, 9, 66, 0, 0, 0, []) := rfl
theorem i_X9_mark_18 : tab t_X9_mark 18 = some (.iconst 0, 1, 0, 0, 0, 0, 0, 0, 0, 0, []) := rfl
theorem i_X9_mark_19 : tab t_X9_mark 19 = some (.aload_n 0, 1, 0, 0, 0, 0, 0, 0, 0, 0, []) := rfl
theorem i_X9_mark_20 : tab t_X9_mark 20 = some (.getfield 179, 3, 0, 0, 0, 9, 1, 0, 0, 0, []) := rfl
theorem i_X9_mark_23 : tab t_X9_mark 23 = some (.iastore, 1, 0, 0, 0, 0, 0, 0, 0, 0, []) := rfl
theorem i_X9_mark_24 : tab t_X9_mark 24 = some (.aload_n 0, 1, 0, 0, 0, 0, 0, 0, 0, 0, []) := rfl
theorem i_X9_mark_25 : tab t_X9_mark 25 = some (.getfield 161, 3, 2, 0, 0, 9, 66, 0, 0, 0, []) := rfl
theorem i_X9_mark_28 : tab t_X9_mark 28 = some (.iconst 1, 1, 0, 1, 0, 0, 0, 0, 0, 0, []) := rfl
theorem i_X9_mark_29 : tab t_X9_mark 29 = some (.aload_n 0, 1, 0, 0, 0, 0, 0, 0, 0, 0, []) := rfl
theorem i_X9_mark_30 : tab t_X9_mark 30 = some (.getfield 182, 3, 0, 0, 0, 9, 2, 0, 0, 0, []) := rfl
theorem i_X9_mark_33 : tab t_X9_mark 33 = some (.iastore, 1, 0, 0, 0, 0, 0, 0, 0, 0, []) := rfl
theorem i_X9_mark_34 : tab t_X9_mark 34 = some (.aload_n 0, 1, 0, 0, 0, 0, 0, 0, 0, 0, []) := rfl
theorem i_X9_mark_35 : tab t_X9_mark 35 = some (.getfield 161, 3, 2, 0, 0, 9, 66, 0, 0, 0, []) := rfl
theorem i_X9_mark_38 : tab t_X9_mark 38 = some (.iconst 2, 1, 0, 2, 0, 0, 0, 0, 0, 0, []) := rfl
theorem i_X9_mark_39 : tab t_X9_mark 39 = some (.aload_n 0, 1, 0, 0, 0, 0, 0, 0, 0, 0, []) := rfl
theorem i_X9_mark_40 : tab t_X9_mark 40 = some (.getfield 197, 3, 0, 0, 0, 9, 3, 0, 0, 0, []) := rfl
theorem i_X9_mark_43 : tab t_X9_mark 43 = some (.iastore, 1, 0, 0, 0, 0, 0, 0, 0, 0, []) := rfl
theorem i_X9_mark_44 : tab t_X9_mark 44 = some (.aload_n 0, 1, 0, 0, 0, 0, 0, 0, 0, 0, []) := rfl
theorem i_X9_mark_45 : tab t_X9_mark 45 = some (.getfield 161, 3, 2, 0, 0, 9, 66, 0, 0, 0, []) := rfl
theorem i_X9_mark_48 : tab t_X9_mark 48 = some (.iconst 3, 1, 0, 3, 0, 0, 0, 0, 0, 0, []) := rfl
theorem i_X9_mark_49 : tab t_X9_mark 49 = some (.aload_n 0, 1, 0, 0, 0, 0, 0, 0, 0, 0, []) := rfl
theorem i_X9_mark_50 : tab t_X9_mark 50 = some (.getfield 223, 3, 0, 0, 0, 9, 4, 0, 0, 0, []) := rfl
theorem i_X9_mark_53 : tab t_X9_mark 53 = some (.iastore, 1, 0, 0, 0, 0, 0, 0, 0, 0, []) := rfl
theorem i_X9_mark_54 : tab t_X9_mark 54 = some (.aload_n 0, 1, 0, 0, 0, 0, 0, 0, 0, 0, []) := rfl
theorem i_X9_mark_55 : tab t_X9_mark 55 = some (.getfield 161, 3, 2, 0, 0, 9, 66, 0, 0, 0, []) := rfl
theorem i_X9_mark_58 : tab t_X9_mark 58 = some (.iconst 4, 1, 0, 4, 0, 0, 0, 0, 0, 0, []) := rfl
theorem i_X9_mark_59 : tab t_X9_mark 59 = some (.aload_n 0, 1, 0, 0, 0, 0, 0, 0, 0, 0, []) := rfl
theorem i_X9_mark_60 : tab t_X9_mark 60 = some (.getfield 432, 3, 0, 0, 0, 9, 5, 0, 0, 0, []) := rfl
theorem i_X9_mark_63 : tab t_X9_mark 63 = some (.iastore, 1, 0, 0, 0, 0, 0, 0, 0, 0, []) := rfl
theorem i_X9_mark_64 : tab t_X9_mark 64 = some (.aload_n 0, 1, 0, 0, 0, 0, 0, 0, 0, 0, []) := rfl
theorem i_X9_mark_65 : tab t_X9_mark 65 = some (.getfield 161, 3, 2, 0, 0, 9, 66, 0, 0, 0, []) := rfl
theorem i_X9_mark_68 : tab t_X9_mark 68 = some (.iconst 5, 1, 0, 5, 0, 0, 0, 0, 0, 0, []) := rfl
theorem i_X9_mark_69 : tab t_X9_mark 69 = some (.aload_n 0, 1, 0, 0, 0, 0, 0, 0, 0, 0, []) := rfl
theorem i_X9_mark_70 : tab t_X9_mark 70 = some (.getfield 461, 3, 0, 0, 0, 9, 6, 0, 0, 0, []) := rfl
theorem i_X9_mark_73 : tab t_X9_mark 73 = some (.iastore, 1, 0, 0, 0, 0, 0, 0, 0, 0, []) := rfl
theorem i_X9_mark_74 : tab t_X9_mark 74 = some (.aload_n 0, 1, 0, 0, 0, 0, 0, 0, 0, 0, []) := rfl
theorem i_X9_mark_75 : tab t_X9_mark 75 = some (.getfield 161, 3, 2, 0, 0, 9, 66, 0, 0, 0, []) := rfl
theorem i_X9_mark_78 : tab t_X9_mark 78 = some (.bipush 6, 2, 0, 6, 0, 0, 0, 0, 0, 0, []) := rfl
theorem i_X9_mark_80 : tab t_X9_mark 80 = some (.aload_n 0, 1, 0, 0, 0, 0, 0, 0, 0, 0, []) := rfl
theorem i_X9_mark_81 : tab t_X9_mark 81 = some (.getfield 7, 3, 0, 0, 0, 9, 7, 0, 0, 0, []) := rfl
theorem i_X9_mark_84 : tab t_X9_mark 84 = some (.iastore, 1, 0, 0, 0, 0, 0, 0, 0, 0, []) := rfl
theorem i_X9_mark_85 : tab t_X9_mark 85 = some (.iconst 0, 1, 0, 0, 0, 0, 0, 0, 0, 0, []) := rfl
theorem i_X9_mark_86 : tab t_X9_mark 86 = some (.istore_n 2, 1, 2, 0, 0, 0, 0, 0, 0, 0, []) := rfl
theorem i_X9_mark_87 : tab t_X9_mark 87 = some (.iload_n 2, 1, 2, 0, 0, 0, 0, 0, 0, 0, []) := rfl
theorem i_X9_mark_88 : tab t_X9_mark 88 = some (.sipush 200, 3, 0, 200, 0, 0, 0, 0, 0, 0, []) := rfl
theorem i_X9_mark_91 : tab t_X9_mark 91 = some (.if_icmp .ge 29, 3, 120, 0, 0, 0, 0, 0, 0, 0, []) := rfl
theorem i_X9_mark_94 : tab t_X9_mark 94 = some (.aload_n 0, 1, 0, 0, 0, 0, 0, 0, 0, 0, []) := rfl
theorem i_X9_mark_95 : tab t_X9_mark 95 = some (.getfield 164, 3, 2, 0, 0, 9, 67, 0, 0, 0, []) := rfl
theorem i_X9_mark_98 : tab t_X9_mark 98 = some (.iload_n 2, 1, 2, 0, 0, 0, 0, 0, 0, 0, []) := rfl
theorem i_X9_mark_99 : tab t_X9_mark 99 = some (.aload_n 0, 1, 0, 0, 0, 0, 0, 0, 0, 0, []) := rfl
theorem i_X9_mark_100 : tab t_X9_mark 100 = some (.getfield 122, 3, 2, 0, 0, 9, 51, 0, 0, 0, []) := rfl
theorem i_X9_mark_103 : tab t_X9_mark 103 = some (.iload_n 2, 1, 2, 0, 0, 0, 0, 0, 0, 0, []) := rfl
theorem i_X9_mark_104 : tab t_X9_mark 104 = some (.baload, 1, 0, 0, 0, 0, 0, 0, 0, 0, []) := rfl
theorem i_X9_mark_105 : tab t_X9_mark 105 = some (.ifCond .eq 7, 3, 112, 0, 0, 0, 0, 0, 0, 0, []) := rfl
theorem i_X9_mark_108 : tab t_X9_mark 108 = some (.iconst 1, 1, 0, 1, 0, 0, 0, 0, 0, 0, []) := rfl
theorem i_X9_mark_109 : tab t_X9_mark 109 = some (.goto 4, 3, 113, 0, 0, 0, 0, 0, 0, 0, []) := rfl
theorem i_X9_mark_112 : tab t_X9_mark 112 = some (.iconst 0, 1, 0, 0, 0, 0, 0, 0, 0, 0, []) := rfl
theorem i_X9_mark_113 : tab t_X9_mark 113 = some (.iastore, 1, 0, 0, 0, 0, 0, 0, 0, 0, []) := rfl
theorem i_X9_mark_114 : tab t_X9_mark 114 = some (.iinc 2 1, 3, 2, 1, 0, 0, 0, 0, 0, 0, []) := rfl
theorem i_X9_mark_117 : tab t_X9_mark 117 = some (.goto (-30), 3, 87, 0, 0, 0, 0, 0, 0, 0, []) := rfl
theorem i_X9_mark_120 : tab t_X9_mark 120 = some (.aload_n 0, 1, 0, 0, 0, 0, 0, 0, 0, 0, []) := rfl
theorem i_X9_mark_121 : tab t_X9_mark 121 = some (.getfield 167, 3, 2, 0, 0, 9, 68, 0, 0, 0, []) := rfl
theorem i_X9_mark_124 : tab t_X9_mark 124 = some (.iload_n 1, 1, 1, 0, 0, 0, 0, 0, 0, 0, []) := rfl
theorem i_X9_mark_125 : tab t_X9_mark 125 = some (.iconst 1, 1, 0, 1, 0, 0, 0, 0, 0, 0, []) := rfl
theorem i_X9_mark_126 : tab t_X9_mark 126 = some (.bastore, 1, 0, 0, 0, 2, 0, 0, 0, 0, []) := rfl
theorem i_X9_mark_127 : tab t_X9_mark 127 = some (.aload_n 0, 1, 0, 0, 0, 0, 0, 0, 0, 0, []) := rfl
theorem i_X9_mark_128 : tab t_X9_mark 128 = some (.iconst 0, 1, 0, 0, 0, 0, 0, 0, 0, 0, []) := rfl
theorem i_X9_mark_129 : tab t_X9_mark 129 = some (.putfield 509, 3, 0, 0, 0, 9, 70, 0, 0, 0, []) := rfl
theorem i_X9_mark_132 : tab t_X9_mark 132 = some (.aload_n 0, 1, 0, 0, 0, 0, 0, 0, 0, 0, []) := rfl
theorem i_X9_mark_133 : tab t_X9_mark 133 = some (.iload_n 1, 1, 1, 0, 0, 0, 0, 0, 0, 0, []) := rfl
theorem i_X9_mark_134 : tab t_X9_mark 134 = some (.invokevirtual 520, 3, 1, 0, 0, 0, 223, 10, 0, 0, []) := rfl
theorem i_X9_mark_137 : tab t_X9_mark 137 = some (.aload_n 0, 1, 0, 0, 0, 0, 0, 0, 0, 0, []) := rfl
theorem i_X9_mark_138 : tab t_X9_mark 138 = some (.getfield 182, 3, 0, 0, 0, 9, 2, 0, 0, 0, []) := rfl
theorem i_X9_mark_141 : tab t_X9_mark 141 = some (.ireturn, 1, 0, 0, 0, 0, 0, 0, 0, 0, []) := rfl
def t_X9_back : List (Nat × rw_) := [(0, (.iload_n 1, 1, 1, 0, 0, 0, 0, 0, 0, 0, [])), (1, (.i2l, 1, 0, 0, 0, 0, 0, 0, 0, 0, [])), (2, (.lconst 0, 1, 0, 0, 0, 0, 0, 0, 0, 0, [])), (3, (.ldc2_w 189, 3, 0, 0, 3, 0, 0, 0, 0, 0, [])), (6, (.invokestatic 175, 3, 3, 0, 0, 0, 126, 0, 0, 0, [])), (9, (.ifCond .eq 12, 3, 21, 0, 0, 0, 0, 0, 0, 0, [])), (12, (.aload_n 0, 1, 0, 0, 0, 0, 0, 0, 0, 0, [])), (13, (.getfield 167, 3, 2, 0, 0, 9, 68, 0, 0, 0, [])), (16, (.iload_n 1, 1, 1, 0, 0, 0, 0, 0, 0, 0, [])), (17, (.baload, 1, 0, 0, 0, 0, 0, 0, 0, 0, [])), (18, (.ifCond .ne 5, 3, 23, 0, 0, 0, 0, 0, 0, 0, [])), (21, (.iconst (-1), 1, 0, -1, 0, 0, 0, 0, 0, 0, [])), (22, (.ireturn, 1, 0, 0, 0, 0, 0, 0, 0, 0, [])), (23, (.aload_n 0, 1, 0, 0, 0, 0, 0, 0, 0, 0, [])), (24, (.iconst 1, 1, 0, 1, 0, 0, 0, 0, 0, 0, [])), (25, (.putfield 509, 3, 0, 0, 0, 9, 70, 0, 0, 0, [])), (28, (.aload_n 0, 1, 0, 0, 0, 0, 0, 0, 0, 0, [])), (29, (.iload_n 1, 1, 1, 0, 0, 0, 0, 0, 0, 0, [])), (30, (.invokevirtual 520, 3, 1, 0, 0, 0, 223, 10, 0, 0, [])), (33, (.aload_n 0, 1, 0, 0, 0, 0, 0, 0, 0, 0, [])), (34, (.aload_n 0, 1, 0, 0, 0, 0, 0, 0, 0, 0, [])), (35, (.getfield 161, 3, 2, 0, 0, 9, 66, 0, 0, 0, [])), (38, (.iconst 0, 1, 0, 0, 0, 0, 0, 0, 0, 0, [])), (39, (.iaload, 1, 0, 0, 0, 0, 0, 0, 0, 0, [])), (40, (.putfield 179, 3, 0, 0, 0, 9, 1, 0, 0, 0, [])), (43, (.aload_n 0, 1, 0, 0, 0, 0, 0, 0, 0, 0, [])), (44, (.aload_n 0, 1, 0, 0, 0, 0, 0, 0, 0, 0, [])), (45, (.getfield 161, 3, 2, 0, 0, 9, 66, 0, 0, 0, [])), (48, (.iconst 1, 1, 0, 1, 0, 0, 0, 0, 0, 0, [])), (49, (.iaload, 1, 0, 0, 0, 0, 0, 0, 0, 0, [])), (50, (.putfield 182, 3, 0, 0, 0, 9, 2, 0, 0, 0, [])), (53, (.aload_n 0, 1, 0, 0, 0, 0, 0, 0, 0, 0, [])), (54, (.aload_n 0, 1, 0, 0, 0, 0, 0, 0, 0, 0, [])), (55, (.getfield 161, 3, 2, 0, 0, 9, 66, 0, 0, 0, [])), (58, (.iconst 2, 1, 0, 2, 0, 0, 0, 0, 0, 0, [])), (59, (.iaload, 1, 0, 0, 0, 0, 0, 0, 0, 0, [])), (60, (.putfield 197, 3, 0, 0, 0, 9, 3, 0, 0, 0, [])), (63, (.aload_n 0, 1, 0, 0, 0, 0, 0, 0, 0, 0, [])), (64, (.aload_n 0, 1, 0, 0, 0, 0, 0, 0, 0, 0, [])), (65, (.getfield 161, 3, 2, 0, 0, 9, 66, 0, 0, 0, [])), (68, (.iconst 3, 1, 0, 3, 0, 0, 0, 0, 0, 0, [])), (69, (.iaload, 1, 0, 0, 0, 0, 0, 0, 0, 0, [])), (70, (.putfield 223, 3, 0, 0, 0, 9, 4, 0, 0, 0, [])), (73, (.aload_n 0, 1, 0, 0, 0, 0, 0, 0, 0, 0, [])), (74, (.aload_n 0, 1, 0, 0, 0, 0, 0, 0, 0, 0, [])), (75, (.getfield 161, 3, 2, 0, 0, 9, 66, 0, 0, 0, [])), (78, (.iconst 4, 1, 0, 4, 0, 0, 0, 0, 0, 0, [])), (79, (.iaload, 1, 0, 0, 0, 0, 0, 0, 0, 0, [])), (80, (.putfield 432, 3, 0, 0, 0, 9, 5, 0, 0, 0, [])), (83, (.aload_n 0, 1, 0, 0, 0, 0, 0, 0, 0, 0, [])), (84, (.aload_n 0, 1, 0, 0, 0, 0, 0, 0, 0, 0, [])), (85, (.getfield 161, 3, 2, 0, 0, 9, 66, 0, 0, 0, [])), (88, (.iconst 5, 1, 0, 5, 0, 0, 0, 0, 0, 0, [])), (89, (.iaload, 1, 0, 0, 0, 0, 0, 0, 0, 0, [])), (90, (.putfield 461, 3, 0, 0, 0, 9, 6, 0, 0, 0, [])), (93, (.aload_n 0, 1, 0, 0, 0, 0, 0, 0, 0, 0, [])), (94, (.aload_n 0, 1, 0, 0, 0, 0, 0, 0, 0, 0, [])), (95, (.getfield 161, 3, 2, 0, 0, 9, 66, 0, 0, 0, [])), (98, (.bipush 6, 2, 0, 6, 0, 0, 0, 0, 0, 0, [])), (100, (.iaload, 1, 0, 0, 0, 0, 0, 0, 0, 0, [])), (101, (.putfield 7, 3, 0, 0, 0, 9, 7, 0, 0, 0, [])), (104, (.iconst 0, 1, 0, 0, 0, 0, 0, 0, 0, 0, [])), (105, (.istore_n 2, 1, 2, 0, 0, 0, 0, 0, 0, 0, [])), (106, (.iload_n 2, 1, 2, 0, 0, 0, 0, 0, 0, 0, [])), (107, (.sipush 200, 3, 0, 200, 0, 0, 0, 0, 0, 0, [])), (110, (.if_icmp .ge 30, 3, 140, 0, 0, 0, 0, 0, 0, 0, [])), (113, (.aload_n 0, 1, 0, 0, 0, 0, 0, 0, 0, 0, [])), (114, (.getfield 122, 3, 2, 0, 0, 9, 51, 0, 0, 0, [])), (117, (.iload_n 2, 1, 2, 0, 0, 0, 0, 0, 0, 0, [])), (118, (.aload_n 0, 1, 0, 0, 0, 0, 0, 0, 0, 0, [])), (119, (.getfield 164, 3, 2, 0, 0, 9, 67, 0, 0, 0, [])), (122, (.iload_n 2, 1, 2, 0, 0, 0, 0, 0, 0, 0, [])), (123, (.iaload, 1, 0, 0, 0, 0, 0, 0, 0, 0, [])), (124, (.iconst 1, 1, 0, 1, 0, 0, 0, 0, 0, 0, [])), (125, (.if_icmp .ne 7, 3, 132, 0, 0, 0, 0, 0, 0, 0, [])), (128, (.iconst 1, 1, 0, 1, 0, 0, 0, 0, 0, 0, [])), (129, (.goto 4, 3, 133, 0, 0, 0, 0, 0, 0, 0, [])), (132, (.iconst 0, 1, 0, 0, 0, 0, 0, 0, 0, 0, [])), (133, (.bastore, 1, 0, 0, 0, 2, 0, 0, 0, 0, [])), (134, (.iinc 2 1, 3, 2, 1, 0, 0, 0, 0, 0, 0, [])), (137, (.goto (-31), 3, 106, 0, 0, 0, 0, 0, 0, 0, [])), (140, (.aload_n 0, 1, 0, 0, 0, 0, 0, 0, 0, 0, [])), (141, (.getfield 182, 3, 0, 0, 0, 9, 2, 0, 0, 0, [])), (144, (.ireturn, 1, 0, 0, 0, 0, 0, 0, 0, 0, []))]
set_option maxRecDepth 100000 in
theorem ok_X9_back : tb_ok ctX9 m_X9_back t_X9_back = true := by decide +kernel
theorem i_X9_back_0 : tab t_X9_back 0 = some (.iload_n 1, 1, 1, 0, 0, 0, 0, 0, 0, 0, []) := rfl
theorem i_X9_back_1 : tab t_X9_back 1 = some (.i2l, 1, 0, 0, 0, 0, 0, 0, 0, 0, []) := rfl
theorem i_X9_back_2 : tab t_X9_back 2 = some (.lconst 0, 1, 0, 0, 0, 0, 0, 0, 0, 0, []) := rfl
theorem i_X9_back_3 : tab t_X9_back 3 = some (.ldc2_w 189, 3, 0, 0, 3, 0, 0, 0, 0, 0, []) := rfl
theorem i_X9_back_6 : tab t_X9_back 6 = some (.invokestatic 175, 3, 3, 0, 0, 0, 126, 0, 0, 0, []) := rfl
theorem i_X9_back_9 : tab t_X9_back 9 = some (.ifCond .eq 12, 3, 21, 0, 0, 0, 0, 0, 0, 0, []) := rfl
theorem i_X9_back_12 : tab t_X9_back 12 = some (.aload_n 0, 1, 0, 0, 0, 0, 0, 0, 0, 0, []) := rfl
theorem i_X9_back_13 : tab t_X9_back 13 = some (.getfield 167, 3, 2, 0, 0, 9, 68, 0, 0, 0, []) := rfl
theorem i_X9_back_16 : tab t_X9_back 16 = some (.iload_n 1, 1, 1, 0, 0, 0, 0, 0, 0, 0, []) := rfl
theorem i_X9_back_17 : tab t_X9_back 17 = some (.baload, 1, 0, 0, 0, 0, 0, 0, 0, 0, []) := rfl
theorem i_X9_back_18 : tab t_X9_back 18 = some (.ifCond .ne 5, 3, 23, 0, 0, 0, 0, 0, 0, 0, []) := rfl
theorem i_X9_back_21 : tab t_X9_back 21 = some (.iconst (-1), 1, 0, -1, 0, 0, 0, 0, 0, 0, []) := rfl
theorem i_X9_back_22 : tab t_X9_back 22 = some (.ireturn, 1, 0, 0, 0, 0, 0, 0, 0, 0, []) := rfl
theorem i_X9_back_23 : tab t_X9_back 23 = some (.aload_n 0, 1, 0, 0, 0, 0, 0, 0, 0, 0, []) := rfl
theorem i_X9_back_24 : tab t_X9_back 24 = some (.iconst 1, 1, 0, 1, 0, 0, 0, 0, 0, 0, []) := rfl
theorem i_X9_back_25 : tab t_X9_back 25 = some (.putfield 509, 3, 0, 0, 0, 9, 70, 0, 0, 0, []) := rfl
theorem i_X9_back_28 : tab t_X9_back 28 = some (.aload_n 0, 1, 0, 0, 0, 0, 0, 0, 0, 0, []) := rfl
theorem i_X9_back_29 : tab t_X9_back 29 = some (.iload_n 1, 1, 1, 0, 0, 0, 0, 0, 0, 0, []) := rfl
theorem i_X9_back_30 : tab t_X9_back 30 = some (.invokevirtual 520, 3, 1, 0, 0, 0, 223, 10, 0, 0, []) := rfl
theorem i_X9_back_33 : tab t_X9_back 33 = some (.aload_n 0, 1, 0, 0, 0, 0, 0, 0, 0, 0, []) := rfl
theorem i_X9_back_34 : tab t_X9_back 34 = some (.aload_n 0, 1, 0, 0, 0, 0, 0, 0, 0, 0, []) := rfl
theorem i_X9_back_35 : tab t_X9_back 35 = some (.getfield 161, 3, 2, 0, 0, 9, 66, 0, 0, 0, []) := rfl
theorem i_X9_back_38 : tab t_X9_back 38 = some (.iconst 0, 1, 0, 0, 0, 0, 0, 0, 0, 0, []) := rfl
theorem i_X9_back_39 : tab t_X9_back 39 = some (.iaload, 1, 0, 0, 0, 0, 0, 0, 0, 0, []) := rfl
theorem i_X9_back_40 : tab t_X9_back 40 = some (.putfield 179, 3, 0, 0, 0, 9, 1, 0, 0, 0, []) := rfl
theorem i_X9_back_43 : tab t_X9_back 43 = some (.aload_n 0, 1, 0, 0, 0, 0, 0, 0, 0, 0, []) := rfl
theorem i_X9_back_44 : tab t_X9_back 44 = some (.aload_n 0, 1, 0, 0, 0, 0, 0, 0, 0, 0, []) := rfl
theorem i_X9_back_45 : tab t_X9_back 45 = some (.getfield 161, 3, 2, 0, 0, 9, 66, 0, 0, 0, []) := rfl
theorem i_X9_back_48 : tab t_X9_back 48 = some (.iconst 1, 1, 0, 1, 0, 0, 0, 0, 0, 0, []) := rfl
theorem i_X9_back_49 : tab t_X9_back 49 = some (.iaload, 1, 0, 0, 0, 0, 0, 0, 0, 0, []) := rfl
theorem i_X9_back_50 : tab t_X9_back 50 = some (.putfield 182, 3, 0, 0, 0, 9, 2, 0, 0, 0, []) := rfl
theorem i_X9_back_53 : tab t_X9_back 53 = some (.aload_n 0, 1, 0, 0, 0, 0, 0, 0, 0, 0, []) := rfl
theorem i_X9_back_54 : tab t_X9_back 54 = some (.aload_n 0, 1, 0, 0, 0, 0, 0, 0, 0, 0, []) := rfl
theorem i_X9_back_55 : tab t_X9_back 55 = some (.getfield 161, 3, 2, 0, 0, 9, 66, 0, 0, 0, []) := rfl
theorem i_X9_back_58 : tab t_X9_back 58 = some (.iconst 2, 1, 0, 2, 0, 0, 0, 0, 0, 0, []) := rfl
theorem i_X9_back_59 : tab t_X9_back 59 = some (.iaload, 1, 0, 0, 0, 0, 0, 0, 0, 0, []) := rfl
theorem i_X9_back_60 : tab t_X9_back 60 = some (.putfield 197, 3, 0, 0, 0, 9, 3, 0, 0, 0, []) := rfl
theorem i_X9_back_63 : tab t_X9_back 63 = some (.aload_n 0, 1, 0, 0, 0, 0, 0, 0, 0, 0, []) := rfl
theorem i_X9_back_64 : tab t_X9_back 64 = some (.aload_n 0, 1, 0, 0, 0, 0, 0, 0, 0, 0, []) := rfl
theorem i_X9_back_65 : tab t_X9_back 65 = some (.getfield 161, 3, 2, 0, 0, 9, 66, 0, 0, 0, []) := rfl
theorem i_X9_back_68 : tab t_X9_back 68 = some (.iconst 3, 1, 0, 3, 0, 0, 0, 0, 0, 0, []) := rfl
theorem i_X9_back_69 : tab t_X9_back 69 = some (.iaload, 1, 0, 0, 0, 0, 0, 0, 0, 0, []) := rfl
theorem i_X9_back_70 : tab t_X9_back 70 = some (.putfield 223, 3, 0, 0, 0, 9, 4, 0, 0, 0, []) := rfl
theorem i_X9_back_73 : tab t_X9_back 73 = some (.aload_n 0, 1, 0, 0, 0, 0, 0, 0, 0, 0, []) := rfl
theorem i_X9_back_74 : tab t_X9_back 74 = some (.aload_n 0, 1, 0, 0, 0, 0, 0, 0, 0, 0, []) := rfl
theorem i_X9_back_75 : tab t_X9_back 75 = some (.getfield 161, 3, 2, 0, 0, 9, 66, 0, 0, 0, []) := rfl
theorem i_X9_back_78 : tab t_X9_back 78 = some (.iconst 4, 1, 0, 4, 0, 0, 0, 0, 0, 0, []) := rfl
theorem i_X9_back_79 : tab t_X9_back 79 = some (.iaload, 1, 0, 0, 0, 0, 0, 0, 0, 0, []) := rfl
theorem i_X9_back_80 : tab t_X9_back 80 = some (.putfield 432, 3, 0, 0, 0, 9, 5, 0, 0, 0, []) := rfl
theorem i_X9_back_83 : tab t_X9_back 83 = some (.aload_n 0, 1, 0, 0, 0, 0, 0, 0, 0, 0, []) := rfl
theorem i_X9_back_84 : tab t_X9_back 84 = some (.aload_n 0, 1, 0, 0, 0, 0, 0, 0, 0, 0, []) := rfl
theorem i_X9_back_85 : tab t_X9_back 85 = some (.getfield 161, 3, 2, 0, 0, 9, 66, 0, 0, 0, []) := rfl
theorem i_X9_back_88 : tab t_X9_back 88 = some (.iconst 5, 1, 0, 5, 0, 0, 0, 0, 0, 0, []) := rfl
theorem i_X9_back_89 : tab t_X9_back 89 = some (.iaload, 1, 0, 0, 0, 0, 0, 0, 0, 0, []) := rfl
theorem i_X9_back_90 : tab t_X9_back 90 = some (.putfield 461, 3, 0, 0, 0, 9, 6, 0, 0, 0, []) := rfl
theorem i_X9_back_93 : tab t_X9_back 93 = some (.aload_n 0, 1, 0, 0, 0, 0, 0, 0, 0, 0, []) := rfl
theorem i_X9_back_94 : tab t_X9_back 94 = some (.aload_n 0, 1, 0, 0, 0, 0, 0, 0, 0, 0, []) := rfl
theorem i_X9_back_95 : tab t_X9_back 95 = some (.getfield 161, 3, 2, 0, 0, 9, 66, 0, 0, 0, []) := rfl
theorem i_X9_back_98 : tab t_X9_back 98 = some (.bipush 6, 2, 0, 6, 0, 0, 0, 0, 0, 0, []) := rfl
theorem i_X9_back_100 : tab t_X9_back 100 = some (.iaload, 1, 0, 0, 0, 0, 0, 0, 0, 0, []) := rfl
theorem i_X9_back_101 : tab t_X9_back 101 = some (.putfield 7, 3, 0, 0, 0, 9, 7, 0, 0, 0, []) := rfl
theorem i_X9_back_104 : tab t_X9_back 104 = some (.iconst 0, 1, 0, 0, 0, 0, 0, 0, 0, 0, []) := rfl
theorem i_X9_back_105 : tab t_X9_back 105 = some (.istore_n 2, 1, 2, 0, 0, 0, 0, 0, 0, 0, []) := rfl
theorem i_X9_back_106 : tab t_X9_back 106 = some (.iload_n 2, 1, 2, 0, 0, 0, 0, 0, 0, 0, []) := rfl
theorem i_X9_back_107 : tab t_X9_back 107 = some (.sipush 200, 3, 0, 200, 0, 0, 0, 0, 0, 0, []) := rfl
theorem i_X9_back_110 : tab t_X9_back 110 = some (.if_icmp .ge 30, 3, 140, 0, 0, 0, 0, 0, 0, 0, []) := rfl
theorem i_X9_back_113 : tab t_X9_back 113 = some (.aload_n 0, 1, 0, 0, 0, 0, 0, 0, 0, 0, []) := rfl
theorem i_X9_back_114 : tab t_X9_back 114 = some (.getfield 122, 3, 2, 0, 0, 9, 51, 0, 0, 0, []) := rfl
theorem i_X9_back_117 : tab t_X9_back 117 = some (.iload_n 2, 1, 2, 0, 0, 0, 0, 0, 0, 0, []) := rfl
theorem i_X9_back_118 : tab t_X9_back 118 = some (.aload_n 0, 1, 0, 0, 0, 0, 0, 0, 0, 0, []) := rfl
theorem i_X9_back_119 : tab t_X9_back 119 = some (.getfield 164, 3, 2, 0, 0, 9, 67, 0, 0, 0, []) := rfl
theorem i_X9_back_122 : tab t_X9_back 122 = some (.iload_n 2, 1, 2, 0, 0, 0, 0, 0, 0, 0, []) := rfl
theorem i_X9_back_123 : tab t_X9_back 123 = some (.iaload, 1, 0, 0, 0, 0, 0, 0, 0, 0, []) := rfl
theorem i_X9_back_124 : tab t_X9_back 124 = some (.iconst 1, 1, 0, 1, 0, 0, 0, 0, 0, 0, []) := rfl
theorem i_X9_back_125 : tab t_X9_back 125 = some (.if_icmp .ne 7, 3, 132, 0, 0, 0, 0, 0, 0, 0, []) := rfl
theorem i_X9_back_128 : tab t_X9_back 128 = some (.iconst 1, 1, 0, 1, 0, 0, 0, 0, 0, 0, []) := rfl
theorem i_X9_back_129 : tab t_X9_back 129 = some (.goto 4, 3, 133, 0, 0, 0, 0, 0, 0, 0, []) := rfl
theorem i_X9_back_132 : tab t_X9_back 132 = some (.iconst 0, 1, 0, 0, 0, 0, 0, 0, 0, 0, []) := rfl
theorem i_X9_back_133 : tab t_X9_back 133 = some (.bastore, 1, 0, 0, 0, 2, 0, 0, 0, 0, []) := rfl
theorem i_X9_back_134 : tab t_X9_back 134 = some (.iinc 2 1, 3, 2, 1, 0, 0, 0, 0, 0, 0, []) := rfl
theorem i_X9_back_137 : tab t_X9_back 137 = some (.goto (-31), 3, 106, 0, 0, 0, 0, 0, 0, 0, []) := rfl
theorem i_X9_back_140 : tab t_X9_back 140 = some (.aload_n 0, 1, 0, 0, 0, 0, 0, 0, 0, 0, []) := rfl
theorem i_X9_back_141 : tab t_X9_back 141 = some (.getfield 182, 3, 0, 0, 0, 9, 2, 0, 0, 0, []) := rfl
theorem i_X9_back_144 : tab t_X9_back 144 = some (.ireturn, 1, 0, 0, 0, 0, 0, 0, 0, 0, []) := rfl
def t_X9_count : List (Nat × rw_) := [(0, (.iload_n 1, 1, 1, 0, 0, 0, 0, 0, 0, 0, [])), (1, (.tableswitch 129 0 8 #[51, 56, 61, 66, 71, 109, 114, 119, 124], 51, 130, 0, 0, 0, 0, 0, 0, 0, [(0, 52), (1, 57), (2, 62), (3, 67), (4, 72), (5, 110), (6, 115), (7, 120), (8, 125)])), (52, (.aload_n 0, 1, 0, 0, 0, 0, 0, 0, 0, 0, [])), (53, (.getfield 179, 3, 0, 0, 0, 9, 1, 0, 0, 0, [])), (56, (.ireturn, 1, 0, 0, 0, 0, 0, 0, 0, 0, [])), (57, (.aload_n 0, 1, 0, 0, 0, 0, 0, 0, 0, 0, [])), (58, (.getfield 182, 3, 0, 0, 0, 9, 2, 0, 0, 0, [])), (61, (.ireturn, 1, 0, 0, 0, 0, 0, 0, 0, 0, [])), (62, (.aload_n 0, 1, 0, 0, 0, 0, 0, 0, 0, 0, [])), (63, (.getfield 197, 3, 0, 0, 0, 9, 3, 0, 0, 0, [])), (66, (.ireturn, 1, 0, 0, 0, 0, 0, 0, 0, 0, [])), (67, (.aload_n 0, 1, 0, 0, 0, 0, 0, 0, 0, 0, [])), (68, (.getfield 223, 3, 0, 0, 0, 9, 4, 0, 0, 0, [])), (71, (.ireturn, 1, 0, 0, 0, 0, 0, 0, 0, 0, [])), (72, (.iconst 0, 1, 0, 0, 0, 0, 0, 0, 0, 0, [])), (73, (.istore_n 2, 1, 2, 0, 0, 0, 0, 0, 0, 0, [])), (74, (.iconst 0, 1, 0, 0, 0, 0, 0, 0, 0, 0, [])), (75, (.istore_n 3, 1, 3, 0, 0, 0, 0, 0, 0, 0, [])), (76, (.iload_n 3, 1, 3, 0, 0, 0, 0, 0, 0, 0, [])), (77, (.aload_n 0, 1, 0, 0, 0, 0, 0, 0, 0, 0, [])), (78, (.getfield 182, 3, 0, 0, 0, 9, 2, 0, 0, 0, [])), (81, (.if_icmp .ge 27, 3, 108, 0, 0, 0, 0, 0, 0, 0, [])), (84, (.iload_n 2, 1, 2, 0, 0, 0, 0, 0, 0, 0, [])), (85, (.aload_n 0, 1, 0, 0, 0, 0, 0, 0, 0, 0, [])), (86, (.getfield 50, 3, 2, 0, 0, 9, 20, 0, 0, 0, [])), (89, (.iload_n 3, 1, 3, 0, 0, 0, 0, 0, 0, 0, [])), (90, (.iaload, 1, 0, 0, 0, 0, 0, 0, 0, 0, [])), (91, (.iconst (-1), 1, 0, -1, 0, 0, 0, 0, 0, 0, [])), (92, (.if_icmp .eq 7, 3, 99, 0, 0, 0, 0, 0, 0, 0, [])), (95, (.iconst 1, 1, 0, 1, 0, 0, 0, 0, 0, 0, [])), (96, (.goto 4, 3, 100, 0, 0, 0, 0, 0, 0, 0, [])), (99, (.iconst 0, 1, 0, 0, 0, 0, 0, 0, 0, 0, [])), (100, (.iadd, 1, 0, 0, 0, 0, 0, 0, 0, 0, [])), (101, (.istore_n 2, 1, 2, 0, 0, 0, 0, 0, 0, 0, [])), (102, (.iinc 3 1, 3, 3, 1, 0, 0, 0, 0, 0, 0, [])), (105, (.goto (-29), 3, 76, 0, 0, 0, 0, 0, 0, 0, [])), (108, (.iload_n 2, 1, 2, 0, 0, 0, 0, 0, 0, 0, [])), (109, (.ireturn, 1, 0, 0, 0, 0, 0, 0, 0, 0, [])), (110, (.aload_n 0, 1, 0, 0, 0, 0, 0, 0, 0, 0, [])), (111, (.getfield 294, 3, 0, 0, 0, 9, 32, 0, 0, 0, [])), (114, (.ireturn, 1, 0, 0, 0, 0, 0, 0, 0, 0, [])), (115, (.aload_n 0, 1, 0, 0, 0, 0, 0, 0, 0, 0, [])), (116, (.getfield 432, 3, 0, 0, 0, 9, 5, 0, 0, 0, [])), (119, (.ireturn, 1, 0, 0, 0, 0, 0, 0, 0, 0, [])), (120, (.aload_n 0, 1, 0, 0, 0, 0, 0, 0, 0, 0, [])), (121, (.getfield 461, 3, 0, 0, 0, 9, 6, 0, 0, 0, [])), (124, (.ireturn, 1, 0, 0, 0, 0, 0, 0, 0, 0, [])), (125, (.aload_n 0, 1, 0, 0, 0, 0, 0, 0, 0, 0, [])), (126, (.getfield 229, 3, 0, 0, 0, 9, 29, 0, 0, 0, [])), (129, (.ireturn, 1, 0, 0, 0, 0, 0, 0, 0, 0, [])), (130, (.iconst (-1), 1, 0, -1, 0, 0, 0, 0, 0, 0, [])), (131, (.ireturn, 1, 0, 0, 0, 0, 0, 0, 0, 0, []))]
set_option maxRecDepth 100000 in
theorem ok_X9_count : tb_ok ctX9 m_X9_count t_X9_count = true := by decide +kernel
theorem i_X9_count_0 : tab t_X9_count 0 = some (.iload_n 1, 1, 1, 0, 0, 0, 0, 0, 0, 0, []) := rfl
theorem i_X9_count_1 : tab t_X9_count 1 = some (.tableswitch 129 0 8 #[51, 56, 61, 66, 71, 109, 114, 119, 124], 51, 130, 0, 0, 0, 0, 0, 0, 0, [(0, 52), (1, 57), (2, 62), (3, 67), (4, 72), (5, 110), (6, 115), (7, 120), (8, 125)]) := rfl
theorem i_X9_count_52 : tab t_X9_count 52 = some (.aload_n 0, 1, 0, 0, 0, 0, 0, 0, 0, 0, []) := rfl
theorem i_X9_count_53 : tab t_X9_count 53 = some (.getfield 179, 3, 0, 0, 0, 9, 1, 0, 0, 0, []) := rfl
theorem i_X9_count_56 : tab t_X9_count 56 = some (.ireturn, 1, 0, 0, 0, 0, 0, 0, 0, 0, []) := rfl
theorem i_X9_count_57 : tab t_X9_count 57 = some (.aload_n 0, 1, 0, 0, 0, 0, 0, 0, 0, 0, []) := rfl
theorem i_X9_count_58 : tab t_X9_count 58 = some (.getfield 182, 3, 0, 0, 0, 9, 2, 0, 0, 0, []) := rfl
theorem i_X9_count_61 : tab t_X9_count 61 = some (.ireturn, 1, 0, 0, 0, 0, 0, 0, 0, 0, []) := rfl
theorem i_X9_count_62 : tab t_X9_count 62 = some (.aload_n 0, 1, 0, 0, 0, 0, 0, 0, 0, 0, []) := rfl
theorem i_X9_count_63 : tab t_X9_count 63 = some (.getfield 197, 3, 0, 0, 0, 9, 3, 0, 0, 0, []) := rfl
theorem i_X9_count_66 : tab t_X9_count 66 = some (.ireturn, 1, 0, 0, 0, 0, 0, 0, 0, 0, []) := rfl
theorem i_X9_count_67 : tab t_X9_count 67 = some (.aload_n 0, 1, 0, 0, 0, 0, 0, 0, 0, 0, []) := rfl
theorem i_X9_count_68 : tab t_X9_count 68 = some (.getfield 223, 3, 0, 0, 0, 9, 4, 0, 0, 0, []) := rfl
theorem i_X9_count_71 : tab t_X9_count 71 = some (.ireturn, 1, 0, 0, 0, 0, 0, 0, 0, 0, []) := rfl
theorem i_X9_count_72 : tab t_X9_count 72 = some (.iconst 0, 1, 0, 0, 0, 0, 0, 0, 0, 0, []) := rfl
theorem i_X9_count_73 : tab t_X9_count 73 = some (.istore_n 2, 1, 2, 0, 0, 0, 0, 0, 0, 0, []) := rfl
theorem i_X9_count_74 : tab t_X9_count 74 = some (.iconst 0, 1, 0, 0, 0, 0, 0, 0, 0, 0, []) := rfl
theorem i_X9_count_75 : tab t_X9_count 75 = some (.istore_n 3, 1, 3, 0, 0, 0, 0, 0, 0, 0, []) := rfl
theorem i_X9_count_76 : tab t_X9_count 76 = some (.iload_n 3, 1, 3, 0, 0, 0, 0, 0, 0, 0, []) := rfl
theorem i_X9_count_77 : tab t_X9_count 77 = some (.aload_n 0, 1, 0, 0, 0, 0, 0, 0, 0, 0, []) := rfl
theorem i_X9_count_78 : tab t_X9_count 78 = some (.getfield 182, 3, 0, 0, 0, 9, 2, 0, 0, 0, []) := rfl
theorem i_X9_count_81 : tab t_X9_count 81 = some (.if_icmp .ge 27, 3, 108, 0, 0, 0, 0, 0, 0, 0, []) := rfl
theorem i_X9_count_84 : tab t_X9_count 84 = some (.iload_n 2, 1, 2, 0, 0, 0, 0, 0, 0, 0, []) := rfl
theorem i_X9_count_85 : tab t_X9_count 85 = some (.aload_n 0, 1, 0, 0, 0, 0, 0, 0, 0, 0, []) := rfl
theorem i_X9_count_86 : tab t_X9_count 86 = some (.getfield 50, 3, 2, 0, 0, 9, 20, 0, 0, 0, []) := rfl
theorem i_X9_count_89 : tab t_X9_count 89 = some (.iload_n 3, 1, 3, 0, 0, 0, 0, 0, 0, 0, []) := rfl
theorem i_X9_count_90 : tab t_X9_count 90 = some (.iaload, 1, 0, 0, 0, 0, 0, 0, 0, 0, []) := rfl
theorem i_X9_count_91 : tab t_X9_count 91 = some (.iconst (-1), 1, 0, -1, 0, 0, 0, 0, 0, 0, []) := rfl
theorem i_X9_count_92 : tab t_X9_count 92 = some (.if_icmp .eq 7, 3, 99, 0, 0, 0, 0, 0, 0, 0, []) := rfl
theorem i_X9_count_95 : tab t_X9_count 95 = some (.iconst 1, 1, 0, 1, 0, 0, 0, 0, 0, 0, []) := rfl
theorem i_X9_count_96 : tab t_X9_count 96 = some (.goto 4, 3, 100, 0, 0, 0, 0, 0, 0, 0, []) := rfl
theorem i_X9_count_99 : tab t_X9_count 99 = some (.iconst 0, 1, 0, 0, 0, 0, 0, 0, 0, 0, []) := rfl
theorem i_X9_count_100 : tab t_X9_count 100 = some (.iadd, 1, 0, 0, 0, 0, 0, 0, 0, 0, []) := rfl
theorem i_X9_count_101 : tab t_X9_count 101 = some (.istore_n 2, 1, 2, 0, 0, 0, 0, 0, 0, 0, []) := rfl
theorem i_X9_count_102 : tab t_X9_count 102 = some (.iinc 3 1, 3, 3, 1, 0, 0, 0, 0, 0, 0, []) := rfl
theorem i_X9_count_105 : tab t_X9_count 105 = some (.goto (-29), 3, 76, 0, 0, 0, 0, 0, 0, 0, []) := rfl
theorem i_X9_count_108 : tab t_X9_count 108 = some (.iload_n 2, 1, 2, 0, 0, 0, 0, 0, 0, 0, []) := rfl
theorem i_X9_count_109 : tab t_X9_count 109 = some (.ireturn, 1, 0, 0, 0, 0, 0, 0, 0, 0, []) := rfl
theorem i_X9_count_110 : tab t_X9_count 110 = some (.aload_n 0, 1, 0, 0, 0, 0, 0, 0, 0, 0, []) := rfl
theorem i_X9_count_111 : tab t_X9_count 111 = some (.getfield 294, 3, 0, 0, 0, 9, 32, 0, 0, 0, []) := rfl
theorem i_X9_count_114 : tab t_X9_count 114 = some (.ireturn, 1, 0, 0, 0, 0, 0, 0, 0, 0, []) := rfl
theorem i_X9_count_115 : tab t_X9_count 115 = some (.aload_n 0, 1, 0, 0, 0, 0, 0, 0, 0, 0, []) := rfl
theorem i_X9_count_116 : tab t_X9_count 116 = some (.getfield 432, 3, 0, 0, 0, 9, 5, 0, 0, 0, []) := rfl
theorem i_X9_count_119 : tab t_X9_count 119 = some (.ireturn, 1, 0, 0, 0, 0, 0, 0, 0, 0, []) := rfl
theorem i_X9_count_120 : tab t_X9_count 120 = some (.aload_n 0, 1, 0, 0, 0, 0, 0, 0, 0, 0, []) := rfl
theorem i_X9_count_121 : tab t_X9_count 121 = some (.getfield 461, 3, 0, 0, 0, 9, 6, 0, 0, 0, []) := rfl
theorem i_X9_count_124 : tab t_X9_count 124 = some (.ireturn, 1, 0, 0, 0, 0, 0, 0, 0, 0, []) := rfl
theorem i_X9_count_125 : tab t_X9_count 125 = some (.aload_n 0, 1, 0, 0, 0, 0, 0, 0, 0, 0, []) := rfl
theorem i_X9_count_126 : tab t_X9_count 126 = some (.getfield 229, 3, 0, 0, 0, 9, 29, 0, 0, 0, []) := rfl
theorem i_X9_count_129 : tab t_X9_count 129 = some (.ireturn, 1, 0, 0, 0, 0, 0, 0, 0, 0, []) := rfl
theorem i_X9_count_130 : tab t_X9_count 130 = some (.iconst (-1), 1, 0, -1, 0, 0, 0, 0, 0, 0, []) := rfl
theorem i_X9_count_131 : tab t_X9_count 131 = some (.ireturn, 1, 0, 0, 0, 0, 0, 0, 0, 0, []) := rfl
