/-! 11: tables of class 8, 2 -/
def t_X8_count : List (Nat × rw_) := [(0, (.iload_n 1, 1, 1, 0, 0, 0, 0, 0, 0, 0, [])), (1, (.tableswitch 135 0 8 #[51, 62, 73, 84, 95, 103, 108, 119, 130], 51, 136, 0, 0, 0, 0, 0, 0, 0, [(0, 52), (1, 63), (2, 74), (3, 85), (4, 96), (5, 104), (6, 109), (7, 120), (8, 131)])), (52, (.aload_n 0, 1, 0, 0, 0, 0, 0, 0, 0, 0, [])), (53, (.getfield 10, 3, 2, 0, 0, 8, 0, 0, 0, 0, [])), (56, (.getfield 68, 3, 2, 0, 0, 7, 0, 0, 0, 0, [])), (59, (.getfield 219, 3, 0, 0, 0, 6, 3, 0, 0, 0, [])), (62, (.ireturn, 1, 0, 0, 0, 0, 0, 0, 0, 0, [])), (63, (.aload_n 0, 1, 0, 0, 0, 0, 0, 0, 0, 0, [])), (64, (.getfield 10, 3, 2, 0, 0, 8, 0, 0, 0, 0, [])), (67, (.getfield 93, 3, 2, 0, 0, 7, 1, 0, 0, 0, [])), (70, (.getfield 219, 3, 0, 0, 0, 6, 3, 0, 0, 0, [])), (73, (.ireturn, 1, 0, 0, 0, 0, 0, 0, 0, 0, [])), (74, (.aload_n 0, 1, 0, 0, 0, 0, 0, 0, 0, 0, [])), (75, (.getfield 10, 3, 2, 0, 0, 8, 0, 0, 0, 0, [])), (78, (.getfield 99, 3, 2, 0, 0, 7, 2, 0, 0, 0, [])), (81, (.getfield 219, 3, 0, 0, 0, 6, 3, 0, 0, 0, [])), (84, (.ireturn, 1, 0, 0, 0, 0, 0, 0, 0, 0, [])), (85, (.aload_n 0, 1, 0, 0, 0, 0, 0, 0, 0, 0, [])), (86, (.getfield 10, 3, 2, 0, 0, 8, 0, 0, 0, 0, [])), (89, (.getfield 113, 3, 2, 0, 0, 7, 3, 0, 0, 0, [])), (92, (.getfield 219, 3, 0, 0, 0, 6, 3, 0, 0, 0, [])), (95, (.ireturn, 1, 0, 0, 0, 0, 0, 0, 0, 0, [])), (96, (.aload_n 0, 1, 0, 0, 0, 0, 0, 0, 0, 0, [])), (97, (.getfield 10, 3, 2, 0, 0, 8, 0, 0, 0, 0, [])), (100, (.invokevirtual 262, 3, 0, 0, 0, 0, 67, 8, 0, 0, [])), (103, (.ireturn, 1, 0, 0, 0, 0, 0, 0, 0, 0, [])), (104, (.aload_n 0, 1, 0, 0, 0, 0, 0, 0, 0, 0, [])), (105, (.getfield 26, 3, 0, 0, 0, 8, 3, 0, 0, 0, [])), (108, (.ireturn, 1, 0, 0, 0, 0, 0, 0, 0, 0, [])), (109, (.aload_n 0, 1, 0, 0, 0, 0, 0, 0, 0, 0, [])), (110, (.getfield 10, 3, 2, 0, 0, 8, 0, 0, 0, 0, [])), (113, (.getfield 167, 3, 2, 0, 0, 7, 5, 0, 0, 0, [])), (116, (.getfield 219, 3, 0, 0, 0, 6, 3, 0, 0, 0, [])), (119, (.ireturn, 1, 0, 0, 0, 0, 0, 0, 0, 0, [])), (120, (.aload_n 0, 1, 0, 0, 0, 0, 0, 0, 0, 0, [])), (121, (.getfield 10, 3, 2, 0, 0, 8, 0, 0, 0, 0, [])), (124, (.getfield 201, 3, 2, 0, 0, 7, 6, 0, 0, 0, [])), (127, (.getfield 219, 3, 0, 0, 0, 6, 3, 0, 0, 0, [])), (130, (.ireturn, 1, 0, 0, 0, 0, 0, 0, 0, 0, [])), (131, (.aload_n 0, 1, 0, 0, 0, 0, 0, 0, 0, 0, [])), (132, (.getfield 34, 3, 0, 0, 0, 8, 5, 0, 0, 0, [])), (135, (.ireturn, 1, 0, 0, 0, 0, 0, 0, 0, 0, [])), (136, (.iconst (-1), 1, 0, -1, 0, 0, 0, 0, 0, 0, [])), (137, (.ireturn, 1, 0, 0, 0, 0, 0, 0, 0, 0, []))]
set_option maxRecDepth 100000 in
theorem ok_X8_count : tb_ok ctX8 m_X8_count t_X8_count = true := by decide +kernel
theorem i_X8_count_0 : tab t_X8_count 0 = some (.iload_n 1, 1, 1, 0, 0, 0, 0, 0, 0, 0, []) := rfl
theorem i_X8_count_1 : tab t_X8_count 1 = some (.tableswitch 135 0 8 #[51, 62, 73, 84, 95, 103, 108, 119, 130], 51, 136, 0, 0, 0, 0, 0, 0, 0, [(0, 52), (1, 63), (2, 74), (3, 85), (4, 96), (5, 104), (6, 109), (7, 120), (8, 131)]) := rfl
theorem i_X8_count_52 : tab t_X8_count 52 = some (.aload_n 0, 1, 0, 0, 0, 0, 0, 0, 0, 0, []) := rfl
theorem i_X8_count_53 : tab t_X8_count 53 = some (.getfield 10, 3, 2, 0, 0, 8, 0, 0, 0, 0, []) := rfl
theorem i_X8_count_56 : tab t_X8_count 56 = some (.getfield 68, 3, 2, 0, 0, 7, 0, 0, 0, 0, []) := rfl
theorem i_X8_count_59 : tab t_X8_count 59 = some (.getfield 219, 3, 0, 0, 0, 6, 3, 0, 0, 0, []) := rfl
theorem i_X8_count_62 : tab t_X8_count 62 = some (.ireturn, 1, 0, 0, 0, 0, 0, 0, 0, 0, []) := rfl
theorem i_X8_count_63 : tab t_X8_count 63 = some (.aload_n 0, 1, 0, 0, 0, 0, 0, 0, 0, 0, []) := rfl
theorem i_X8_count_64 : tab t_X8_count 64 = some (.getfield 10, 3, 2, 0, 0, 8, 0, 0, 0, 0, []) := rfl
theorem i_X8_count_67 : tab t_X8_count 67 = some (.getfield 93, 3, 2, 0, 0, 7, 1, 0, 0, 0, []) := rfl
theorem i_X8_count_70 : tab t_X8_count 70 = some (.getfield 219, 3, 0, 0, 0, 6, 3, 0, 0, 0, []) := rfl
theorem i_X8_count_73 : tab t_X8_count 73 = some (.ireturn, 1, 0, 0, 0, 0, 0, 0, 0, 0, []) := rfl
theorem i_X8_count_74 : tab t_X8_count 74 = some (.aload_n 0, 1, 0, 0, 0, 0, 0, 0, 0, 0, []) := rfl
theorem i_X8_count_75 : tab t_X8_count 75 = some (.getfield 10, 3, 2, 0, 0, 8, 0, 0, 0, 0, []) := rfl
theorem i_X8_count_78 : tab t_X8_count 78 = some (.getfield 99, 3, 2, 0, 0, 7, 2, 0, 0, 0, []) := rfl
theorem i_X8_count_81 : tab t_X8_count 81 = some (.getfield 219, 3, 0, 0, 0, 6, 3, 0, 0, 0, []) := rfl
theorem i_X8_count_84 : tab t_X8_count 84 = some (.ireturn, 1, 0, 0, 0, 0, 0, 0, 0, 0, []) := rfl
theorem i_X8_count_85 : tab t_X8_count 85 = some (.aload_n 0, 1, 0, 0, 0, 0, 0, 0, 0, 0, []) := rfl
theorem i_X8_count_86 : tab t_X8_count 86 = some (.getfield 10, 3, 2, 0, 0, 8, 0, 0, 0, 0, []) := rfl
theorem i_X8_count_89 : tab t_X8_count 89 = some (.getfield 113, 3, 2, 0, 0, 7, 3, 0, 0, 0, []) := rfl
theorem i_X8_count_92 : tab t_X8_count 92 = some (.getfield 219, 3, 0, 0, 0, 6, 3, 0, 0, 0, []) := rfl
theorem i_X8_count_95 : tab t_X8_count 95 = some (.ireturn, 1, 0, 0, 0, 0, 0, 0, 0, 0, []) := rfl
theorem i_X8_count_96 : tab t_X8_count 96 = some (.aload_n 0, 1, 0, 0, 0, 0, 0, 0, 0, 0, []) := rfl
theorem i_X8_count_97 : tab t_X8_count 97 = some (.getfield 10, 3, 2, 0, 0, 8, 0, 0, 0, 0, []) := rfl
theorem i_X8_count_100 : tab t_X8_count 100 = some (.invokevirtual 262, 3, 0, 0, 0, 0, 67, 8, 0, 0, []) := rfl
theorem i_X8_count_103 : tab t_X8_count 103 = some (.ireturn, 1, 0, 0, 0, 0, 0, 0, 0, 0, []) := rfl
theorem i_X8_count_104 : tab t_X8_count 104 = some (.aload_n 0, 1, 0, 0, 0, 0, 0, 0, 0, 0, []) := rfl
theorem i_X8_count_105 : tab t_X8_count 105 = some (.getfield 26, 3, 0, 0, 0, 8, 3, 0, 0, 0, []) := rfl
theorem i_X8_count_108 : tab t_X8_count 108 = some (.ireturn, 1, 0, 0, 0, 0, 0, 0, 0, 0, []) := rfl
theorem i_X8_count_109 : tab t_X8_count 109 = some (.aload_n 0, 1, 0, 0, 0, 0, 0, 0, 0, 0, []) := rfl
theorem i_X8_count_110 : tab t_X8_count 110 = some (.getfield 10, 3, 2, 0, 0, 8, 0, 0, 0, 0, []) := rfl
theorem i_X8_count_113 : tab t_X8_count 113 = some (.getfield 167, 3, 2, 0, 0, 7, 5, 0, 0, 0, []) := rfl
theorem i_X8_count_116 : tab t_X8_count 116 = some (.getfield 219, 3, 0, 0, 0, 6, 3, 0, 0, 0, []) := rfl
theorem i_X8_count_119 : tab t_X8_count 119 = some (.ireturn, 1, 0, 0, 0, 0, 0, 0, 0, 0, []) := rfl
theorem i_X8_count_120 : tab t_X8_count 120 = some (.aload_n 0, 1, 0, 0, 0, 0, 0, 0, 0, 0, []) := rfl
theorem i_X8_count_121 : tab t_X8_count 121 = some (.getfield 10, 3, 2, 0, 0, 8, 0, 0, 0, 0, []) := rfl
theorem i_X8_count_124 : tab t_X8_count 124 = some (.getfield 201, 3, 2, 0, 0, 7, 6, 0, 0, 0, []) := rfl
theorem i_X8_count_127 : tab t_X8_count 127 = some (.getfield 219, 3, 0, 0, 0, 6, 3, 0, 0, 0, []) := rfl
theorem i_X8_count_130 : tab t_X8_count 130 = some (.ireturn, 1, 0, 0, 0, 0, 0, 0, 0, 0, []) := rfl
theorem i_X8_count_131 : tab t_X8_count 131 = some (.aload_n 0, 1, 0, 0, 0, 0, 0, 0, 0, 0, []) := rfl
theorem i_X8_count_132 : tab t_X8_count 132 = some (.getfield 34, 3, 0, 0, 0, 8, 5, 0, 0, 0, []) := rfl
theorem i_X8_count_135 : tab t_X8_count 135 = some (.ireturn, 1, 0, 0, 0, 0, 0, 0, 0, 0, []) := rfl
theorem i_X8_count_136 : tab t_X8_count 136 = some (.iconst (-1), 1, 0, -1, 0, 0, 0, 0, 0, 0, []) := rfl
theorem i_X8_count_137 : tab t_X8_count 137 = some (.ireturn, 1, 0, 0, 0, 0, 0, 0, 0, 0, []) := rfl
def t_X8_isIn : List (Nat × rw_) := [(0, (.iload_n 0, 1, 0, 0, 0, 0, 0, 0, 0, 0, [])), (1, (.ifCond .lt 12, 3, 13, 0, 0, 0, 0, 0, 0, 0, [])), (4, (.iload_n 0, 1, 0, 0, 0, 0, 0, 0, 0, 0, [])), (5, (.iload_n 1, 1, 1, 0, 0, 0, 0, 0, 0, 0, [])), (6, (.if_icmp .ge 7, 3, 13, 0, 0, 0, 0, 0, 0, 0, [])), (9, (.iconst 1, 1, 0, 1, 0, 0, 0, 0, 0, 0, [])), (10, (.goto 4, 3, 14, 0, 0, 0, 0, 0, 0, 0, [])), (13, (.iconst 0, 1, 0, 0, 0, 0, 0, 0, 0, 0, [])), (14, (.ireturn, 1, 0, 0, 0, 1, 0, 0, 0, 0, []))]
set_option maxRecDepth 100000 in
theorem ok_X8_isIn : tb_ok ctX8 m_X8_isIn t_X8_isIn = true := by decide +kernel
theorem i_X8_isIn_0 : tab t_X8_isIn 0 = some (.iload_n 0, 1, 0, 0, 0, 0, 0, 0, 0, 0, []) := rfl
theorem i_X8_isIn_1 : tab t_X8_isIn 1 = some (.ifCond .lt 12, 3, 13, 0, 0, 0, 0, 0, 0, 0, []) := rfl
theorem i_X8_isIn_4 : tab t_X8_isIn 4 = some (.iload_n 0, 1, 0, 0, 0, 0, 0, 0, 0, 0, []) := rfl
theorem i_X8_isIn_5 : tab t_X8_isIn 5 = some (.iload_n 1, 1, 1, 0, 0, 0, 0, 0, 0, 0, []) := rfl
theorem i_X8_isIn_6 : tab t_X8_isIn 6 = some (.if_icmp .ge 7, 3, 13, 0, 0, 0, 0, 0, 0, 0, []) := rfl
theorem i_X8_isIn_9 : tab t_X8_isIn 9 = some (.iconst 1, 1, 0, 1, 0, 0, 0, 0, 0, 0, []) := rfl
theorem i_X8_isIn_10 : tab t_X8_isIn 10 = some (.goto 4, 3, 14, 0, 0, 0, 0, 0, 0, 0, []) := rfl
theorem i_X8_isIn_13 : tab t_X8_isIn 13 = some (.iconst 0, 1, 0, 0, 0, 0, 0, 0, 0, 0, []) := rfl
theorem i_X8_isIn_14 : tab t_X8_isIn 14 = some (.ireturn, 1, 0, 0, 0, 1, 0, 0, 0, 0, []) := rfl
def t_X8_isMinute : List (Nat × rw_) := [(0, (.iload_n 0, 1, 0, 0, 0, 0, 0, 0, 0, 0, [])), (1, (.sipush 2880, 3, 0, 2880, 0, 0, 0, 0, 0, 0, [])), (4, (.invokestatic 78, 3, 2, 0, 0, 0, 109, 0, 0, 0, [])), (7, (.ireturn, 1, 0, 0, 0, 1, 0, 0, 0, 0, []))]
set_option maxRecDepth 100000 in
theorem ok_X8_isMinute : tb_ok ctX8 m_X8_isMinute t_X8_isMinute = true := by decide +kernel
theorem i_X8_isMinute_0 : tab t_X8_isMinute 0 = some (.iload_n 0, 1, 0, 0, 0, 0, 0, 0, 0, 0, []) := rfl
theorem i_X8_isMinute_1 : tab t_X8_isMinute 1 = some (.sipush 2880, 3, 0, 2880, 0, 0, 0, 0, 0, 0, []) := rfl
theorem i_X8_isMinute_4 : tab t_X8_isMinute 4 = some (.invokestatic 78, 3, 2, 0, 0, 0, 109, 0, 0, 0, []) := rfl
theorem i_X8_isMinute_7 : tab t_X8_isMinute 7 = some (.ireturn, 1, 0, 0, 0, 1, 0, 0, 0, 0, []) := rfl
def t_X8_isSpot : List (Nat × rw_) := [(0, (.iload_n 0, 1, 0, 0, 0, 0, 0, 0, 0, 0, [])), (1, (.bipush 100, 2, 0, 100, 0, 0, 0, 0, 0, 0, [])), (3, (.invokestatic 78, 3, 2, 0, 0, 0, 109, 0, 0, 0, [])), (6, (.ifCond .eq 16, 3, 22, 0, 0, 0, 0, 0, 0, 0, [])), (9, (.iload_n 1, 1, 1, 0, 0, 0, 0, 0, 0, 0, [])), (10, (.bipush 100, 2, 0, 100, 0, 0, 0, 0, 0, 0, [])), (12, (.invokestatic 78, 3, 2, 0, 0, 0, 109, 0, 0, 0, [])), (15, (.ifCond .eq 7, 3, 22, 0, 0, 0, 0, 0, 0, 0, [])), (18, (.iconst 1, 1, 0, 1, 0, 0, 0, 0, 0, 0, [])), (19, (.goto 4, 3, 23, 0, 0, 0, 0, 0, 0, 0, [])), (22, (.iconst 0, 1, 0, 0, 0, 0, 0, 0, 0, 0, [])), (23, (.ireturn, 1, 0, 0, 0, 1, 0, 0, 0, 0, []))]
set_option maxRecDepth 100000 in
theorem ok_X8_isSpot : tb_ok ctX8 m_X8_isSpot t_X8_isSpot = true := by decide +kernel
theorem i_X8_isSpot_0 : tab t_X8_isSpot 0 = some (.iload_n 0, 1, 0, 0, 0, 0, 0, 0, 0, 0, []) := rfl
theorem i_X8_isSpot_1 : tab t_X8_isSpot 1 = some (.bipush 100, 2, 0, 100, 0, 0, 0, 0, 0, 0, []) := rfl
theorem i_X8_isSpot_3 : tab t_X8_isSpot 3 = some (.invokestatic 78, 3, 2, 0, 0, 0, 109, 0, 0, 0, []) := rfl
theorem i_X8_isSpot_6 : tab t_X8_isSpot 6 = some (.ifCond .eq 16, 3, 22, 0, 0, 0, 0, 0, 0, 0, []) := rfl
theorem i_X8_isSpot_9 : tab t_X8_isSpot 9 = some (.iload_n 1, 1, 1, 0, 0, 0, 0, 0, 0, 0, []) := rfl
theorem i_X8_isSpot_10 : tab t_X8_isSpot 10 = some (.bipush 100, 2, 0, 100, 0, 0, 0, 0, 0, 0, []) := rfl
theorem i_X8_isSpot_12 : tab t_X8_isSpot 12 = some (.invokestatic 78, 3, 2, 0, 0, 0, 109, 0, 0, 0, []) := rfl
theorem i_X8_isSpot_15 : tab t_X8_isSpot 15 = some (.ifCond .eq 7, 3, 22, 0, 0, 0, 0, 0, 0, 0, []) := rfl
theorem i_X8_isSpot_18 : tab t_X8_isSpot 18 = some (.iconst 1, 1, 0, 1, 0, 0, 0, 0, 0, 0, []) := rfl
theorem i_X8_isSpot_19 : tab t_X8_isSpot 19 = some (.goto 4, 3, 23, 0, 0, 0, 0, 0, 0, 0, []) := rfl
theorem i_X8_isSpot_22 : tab t_X8_isSpot 22 = some (.iconst 0, 1, 0, 0, 0, 0, 0, 0, 0, 0, []) := rfl
theorem i_X8_isSpot_23 : tab t_X8_isSpot 23 = some (.ireturn, 1, 0, 0, 0, 1, 0, 0, 0, 0, []) := rfl
def t_X8_hasBit : List (Nat × rw_) := [(0, (.iload_n 0, 1, 0, 0, 0, 0, 0, 0, 0, 0, [])), (1, (.iload_n 1, 1, 1, 0, 0, 0, 0, 0, 0, 0, [])), (2, (.ishr, 1, 0, 0, 0, 0, 0, 0, 0, 0, [])), (3, (.iconst 1, 1, 0, 1, 0, 0, 0, 0, 0, 0, [])), (4, (.iand, 1, 0, 0, 0, 0, 0, 0, 0, 0, [])), (5, (.ifCond .eq 7, 3, 12, 0, 0, 0, 0, 0, 0, 0, [])), (8, (.iconst 1, 1, 0, 1, 0, 0, 0, 0, 0, 0, [])), (9, (.goto 4, 3, 13, 0, 0, 0, 0, 0, 0, 0, [])), (12, (.iconst 0, 1, 0, 0, 0, 0, 0, 0, 0, 0, [])), (13, (.ireturn, 1, 0, 0, 0, 1, 0, 0, 0, 0, []))]
set_option maxRecDepth 100000 in
theorem ok_X8_hasBit : tb_ok ctX8 m_X8_hasBit t_X8_hasBit = true := by decide +kernel
theorem i_X8_hasBit_0 : tab t_X8_hasBit 0 = some (.iload_n 0, 1, 0, 0, 0, 0, 0, 0, 0, 0, []) := rfl
theorem i_X8_hasBit_1 : tab t_X8_hasBit 1 = some (.iload_n 1, 1, 1, 0, 0, 0, 0, 0, 0, 0, []) := rfl
theorem i_X8_hasBit_2 : tab t_X8_hasBit 2 = some (.ishr, 1, 0, 0, 0, 0, 0, 0, 0, 0, []) := rfl
theorem i_X8_hasBit_3 : tab t_X8_hasBit 3 = some (.iconst 1, 1, 0, 1, 0, 0, 0, 0, 0, 0, []) := rfl
theorem i_X8_hasBit_4 : tab t_X8_hasBit 4 = some (.iand, 1, 0, 0, 0, 0, 0, 0, 0, 0, []) := rfl
theorem i_X8_hasBit_5 : tab t_X8_hasBit 5 = some (.ifCond .eq 7, 3, 12, 0, 0, 0, 0, 0, 0, 0, []) := rfl
theorem i_X8_hasBit_8 : tab t_X8_hasBit 8 = some (.iconst 1, 1, 0, 1, 0, 0, 0, 0, 0, 0, []) := rfl
theorem i_X8_hasBit_9 : tab t_X8_hasBit 9 = some (.goto 4, 3, 13, 0, 0, 0, 0, 0, 0, 0, []) := rfl
theorem i_X8_hasBit_12 : tab t_X8_hasBit 12 = some (.iconst 0, 1, 0, 0, 0, 0, 0, 0, 0, 0, []) := rfl
theorem i_X8_hasBit_13 : tab t_X8_hasBit 13 = some (.ireturn, 1, 0, 0, 0, 1, 0, 0, 0, 0, []) := rfl
def t_X8_isSpan : List (Nat × rw_) := [(0, (.iload_n 0, 1, 0, 0, 0, 0, 0, 0, 0, 0, [])), (1, (.invokestatic 96, 3, 1, 0, 0, 0, 110, 0, 0, 0, [])), (4, (.ifCond .eq 28, 3, 32, 0, 0, 0, 0, 0, 0, 0, [])), (7, (.iload_n 1, 1, 1, 0, 0, 0, 0, 0, 0, 0, [])), (8, (.invokestatic 96, 3, 1, 0, 0, 0, 110, 0, 0, 0, [])), (11, (.ifCond .eq 21, 3, 32, 0, 0, 0, 0, 0, 0, 0, [])), (14, (.iload_n 0, 1, 0, 0, 0, 0, 0, 0, 0, 0, [])), (15, (.iload_n 1, 1, 1, 0, 0, 0, 0, 0, 0, 0, [])), (16, (.if_icmp .gt 16, 3, 32, 0, 0, 0, 0, 0, 0, 0, [])), (19, (.iload_n 1, 1, 1, 0, 0, 0, 0, 0, 0, 0, [])), (20, (.iload_n 0, 1, 0, 0, 0, 0, 0, 0, 0, 0, [])), (21, (.isub, 1, 0, 0, 0, 0, 0, 0, 0, 0, [])), (22, (.sipush 300, 3, 0, 300, 0, 0, 0, 0, 0, 0, [])), (25, (.if_icmp .ge 7, 3, 32, 0, 0, 0, 0, 0, 0, 0, [])), (28, (.iconst 1, 1, 0, 1, 0, 0, 0, 0, 0, 0, [])), (29, (.goto 4, 3, 33, 0, 0, 0, 0, 0, 0, 0, [])), (32, (.iconst 0, 1, 0, 0, 0, 0, 0, 0, 0, 0, [])), (33, (.ireturn, 1, 0, 0, 0, 1, 0, 0, 0, 0, []))]
set_option maxRecDepth 100000 in
theorem ok_X8_isSpan : tb_ok ctX8 m_X8_isSpan t_X8_isSpan = true := by decide +kernel
theorem i_X8_isSpan_0 : tab t_X8_isSpan 0 = some (.iload_n 0, 1, 0, 0, 0, 0, 0, 0, 0, 0, []) := rfl
theorem i_X8_isSpan_1 : tab t_X8_isSpan 1 = some (.invokestatic 96, 3, 1, 0, 0, 0, 110, 0, 0, 0, []) := rfl
theorem i_X8_isSpan_4 : tab t_X8_isSpan 4 = some (.ifCond .eq 28, 3, 32, 0, 0, 0, 0, 0, 0, 0, []) := rfl
theorem i_X8_isSpan_7 : tab t_X8_isSpan 7 = some (.iload_n 1, 1, 1, 0, 0, 0, 0, 0, 0, 0, []) := rfl
theorem i_X8_isSpan_8 : tab t_X8_isSpan 8 = some (.invokestatic 96, 3, 1, 0, 0, 0, 110, 0, 0, 0, []) := rfl
theorem i_X8_isSpan_11 : tab t_X8_isSpan 11 = some (.ifCond .eq 21, 3, 32, 0, 0, 0, 0, 0, 0, 0, []) := rfl
theorem i_X8_isSpan_14 : tab t_X8_isSpan 14 = some (.iload_n 0, 1, 0, 0, 0, 0, 0, 0, 0, 0, []) := rfl
theorem i_X8_isSpan_15 : tab t_X8_isSpan 15 = some (.iload_n 1, 1, 1, 0, 0, 0, 0, 0, 0, 0, []) := rfl
theorem i_X8_isSpan_16 : tab t_X8_isSpan 16 = some (.if_icmp .gt 16, 3, 32, 0, 0, 0, 0, 0, 0, 0, []) := rfl
theorem i_X8_isSpan_19 : tab t_X8_isSpan 19 = some (.iload_n 1, 1, 1, 0, 0, 0, 0, 0, 0, 0, []) := rfl
theorem i_X8_isSpan_20 : tab t_X8_isSpan 20 = some (.iload_n 0, 1, 0, 0, 0, 0, 0, 0, 0, 0, []) := rfl
theorem i_X8_isSpan_21 : tab t_X8_isSpan 21 = some (.isub, 1, 0, 0, 0, 0, 0, 0, 0, 0, []) := rfl
theorem i_X8_isSpan_22 : tab t_X8_isSpan 22 = some (.sipush 300, 3, 0, 300, 0, 0, 0, 0, 0, 0, []) := rfl
theorem i_X8_isSpan_25 : tab t_X8_isSpan 25 = some (.if_icmp .ge 7, 3, 32, 0, 0, 0, 0, 0, 0, 0, []) := rfl
theorem i_X8_isSpan_28 : tab t_X8_isSpan 28 = some (.iconst 1, 1, 0, 1, 0, 0, 0, 0, 0, 0, []) := rfl
theorem i_X8_isSpan_29 : tab t_X8_isSpan 29 = some (.goto 4, 3, 33, 0, 0, 0, 0, 0, 0, 0, []) := rfl
theorem i_X8_isSpan_32 : tab t_X8_isSpan 32 = some (.iconst 0, 1, 0, 0, 0, 0, 0, 0, 0, 0, []) := rfl
theorem i_X8_isSpan_33 : tab t_X8_isSpan 33 = some (.ireturn, 1, 0, 0, 0, 1, 0, 0, 0, 0, []) := rfl
def t_X8_isBodyInMinute : List (Nat × rw_) := [(0, (.aload_n 0, 1, 0, 0, 0, 0, 0, 0, 0, 0, [])), (1, (.getfield 10, 3, 2, 0, 0, 8, 0, 0, 0, 0, [])), (4, (.getfield 68, 3, 2, 0, 0, 7, 0, 0, 0, 0, [])), (7, (.iload_n 1, 1, 1, 0, 0, 0, 0, 0, 0, 0, [])), (8, (.invokevirtual 72, 3, 1, 0, 0, 0, 59, 7, 0, 0, [])), (11, (.ifCond .eq 14, 3, 25, 0, 0, 0, 0, 0, 0, 0, [])), (14, (.iload_n 2, 1, 2, 0, 0, 0, 0, 0, 0, 0, [])), (15, (.invokestatic 96, 3, 1, 0, 0, 0, 110, 0, 0, 0, [])), (18, (.ifCond .eq 7, 3, 25, 0, 0, 0, 0, 0, 0, 0, [])), (21, (.iconst 1, 1, 0, 1, 0, 0, 0, 0, 0, 0, [])), (22, (.goto 4, 3, 26, 0, 0, 0, 0, 0, 0, 0, [])), (25, (.iconst 0, 1, 0, 0, 0, 0, 0, 0, 0, 0, [])), (26, (.ireturn, 1, 0, 0, 0, 1, 0, 0, 0, 0, []))]
set_option maxRecDepth 100000 in
theorem ok_X8_isBodyInMinute : tb_ok ctX8 m_X8_isBodyInMinute t_X8_isBodyInMinute = true := by decide +kernel
theorem i_X8_isBodyInMinute_0 : tab t_X8_isBodyInMinute 0 = some (.aload_n 0, 1, 0, 0, 0, 0, 0, 0, 0, 0, []) := rfl
theorem i_X8_isBodyInMinute_1 : tab t_X8_isBodyInMinute 1 = some (.getfield 10, 3, 2, 0, 0, 8, 0, 0, 0, 0, []) := rfl
theorem i_X8_isBodyInMinute_4 : tab t_X8_isBodyInMinute 4 = some (.getfield 68, 3, 2, 0, 0, 7, 0, 0, 0, 0, []) := rfl
theorem i_X8_isBodyInMinute_7 : tab t_X8_isBodyInMinute 7 = some (.iload_n 1, 1, 1, 0, 0, 0, 0, 0, 0, 0, []) := rfl
theorem i_X8_isBodyInMinute_8 : tab t_X8_isBodyInMinute 8 = some (.invokevirtual 72, 3, 1, 0, 0, 0, 59, 7, 0, 0, []) := rfl
theorem i_X8_isBodyInMinute_11 : tab t_X8_isBodyInMinute 11 = some (.ifCond .eq 14, 3, 25, 0, 0, 0, 0, 0, 0, 0, []) := rfl
theorem i_X8_isBodyInMinute_14 : tab t_X8_isBodyInMinute 14 = some (.iload_n 2, 1, 2, 0, 0, 0, 0, 0, 0, 0, []) := rfl
theorem i_X8_isBodyInMinute_15 : tab t_X8_isBodyInMinute 15 = some (.invokestatic 96, 3, 1, 0, 0, 0, 110, 0, 0, 0, []) := rfl
theorem i_X8_isBodyInMinute_18 : tab t_X8_isBodyInMinute 18 = some (.ifCond .eq 7, 3, 25, 0, 0, 0, 0, 0, 0, 0, []) := rfl
theorem i_X8_isBodyInMinute_21 : tab t_X8_isBodyInMinute 21 = some (.iconst 1, 1, 0, 1, 0, 0, 0, 0, 0, 0, []) := rfl
theorem i_X8_isBodyInMinute_22 : tab t_X8_isBodyInMinute 22 = some (.goto 4, 3, 26, 0, 0, 0, 0, 0, 0, 0, []) := rfl
theorem i_X8_isBodyInMinute_25 : tab t_X8_isBodyInMinute 25 = some (.iconst 0, 1, 0, 0, 0, 0, 0, 0, 0, 0, []) := rfl
theorem i_X8_isBodyInMinute_26 : tab t_X8_isBodyInMinute 26 = some (.ireturn, 1, 0, 0, 0, 1, 0, 0, 0, 0, []) := rfl
def t_X8_putOnTape : List (Nat × rw_) := [(0, (.bipush 24, 2, 0, 24, 0, 0, 0, 0, 0, 0, [])), (2, (.istore_n 2, 1, 2, 0, 0, 0, 0, 0, 0, 0, [])), (3, (.iload_n 2, 1, 2, 0, 0, 0, 0, 0, 0, 0, [])), (4, (.ifCond .lt 45, 3, 49, 0, 0, 0, 0, 0, 0, 0, [])), (7, (.aload_n 0, 1, 0, 0, 0, 0, 0, 0, 0, 0, [])), (8, (.getfield 34, 3, 0, 0, 0, 8, 5, 0, 0, 0, [])), (11, (.sipush 400, 3, 0, 400, 0, 0, 0, 0, 0, 0, [])), (14, (.if_icmp .ge 35, 3, 49, 0, 0, 0, 0, 0, 0, 0, [])), (17, (.aload_n 0, 1, 0, 0, 0, 0, 0, 0, 0, 0, [])), (18, (.getfield 30, 3, 2, 0, 0, 8, 4, 0, 0, 0, [])), (21, (.aload_n 0, 1, 0, 0, 0, 0, 0, 0, 0, 0, [])), (22, (.getfield 34, 3, 0, 0, 0, 8, 5, 0, 0, 0, [])), (25, (.iload_n 1, 1, 1, 0, 0, 0, 0, 0, 0, 0, [])), (26, (.iload_n 2, 1, 2, 0, 0, 0, 0, 0, 0, 0, [])), (27, (.iushr, 1, 0, 0, 0, 0, 0, 0, 0, 0, [])), (28, (.sipush 255, 3, 0, 255, 0, 0, 0, 0, 0, 0, [])), (31, (.iand, 1, 0, 0, 0, 0, 0, 0, 0, 0, [])), (32, (.iastore, 1, 0, 0, 0, 0, 0, 0, 0, 0, [])), (33, (.aload_n 0, 1, 0, 0, 0, 0, 0, 0, 0, 0, [])), (34, (.dup, 1, 0, 0, 0, 0, 0, 0, 0, 0, [])), (35, (.getfield 34, 3, 0, 0, 0, 8, 5, 0, 0, 0, [])), (38, (.iconst 1, 1, 0, 1, 0, 0, 0, 0, 0, 0, [])), (39, (.iadd, 1, 0, 0, 0, 0, 0, 0, 0, 0, [])), (40, (.putfield 34, 3, 0, 0, 0, 8, 5, 0, 0, 0, [])), (43, (.iinc 2 (-8), 3, 2, -8, 0, 0, 0, 0, 0, 0, [])), (46, (.goto (-43), 3, 3, 0, 0, 0, 0, 0, 0, 0, [])), (49, (.return_, 1, 0, 0, 0, 0, 0, 0, 0, 0, []))]
set_option maxRecDepth 100000 in
theorem ok_X8_putOnTape : tb_ok ctX8 m_X8_putOnTape t_X8_putOnTape = true := by decide +kernel
theorem i_X8_putOnTape_0 : tab t_X8_putOnTape 0 = some (.bipush 24, 2, 0, 24, 0, 0, 0, 0, 0, 0, []) := rfl
theorem i_X8_putOnTape_2 : tab t_X8_putOnTape 2 = some (.istore_n 2, 1, 2, 0, 0, 0, 0, 0, 0, 0, []) := rfl
theorem i_X8_putOnTape_3 : tab t_X8_putOnTape 3 = some (.iload_n 2, 1, 2, 0, 0, 0, 0, 0, 0, 0, []) := rfl
theorem i_X8_putOnTape_4 : tab t_X8_putOnTape 4 = some (.ifCond .lt 45, 3, 49, 0, 0, 0, 0, 0, 0, 0, []) := rfl
theorem i_X8_putOnTape_7 : tab t_X8_putOnTape 7 = some (.aload_n 0, 1, 0, 0, 0, 0, 0, 0, 0, 0, []) := rfl
theorem i_X8_putOnTape_8 : tab t_X8_putOnTape 8 = some (.getfield 34, 3, 0, 0, 0, 8, 5, 0, 0, 0, []) := rfl
theorem i_X8_putOnTape_11 : tab t_X8_putOnTape 11 = some (.sipush 400, 3, 0, 400, 0, 0, 0, 0, 0, 0, []) := rfl
theorem i_X8_putOnTape_14 : tab t_X8_putOnTape 14 = some (.if_icmp .ge 35, 3, 49, 0, 0, 0, 0, 0, 0, 0, []) := rfl
theorem i_X8_putOnTape_17 : tab t_X8_putOnTape 17 = some (.aload_n 0, 1, 0, 0, 0, 0, 0, 0, 0, 0, []) := rfl
theorem i_X8_putOnTape_18 : tab t_X8_putOnTape 18 = some (.getfield 30, 3, 2, 0, 0, 8, 4, 0, 0, 0, []) := rfl
theorem i_X8_putOnTape_21 : tab t_X8_putOnTape 21 = some (.aload_n 0, 1, 0, 0, 0, 0, 0, 0, 0, 0, []) := rfl
theorem i_X8_putOnTape_22 : tab t_X8_putOnTape 22 = some (.getfield 34, 3, 0, 0, 0, 8, 5, 0, 0, 0, []) := rfl
theorem i_X8_putOnTape_25 : tab t_X8_putOnTape 25 = some (.iload_n 1, 1, 1, 0, 0, 0, 0, 0, 0, 0, []) := rfl
theorem i_X8_putOnTape_26 : tab t_X8_putOnTape 26 = some (.iload_n 2, 1, 2, 0, 0, 0, 0, 0, 0, 0, []) := rfl
theorem i_X8_putOnTape_27 : tab t_X8_putOnTape 27 = some (.iushr, 1, 0, 0, 0, 0, 0, 0, 0, 0, []) := rfl
theorem i_X8_putOnTape_28 : tab t_X8_putOnTape 28 = some (.sipush 255, 3, 0, 255, 0, 0, 0, 0, 0, 0, []) := rfl
theorem i_X8_putOnTape_31 : tab t_X8_putOnTape 31 = some (.iand, 1, 0, 0, 0, 0, 0, 0, 0, 0, []) := rfl
theorem i_X8_putOnTape_32 : tab t_X8_putOnTape 32 = some (.iastore, 1, 0, 0, 0, 0, 0, 0, 0, 0, []) := rfl
theorem i_X8_putOnTape_33 : tab t_X8_putOnTape 33 = some (.aload_n 0, 1, 0, 0, 0, 0, 0, 0, 0, 0, []) := rfl
theorem i_X8_putOnTape_34 : tab t_X8_putOnTape 34 = some (.dup, 1, 0, 0, 0, 0, 0, 0, 0, 0, []) := rfl
theorem i_X8_putOnTape_35 : tab t_X8_putOnTape 35 = some (.getfield 34, 3, 0, 0, 0, 8, 5, 0, 0, 0, []) := rfl
theorem i_X8_putOnTape_38 : tab t_X8_putOnTape 38 = some (.iconst 1, 1, 0, 1, 0, 0, 0, 0, 0, 0, []) := rfl
theorem i_X8_putOnTape_39 : tab t_X8_putOnTape 39 = some (.iadd, 1, 0, 0, 0, 0, 0, 0, 0, 0, []) := rfl
theorem i_X8_putOnTape_40 : tab t_X8_putOnTape 40 = some (.putfield 34, 3, 0, 0, 0, 8, 5, 0, 0, 0, []) := rfl
theorem i_X8_putOnTape_43 : tab t_X8_putOnTape 43 = some (.iinc 2 (-8), 3, 2, -8, 0, 0, 0, 0, 0, 0, []) := rfl
theorem i_X8_putOnTape_46 : tab t_X8_putOnTape 46 = some (.goto (-43), 3, 3, 0, 0, 0, 0, 0, 0, 0, []) := rfl
theorem i_X8_putOnTape_49 : tab t_X8_putOnTape 49 = some (.return_, 1, 0, 0, 0, 0, 0, 0, 0, 0, []) := rfl
def t_X8_lawOf : List (Nat × rw_) := [(0, (.aload_n 0, 1, 0, 0, 0, 0, 0, 0, 0, 0, [])), (1, (.getfield 10, 3, 2, 0, 0, 8, 0, 0, 0, 0, [])), (4, (.getfield 68, 3, 2, 0, 0, 7, 0, 0, 0, 0, [])), (7, (.iload_n 1, 1, 1, 0, 0, 0, 0, 0, 0, 0, [])), (8, (.iconst 4, 1, 0, 4, 0, 0, 0, 0, 0, 0, [])), (9, (.invokevirtual 126, 3, 2, 0, 0, 0, 60, 7, 0, 0, [])), (12, (.istore_n 2, 1, 2, 0, 0, 0, 0, 0, 0, 0, [])), (13, (.iload_n 2, 1, 2, 0, 0, 0, 0, 0, 0, 0, [])), (14, (.bipush 8, 2, 0, 8, 0, 0, 0, 0, 0, 0, [])), (16, (.invokestatic 78, 3, 2, 0, 0, 0, 109, 0, 0, 0, [])), (19, (.ifCond .eq 12, 3, 31, 0, 0, 0, 0, 0, 0, 0, [])), (22, (.aload_n 0, 1, 0, 0, 0, 0, 0, 0, 0, 0, [])), (23, (.getfield 22, 3, 2, 0, 0, 8, 2, 0, 0, 0, [])), (26, (.iload_n 2, 1, 2, 0, 0, 0, 0, 0, 0, 0, [])), (27, (.aaload, 1, 0, 0, 0, 0, 0, 0, 0, 0, [])), (28, (.goto 4, 3, 32, 0, 0, 0, 0, 0, 0, 0, [])), (31, (.aconst_null, 1, 0, 0, 0, 0, 0, 0, 0, 0, [])), (32, (.areturn, 1, 0, 0, 0, 0, 0, 0, 0, 0, []))]
set_option maxRecDepth 100000 in
theorem ok_X8_lawOf : tb_ok ctX8 m_X8_lawOf t_X8_lawOf = true := by decide +kernel
theorem i_X8_lawOf_0 : tab t_X8_lawOf 0 = some (.aload_n 0, 1, 0, 0, 0, 0, 0, 0, 0, 0, []) := rfl
theorem i_X8_lawOf_1 : tab t_X8_lawOf 1 = some (.getfield 10, 3, 2, 0, 0, 8, 0, 0, 0, 0, []) := rfl
theorem i_X8_lawOf_4 : tab t_X8_lawOf 4 = some (.getfield 68, 3, 2, 0, 0, 7, 0, 0, 0, 0, []) := rfl
theorem i_X8_lawOf_7 : tab t_X8_lawOf 7 = some (.iload_n 1, 1, 1, 0, 0, 0, 0, 0, 0, 0, []) := rfl
theorem i_X8_lawOf_8 : tab t_X8_lawOf 8 = some (.iconst 4, 1, 0, 4, 0, 0, 0, 0, 0, 0, []) := rfl
theorem i_X8_lawOf_9 : tab t_X8_lawOf 9 = some (.invokevirtual 126, 3, 2, 0, 0, 0, 60, 7, 0, 0, []) := rfl
theorem i_X8_lawOf_12 : tab t_X8_lawOf 12 = some (.istore_n 2, 1, 2, 0, 0, 0, 0, 0, 0, 0, []) := rfl
theorem i_X8_lawOf_13 : tab t_X8_lawOf 13 = some (.iload_n 2, 1, 2, 0, 0, 0, 0, 0, 0, 0, []) := rfl
theorem i_X8_lawOf_14 : tab t_X8_lawOf 14 = some (.bipush 8, 2, 0, 8, 0, 0, 0, 0, 0, 0, []) := rfl
theorem i_X8_lawOf_16 : tab t_X8_lawOf 16 = some (.invokestatic 78, 3, 2, 0, 0, 0, 109, 0, 0, 0, []) := rfl
theorem i_X8_lawOf_19 : tab t_X8_lawOf 19 = some (.ifCond .eq 12, 3, 31, 0, 0, 0, 0, 0, 0, 0, []) := rfl
theorem i_X8_lawOf_22 : tab t_X8_lawOf 22 = some (.aload_n 0, 1, 0, 0, 0, 0, 0, 0, 0, 0, []) := rfl
theorem i_X8_lawOf_23 : tab t_X8_lawOf 23 = some (.getfield 22, 3, 2, 0, 0, 8, 2, 0, 0, 0, []) := rfl
theorem i_X8_lawOf_26 : tab t_X8_lawOf 26 = some (.iload_n 2, 1, 2, 0, 0, 0, 0, 0, 0, 0, []) := rfl
theorem i_X8_lawOf_27 : tab t_X8_lawOf 27 = some (.aaload, 1, 0, 0, 0, 0, 0, 0, 0, 0, []) := rfl
theorem i_X8_lawOf_28 : tab t_X8_lawOf 28 = some (.goto 4, 3, 32, 0, 0, 0, 0, 0, 0, 0, []) := rfl
theorem i_X8_lawOf_31 : tab t_X8_lawOf 31 = some (.aconst_null, 1, 0, 0, 0, 0, 0, 0, 0, 0, []) := rfl
theorem i_X8_lawOf_32 : tab t_X8_lawOf 32 = some (.areturn, 1, 0, 0, 0, 0, 0, 0, 0, 0, []) := rfl
def t_X8_survey : List (Nat × rw_) := [(0, (.aload_n 0, 1, 0, 0, 0, 0, 0, 0, 0, 0, [])), (1, (.getfield 47, 3, 2, 0, 0, 8, 7, 0, 0, 0, [])), (4, (.aload_n 0, 1, 0, 0, 0, 0, 0, 0, 0, 0, [])), (5, (.getfield 10, 3, 2, 0, 0, 8, 0, 0, 0, 0, [])), (8, (.iload_n 1, 1, 1, 0, 0, 0, 0, 0, 0, 0, [])), (9, (.iload_n 2, 1, 2, 0, 0, 0, 0, 0, 0, 0, [])), (10, (.invokevirtual 105, 3, 3, 0, 0, 0, 1, 1, 0, 0, [])), (13, (.aload_n 0, 1, 0, 0, 0, 0, 0, 0, 0, 0, [])), (14, (.getfield 54, 3, 2, 0, 0, 8, 8, 0, 0, 0, [])), (17, (.aload_n 0, 1, 0, 0, 0, 0, 0, 0, 0, 0, [])), (18, (.getfield 47, 3, 2, 0, 0, 8, 7, 0, 0, 0, [])), (21, (.aload_n 0, 1, 0, 0, 0, 0, 0, 0, 0, 0, [])), (22, (.iload_n 1, 1, 1, 0, 0, 0, 0, 0, 0, 0, [])), (23, (.invokevirtual 150, 3, 1, 0, 0, 0, 116, 9, 0, 0, [])), (26, (.invokevirtual 254, 3, 2, 0, 0, 0, 50, 6, 0, 0, [])), (29, (.aload_n 0, 1, 0, 0, 0, 0, 0, 0, 0, 0, [])), (30, (.getfield 54, 3, 2, 0, 0, 8, 8, 0, 0, 0, [])), (33, (.iconst 0, 1, 0, 0, 0, 0, 0, 0, 0, 0, [])), (34, (.aload_n 0, 1, 0, 0, 0, 0, 0, 0, 0, 0, [])), (35, (.getfield 47, 3, 2, 0, 0, 8, 7, 0, 0, 0, [])), (38, (.getfield 141, 3, 0, 0, 0, 0, 5, 0, 0, 0, [])), (41, (.aload_n 0, 1, 0, 0, 0, 0, 0, 0, 0, 0, [])), (42, (.getfield 47, 3, 2, 0, 0, 8, 7, 0, 0, 0, [])), (45, (.getfield 144, 3, 0, 0, 0, 0, 4, 0, 0, 0, [])), (48, (.invokevirtual 194, 3, 3, 0, 0, 0, 55, 6, 0, 0, [])), (51, (.ireturn, 1, 0, 0, 0, 0, 0, 0, 0, 0, []))]
set_option maxRecDepth 100000 in
theorem ok_X8_survey : tb_ok ctX8 m_X8_survey t_X8_survey = true := by decide +kernel
theorem i_X8_survey_0 : tab t_X8_survey 0 = some (.aload_n 0, 1, 0, 0, 0, 0, 0, 0, 0, 0, []) := rfl
theorem i_X8_survey_1 : tab t_X8_survey 1 = some (.getfield 47, 3, 2, 0, 0, 8, 7, 0, 0, 0, []) := rfl
theorem i_X8_survey_4 : tab t_X8_survey 4 = some (.aload_n 0, 1, 0, 0, 0, 0, 0, 0, 0, 0, []) := rfl
theorem i_X8_survey_5 : tab t_X8_survey 5 = some (.getfield 10, 3, 2, 0, 0, 8, 0, 0, 0, 0, []) := rfl
theorem i_X8_survey_8 : tab t_X8_survey 8 = some (.iload_n 1, 1, 1, 0, 0, 0, 0, 0, 0, 0, []) := rfl
theorem i_X8_survey_9 : tab t_X8_survey 9 = some (.iload_n 2, 1, 2, 0, 0, 0, 0, 0, 0, 0, []) := rfl
theorem i_X8_survey_10 : tab t_X8_survey 10 = some (.invokevirtual 105, 3, 3, 0, 0, 0, 1, 1, 0, 0, []) := rfl
theorem i_X8_survey_13 : tab t_X8_survey 13 = some (.aload_n 0, 1, 0, 0, 0, 0, 0, 0, 0, 0, []) := rfl
theorem i_X8_survey_14 : tab t_X8_survey 14 = some (.getfield 54, 3, 2, 0, 0, 8, 8, 0, 0, 0, []) := rfl
theorem i_X8_survey_17 : tab t_X8_survey 17 = some (.aload_n 0, 1, 0, 0, 0, 0, 0, 0, 0, 0, []) := rfl
theorem i_X8_survey_18 : tab t_X8_survey 18 = some (.getfield 47, 3, 2, 0, 0, 8, 7, 0, 0, 0, []) := rfl
theorem i_X8_survey_21 : tab t_X8_survey 21 = some (.aload_n 0, 1, 0, 0, 0, 0, 0, 0, 0, 0, []) := rfl
theorem i_X8_survey_22 : tab t_X8_survey 22 = some (.iload_n 1, 1, 1, 0, 0, 0, 0, 0, 0, 0, []) := rfl
theorem i_X8_survey_23 : tab t_X8_survey 23 = some (.invokevirtual 150, 3, 1, 0, 0, 0, 116, 9, 0, 0, []) := rfl
theorem i_X8_survey_26 : tab t_X8_survey 26 = some (.invokevirtual 254, 3, 2, 0, 0, 0, 50, 6, 0, 0, []) := rfl
theorem i_X8_survey_29 : tab t_X8_survey 29 = some (.aload_n 0, 1, 0, 0, 0, 0, 0, 0, 0, 0, []) := rfl
theorem i_X8_survey_30 : tab t_X8_survey 30 = some (.getfield 54, 3, 2, 0, 0, 8, 8, 0, 0, 0, []) := rfl
theorem i_X8_survey_33 : tab t_X8_survey 33 = some (.iconst 0, 1, 0, 0, 0, 0, 0, 0, 0, 0, []) := rfl
theorem i_X8_survey_34 : tab t_X8_survey 34 = some (.aload_n 0, 1, 0, 0, 0, 0, 0, 0, 0, 0, []) := rfl
theorem i_X8_survey_35 : tab t_X8_survey 35 = some (.getfield 47, 3, 2, 0, 0, 8, 7, 0, 0, 0, []) := rfl
theorem i_X8_survey_38 : tab t_X8_survey 38 = some (.getfield 141, 3, 0, 0, 0, 0, 5, 0, 0, 0, []) := rfl
theorem i_X8_survey_41 : tab t_X8_survey 41 = some (.aload_n 0, 1, 0, 0, 0, 0, 0, 0, 0, 0, []) := rfl
theorem i_X8_survey_42 : tab t_X8_survey 42 = some (.getfield 47, 3, 2, 0, 0, 8, 7, 0, 0, 0, []) := rfl
theorem i_X8_survey_45 : tab t_X8_survey 45 = some (.getfield 144, 3, 0, 0, 0, 0, 4, 0, 0, 0, []) := rfl
theorem i_X8_survey_48 : tab t_X8_survey 48 = some (.invokevirtual 194, 3, 3, 0, 0, 0, 55, 6, 0, 0, []) := rfl
theorem i_X8_survey_51 : tab t_X8_survey 51 = some (.ireturn, 1, 0, 0, 0, 0, 0, 0, 0, 0, []) := rfl
def t_X8_surveyMinds : List (Nat × rw_) := [(0, (.aload_n 0, 1, 0, 0, 0, 0, 0, 0, 0, 0, [])), (1, (.getfield 61, 3, 2, 0, 0, 8, 9, 0, 0, 0, [])), (4, (.aload_n 0, 1, 0, 0, 0, 0, 0, 0, 0, 0, [])), (5, (.getfield 10, 3, 2, 0, 0, 8, 0, 0, 0, 0, [])), (8, (.iload_n 2, 1, 2, 0, 0, 0, 0, 0, 0, 0, [])), (9, (.iload_n 3, 1, 3, 0, 0, 0, 0, 0, 0, 0, [])), (10, (.invokevirtual 176, 3, 3, 0, 0, 0, 13, 2, 0, 0, [])), (13, (.aload_n 0, 1, 0, 0, 0, 0, 0, 0, 0, 0, [])), (14, (.getfield 61, 3, 2, 0, 0, 8, 9, 0, 0, 0, [])), (17, (.aload_n 0, 1, 0, 0, 0, 0, 0, 0, 0, 0, [])), (18, (.getfield 10, 3, 2, 0, 0, 8, 0, 0, 0, 0, [])), (21, (.iload_n 1, 1, 1, 0, 0, 0, 0, 0, 0, 0, [])), (22, (.iload_n 2, 1, 2, 0, 0, 0, 0, 0, 0, 0, [])), (23, (.invokevirtual 265, 3, 3, 0, 0, 0, 17, 2, 0, 0, [])), (26, (.aload_n 0, 1, 0, 0, 0, 0, 0, 0, 0, 0, [])), (27, (.getfield 61, 3, 2, 0, 0, 8, 9, 0, 0, 0, [])), (30, (.aload_n 0, 1, 0, 0, 0, 0, 0, 0, 0, 0, [])), (31, (.getfield 10, 3, 2, 0, 0, 8, 0, 0, 0, 0, [])), (34, (.iload_n 2, 1, 2, 0, 0, 0, 0, 0, 0, 0, [])), (35, (.invokevirtual 268, 3, 2, 0, 0, 0, 18, 2, 0, 0, [])), (38, (.return_, 1, 0, 0, 0, 0, 0, 0, 0, 0, []))]
set_option maxRecDepth 100000 in
theorem ok_X8_surveyMinds : tb_ok ctX8 m_X8_surveyMinds t_X8_surveyMinds = true := by decide +kernel
theorem i_X8_surveyMinds_0 : tab t_X8_surveyMinds 0 = some (.aload_n 0, 1, 0, 0, 0, 0, 0, 0, 0, 0, []) := rfl
theorem i_X8_surveyMinds_1 : tab t_X8_surveyMinds 1 = some (.getfield 61, 3, 2, 0, 0, 8, 9, 0, 0, 0, []) := rfl
theorem i_X8_surveyMinds_4 : tab t_X8_surveyMinds 4 = some (.aload_n 0, 1, 0, 0, 0, 0, 0, 0, 0, 0, []) := rfl
theorem i_X8_surveyMinds_5 : tab t_X8_surveyMinds 5 = some (.getfield 10, 3, 2, 0, 0, 8, 0, 0, 0, 0, []) := rfl
theorem i_X8_surveyMinds_8 : tab t_X8_surveyMinds 8 = some (.iload_n 2, 1, 2, 0, 0, 0, 0, 0, 0, 0, []) := rfl
theorem i_X8_surveyMinds_9 : tab t_X8_surveyMinds 9 = some (.iload_n 3, 1, 3, 0, 0, 0, 0, 0, 0, 0, []) := rfl
theorem i_X8_surveyMinds_10 : tab t_X8_surveyMinds 10 = some (.invokevirtual 176, 3, 3, 0, 0, 0, 13, 2, 0, 0, []) := rfl
theorem i_X8_surveyMinds_13 : tab t_X8_surveyMinds 13 = some (.aload_n 0, 1, 0, 0, 0, 0, 0, 0, 0, 0, []) := rfl
theorem i_X8_surveyMinds_14 : tab t_X8_surveyMinds 14 = some (.getfield 61, 3, 2, 0, 0, 8, 9, 0, 0, 0, []) := rfl
theorem i_X8_surveyMinds_17 : tab t_X8_surveyMinds 17 = some (.aload_n 0, 1, 0, 0, 0, 0, 0, 0, 0, 0, []) := rfl
theorem i_X8_surveyMinds_18 : tab t_X8_surveyMinds 18 = some (.getfield 10, 3, 2, 0, 0, 8, 0, 0, 0, 0, []) := rfl
theorem i_X8_surveyMinds_21 : tab t_X8_surveyMinds 21 = some (.iload_n 1, 1, 1, 0, 0, 0, 0, 0, 0, 0, []) := rfl
theorem i_X8_surveyMinds_22 : tab t_X8_surveyMinds 22 = some (.iload_n 2, 1, 2, 0, 0, 0, 0, 0, 0, 0, []) := rfl
theorem i_X8_surveyMinds_23 : tab t_X8_surveyMinds 23 = some (.invokevirtual 265, 3, 3, 0, 0, 0, 17, 2, 0, 0, []) := rfl
theorem i_X8_surveyMinds_26 : tab t_X8_surveyMinds 26 = some (.aload_n 0, 1, 0, 0, 0, 0, 0, 0, 0, 0, []) := rfl
theorem i_X8_surveyMinds_27 : tab t_X8_surveyMinds 27 = some (.getfield 61, 3, 2, 0, 0, 8, 9, 0, 0, 0, []) := rfl
theorem i_X8_surveyMinds_30 : tab t_X8_surveyMinds 30 = some (.aload_n 0, 1, 0, 0, 0, 0, 0, 0, 0, 0, []) := rfl
theorem i_X8_surveyMinds_31 : tab t_X8_surveyMinds 31 = some (.getfield 10, 3, 2, 0, 0, 8, 0, 0, 0, 0, []) := rfl
theorem i_X8_surveyMinds_34 : tab t_X8_surveyMinds 34 = some (.iload_n 2, 1, 2, 0, 0, 0, 0, 0, 0, 0, []) := rfl
theorem i_X8_surveyMinds_35 : tab t_X8_surveyMinds 35 = some (.invokevirtual 268, 3, 2, 0, 0, 0, 18, 2, 0, 0, []) := rfl
theorem i_X8_surveyMinds_38 : tab t_X8_surveyMinds 38 = some (.return_, 1, 0, 0, 0, 0, 0, 0, 0, 0, []) := rfl
def t_X8_wrongAfter : List (Nat × rw_) := [(0, (.aload_n 0, 1, 0, 0, 0, 0, 0, 0, 0, 0, [])), (1, (.getfield 47, 3, 2, 0, 0, 8, 7, 0, 0, 0, [])), (4, (.getfield 141, 3, 0, 0, 0, 0, 5, 0, 0, 0, [])), (7, (.iload_n 1, 1, 1, 0, 0, 0, 0, 0, 0, 0, [])), (8, (.ior, 1, 0, 0, 0, 0, 0, 0, 0, 0, [])), (9, (.istore_n 2, 1, 2, 0, 0, 0, 0, 0, 0, 0, [])), (10, (.aload_n 0, 1, 0, 0, 0, 0, 0, 0, 0, 0, [])), (11, (.getfield 54, 3, 2, 0, 0, 8, 8, 0, 0, 0, [])), (14, (.iconst 0, 1, 0, 0, 0, 0, 0, 0, 0, 0, [])), (15, (.iload_n 2, 1, 2, 0, 0, 0, 0, 0, 0, 0, [])), (16, (.aload_n 0, 1, 0, 0, 0, 0, 0, 0, 0, 0, [])), (17, (.getfield 47, 3, 2, 0, 0, 8, 7, 0, 0, 0, [])), (20, (.getfield 144, 3, 0, 0, 0, 0, 4, 0, 0, 0, [])), (23, (.invokevirtual 194, 3, 3, 0, 0, 0, 55, 6, 0, 0, [])), (26, (.istore_n 3, 1, 3, 0, 0, 0, 0, 0, 0, 0, [])), (27, (.iconst 0, 1, 0, 0, 0, 0, 0, 0, 0, 0, [])), (28, (.istore 4, 2, 4, 0, 0, 0, 0, 0, 0, 0, [])), (30, (.iconst 0, 1, 0, 0, 0, 0, 0, 0, 0, 0, [])), (31, (.istore 5, 2, 5, 0, 0, 0, 0, 0, 0, 0, [])), (33, (.iload 5, 2, 5, 0, 0, 0, 0, 0, 0, 0, [])), (35, (.bipush 24, 2, 0, 24, 0, 0, 0, 0, 0, 0, [])), (37, (.if_icmp .ge 76, 3, 113, 0, 0, 0, 0, 0, 0, 0, [])), (40, (.aload_n 0, 1, 0, 0, 0, 0, 0, 0, 0, 0, [])), (41, (.getfield 47, 3, 2, 0, 0, 8, 7, 0, 0, 0, [])), (44, (.getfield 272, 3, 0, 0, 0, 0, 3, 0, 0, 0, [])), (47, (.iload_n 2, 1, 2, 0, 0, 0, 0, 0, 0, 0, [])), (48, (.iconst (-1), 1, 0, -1, 0, 0, 0, 0, 0, 0, [])), (49, (.ixor, 1, 0, 0, 0, 0, 0, 0, 0, 0, [])), (50, (.iand, 1, 0, 0, 0, 0, 0, 0, 0, 0, [])), (51, (.iload 5, 2, 5, 0, 0, 0, 0, 0, 0, 0, [])), (53, (.invokestatic 241, 3, 2, 0, 0, 0, 112, 0, 0, 0, [])), (56, (.ifCond .eq 51, 3, 107, 0, 0, 0, 0, 0, 0, 0, [])), (59, (.aload_n 0, 1, 0, 0, 0, 0, 0, 0, 0, 0, [])), (60, (.getfield 54, 3, 2, 0, 0, 8, 8, 0, 0, 0, [])), (63, (.iconst 0, 1, 0, 0, 0, 0, 0, 0, 0, 0, [])), (64, (.aload_n 0, 1, 0, 0, 0, 0, 0, 0, 0, 0, [])), (65, (.getfield 61, 3, 2, 0, 0, 8, 9, 0, 0, 0, [])), (68, (.iload 5, 2, 5, 0, 0, 0, 0, 0, 0, 0, [])), (70, (.iload_n 1, 1, 1, 0, 0, 0, 0, 0, 0, 0, [])), (71, (.invokevirtual 188, 3, 2, 0, 0, 0, 21, 2, 0, 0, [])), (74, (.aload_n 0, 1, 0, 0, 0, 0, 0, 0, 0, 0, [])), (75, (.getfield 61, 3, 2, 0, 0, 8, 9, 0, 0, 0, [])), (78, (.iload 5, 2, 5, 0, 0, 0, 0, 0, 0, 0, [])), (80, (.invokevirtual 191, 3, 1, 0, 0, 0, 22, 2, 0, 0, [])), (83, (.invokevirtual 194, 3, 3, 0, 0, 0, 55, 6, 0, 0, [])), (86, (.istore 6, 2, 6, 0, 0, 0, 0, 0, 0, 0, [])), (88, (.iload 4, 2, 4, 0, 0, 0, 0, 0, 0, 0, [])), (90, (.iload 6, 2, 6, 0, 0, 0, 0, 0, 0, 0, [])), (92, (.iload_n 3, 1, 3, 0, 0, 0, 0, 0, 0, 0, [])), (93, (.if_icmp .eq 10, 3, 103, 0, 0, 0, 0, 0, 0, 0, [])), (96, (.iconst 1, 1, 0, 1, 0, 0, 0, 0, 0, 0, [])), (97, (.iload 5, 2, 5, 0, 0, 0, 0, 0, 0, 0, [])), (99, (.ishl, 1, 0, 0, 0, 0, 0, 0, 0, 0, [])), (100, (.goto 4, 3, 104, 0, 0, 0, 0, 0, 0, 0, [])), (103, (.iconst 0, 1, 0, 0, 0, 0, 0, 0, 0, 0, [])), (104, (.ior, 1, 0, 0, 0, 0, 0, 0, 0, 0, [])), (105, (.istore 4, 2, 4, 0, 0, 0, 0, 0, 0, 0, [])), (107, (.iinc 5 1, 3, 5, 1, 0, 0, 0, 0, 0, 0, [])), (110, (.goto (-77), 3, 33, 0, 0, 0, 0, 0, 0, 0, [])), (113, (.iload 4, 2, 4, 0, 0, 0, 0, 0, 0, 0, [])), (115, (.ireturn, 1, 0, 0, 0, 0, 0, 0, 0, 0, []))]
set_option maxRecDepth 100000 in
theorem ok_X8_wrongAfter : tb_ok ctX8 m_X8_wrongAfter t_X8_wrongAfter = true := by decide +kernel
theorem i_X8_wrongAfter_0 : tab t_X8_wrongAfter 0 = some (.aload_n 0, 1, 0, 0, 0, 0, 0, 0, 0, 0, []) := rfl
theorem i_X8_wrongAfter_1 : tab t_X8_wrongAfter 1 = some (.getfield 47, 3, 2, 0, 0, 8, 7, 0, 0, 0, []) := rfl
theorem i_X8_wrongAfter_4 : tab t_X8_wrongAfter 4 = some (.getfield 141, 3, 0, 0, 0, 0, 5, 0, 0, 0, []) := rfl
theorem i_X8_wrongAfter_7 : tab t_X8_wrongAfter 7 = some (.iload_n 1, 1, 1, 0, 0, 0, 0, 0, 0, 0, []) := rfl
theorem i_X8_wrongAfter_8 : tab t_X8_wrongAfter 8 = some (.ior, 1, 0, 0, 0, 0, 0, 0, 0, 0, []) := rfl
theorem i_X8_wrongAfter_9 : tab t_X8_wrongAfter 9 = some (.istore_n 2, 1, 2, 0, 0, 0, 0, 0, 0, 0, []) := rfl
theorem i_X8_wrongAfter_10 : tab t_X8_wrongAfter 10 = some (.aload_n 0, 1, 0, 0, 0, 0, 0, 0, 0, 0, []) := rfl
theorem i_X8_wrongAfter_11 : tab t_X8_wrongAfter 11 = some (.getfield 54, 3, 2, 0, 0, 8, 8, 0, 0, 0, []) := rfl
theorem i_X8_wrongAfter_14 : tab t_X8_wrongAfter 14 = some (.iconst 0, 1, 0, 0, 0, 0, 0, 0, 0, 0, []) := rfl
theorem i_X8_wrongAfter_15 : tab t_X8_wrongAfter 15 = some (.iload_n 2, 1, 2, 0, 0, 0, 0, 0, 0, 0, []) := rfl
theorem i_X8_wrongAfter_16 : tab t_X8_wrongAfter 16 = some (.aload_n 0, 1, 0, 0, 0, 0, 0, 0, 0, 0, []) := rfl
theorem i_X8_wrongAfter_17 : tab t_X8_wrongAfter 17 = some (.getfield 47, 3, 2, 0, 0, 8, 7, 0, 0, 0, []) := rfl
theorem i_X8_wrongAfter_20 : tab t_X8_wrongAfter 20 = some (.getfield 144, 3, 0, 0, 0, 0, 4, 0, 0, 0, []) := rfl
theorem i_X8_wrongAfter_23 : tab t_X8_wrongAfter 23 = some (.invokevirtual 194, 3, 3, 0, 0, 0, 55, 6, 0, 0, []) := rfl
theorem i_X8_wrongAfter_26 : tab t_X8_wrongAfter 26 = some (.istore_n 3, 1, 3, 0, 0, 0, 0, 0, 0, 0, []) := rfl
theorem i_X8_wrongAfter_27 : tab t_X8_wrongAfter 27 = some (.iconst 0, 1, 0, 0, 0, 0, 0, 0, 0, 0, []) := rfl
theorem i_X8_wrongAfter_28 : tab t_X8_wrongAfter 28 = some (.istore 4, 2, 4, 0, 0, 0, 0, 0, 0, 0, []) := rfl
theorem i_X8_wrongAfter_30 : tab t_X8_wrongAfter 30 = some (.iconst 0, 1, 0, 0, 0, 0, 0, 0, 0, 0, []) := rfl
theorem i_X8_wrongAfter_31 : tab t_X8_wrongAfter 31 = some (.istore 5, 2, 5, 0, 0, 0, 0, 0, 0, 0, []) := rfl
theorem i_X8_wrongAfter_33 : tab t_X8_wrongAfter 33 = some (.iload 5, 2, 5, 0, 0, 0, 0, 0, 0, 0, []) := rfl
theorem i_X8_wrongAfter_35 : tab t_X8_wrongAfter 35 = some (.bipush 24, 2, 0, 24, 0, 0, 0, 0, 0, 0, []) := rfl
theorem i_X8_wrongAfter_37 : tab t_X8_wrongAfter 37 = some (.if_icmp .ge 76, 3, 113, 0, 0, 0, 0, 0, 0, 0, []) := rfl
theorem i_X8_wrongAfter_40 : tab t_X8_wrongAfter 40 = some (.aload_n 0, 1, 0, 0, 0, 0, 0, 0, 0, 0, []) := rfl
theorem i_X8_wrongAfter_41 : tab t_X8_wrongAfter 41 = some (.getfield 47, 3, 2, 0, 0, 8, 7, 0, 0, 0, []) := rfl
theorem i_X8_wrongAfter_44 : tab t_X8_wrongAfter 44 = some (.getfield 272, 3, 0, 0, 0, 0, 3, 0, 0, 0, []) := rfl
theorem i_X8_wrongAfter_47 : tab t_X8_wrongAfter 47 = some (.iload_n 2, 1, 2, 0, 0, 0, 0, 0, 0, 0, []) := rfl
theorem i_X8_wrongAfter_48 : tab t_X8_wrongAfter 48 = some (.iconst (-1), 1, 0, -1, 0, 0, 0, 0, 0, 0, []) := rfl
theorem i_X8_wrongAfter_49 : tab t_X8_wrongAfter 49 = some (.ixor, 1, 0, 0, 0, 0, 0, 0, 0, 0, []) := rfl
theorem i_X8_wrongAfter_50 : tab t_X8_wrongAfter 50 = some (.iand, 1, 0, 0, 0, 0, 0, 0, 0, 0, []) := rfl
theorem i_X8_wrongAfter_51 : tab t_X8_wrongAfter 51 = some (.iload 5, 2, 5, 0, 0, 0, 0, 0, 0, 0, []) := rfl
theorem i_X8_wrongAfter_53 : tab t_X8_wrongAfter 53 = some (.invokestatic 241, 3, 2, 0, 0, 0, 112, 0, 0, 0, []) := rfl
theorem i_X8_wrongAfter_56 : tab t_X8_wrongAfter 56 = some (.ifCond .eq 51, 3, 107, 0, 0, 0, 0, 0, 0, 0, []) := rfl
theorem i_X8_wrongAfter_59 : tab t_X8_wrongAfter 59 = some (.aload_n 0, 1, 0, 0, 0, 0, 0, 0, 0, 0, []) := rfl
theorem i_X8_wrongAfter_60 : tab t_X8_wrongAfter 60 = some (.getfield 54, 3, 2, 0, 0, 8, 8, 0, 0, 0, []) := rfl
theorem i_X8_wrongAfter_63 : tab t_X8_wrongAfter 63 = some (.iconst 0, 1, 0, 0, 0, 0, 0, 0, 0, 0, []) := rfl
theorem i_X8_wrongAfter_64 : tab t_X8_wrongAfter 64 = some (.aload_n 0, 1, 0, 0, 0, 0, 0, 0, 0, 0, []) := rfl
theorem i_X8_wrongAfter_65 : tab t_X8_wrongAfter 65 = some (.getfield 61, 3, 2, 0, 0, 8, 9, 0, 0, 0, []) := rfl
theorem i_X8_wrongAfter_68 : tab t_X8_wrongAfter 68 = some (.iload 5, 2, 5, 0, 0, 0, 0, 0, 0, 0, []) := rfl
theorem i_X8_wrongAfter_70 : tab t_X8_wrongAfter 70 = some (.iload_n 1, 1, 1, 0, 0, 0, 0, 0, 0, 0, []) := rfl
theorem i_X8_wrongAfter_71 : tab t_X8_wrongAfter 71 = some (.invokevirtual 188, 3, 2, 0, 0, 0, 21, 2, 0, 0, []) := rfl
theorem i_X8_wrongAfter_74 : tab t_X8_wrongAfter 74 = some (.aload_n 0, 1, 0, 0, 0, 0, 0, 0, 0, 0, []) := rfl
theorem i_X8_wrongAfter_75 : tab t_X8_wrongAfter 75 = some (.getfield 61, 3, 2, 0, 0, 8, 9, 0, 0, 0, []) := rfl
theorem i_X8_wrongAfter_78 : tab t_X8_wrongAfter 78 = some (.iload 5, 2, 5, 0, 0, 0, 0, 0, 0, 0, []) := rfl
theorem i_X8_wrongAfter_80 : tab t_X8_wrongAfter 80 = some (.invokevirtual 191, 3, 1, 0, 0, 0, 22, 2, 0, 0, []) := rfl
theorem i_X8_wrongAfter_83 : tab t_X8_wrongAfter 83 = some (.invokevirtual 194, 3, 3, 0, 0, 0, 55, 6, 0, 0, []) := rfl
theorem i_X8_wrongAfter_86 : tab t_X8_wrongAfter 86 = some (.istore 6, 2, 6, 0, 0, 0, 0, 0, 0, 0, []) := rfl
theorem i_X8_wrongAfter_88 : tab t_X8_wrongAfter 88 = some (.iload 4, 2, 4, 0, 0, 0, 0, 0, 0, 0, []) := rfl
theorem i_X8_wrongAfter_90 : tab t_X8_wrongAfter 90 = some (.iload 6, 2, 6, 0, 0, 0, 0, 0, 0, 0, []) := rfl
theorem i_X8_wrongAfter_92 : tab t_X8_wrongAfter 92 = some (.iload_n 3, 1, 3, 0, 0, 0, 0, 0, 0, 0, []) := rfl
theorem i_X8_wrongAfter_93 : tab t_X8_wrongAfter 93 = some (.if_icmp .eq 10, 3, 103, 0, 0, 0, 0, 0, 0, 0, []) := rfl
theorem i_X8_wrongAfter_96 : tab t_X8_wrongAfter 96 = some (.iconst 1, 1, 0, 1, 0, 0, 0, 0, 0, 0, []) := rfl
theorem i_X8_wrongAfter_97 : tab t_X8_wrongAfter 97 = some (.iload 5, 2, 5, 0, 0, 0, 0, 0, 0, 0, []) := rfl
theorem i_X8_wrongAfter_99 : tab t_X8_wrongAfter 99 = some (.ishl, 1, 0, 0, 0, 0, 0, 0, 0, 0, []) := rfl
theorem i_X8_wrongAfter_100 : tab t_X8_wrongAfter 100 = some (.goto 4, 3, 104, 0, 0, 0, 0, 0, 0, 0, []) := rfl
theorem i_X8_wrongAfter_103 : tab t_X8_wrongAfter 103 = some (.iconst 0, 1, 0, 0, 0, 0, 0, 0, 0, 0, []) := rfl
theorem i_X8_wrongAfter_104 : tab t_X8_wrongAfter 104 = some (.ior, 1, 0, 0, 0, 0, 0, 0, 0, 0, []) := rfl
theorem i_X8_wrongAfter_105 : tab t_X8_wrongAfter 105 = some (.istore 4, 2, 4, 0, 0, 0, 0, 0, 0, 0, []) := rfl
theorem i_X8_wrongAfter_107 : tab t_X8_wrongAfter 107 = some (.iinc 5 1, 3, 5, 1, 0, 0, 0, 0, 0, 0, []) := rfl
theorem i_X8_wrongAfter_110 : tab t_X8_wrongAfter 110 = some (.goto (-77), 3, 33, 0, 0, 0, 0, 0, 0, 0, []) := rfl
theorem i_X8_wrongAfter_113 : tab t_X8_wrongAfter 113 = some (.iload 4, 2, 4, 0, 0, 0, 0, 0, 0, 0, []) := rfl
theorem i_X8_wrongAfter_115 : tab t_X8_wrongAfter 115 = some (.ireturn, 1, 0, 0, 0, 0, 0, 0, 0, 0, []) := rfl
def t_X8_wrongAfterFallOf : List (Nat × rw_) := [(0, (.iload_n 1, 1, 1, 0, 0, 0, 0, 0, 0, 0, [])), (1, (.bipush 24, 2, 0, 24, 0, 0, 0, 0, 0, 0, [])), (3, (.invokestatic 78, 3, 2, 0, 0, 0, 109, 0, 0, 0, [])), (6, (.ifCond .eq 16, 3, 22, 0, 0, 0, 0, 0, 0, 0, [])), (9, (.aload_n 0, 1, 0, 0, 0, 0, 0, 0, 0, 0, [])), (10, (.iconst 1, 1, 0, 1, 0, 0, 0, 0, 0, 0, [])), (11, (.iload_n 1, 1, 1, 0, 0, 0, 0, 0, 0, 0, [])), (12, (.ishl, 1, 0, 0, 0, 0, 0, 0, 0, 0, [])), (13, (.invokevirtual 198, 3, 1, 0, 0, 0, 119, 9, 0, 0, [])), (16, (.invokestatic 236, 3, 1, 0, 0, 0, 227, 0, 0, 0, [])), (19, (.goto 4, 3, 23, 0, 0, 0, 0, 0, 0, 0, [])), (22, (.iconst 0, 1, 0, 0, 0, 0, 0, 0, 0, 0, [])), (23, (.ireturn, 1, 0, 0, 0, 0, 0, 0, 0, 0, []))]
set_option maxRecDepth 100000 in
theorem ok_X8_wrongAfterFallOf : tb_ok ctX8 m_X8_wrongAfterFallOf t_X8_wrongAfterFallOf = true := by decide +kernel
theorem i_X8_wrongAfterFallOf_0 : tab t_X8_wrongAfterFallOf 0 = some (.iload_n 1, 1, 1, 0, 0, 0, 0, 0, 0, 0, []) := rfl
theorem i_X8_wrongAfterFallOf_1 : tab t_X8_wrongAfterFallOf 1 = some (.bipush 24, 2, 0, 24, 0, 0, 0, 0, 0, 0, []) := rfl
theorem i_X8_wrongAfterFallOf_3 : tab t_X8_wrongAfterFallOf 3 = some (.invokestatic 78, 3, 2, 0, 0, 0, 109, 0, 0, 0, []) := rfl
theorem i_X8_wrongAfterFallOf_6 : tab t_X8_wrongAfterFallOf 6 = some (.ifCond .eq 16, 3, 22, 0, 0, 0, 0, 0, 0, 0, []) := rfl
theorem i_X8_wrongAfterFallOf_9 : tab t_X8_wrongAfterFallOf 9 = some (.aload_n 0, 1, 0, 0, 0, 0, 0, 0, 0, 0, []) := rfl
theorem i_X8_wrongAfterFallOf_10 : tab t_X8_wrongAfterFallOf 10 = some (.iconst 1, 1, 0, 1, 0, 0, 0, 0, 0, 0, []) := rfl
theorem i_X8_wrongAfterFallOf_11 : tab t_X8_wrongAfterFallOf 11 = some (.iload_n 1, 1, 1, 0, 0, 0, 0, 0, 0, 0, []) := rfl
theorem i_X8_wrongAfterFallOf_12 : tab t_X8_wrongAfterFallOf 12 = some (.ishl, 1, 0, 0, 0, 0, 0, 0, 0, 0, []) := rfl
theorem i_X8_wrongAfterFallOf_13 : tab t_X8_wrongAfterFallOf 13 = some (.invokevirtual 198, 3, 1, 0, 0, 0, 119, 9, 0, 0, []) := rfl
theorem i_X8_wrongAfterFallOf_16 : tab t_X8_wrongAfterFallOf 16 = some (.invokestatic 236, 3, 1, 0, 0, 0, 227, 0, 0, 0, []) := rfl
theorem i_X8_wrongAfterFallOf_19 : tab t_X8_wrongAfterFallOf 19 = some (.goto 4, 3, 23, 0, 0, 0, 0, 0, 0, 0, []) := rfl
theorem i_X8_wrongAfterFallOf_22 : tab t_X8_wrongAfterFallOf 22 = some (.iconst 0, 1, 0, 0, 0, 0, 0, 0, 0, 0, []) := rfl
theorem i_X8_wrongAfterFallOf_23 : tab t_X8_wrongAfterFallOf 23 = some (.ireturn, 1, 0, 0, 0, 0, 0, 0, 0, 0, []) := rfl
def t_X8_worstFall : List (Nat × rw_) := [(0, (.iconst (-1), 1, 0, -1, 0, 0, 0, 0, 0, 0, [])), (1, (.istore_n 1, 1, 1, 0, 0, 0, 0, 0, 0, 0, [])), (2, (.iconst (-1), 1, 0, -1, 0, 0, 0, 0, 0, 0, [])), (3, (.istore_n 2, 1, 2, 0, 0, 0, 0, 0, 0, 0, [])), (4, (.iconst 0, 1, 0, 0, 0, 0, 0, 0, 0, 0, [])), (5, (.istore_n 3, 1, 3, 0, 0, 0, 0, 0, 0, 0, [])), (6, (.iload_n 3, 1, 3, 0, 0, 0, 0, 0, 0, 0, [])), (7, (.bipush 24, 2, 0, 24, 0, 0, 0, 0, 0, 0, [])), (9, (.if_icmp .ge 51, 3, 60, 0, 0, 0, 0, 0, 0, 0, [])), (12, (.aload_n 0, 1, 0, 0, 0, 0, 0, 0, 0, 0, [])), (13, (.getfield 47, 3, 2, 0, 0, 8, 7, 0, 0, 0, [])), (16, (.getfield 272, 3, 0, 0, 0, 0, 3, 0, 0, 0, [])), (19, (.aload_n 0, 1, 0, 0, 0, 0, 0, 0, 0, 0, [])), (20, (.getfield 47, 3, 2, 0, 0, 8, 7, 0, 0, 0, [])), (23, (.getfield 141, 3, 0, 0, 0, 0, 5, 0, 0, 0, [])), (26, (.iconst (-1), 1, 0, -1, 0, 0, 0, 0, 0, 0, [])), (27, (.ixor, 1, 0, 0, 0, 0, 0, 0, 0, 0, [])), (28, (.iand, 1, 0, 0, 0, 0, 0, 0, 0, 0, [])), (29, (.iload_n 3, 1, 3, 0, 0, 0, 0, 0, 0, 0, [])), (30, (.invokestatic 241, 3, 2, 0, 0, 0, 112, 0, 0, 0, [])), (33, (.ifCond .eq 21, 3, 54, 0, 0, 0, 0, 0, 0, 0, [])), (36, (.aload_n 0, 1, 0, 0, 0, 0, 0, 0, 0, 0, [])), (37, (.iload_n 3, 1, 3, 0, 0, 0, 0, 0, 0, 0, [])), (38, (.invokevirtual 233, 3, 1, 0, 0, 0, 120, 9, 0, 0, [])), (41, (.istore 4, 2, 4, 0, 0, 0, 0, 0, 0, 0, [])), (43, (.iload 4, 2, 4, 0, 0, 0, 0, 0, 0, 0, [])), (45, (.iload_n 2, 1, 2, 0, 0, 0, 0, 0, 0, 0, [])), (46, (.if_icmp .le 8, 3, 54, 0, 0, 0, 0, 0, 0, 0, [])), (49, (.iload_n 3, 1, 3, 0, 0, 0, 0, 0, 0, 0, [])), (50, (.istore_n 1, 1, 1, 0, 0, 0, 0, 0, 0, 0, [])), (51, (.iload 4, 2, 4, 0, 0, 0, 0, 0, 0, 0, [])), (53, (.istore_n 2, 1, 2, 0, 0, 0, 0, 0, 0, 0, [])), (54, (.iinc 3 1, 3, 3, 1, 0, 0, 0, 0, 0, 0, [])), (57, (.goto (-51), 3, 6, 0, 0, 0, 0, 0, 0, 0, [])), (60, (.iload_n 1, 1, 1, 0, 0, 0, 0, 0, 0, 0, [])), (61, (.ireturn, 1, 0, 0, 0, 0, 0, 0, 0, 0, []))]
set_option maxRecDepth 100000 in
theorem ok_X8_worstFall : tb_ok ctX8 m_X8_worstFall t_X8_worstFall = true := by decide +kernel
theorem i_X8_worstFall_0 : tab t_X8_worstFall 0 = some (.iconst (-1), 1, 0, -1, 0, 0, 0, 0, 0, 0, []) := rfl
theorem i_X8_worstFall_1 : tab t_X8_worstFall 1 = some (.istore_n 1, 1, 1, 0, 0, 0, 0, 0, 0, 0, []) := rfl
theorem i_X8_worstFall_2 : tab t_X8_worstFall 2 = some (.iconst (-1), 1, 0, -1, 0, 0, 0, 0, 0, 0, []) := rfl
theorem i_X8_worstFall_3 : tab t_X8_worstFall 3 = some (.istore_n 2, 1, 2, 0, 0, 0, 0, 0, 0, 0, []) := rfl
theorem i_X8_worstFall_4 : tab t_X8_worstFall 4 = some (.iconst 0, 1, 0, 0, 0, 0, 0, 0, 0, 0, []) := rfl
theorem i_X8_worstFall_5 : tab t_X8_worstFall 5 = some (.istore_n 3, 1, 3, 0, 0, 0, 0, 0, 0, 0, []) := rfl
theorem i_X8_worstFall_6 : tab t_X8_worstFall 6 = some (.iload_n 3, 1, 3, 0, 0, 0, 0, 0, 0, 0, []) := rfl
theorem i_X8_worstFall_7 : tab t_X8_worstFall 7 = some (.bipush 24, 2, 0, 24, 0, 0, 0, 0, 0, 0, []) := rfl
theorem i_X8_worstFall_9 : tab t_X8_worstFall 9 = some (.if_icmp .ge 51, 3, 60, 0, 0, 0, 0, 0, 0, 0, []) := rfl
theorem i_X8_worstFall_12 : tab t_X8_worstFall 12 = some (.aload_n 0, 1, 0, 0, 0, 0, 0, 0, 0, 0, []) := rfl
theorem i_X8_worstFall_13 : tab t_X8_worstFall 13 = some (.getfield 47, 3, 2, 0, 0, 8, 7, 0, 0, 0, []) := rfl
theorem i_X8_worstFall_16 : tab t_X8_worstFall 16 = some (.getfield 272, 3, 0, 0, 0, 0, 3, 0, 0, 0, []) := rfl
theorem i_X8_worstFall_19 : tab t_X8_worstFall 19 = some (.aload_n 0, 1, 0, 0, 0, 0, 0, 0, 0, 0, []) := rfl
theorem i_X8_worstFall_20 : tab t_X8_worstFall 20 = some (.getfield 47, 3, 2, 0, 0, 8, 7, 0, 0, 0, []) := rfl
theorem i_X8_worstFall_23 : tab t_X8_worstFall 23 = some (.getfield 141, 3, 0, 0, 0, 0, 5, 0, 0, 0, []) := rfl
theorem i_X8_worstFall_26 : tab t_X8_worstFall 26 = some (.iconst (-1), 1, 0, -1, 0, 0, 0, 0, 0, 0, []) := rfl
theorem i_X8_worstFall_27 : tab t_X8_worstFall 27 = some (.ixor, 1, 0, 0, 0, 0, 0, 0, 0, 0, []) := rfl
theorem i_X8_worstFall_28 : tab t_X8_worstFall 28 = some (.iand, 1, 0, 0, 0, 0, 0, 0, 0, 0, []) := rfl
theorem i_X8_worstFall_29 : tab t_X8_worstFall 29 = some (.iload_n 3, 1, 3, 0, 0, 0, 0, 0, 0, 0, []) := rfl
theorem i_X8_worstFall_30 : tab t_X8_worstFall 30 = some (.invokestatic 241, 3, 2, 0, 0, 0, 112, 0, 0, 0, []) := rfl
theorem i_X8_worstFall_33 : tab t_X8_worstFall 33 = some (.ifCond .eq 21, 3, 54, 0, 0, 0, 0, 0, 0, 0, []) := rfl
theorem i_X8_worstFall_36 : tab t_X8_worstFall 36 = some (.aload_n 0, 1, 0, 0, 0, 0, 0, 0, 0, 0, []) := rfl
theorem i_X8_worstFall_37 : tab t_X8_worstFall 37 = some (.iload_n 3, 1, 3, 0, 0, 0, 0, 0, 0, 0, []) := rfl
theorem i_X8_worstFall_38 : tab t_X8_worstFall 38 = some (.invokevirtual 233, 3, 1, 0, 0, 0, 120, 9, 0, 0, []) := rfl
theorem i_X8_worstFall_41 : tab t_X8_worstFall 41 = some (.istore 4, 2, 4, 0, 0, 0, 0, 0, 0, 0, []) := rfl
theorem i_X8_worstFall_43 : tab t_X8_worstFall 43 = some (.iload 4, 2, 4, 0, 0, 0, 0, 0, 0, 0, []) := rfl
theorem i_X8_worstFall_45 : tab t_X8_worstFall 45 = some (.iload_n 2, 1, 2, 0, 0, 0, 0, 0, 0, 0, []) := rfl
theorem i_X8_worstFall_46 : tab t_X8_worstFall 46 = some (.if_icmp .le 8, 3, 54, 0, 0, 0, 0, 0, 0, 0, []) := rfl
theorem i_X8_worstFall_49 : tab t_X8_worstFall 49 = some (.iload_n 3, 1, 3, 0, 0, 0, 0, 0, 0, 0, []) := rfl
theorem i_X8_worstFall_50 : tab t_X8_worstFall 50 = some (.istore_n 1, 1, 1, 0, 0, 0, 0, 0, 0, 0, []) := rfl
theorem i_X8_worstFall_51 : tab t_X8_worstFall 51 = some (.iload 4, 2, 4, 0, 0, 0, 0, 0, 0, 0, []) := rfl
theorem i_X8_worstFall_53 : tab t_X8_worstFall 53 = some (.istore_n 2, 1, 2, 0, 0, 0, 0, 0, 0, 0, []) := rfl
theorem i_X8_worstFall_54 : tab t_X8_worstFall 54 = some (.iinc 3 1, 3, 3, 1, 0, 0, 0, 0, 0, 0, []) := rfl
theorem i_X8_worstFall_57 : tab t_X8_worstFall 57 = some (.goto (-51), 3, 6, 0, 0, 0, 0, 0, 0, 0, []) := rfl
theorem i_X8_worstFall_60 : tab t_X8_worstFall 60 = some (.iload_n 1, 1, 1, 0, 0, 0, 0, 0, 0, 0, []) := rfl
theorem i_X8_worstFall_61 : tab t_X8_worstFall 61 = some (.ireturn, 1, 0, 0, 0, 0, 0, 0, 0, 0, []) := rfl
def t_X8_seatOf : List (Nat × rw_) := [(0, (.aload_n 0, 1, 0, 0, 0, 0, 0, 0, 0, 0, [])), (1, (.getfield 10, 3, 2, 0, 0, 8, 0, 0, 0, 0, [])), (4, (.getfield 201, 3, 2, 0, 0, 7, 6, 0, 0, 0, [])), (7, (.iload_n 1, 1, 1, 0, 0, 0, 0, 0, 0, 0, [])), (8, (.iconst 0, 1, 0, 0, 0, 0, 0, 0, 0, 0, [])), (9, (.invokevirtual 126, 3, 2, 0, 0, 0, 60, 7, 0, 0, [])), (12, (.istore_n 2, 1, 2, 0, 0, 0, 0, 0, 0, 0, [])), (13, (.aload_n 0, 1, 0, 0, 0, 0, 0, 0, 0, 0, [])), (14, (.getfield 10, 3, 2, 0, 0, 8, 0, 0, 0, 0, [])), (17, (.getfield 201, 3, 2, 0, 0, 7, 6, 0, 0, 0, [])), (20, (.iload_n 1, 1, 1, 0, 0, 0, 0, 0, 0, 0, [])), (21, (.iconst 3, 1, 0, 3, 0, 0, 0, 0, 0, 0, [])), (22, (.invokevirtual 126, 3, 2, 0, 0, 0, 60, 7, 0, 0, [])), (25, (.istore_n 3, 1, 3, 0, 0, 0, 0, 0, 0, 0, [])), (26, (.aload_n 0, 1, 0, 0, 0, 0, 0, 0, 0, 0, [])), (27, (.getfield 10, 3, 2, 0, 0, 8, 0, 0, 0, 0, [])), (30, (.getfield 201, 3, 2, 0, 0, 7, 6, 0, 0, 0, [])), (33, (.iload_n 1, 1, 1, 0, 0, 0, 0, 0, 0, 0, [])), (34, (.iconst 1, 1, 0, 1, 0, 0, 0, 0, 0, 0, [])), (35, (.invokevirtual 126, 3, 2, 0, 0, 0, 60, 7, 0, 0, [])), (38, (.istore 4, 2, 4, 0, 0, 0, 0, 0, 0, 0, [])), (40, (.iconst (-1), 1, 0, -1, 0, 0, 0, 0, 0, 0, [])), (41, (.istore 5, 2, 5, 0, 0, 0, 0, 0, 0, 0, [])), (43, (.iconst 0, 1, 0, 0, 0, 0, 0, 0, 0, 0, [])), (44, (.istore 6, 2, 6, 0, 0, 0, 0, 0, 0, 0, [])), (46, (.iload 6, 2, 6, 0, 0, 0, 0, 0, 0, 0, [])), (48, (.bipush 12, 2, 0, 12, 0, 0, 0, 0, 0, 0, [])), (50, (.if_icmp .ge 45, 3, 95, 0, 0, 0, 0, 0, 0, 0, [])), (53, (.iload 4, 2, 4, 0, 0, 0, 0, 0, 0, 0, [])), (55, (.iconst (-1), 1, 0, -1, 0, 0, 0, 0, 0, 0, [])), (56, (.if_icmp .eq 39, 3, 95, 0, 0, 0, 0, 0, 0, 0, [])), (59, (.aload_n 0, 1, 0, 0, 0, 0, 0, 0, 0, 0, [])), (60, (.iload 4, 2, 4, 0, 0, 0, 0, 0, 0, 0, [])), (62, (.iload_n 3, 1, 3, 0, 0, 0, 0, 0, 0, 0, [])), (63, (.invokevirtual 138, 3, 2, 0, 0, 0, 117, 9, 0, 0, [])), (66, (.iload_n 2, 1, 2, 0, 0, 0, 0, 0, 0, 0, [])), (67, (.if_icmp .ne 7, 3, 74, 0, 0, 0, 0, 0, 0, 0, [])), (70, (.iload 4, 2, 4, 0, 0, 0, 0, 0, 0, 0, [])), (72, (.istore 5, 2, 5, 0, 0, 0, 0, 0, 0, 0, [])), (74, (.aload_n 0, 1, 0, 0, 0, 0, 0, 0, 0, 0, [])), (75, (.getfield 10, 3, 2, 0, 0, 8, 0, 0, 0, 0, [])), (78, (.getfield 68, 3, 2, 0, 0, 7, 0, 0, 0, 0, [])), (81, (.iload 4, 2, 4, 0, 0, 0, 0, 0, 0, 0, [])), (83, (.iconst 0, 1, 0, 0, 0, 0, 0, 0, 0, 0, [])), (84, (.invokevirtual 126, 3, 2, 0, 0, 0, 60, 7, 0, 0, [])), (87, (.istore 4, 2, 4, 0, 0, 0, 0, 0, 0, 0, [])), (89, (.iinc 6 1, 3, 6, 1, 0, 0, 0, 0, 0, 0, [])), (92, (.goto (-46), 3, 46, 0, 0, 0, 0, 0, 0, 0, [])), (95, (.iload 5, 2, 5, 0, 0, 0, 0, 0, 0, 0, [])), (97, (.ireturn, 1, 0, 0, 0, 0, 0, 0, 0, 0, []))]
set_option maxRecDepth 100000 in
theorem ok_X8_seatOf : tb_ok ctX8 m_X8_seatOf t_X8_seatOf = true := by decide +kernel
theorem i_X8_seatOf_0 : tab t_X8_seatOf 0 = some (.aload_n 0, 1, 0, 0, 0, 0, 0, 0, 0, 0, []) := rfl
theorem i_X8_seatOf_1 : tab t_X8_seatOf 1 = some (.getfield 10, 3, 2, 0, 0, 8, 0, 0, 0, 0, []) := rfl
theorem i_X8_seatOf_4 : tab t_X8_seatOf 4 = some (.getfield 201, 3, 2, 0, 0, 7, 6, 0, 0, 0, []) := rfl
theorem i_X8_seatOf_7 : tab t_X8_seatOf 7 = some (.iload_n 1, 1, 1, 0, 0, 0, 0, 0, 0, 0, []) := rfl
theorem i_X8_seatOf_8 : tab t_X8_seatOf 8 = some (.iconst 0, 1, 0, 0, 0, 0, 0, 0, 0, 0, []) := rfl
theorem i_X8_seatOf_9 : tab t_X8_seatOf 9 = some (.invokevirtual 126, 3, 2, 0, 0, 0, 60, 7, 0, 0, []) := rfl
theorem i_X8_seatOf_12 : tab t_X8_seatOf 12 = some (.istore_n 2, 1, 2, 0, 0, 0, 0, 0, 0, 0, []) := rfl
theorem i_X8_seatOf_13 : tab t_X8_seatOf 13 = some (.aload_n 0, 1, 0, 0, 0, 0, 0, 0, 0, 0, []) := rfl
theorem i_X8_seatOf_14 : tab t_X8_seatOf 14 = some (.getfield 10, 3, 2, 0, 0, 8, 0, 0, 0, 0, []) := rfl
theorem i_X8_seatOf_17 : tab t_X8_seatOf 17 = some (.getfield 201, 3, 2, 0, 0, 7, 6, 0, 0, 0, []) := rfl
theorem i_X8_seatOf_20 : tab t_X8_seatOf 20 = some (.iload_n 1, 1, 1, 0, 0, 0, 0, 0, 0, 0, []) := rfl
theorem i_X8_seatOf_21 : tab t_X8_seatOf 21 = some (.iconst 3, 1, 0, 3, 0, 0, 0, 0, 0, 0, []) := rfl
theorem i_X8_seatOf_22 : tab t_X8_seatOf 22 = some (.invokevirtual 126, 3, 2, 0, 0, 0, 60, 7, 0, 0, []) := rfl
theorem i_X8_seatOf_25 : tab t_X8_seatOf 25 = some (.istore_n 3, 1, 3, 0, 0, 0, 0, 0, 0, 0, []) := rfl
theorem i_X8_seatOf_26 : tab t_X8_seatOf 26 = some (.aload_n 0, 1, 0, 0, 0, 0, 0, 0, 0, 0, []) := rfl
theorem i_X8_seatOf_27 : tab t_X8_seatOf 27 = some (.getfield 10, 3, 2, 0, 0, 8, 0, 0, 0, 0, []) := rfl
theorem i_X8_seatOf_30 : tab t_X8_seatOf 30 = some (.getfield 201, 3, 2, 0, 0, 7, 6, 0, 0, 0, []) := rfl
theorem i_X8_seatOf_33 : tab t_X8_seatOf 33 = some (.iload_n 1, 1, 1, 0, 0, 0, 0, 0, 0, 0, []) := rfl
theorem i_X8_seatOf_34 : tab t_X8_seatOf 34 = some (.iconst 1, 1, 0, 1, 0, 0, 0, 0, 0, 0, []) := rfl
theorem i_X8_seatOf_35 : tab t_X8_seatOf 35 = some (.invokevirtual 126, 3, 2, 0, 0, 0, 60, 7, 0, 0, []) := rfl
theorem i_X8_seatOf_38 : tab t_X8_seatOf 38 = some (.istore 4, 2, 4, 0, 0, 0, 0, 0, 0, 0, []) := rfl
theorem i_X8_seatOf_40 : tab t_X8_seatOf 40 = some (.iconst (-1), 1, 0, -1, 0, 0, 0, 0, 0, 0, []) := rfl
theorem i_X8_seatOf_41 : tab t_X8_seatOf 41 = some (.istore 5, 2, 5, 0, 0, 0, 0, 0, 0, 0, []) := rfl
theorem i_X8_seatOf_43 : tab t_X8_seatOf 43 = some (.iconst 0, 1, 0, 0, 0, 0, 0, 0, 0, 0, []) := rfl
theorem i_X8_seatOf_44 : tab t_X8_seatOf 44 = some (.istore 6, 2, 6, 0, 0, 0, 0, 0, 0, 0, []) := rfl
theorem i_X8_seatOf_46 : tab t_X8_seatOf 46 = some (.iload 6, 2, 6, 0, 0, 0, 0, 0, 0, 0, []) := rfl
theorem i_X8_seatOf_48 : tab t_X8_seatOf 48 = some (.bipush 12, 2, 0, 12, 0, 0, 0, 0, 0, 0, []) := rfl
theorem i_X8_seatOf_50 : tab t_X8_seatOf 50 = some (.if_icmp .ge 45, 3, 95, 0, 0, 0, 0, 0, 0, 0, []) := rfl
theorem i_X8_seatOf_53 : tab t_X8_seatOf 53 = some (.iload 4, 2, 4, 0, 0, 0, 0, 0, 0, 0, []) := rfl
theorem i_X8_seatOf_55 : tab t_X8_seatOf 55 = some (.iconst (-1), 1, 0, -1, 0, 0, 0, 0, 0, 0, []) := rfl
theorem i_X8_seatOf_56 : tab t_X8_seatOf 56 = some (.if_icmp .eq 39, 3, 95, 0, 0, 0, 0, 0, 0, 0, []) := rfl
theorem i_X8_seatOf_59 : tab t_X8_seatOf 59 = some (.aload_n 0, 1, 0, 0, 0, 0, 0, 0, 0, 0, []) := rfl
theorem i_X8_seatOf_60 : tab t_X8_seatOf 60 = some (.iload 4, 2, 4, 0, 0, 0, 0, 0, 0, 0, []) := rfl
theorem i_X8_seatOf_62 : tab t_X8_seatOf 62 = some (.iload_n 3, 1, 3, 0, 0, 0, 0, 0, 0, 0, []) := rfl
theorem i_X8_seatOf_63 : tab t_X8_seatOf 63 = some (.invokevirtual 138, 3, 2, 0, 0, 0, 117, 9, 0, 0, []) := rfl
theorem i_X8_seatOf_66 : tab t_X8_seatOf 66 = some (.iload_n 2, 1, 2, 0, 0, 0, 0, 0, 0, 0, []) := rfl
theorem i_X8_seatOf_67 : tab t_X8_seatOf 67 = some (.if_icmp .ne 7, 3, 74, 0, 0, 0, 0, 0, 0, 0, []) := rfl
theorem i_X8_seatOf_70 : tab t_X8_seatOf 70 = some (.iload 4, 2, 4, 0, 0, 0, 0, 0, 0, 0, []) := rfl
theorem i_X8_seatOf_72 : tab t_X8_seatOf 72 = some (.istore 5, 2, 5, 0, 0, 0, 0, 0, 0, 0, []) := rfl
theorem i_X8_seatOf_74 : tab t_X8_seatOf 74 = some (.aload_n 0, 1, 0, 0, 0, 0, 0, 0, 0, 0, []) := rfl
theorem i_X8_seatOf_75 : tab t_X8_seatOf 75 = some (.getfield 10, 3, 2, 0, 0, 8, 0, 0, 0, 0, []) := rfl
theorem i_X8_seatOf_78 : tab t_X8_seatOf 78 = some (.getfield 68, 3, 2, 0, 0, 7, 0, 0, 0, 0, []) := rfl
theorem i_X8_seatOf_81 : tab t_X8_seatOf 81 = some (.iload 4, 2, 4, 0, 0, 0, 0, 0, 0, 0, []) := rfl
theorem i_X8_seatOf_83 : tab t_X8_seatOf 83 = some (.iconst 0, 1, 0, 0, 0, 0, 0, 0, 0, 0, []) := rfl
theorem i_X8_seatOf_84 : tab t_X8_seatOf 84 = some (.invokevirtual 126, 3, 2, 0, 0, 0, 60, 7, 0, 0, []) := rfl
theorem i_X8_seatOf_87 : tab t_X8_seatOf 87 = some (.istore 4, 2, 4, 0, 0, 0, 0, 0, 0, 0, []) := rfl
theorem i_X8_seatOf_89 : tab t_X8_seatOf 89 = some (.iinc 6 1, 3, 6, 1, 0, 0, 0, 0, 0, 0, []) := rfl
theorem i_X8_seatOf_92 : tab t_X8_seatOf 92 = some (.goto (-46), 3, 46, 0, 0, 0, 0, 0, 0, 0, []) := rfl
theorem i_X8_seatOf_95 : tab t_X8_seatOf 95 = some (.iload 5, 2, 5, 0, 0, 0, 0, 0, 0, 0, []) := rfl
theorem i_X8_seatOf_97 : tab t_X8_seatOf 97 = some (.ireturn, 1, 0, 0, 0, 0, 0, 0, 0, 0, []) := rfl
def t_X8_isRunning : List (Nat × rw_) := [(0, (.iload_n 2, 1, 2, 0, 0, 0, 0, 0, 0, 0, [])), (1, (.aload_n 0, 1, 0, 0, 0, 0, 0, 0, 0, 0, [])), (2, (.getfield 10, 3, 2, 0, 0, 8, 0, 0, 0, 0, [])), (5, (.getfield 201, 3, 2, 0, 0, 7, 6, 0, 0, 0, [])), (8, (.iload_n 1, 1, 1, 0, 0, 0, 0, 0, 0, 0, [])), (9, (.iconst 4, 1, 0, 4, 0, 0, 0, 0, 0, 0, [])), (10, (.invokevirtual 126, 3, 2, 0, 0, 0, 60, 7, 0, 0, [])), (13, (.if_icmp .lt 19, 3, 32, 0, 0, 0, 0, 0, 0, 0, [])), (16, (.iload_n 2, 1, 2, 0, 0, 0, 0, 0, 0, 0, [])), (17, (.aload_n 0, 1, 0, 0, 0, 0, 0, 0, 0, 0, [])), (18, (.getfield 10, 3, 2, 0, 0, 8, 0, 0, 0, 0, [])), (21, (.getfield 201, 3, 2, 0, 0, 7, 6, 0, 0, 0, [])), (24, (.iload_n 1, 1, 1, 0, 0, 0, 0, 0, 0, 0, [])), (25, (.iconst 5, 1, 0, 5, 0, 0, 0, 0, 0, 0, [])), (26, (.invokevirtual 126, 3, 2, 0, 0, 0, 60, 7, 0, 0, [])), (29, (.if_icmp .lt 5, 3, 34, 0, 0, 0, 0, 0, 0, 0, [])), (32, (.iconst 0, 1, 0, 0, 0, 0, 0, 0, 0, 0, [])), (33, (.ireturn, 1, 0, 0, 0, 1, 0, 0, 0, 0, [])), (34, (.aload_n 0, 1, 0, 0, 0, 0, 0, 0, 0, 0, [])), (35, (.getfield 10, 3, 2, 0, 0, 8, 0, 0, 0, 0, [])), (38, (.getfield 201, 3, 2, 0, 0, 7, 6, 0, 0, 0, [])), (41, (.iload_n 1, 1, 1, 0, 0, 0, 0, 0, 0, 0, [])), (42, (.iconst 1, 1, 0, 1, 0, 0, 0, 0, 0, 0, [])), (43, (.invokevirtual 126, 3, 2, 0, 0, 0, 60, 7, 0, 0, [])), (46, (.istore_n 3, 1, 3, 0, 0, 0, 0, 0, 0, 0, [])), (47, (.aload_n 0, 1, 0, 0, 0, 0, 0, 0, 0, 0, [])), (48, (.iload_n 3, 1, 3, 0, 0, 0, 0, 0, 0, 0, [])), (49, (.invokevirtual 150, 3, 1, 0, 0, 0, 116, 9, 0, 0, [])), (52, (.astore 4, 2, 4, 0, 0, 0, 0, 0, 0, 0, [])), (54, (.aload 4, 2, 4, 0, 0, 0, 0, 0, 0, 0, [])), (56, (.ifnonnull 5, 3, 61, 0, 0, 0, 0, 0, 0, 0, [])), (59, (.iconst 1, 1, 0, 1, 0, 0, 0, 0, 0, 0, [])), (60, (.ireturn, 1, 0, 0, 0, 1, 0, 0, 0, 0, [])), (61, (.aload_n 0, 1, 0, 0, 0, 0, 0, 0, 0, 0, [])), (62, (.getfield 10, 3, 2, 0, 0, 8, 0, 0, 0, 0, [])), (65, (.getfield 201, 3, 2, 0, 0, 7, 6, 0, 0, 0, [])), (68, (.iload_n 1, 1, 1, 0, 0, 0, 0, 0, 0, 0, [])), (69, (.iconst 0, 1, 0, 0, 0, 0, 0, 0, 0, 0, [])), (70, (.invokevirtual 126, 3, 2, 0, 0, 0, 60, 7, 0, 0, [])), (73, (.istore 5, 2, 5, 0, 0, 0, 0, 0, 0, 0, [])), (75, (.aload_n 0, 1, 0, 0, 0, 0, 0, 0, 0, 0, [])), (76, (.getfield 47, 3, 2, 0, 0, 8, 7, 0, 0, 0, [])), (79, (.aload_n 0, 1, 0, 0, 0, 0, 0, 0, 0, 0, [])), (80, (.getfield 10, 3, 2, 0, 0, 8, 0, 0, 0, 0, [])), (83, (.iload_n 3, 1, 3, 0, 0, 0, 0, 0, 0, 0, [])), (84, (.iload_n 2, 1, 2, 0, 0, 0, 0, 0, 0, 0, [])), (85, (.invokevirtual 105, 3, 3, 0, 0, 0, 1, 1, 0, 0, [])), (88, (.aload_n 0, 1, 0, 0, 0, 0, 0, 0, 0, 0, [])), (89, (.getfield 47, 3, 2, 0, 0, 8, 7, 0, 0, 0, [])), (92, (.iload 5, 2, 5, 0, 0, 0, 0, 0, 0, 0, [])), (94, (.bipush 10, 2, 0, 10, 0, 0, 0, 0, 0, 0, [])), (96, (.aload_n 0, 1, 0, 0, 0, 0, 0, 0, 0, 0, [])), (97, (.getfield 10, 3, 2, 0, 0, 8, 0, 0, 0, 0, [])), (100, (.iload 5, 2, 5, 0, 0, 0, 0, 0, 0, 0, [])), (102, (.iload_n 2, 1, 2, 0, 0, 0, 0, 0, 0, 0, [])), (103, (.invokevirtual 173, 3, 2, 0, 0, 0, 66, 8, 0, 0, [])), (106, (.ifCond .eq 7, 3, 113, 0, 0, 0, 0, 0, 0, 0, [])), (109, (.iconst 1, 1, 0, 1, 0, 0, 0, 0, 0, 0, [])), (110, (.goto 4, 3, 114, 0, 0, 0, 0, 0, 0, 0, [])), (113, (.iconst 0, 1, 0, 0, 0, 0, 0, 0, 0, 0, [])), (114, (.invokevirtual 275, 3, 3, 0, 0, 0, 6, 1, 0, 0, [])), (117, (.aload_n 0, 1, 0, 0, 0, 0, 0, 0, 0, 0, [])), (118, (.getfield 47, 3, 2, 0, 0, 8, 7, 0, 0, 0, [])), (121, (.iload 5, 2, 5, 0, 0, 0, 0, 0, 0, 0, [])), (123, (.bipush 11, 2, 0, 11, 0, 0, 0, 0, 0, 0, [])), (125, (.iload_n 2, 1, 2, 0, 0, 0, 0, 0, 0, 0, [])), (126, (.aload_n 0, 1, 0, 0, 0, 0, 0, 0, 0, 0, [])), (127, (.getfield 10, 3, 2, 0, 0, 8, 0, 0, 0, 0, [])), (130, (.getfield 201, 3, 2, 0, 0, 7, 6, 0, 0, 0, [])), (133, (.iload_n 1, 1, 1, 0, 0, 0, 0, 0, 0, 0, [])), (134, (.iconst 3, 1, 0, 3, 0, 0, 0, 0, 0, 0, [])), (135, (.invokevirtual 126, 3, 2, 0, 0, 0, 60, 7, 0, 0, [])), (138, (.isub, 1, 0, 0, 0, 0, 0, 0, 0, 0, [])), (139, (.invokevirtual 275, 3, 3, 0, 0, 0, 6, 1, 0, 0, [])), (142, (.aload_n 0, 1, 0, 0, 0, 0, 0, 0, 0, 0, [])), (143, (.getfield 47, 3, 2, 0, 0, 8, 7, 0, 0, 0, [])), (146, (.iload 5, 2, 5, 0, 0, 0, 0, 0, 0, 0, [])), (148, (.bipush 12, 2, 0, 12, 0, 0, 0, 0, 0, 0, [])), (150, (.aload_n 0, 1, 0, 0, 0, 0, 0, 0, 0, 0, [])), (151, (.getfield 10, 3, 2, 0, 0, 8, 0, 0, 0, 0, [])), (154, (.getfield 201, 3, 2, 0, 0, 7, 6, 0, 0, 0, [])), (157, (.iload_n 1, 1, 1, 0, 0, 0, 0, 0, 0, 0, [])), (158, (.iconst 2, 1, 0, 2, 0, 0, 0, 0, 0, 0, [])), (159, (.invokevirtual 126, 3, 2, 0, 0, 0, 60, 7, 0, 0, [])), (162, (.invokevirtual 275, 3, 3, 0, 0, 0, 6, 1, 0, 0, [])), (165, (.aload_n 0, 1, 0, 0, 0, 0, 0, 0, 0, 0, [])), (166, (.getfield 47, 3, 2, 0, 0, 8, 7, 0, 0, 0, [])), (169, (.aload 4, 2, 4, 0, 0, 0, 0, 0, 0, 0, [])), (171, (.bipush 16, 2, 0, 16, 0, 0, 0, 0, 0, 0, [])), (173, (.iload 5, 2, 5, 0, 0, 0, 0, 0, 0, 0, [])), (175, (.invokevirtual 276, 3, 3, 0, 0, 0, 8, 1, 0, 0, [])), (178, (.ifCond .ne 7, 3, 185, 0, 0, 0, 0, 0, 0, 0, [])), (181, (.iconst 1, 1, 0, 1, 0, 0, 0, 0, 0, 0, [])), (182, (.goto 4, 3, 186, 0, 0, 0, 0, 0, 0, 0, [])), (185, (.iconst 0, 1, 0, 0, 0, 0, 0, 0, 0, 0, [])), (186, (.ireturn, 1, 0, 0, 0, 1, 0, 0, 0, 0, []))]
set_option maxRecDepth 100000 in
theorem ok_X8_isRunning : tb_ok ctX8 m_X8_isRunning t_X8_isRunning = true := by decide +kernel
theorem i_X8_isRunning_0 : tab t_X8_isRunning 0 = some (.iload_n 2, 1, 2, 0, 0, 0, 0, 0, 0, 0, []) := rfl
theorem i_X8_isRunning_1 : tab t_X8_isRunning 1 = some (.aload_n 0, 1, 0, 0, 0, 0, 0, 0, 0, 0, []) := rfl
theorem i_X8_isRunning_2 : tab t_X8_isRunning 2 = some (.getfield 10, 3, 2, 0, 0, 8, 0, 0, 0, 0, []) := rfl
theorem i_X8_isRunning_5 : tab t_X8_isRunning 5 = some (.getfield 201, 3, 2, 0, 0, 7, 6, 0, 0, 0, []) := rfl
theorem i_X8_isRunning_8 : tab t_X8_isRunning 8 = some (.iload_n 1, 1, 1, 0, 0, 0, 0, 0, 0, 0, []) := rfl
theorem i_X8_isRunning_9 : tab t_X8_isRunning 9 = some (.iconst 4, 1, 0, 4, 0, 0, 0, 0, 0, 0, []) := rfl
theorem i_X8_isRunning_10 : tab t_X8_isRunning 10 = some (.invokevirtual 126, 3, 2, 0, 0, 0, 60, 7, 0, 0, []) := rfl
theorem i_X8_isRunning_13 : tab t_X8_isRunning 13 = some (.if_icmp .lt 19, 3, 32, 0, 0, 0, 0, 0, 0, 0, []) := rfl
theorem i_X8_isRunning_16 : tab t_X8_isRunning 16 = some (.iload_n 2, 1, 2, 0, 0, 0, 0, 0, 0, 0, []) := rfl
theorem i_X8_isRunning_17 : tab t_X8_isRunning 17 = some (.aload_n 0, 1, 0, 0, 0, 0, 0, 0, 0, 0, []) := rfl
theorem i_X8_isRunning_18 : tab t_X8_isRunning 18 = some (.getfield 10, 3, 2, 0, 0, 8, 0, 0, 0, 0, []) := rfl
theorem i_X8_isRunning_21 : tab t_X8_isRunning 21 = some (.getfield 201, 3, 2, 0, 0, 7, 6, 0, 0, 0, []) := rfl
theorem i_X8_isRunning_24 : tab t_X8_isRunning 24 = some (.iload_n 1, 1, 1, 0, 0, 0, 0, 0, 0, 0, []) := rfl
theorem i_X8_isRunning_25 : tab t_X8_isRunning 25 = some (.iconst 5, 1, 0, 5, 0, 0, 0, 0, 0, 0, []) := rfl
theorem i_X8_isRunning_26 : tab t_X8_isRunning 26 = some (.invokevirtual 126, 3, 2, 0, 0, 0, 60, 7, 0, 0, []) := rfl
theorem i_X8_isRunning_29 : tab t_X8_isRunning 29 = some (.if_icmp .lt 5, 3, 34, 0, 0, 0, 0, 0, 0, 0, []) := rfl
theorem i_X8_isRunning_32 : tab t_X8_isRunning 32 = some (.iconst 0, 1, 0, 0, 0, 0, 0, 0, 0, 0, []) := rfl
theorem i_X8_isRunning_33 : tab t_X8_isRunning 33 = some (.ireturn, 1, 0, 0, 0, 1, 0, 0, 0, 0, []) := rfl
theorem i_X8_isRunning_34 : tab t_X8_isRunning 34 = some (.aload_n 0, 1, 0, 0, 0, 0, 0, 0, 0, 0, []) := rfl
theorem i_X8_isRunning_35 : tab t_X8_isRunning 35 = some (.getfield 10, 3, 2, 0, 0, 8, 0, 0, 0, 0, []) := rfl
theorem i_X8_isRunning_38 : tab t_X8_isRunning 38 = some (.getfield 201, 3, 2, 0, 0, 7, 6, 0, 0, 0, []) := rfl
theorem i_X8_isRunning_41 : tab t_X8_isRunning 41 = some (.iload_n 1, 1, 1, 0, 0, 0, 0, 0, 0, 0, []) := rfl
theorem i_X8_isRunning_42 : tab t_X8_isRunning 42 = some (.iconst 1, 1, 0, 1, 0, 0, 0, 0, 0, 0, []) := rfl
theorem i_X8_isRunning_43 : tab t_X8_isRunning 43 = some (.invokevirtual 126, 3, 2, 0, 0, 0, 60, 7, 0, 0, []) := rfl
theorem i_X8_isRunning_46 : tab t_X8_isRunning 46 = some (.istore_n 3, 1, 3, 0, 0, 0, 0, 0, 0, 0, []) := rfl
theorem i_X8_isRunning_47 : tab t_X8_isRunning 47 = some (.aload_n 0, 1, 0, 0, 0, 0, 0, 0, 0, 0, []) := rfl
theorem i_X8_isRunning_48 : tab t_X8_isRunning 48 = some (.iload_n 3, 1, 3, 0, 0, 0, 0, 0, 0, 0, []) := rfl
theorem i_X8_isRunning_49 : tab t_X8_isRunning 49 = some (.invokevirtual 150, 3, 1, 0, 0, 0, 116, 9, 0, 0, []) := rfl
theorem i_X8_isRunning_52 : tab t_X8_isRunning 52 = some (.astore 4, 2, 4, 0, 0, 0, 0, 0, 0, 0, []) := rfl
theorem i_X8_isRunning_54 : tab t_X8_isRunning 54 = some (.aload 4, 2, 4, 0, 0, 0, 0, 0, 0, 0, []) := rfl
theorem i_X8_isRunning_56 : tab t_X8_isRunning 56 = some (.ifnonnull 5, 3, 61, 0, 0, 0, 0, 0, 0, 0, []) := rfl
theorem i_X8_isRunning_59 : tab t_X8_isRunning 59 = some (.iconst 1, 1, 0, 1, 0, 0, 0, 0, 0, 0, []) := rfl
theorem i_X8_isRunning_60 : tab t_X8_isRunning 60 = some (.ireturn, 1, 0, 0, 0, 1, 0, 0, 0, 0, []) := rfl
theorem i_X8_isRunning_61 : tab t_X8_isRunning 61 = some (.aload_n 0, 1, 0, 0, 0, 0, 0, 0, 0, 0, []) := rfl
theorem i_X8_isRunning_62 : tab t_X8_isRunning 62 = some (.getfield 10, 3, 2, 0, 0, 8, 0, 0, 0, 0, []) := rfl
theorem i_X8_isRunning_65 : tab t_X8_isRunning 65 = some (.getfield 201, 3, 2, 0, 0, 7, 6, 0, 0, 0, []) := rfl
theorem i_X8_isRunning_68 : tab t_X8_isRunning 68 = some (.iload_n 1, 1, 1, 0, 0, 0, 0, 0, 0, 0, []) := rfl
theorem i_X8_isRunning_69 : tab t_X8_isRunning 69 = some (.iconst 0, 1, 0, 0, 0, 0, 0, 0, 0, 0, []) := rfl
theorem i_X8_isRunning_70 : tab t_X8_isRunning 70 = some (.invokevirtual 126, 3, 2, 0, 0, 0, 60, 7, 0, 0, []) := rfl
theorem i_X8_isRunning_73 : tab t_X8_isRunning 73 = some (.istore 5, 2, 5, 0, 0, 0, 0, 0, 0, 0, []) := rfl
theorem i_X8_isRunning_75 : tab t_X8_isRunning 75 = some (.aload_n 0, 1, 0, 0, 0, 0, 0, 0, 0, 0, []) := rfl
theorem i_X8_isRunning_76 : tab t_X8_isRunning 76 = some (.getfield 47, 3, 2, 0, 0, 8, 7, 0, 0, 0, []) := rfl
theorem i_X8_isRunning_79 : tab t_X8_isRunning 79 = some (.aload_n 0, 1, 0, 0, 0, 0, 0, 0, 0, 0, []) := rfl
theorem i_X8_isRunning_80 : tab t_X8_isRunning 80 = some (.getfield 10, 3, 2, 0, 0, 8, 0, 0, 0, 0, []) := rfl
theorem i_X8_isRunning_83 : tab t_X8_isRunning 83 = some (.iload_n 3, 1, 3, 0, 0, 0, 0, 0, 0, 0, []) := rfl
theorem i_X8_isRunning_84 : tab t_X8_isRunning 84 = some (.iload_n 2, 1, 2, 0, 0, 0, 0, 0, 0, 0, []) := rfl
theorem i_X8_isRunning_85 : tab t_X8_isRunning 85 = some (.invokevirtual 105, 3, 3, 0, 0, 0, 1, 1, 0, 0, []) := rfl
theorem i_X8_isRunning_88 : tab t_X8_isRunning 88 = some (.aload_n 0, 1, 0, 0, 0, 0, 0, 0, 0, 0, []) := rfl
theorem i_X8_isRunning_89 : tab t_X8_isRunning 89 = some (.getfield 47, 3, 2, 0, 0, 8, 7, 0, 0, 0, []) := rfl
theorem i_X8_isRunning_92 : tab t_X8_isRunning 92 = some (.iload 5, 2, 5, 0, 0, 0, 0, 0, 0, 0, []) := rfl
theorem i_X8_isRunning_94 : tab t_X8_isRunning 94 = some (.bipush 10, 2, 0, 10, 0, 0, 0, 0, 0, 0, []) := rfl
theorem i_X8_isRunning_96 : tab t_X8_isRunning 96 = some (.aload_n 0, 1, 0, 0, 0, 0, 0, 0, 0, 0, []) := rfl
theorem i_X8_isRunning_97 : tab t_X8_isRunning 97 = some (.getfield 10, 3, 2, 0, 0, 8, 0, 0, 0, 0, []) := rfl
theorem i_X8_isRunning_100 : tab t_X8_isRunning 100 = some (.iload 5, 2, 5, 0, 0, 0, 0, 0, 0, 0, []) := rfl
theorem i_X8_isRunning_102 : tab t_X8_isRunning 102 = some (.iload_n 2, 1, 2, 0, 0, 0, 0, 0, 0, 0, []) := rfl
theorem i_X8_isRunning_103 : tab t_X8_isRunning 103 = some (.invokevirtual 173, 3, 2, 0, 0, 0, 66, 8, 0, 0, []) := rfl
theorem i_X8_isRunning_106 : tab t_X8_isRunning 106 = some (.ifCond .eq 7, 3, 113, 0, 0, 0, 0, 0, 0, 0, []) := rfl
theorem i_X8_isRunning_109 : tab t_X8_isRunning 109 = some (.iconst 1, 1, 0, 1, 0, 0, 0, 0, 0, 0, []) := rfl
theorem i_X8_isRunning_110 : tab t_X8_isRunning 110 = some (.goto 4, 3, 114, 0, 0, 0, 0, 0, 0, 0, []) := rfl
theorem i_X8_isRunning_113 : tab t_X8_isRunning 113 = some (.iconst 0, 1, 0, 0, 0, 0, 0, 0, 0, 0, []) := rfl
theorem i_X8_isRunning_114 : tab t_X8_isRunning 114 = some (.invokevirtual 275, 3, 3, 0, 0, 0, 6, 1, 0, 0, []) := rfl
theorem i_X8_isRunning_117 : tab t_X8_isRunning 117 = some (.aload_n 0, 1, 0, 0, 0, 0, 0, 0, 0, 0, []) := rfl
theorem i_X8_isRunning_118 : tab t_X8_isRunning 118 = some (.getfield 47, 3, 2, 0, 0, 8, 7, 0, 0, 0, []) := rfl
theorem i_X8_isRunning_121 : tab t_X8_isRunning 121 = some (.iload 5, 2, 5, 0, 0, 0, 0, 0, 0, 0, []) := rfl
theorem i_X8_isRunning_123 : tab t_X8_isRunning 123 = some (.bipush 11, 2, 0, 11, 0, 0, 0, 0, 0, 0, []) := rfl
theorem i_X8_isRunning_125 : tab t_X8_isRunning 125 = some (.iload_n 2, 1, 2, 0, 0, 0, 0, 0, 0, 0, []) := rfl
theorem i_X8_isRunning_126 : tab t_X8_isRunning 126 = some (.aload_n 0, 1, 0, 0, 0, 0, 0, 0, 0, 0, []) := rfl
theorem i_X8_isRunning_127 : tab t_X8_isRunning 127 = some (.getfield 10, 3, 2, 0, 0, 8, 0, 0, 0, 0, []) := rfl
theorem i_X8_isRunning_130 : tab t_X8_isRunning 130 = some (.getfield 201, 3, 2, 0, 0, 7, 6, 0, 0, 0, []) := rfl
theorem i_X8_isRunning_133 : tab t_X8_isRunning 133 = some (.iload_n 1, 1, 1, 0, 0, 0, 0, 0, 0, 0, []) := rfl
theorem i_X8_isRunning_134 : tab t_X8_isRunning 134 = some (.iconst 3, 1, 0, 3, 0, 0, 0, 0, 0, 0, []) := rfl
theorem i_X8_isRunning_135 : tab t_X8_isRunning 135 = some (.invokevirtual 126, 3, 2, 0, 0, 0, 60, 7, 0, 0, []) := rfl
theorem i_X8_isRunning_138 : tab t_X8_isRunning 138 = some (.isub, 1, 0, 0, 0, 0, 0, 0, 0, 0, []) := rfl
theorem i_X8_isRunning_139 : tab t_X8_isRunning 139 = some (.invokevirtual 275, 3, 3, 0, 0, 0, 6, 1, 0, 0, []) := rfl
theorem i_X8_isRunning_142 : tab t_X8_isRunning 142 = some (.aload_n 0, 1, 0, 0, 0, 0, 0, 0, 0, 0, []) := rfl
theorem i_X8_isRunning_143 : tab t_X8_isRunning 143 = some (.getfield 47, 3, 2, 0, 0, 8, 7, 0, 0, 0, []) := rfl
theorem i_X8_isRunning_146 : tab t_X8_isRunning 146 = some (.iload 5, 2, 5, 0, 0, 0, 0, 0, 0, 0, []) := rfl
theorem i_X8_isRunning_148 : tab t_X8_isRunning 148 = some (.bipush 12, 2, 0, 12, 0, 0, 0, 0, 0, 0, []) := rfl
theorem i_X8_isRunning_150 : tab t_X8_isRunning 150 = some (.aload_n 0, 1, 0, 0, 0, 0, 0, 0, 0, 0, []) := rfl
theorem i_X8_isRunning_151 : tab t_X8_isRunning 151 = some (.getfield 10, 3, 2, 0, 0, 8, 0, 0, 0, 0, []) := rfl
theorem i_X8_isRunning_154 : tab t_X8_isRunning 154 = some (.getfield 201, 3, 2, 0, 0, 7, 6, 0, 0, 0, []) := rfl
theorem i_X8_isRunning_157 : tab t_X8_isRunning 157 = some (.iload_n 1, 1, 1, 0, 0, 0, 0, 0, 0, 0, []) := rfl
theorem i_X8_isRunning_158 : tab t_X8_isRunning 158 = some (.iconst 2, 1, 0, 2, 0, 0, 0, 0, 0, 0, []) := rfl
theorem i_X8_isRunning_159 : tab t_X8_isRunning 159 = some (.invokevirtual 126, 3, 2, 0, 0, 0, 60, 7, 0, 0, []) := rfl
theorem i_X8_isRunning_162 : tab t_X8_isRunning 162 = some (.invokevirtual 275, 3, 3, 0, 0, 0, 6, 1, 0, 0, []) := rfl
theorem i_X8_isRunning_165 : tab t_X8_isRunning 165 = some (.aload_n 0, 1, 0, 0, 0, 0, 0, 0, 0, 0, []) := rfl
theorem i_X8_isRunning_166 : tab t_X8_isRunning 166 = some (.getfield 47, 3, 2, 0, 0, 8, 7, 0, 0, 0, []) := rfl
theorem i_X8_isRunning_169 : tab t_X8_isRunning 169 = some (.aload 4, 2, 4, 0, 0, 0, 0, 0, 0, 0, []) := rfl
theorem i_X8_isRunning_171 : tab t_X8_isRunning 171 = some (.bipush 16, 2, 0, 16, 0, 0, 0, 0, 0, 0, []) := rfl
theorem i_X8_isRunning_173 : tab t_X8_isRunning 173 = some (.iload 5, 2, 5, 0, 0, 0, 0, 0, 0, 0, []) := rfl
theorem i_X8_isRunning_175 : tab t_X8_isRunning 175 = some (.invokevirtual 276, 3, 3, 0, 0, 0, 8, 1, 0, 0, []) := rfl
theorem i_X8_isRunning_178 : tab t_X8_isRunning 178 = some (.ifCond .ne 7, 3, 185, 0, 0, 0, 0, 0, 0, 0, []) := rfl
theorem i_X8_isRunning_181 : tab t_X8_isRunning 181 = some (.iconst 1, 1, 0, 1, 0, 0, 0, 0, 0, 0, []) := rfl
theorem i_X8_isRunning_182 : tab t_X8_isRunning 182 = some (.goto 4, 3, 186, 0, 0, 0, 0, 0, 0, 0, []) := rfl
theorem i_X8_isRunning_185 : tab t_X8_isRunning 185 = some (.iconst 0, 1, 0, 0, 0, 0, 0, 0, 0, 0, []) := rfl
theorem i_X8_isRunning_186 : tab t_X8_isRunning 186 = some (.ireturn, 1, 0, 0, 0, 1, 0, 0, 0, 0, []) := rfl
def t_X8_bindingOrder : List (Nat × rw_) := [(0, (.iconst (-1), 1, 0, -1, 0, 0, 0, 0, 0, 0, [])), (1, (.istore_n 3, 1, 3, 0, 0, 0, 0, 0, 0, 0, [])), (2, (.iconst (-1), 1, 0, -1, 0, 0, 0, 0, 0, 0, [])), (3, (.istore 4, 2, 4, 0, 0, 0, 0, 0, 0, 0, [])), (5, (.iconst (-1), 1, 0, -1, 0, 0, 0, 0, 0, 0, [])), (6, (.istore 5, 2, 5, 0, 0, 0, 0, 0, 0, 0, [])), (8, (.iconst 0, 1, 0, 0, 0, 0, 0, 0, 0, 0, [])), (9, (.istore 6, 2, 6, 0, 0, 0, 0, 0, 0, 0, [])), (11, (.iload 6, 2, 6, 0, 0, 0, 0, 0, 0, 0, [])), (13, (.aload_n 0, 1, 0, 0, 0, 0, 0, 0, 0, 0, [])), (14, (.getfield 10, 3, 2, 0, 0, 8, 0, 0, 0, 0, [])), (17, (.getfield 201, 3, 2, 0, 0, 7, 6, 0, 0, 0, [])), (20, (.getfield 219, 3, 0, 0, 0, 6, 3, 0, 0, 0, [])), (23, (.if_icmp .ge 147, 3, 170, 0, 0, 0, 0, 0, 0, 0, [])), (26, (.aload_n 0, 1, 0, 0, 0, 0, 0, 0, 0, 0, [])), (27, (.getfield 10, 3, 2, 0, 0, 8, 0, 0, 0, 0, [])), (30, (.getfield 201, 3, 2, 0, 0, 7, 6, 0, 0, 0, [])), (33, (.iload 6, 2, 6, 0, 0, 0, 0, 0, 0, 0, [])), (35, (.iconst 1, 1, 0, 1, 0, 0, 0, 0, 0, 0, [])), (36, (.invokevirtual 126, 3, 2, 0, 0, 0, 60, 7, 0, 0, [])), (39, (.iload_n 1, 1, 1, 0, 0, 0, 0, 0, 0, 0, [])), (40, (.if_icmp .ne 17, 3, 57, 0, 0, 0, 0, 0, 0, 0, [])), (43, (.aload_n 0, 1, 0, 0, 0, 0, 0, 0, 0, 0, [])), (44, (.iload 6, 2, 6, 0, 0, 0, 0, 0, 0, 0, [])), (46, (.iload_n 2, 1, 2, 0, 0, 0, 0, 0, 0, 0, [])), (47, (.invokevirtual 207, 3, 2, 0, 0, 0, 123, 9, 0, 0, [])), (50, (.ifCond .eq 7, 3, 57, 0, 0, 0, 0, 0, 0, 0, [])), (53, (.iconst 1, 1, 0, 1, 0, 0, 0, 0, 0, 0, [])), (54, (.goto 4, 3, 58, 0, 0, 0, 0, 0, 0, 0, [])), (57, (.iconst 0, 1, 0, 0, 0, 0, 0, 0, 0, 0, [])), (58, (.istore 7, 2, 7, 0, 0, 0, 0, 0, 0, 0, [])), (60, (.iload 7, 2, 7, 0, 0, 0, 0, 0, 0, 0, [])), (62, (.ifCond .eq 12, 3, 74, 0, 0, 0, 0, 0, 0, 0, [])), (65, (.aload_n 0, 1, 0, 0, 0, 0, 0, 0, 0, 0, [])), (66, (.iload 6, 2, 6, 0, 0, 0, 0, 0, 0, 0, [])), (68, (.invokevirtual 204, 3, 1, 0, 0, 0, 122, 9, 0, 0, [])), (71, (.goto 4, 3, 75, 0, 0, 0, 0, 0, 0, 0, [])), (74, (.iconst (-1), 1, 0, -1, 0, 0, 0, 0, 0, 0, [])), (75, (.istore 8, 2, 8, 0, 0, 0, 0, 0, 0, 0, [])), (77, (.iload 8, 2, 8, 0, 0, 0, 0, 0, 0, 0, [])), (79, (.iconst (-1), 1, 0, -1, 0, 0, 0, 0, 0, 0, [])), (80, (.if_icmp .ne 7, 3, 87, 0, 0, 0, 0, 0, 0, 0, [])), (83, (.iconst (-1), 1, 0, -1, 0, 0, 0, 0, 0, 0, [])), (84, (.goto 13, 3, 97, 0, 0, 0, 0, 0, 0, 0, [])), (87, (.aload_n 0, 1, 0, 0, 0, 0, 0, 0, 0, 0, [])), (88, (.getfield 10, 3, 2, 0, 0, 8, 0, 0, 0, 0, [])), (91, (.iload_n 1, 1, 1, 0, 0, 0, 0, 0, 0, 0, [])), (92, (.iload 8, 2, 8, 0, 0, 0, 0, 0, 0, 0, [])), (94, (.invokevirtual 280, 3, 2, 0, 0, 0, 71, 8, 0, 0, [])), (97, (.istore 9, 2, 9, 0, 0, 0, 0, 0, 0, 0, [])), (99, (.aload_n 0, 1, 0, 0, 0, 0, 0, 0, 0, 0, [])), (100, (.getfield 10, 3, 2, 0, 0, 8, 0, 0, 0, 0, [])), (103, (.getfield 201, 3, 2, 0, 0, 7, 6, 0, 0, 0, [])), (106, (.iload 6, 2, 6, 0, 0, 0, 0, 0, 0, 0, [])), (108, (.iconst 3, 1, 0, 3, 0, 0, 0, 0, 0, 0, [])), (109, (.invokevirtual 126, 3, 2, 0, 0, 0, 60, 7, 0, 0, [])), (112, (.istore 10, 2, 10, 0, 0, 0, 0, 0, 0, 0, [])), (114, (.iload 9, 2, 9, 0, 0, 0, 0, 0, 0, 0, [])), (116, (.iload 4, 2, 4, 0, 0, 0, 0, 0, 0, 0, [])), (118, (.if_icmp .gt 17, 3, 135, 0, 0, 0, 0, 0, 0, 0, [])), (121, (.iload 9, 2, 9, 0, 0, 0, 0, 0, 0, 0, [])), (123, (.iload 4, 2, 4, 0, 0, 0, 0, 0, 0, 0, [])), (125, (.if_icmp .ne 14, 3, 139, 0, 0, 0, 0, 0, 0, 0, [])), (128, (.iload 10, 2, 10, 0, 0, 0, 0, 0, 0, 0, [])), (130, (.iload 5, 2, 5, 0, 0, 0, 0, 0, 0, 0, [])), (132, (.if_icmp .lt 7, 3, 139, 0, 0, 0, 0, 0, 0, 0, [])), (135, (.iconst 1, 1, 0, 1, 0, 0, 0, 0, 0, 0, [])), (136, (.goto 4, 3, 140, 0, 0, 0, 0, 0, 0, 0, [])), (139, (.iconst 0, 1, 0, 0, 0, 0, 0, 0, 0, 0, [])), (140, (.istore 11, 2, 11, 0, 0, 0, 0, 0, 0, 0, [])), (142, (.iload 8, 2, 8, 0, 0, 0, 0, 0, 0, 0, [])), (144, (.iconst (-1), 1, 0, -1, 0, 0, 0, 0, 0, 0, [])), (145, (.if_icmp .eq 19, 3, 164, 0, 0, 0, 0, 0, 0, 0, [])), (148, (.iload 11, 2, 11, 0, 0, 0, 0, 0, 0, 0, [])), (150, (.ifCond .eq 14, 3, 164, 0, 0, 0, 0, 0, 0, 0, [])), (153, (.iload 6, 2, 6, 0, 0, 0, 0, 0, 0, 0, [])), (155, (.istore_n 3, 1, 3, 0, 0, 0, 0, 0, 0, 0, [])), (156, (.iload 9, 2, 9, 0, 0, 0, 0, 0, 0, 0, [])), (158, (.istore 4, 2, 4, 0, 0, 0, 0, 0, 0, 0, [])), (160, (.iload 10, 2, 10, 0, 0, 0, 0, 0, 0, 0, [])), (162, (.istore 5, 2, 5, 0, 0, 0, 0, 0, 0, 0, [])), (164, (.iinc 6 1, 3, 6, 1, 0, 0, 0, 0, 0, 0, [])), (167, (.goto (-156), 3, 11, 0, 0, 0, 0, 0, 0, 0, [])), (170, (.iload_n 3, 1, 3, 0, 0, 0, 0, 0, 0, 0, [])), (171, (.ireturn, 1, 0, 0, 0, 0, 0, 0, 0, 0, []))]
set_option maxRecDepth 100000 in
theorem ok_X8_bindingOrder : tb_ok ctX8 m_X8_bindingOrder t_X8_bindingOrder = true := by decide +kernel
theorem i_X8_bindingOrder_0 : tab t_X8_bindingOrder 0 = some (.iconst (-1), 1, 0, -1, 0, 0, 0, 0, 0, 0, []) := rfl
theorem i_X8_bindingOrder_1 : tab t_X8_bindingOrder 1 = some (.istore_n 3, 1, 3, 0, 0, 0, 0, 0, 0, 0, []) := rfl
theorem i_X8_bindingOrder_2 : tab t_X8_bindingOrder 2 = some (.iconst (-1), 1, 0, -1, 0, 0, 0, 0, 0, 0, []) := rfl
theorem i_X8_bindingOrder_3 : tab t_X8_bindingOrder 3 = some (.istore 4, 2, 4, 0, 0, 0, 0, 0, 0, 0, []) := rfl
theorem i_X8_bindingOrder_5 : tab t_X8_bindingOrder 5 = some (.iconst (-1), 1, 0, -1, 0, 0, 0, 0, 0, 0, []) := rfl
theorem i_X8_bindingOrder_6 : tab t_X8_bindingOrder 6 = some (.istore 5, 2, 5, 0, 0, 0, 0, 0, 0, 0, []) := rfl
theorem i_X8_bindingOrder_8 : tab t_X8_bindingOrder 8 = some (.iconst 0, 1, 0, 0, 0, 0, 0, 0, 0, 0, []) := rfl
theorem i_X8_bindingOrder_9 : tab t_X8_bindingOrder 9 = some (.istore 6, 2, 6, 0, 0, 0, 0, 0, 0, 0, []) := rfl
theorem i_X8_bindingOrder_11 : tab t_X8_bindingOrder 11 = some (.iload 6, 2, 6, 0, 0, 0, 0, 0, 0, 0, []) := rfl
theorem i_X8_bindingOrder_13 : tab t_X8_bindingOrder 13 = some (.aload_n 0, 1, 0, 0, 0, 0, 0, 0, 0, 0, []) := rfl
theorem i_X8_bindingOrder_14 : tab t_X8_bindingOrder 14 = some (.getfield 10, 3, 2, 0, 0, 8, 0, 0, 0, 0, []) := rfl
theorem i_X8_bindingOrder_17 : tab t_X8_bindingOrder 17 = some (.getfield 201, 3, 2, 0, 0, 7, 6, 0, 0, 0, []) := rfl
theorem i_X8_bindingOrder_20 : tab t_X8_bindingOrder 20 = some (.getfield 219, 3, 0, 0, 0, 6, 3, 0, 0, 0, []) := rfl
theorem i_X8_bindingOrder_23 : tab t_X8_bindingOrder 23 = some (.if_icmp .ge 147, 3, 170, 0, 0, 0, 0, 0, 0, 0, []) := rfl
theorem i_X8_bindingOrder_26 : tab t_X8_bindingOrder 26 = some (.aload_n 0, 1, 0, 0, 0, 0, 0, 0, 0, 0, []) := rfl
theorem i_X8_bindingOrder_27 : tab t_X8_bindingOrder 27 = some (.getfield 10, 3, 2, 0, 0, 8, 0, 0, 0, 0, []) := rfl
theorem i_X8_bindingOrder_30 : tab t_X8_bindingOrder 30 = some (.getfield 201, 3, 2, 0, 0, 7, 6, 0, 0, 0, []) := rfl
theorem i_X8_bindingOrder_33 : tab t_X8_bindingOrder 33 = some (.iload 6, 2, 6, 0, 0, 0, 0, 0, 0, 0, []) := rfl
theorem i_X8_bindingOrder_35 : tab t_X8_bindingOrder 35 = some (.iconst 1, 1, 0, 1, 0, 0, 0, 0, 0, 0, []) := rfl
theorem i_X8_bindingOrder_36 : tab t_X8_bindingOrder 36 = some (.invokevirtual 126, 3, 2, 0, 0, 0, 60, 7, 0, 0, []) := rfl
theorem i_X8_bindingOrder_39 : tab t_X8_bindingOrder 39 = some (.iload_n 1, 1, 1, 0, 0, 0, 0, 0, 0, 0, []) := rfl
theorem i_X8_bindingOrder_40 : tab t_X8_bindingOrder 40 = some (.if_icmp .ne 17, 3, 57, 0, 0, 0, 0, 0, 0, 0, []) := rfl
theorem i_X8_bindingOrder_43 : tab t_X8_bindingOrder 43 = some (.aload_n 0, 1, 0, 0, 0, 0, 0, 0, 0, 0, []) := rfl
theorem i_X8_bindingOrder_44 : tab t_X8_bindingOrder 44 = some (.iload 6, 2, 6, 0, 0, 0, 0, 0, 0, 0, []) := rfl
theorem i_X8_bindingOrder_46 : tab t_X8_bindingOrder 46 = some (.iload_n 2, 1, 2, 0, 0, 0, 0, 0, 0, 0, []) := rfl
theorem i_X8_bindingOrder_47 : tab t_X8_bindingOrder 47 = some (.invokevirtual 207, 3, 2, 0, 0, 0, 123, 9, 0, 0, []) := rfl
theorem i_X8_bindingOrder_50 : tab t_X8_bindingOrder 50 = some (.ifCond .eq 7, 3, 57, 0, 0, 0, 0, 0, 0, 0, []) := rfl
theorem i_X8_bindingOrder_53 : tab t_X8_bindingOrder 53 = some (.iconst 1, 1, 0, 1, 0, 0, 0, 0, 0, 0, []) := rfl
theorem i_X8_bindingOrder_54 : tab t_X8_bindingOrder 54 = some (.goto 4, 3, 58, 0, 0, 0, 0, 0, 0, 0, []) := rfl
theorem i_X8_bindingOrder_57 : tab t_X8_bindingOrder 57 = some (.iconst 0, 1, 0, 0, 0, 0, 0, 0, 0, 0, []) := rfl
theorem i_X8_bindingOrder_58 : tab t_X8_bindingOrder 58 = some (.istore 7, 2, 7, 0, 0, 0, 0, 0, 0, 0, []) := rfl
theorem i_X8_bindingOrder_60 : tab t_X8_bindingOrder 60 = some (.iload 7, 2, 7, 0, 0, 0, 0, 0, 0, 0, []) := rfl
theorem i_X8_bindingOrder_62 : tab t_X8_bindingOrder 62 = some (.ifCond .eq 12, 3, 74, 0, 0, 0, 0, 0, 0, 0, []) := rfl
theorem i_X8_bindingOrder_65 : tab t_X8_bindingOrder 65 = some (.aload_n 0, 1, 0, 0, 0, 0, 0, 0, 0, 0, []) := rfl
theorem i_X8_bindingOrder_66 : tab t_X8_bindingOrder 66 = some (.iload 6, 2, 6, 0, 0, 0, 0, 0, 0, 0, []) := rfl
theorem i_X8_bindingOrder_68 : tab t_X8_bindingOrder 68 = some (.invokevirtual 204, 3, 1, 0, 0, 0, 122, 9, 0, 0, []) := rfl
theorem i_X8_bindingOrder_71 : tab t_X8_bindingOrder 71 = some (.goto 4, 3, 75, 0, 0, 0, 0, 0, 0, 0, []) := rfl
theorem i_X8_bindingOrder_74 : tab t_X8_bindingOrder 74 = some (.iconst (-1), 1, 0, -1, 0, 0, 0, 0, 0, 0, []) := rfl
theorem i_X8_bindingOrder_75 : tab t_X8_bindingOrder 75 = some (.istore 8, 2, 8, 0, 0, 0, 0, 0, 0, 0, []) := rfl
theorem i_X8_bindingOrder_77 : tab t_X8_bindingOrder 77 = some (.iload 8, 2, 8, 0, 0, 0, 0, 0, 0, 0, []) := rfl
theorem i_X8_bindingOrder_79 : tab t_X8_bindingOrder 79 = some (.iconst (-1), 1, 0, -1, 0, 0, 0, 0, 0, 0, []) := rfl
theorem i_X8_bindingOrder_80 : tab t_X8_bindingOrder 80 = some (.if_icmp .ne 7, 3, 87, 0, 0, 0, 0, 0, 0, 0, []) := rfl
theorem i_X8_bindingOrder_83 : tab t_X8_bindingOrder 83 = some (.iconst (-1), 1, 0, -1, 0, 0, 0, 0, 0, 0, []) := rfl
theorem i_X8_bindingOrder_84 : tab t_X8_bindingOrder 84 = some (.goto 13, 3, 97, 0, 0, 0, 0, 0, 0, 0, []) := rfl
theorem i_X8_bindingOrder_87 : tab t_X8_bindingOrder 87 = some (.aload_n 0, 1, 0, 0, 0, 0, 0, 0, 0, 0, []) := rfl
theorem i_X8_bindingOrder_88 : tab t_X8_bindingOrder 88 = some (.getfield 10, 3, 2, 0, 0, 8, 0, 0, 0, 0, []) := rfl
theorem i_X8_bindingOrder_91 : tab t_X8_bindingOrder 91 = some (.iload_n 1, 1, 1, 0, 0, 0, 0, 0, 0, 0, []) := rfl
theorem i_X8_bindingOrder_92 : tab t_X8_bindingOrder 92 = some (.iload 8, 2, 8, 0, 0, 0, 0, 0, 0, 0, []) := rfl
theorem i_X8_bindingOrder_94 : tab t_X8_bindingOrder 94 = some (.invokevirtual 280, 3, 2, 0, 0, 0, 71, 8, 0, 0, []) := rfl
theorem i_X8_bindingOrder_97 : tab t_X8_bindingOrder 97 = some (.istore 9, 2, 9, 0, 0, 0, 0, 0, 0, 0, []) := rfl
theorem i_X8_bindingOrder_99 : tab t_X8_bindingOrder 99 = some (.aload_n 0, 1, 0, 0, 0, 0, 0, 0, 0, 0, []) := rfl
theorem i_X8_bindingOrder_100 : tab t_X8_bindingOrder 100 = some (.getfield 10, 3, 2, 0, 0, 8, 0, 0, 0, 0, []) := rfl
theorem i_X8_bindingOrder_103 : tab t_X8_bindingOrder 103 = some (.getfield 201, 3, 2, 0, 0, 7, 6, 0, 0, 0, []) := rfl
theorem i_X8_bindingOrder_106 : tab t_X8_bindingOrder 106 = some (.iload 6, 2, 6, 0, 0, 0, 0, 0, 0, 0, []) := rfl
theorem i_X8_bindingOrder_108 : tab t_X8_bindingOrder 108 = some (.iconst 3, 1, 0, 3, 0, 0, 0, 0, 0, 0, []) := rfl
theorem i_X8_bindingOrder_109 : tab t_X8_bindingOrder 109 = some (.invokevirtual 126, 3, 2, 0, 0, 0, 60, 7, 0, 0, []) := rfl
theorem i_X8_bindingOrder_112 : tab t_X8_bindingOrder 112 = some (.istore 10, 2, 10, 0, 0, 0, 0, 0, 0, 0, []) := rfl
theorem i_X8_bindingOrder_114 : tab t_X8_bindingOrder 114 = some (.iload 9, 2, 9, 0, 0, 0, 0, 0, 0, 0, []) := rfl
theorem i_X8_bindingOrder_116 : tab t_X8_bindingOrder 116 = some (.iload 4, 2, 4, 0, 0, 0, 0, 0, 0, 0, []) := rfl
theorem i_X8_bindingOrder_118 : tab t_X8_bindingOrder 118 = some (.if_icmp .gt 17, 3, 135, 0, 0, 0, 0, 0, 0, 0, []) := rfl
theorem i_X8_bindingOrder_121 : tab t_X8_bindingOrder 121 = some (.iload 9, 2, 9, 0, 0, 0, 0, 0, 0, 0, []) := rfl
theorem i_X8_bindingOrder_123 : tab t_X8_bindingOrder 123 = some (.iload 4, 2, 4, 0, 0, 0, 0, 0, 0, 0, []) := rfl
theorem i_X8_bindingOrder_125 : tab t_X8_bindingOrder 125 = some (.if_icmp .ne 14, 3, 139, 0, 0, 0, 0, 0, 0, 0, []) := rfl
theorem i_X8_bindingOrder_128 : tab t_X8_bindingOrder 128 = some (.iload 10, 2, 10, 0, 0, 0, 0, 0, 0, 0, []) := rfl
theorem i_X8_bindingOrder_130 : tab t_X8_bindingOrder 130 = some (.iload 5, 2, 5, 0, 0, 0, 0, 0, 0, 0, []) := rfl
theorem i_X8_bindingOrder_132 : tab t_X8_bindingOrder 132 = some (.if_icmp .lt 7, 3, 139, 0, 0, 0, 0, 0, 0, 0, []) := rfl
theorem i_X8_bindingOrder_135 : tab t_X8_bindingOrder 135 = some (.iconst 1, 1, 0, 1, 0, 0, 0, 0, 0, 0, []) := rfl
theorem i_X8_bindingOrder_136 : tab t_X8_bindingOrder 136 = some (.goto 4, 3, 140, 0, 0, 0, 0, 0, 0, 0, []) := rfl
theorem i_X8_bindingOrder_139 : tab t_X8_bindingOrder 139 = some (.iconst 0, 1, 0, 0, 0, 0, 0, 0, 0, 0, []) := rfl
theorem i_X8_bindingOrder_140 : tab t_X8_bindingOrder 140 = some (.istore 11, 2, 11, 0, 0, 0, 0, 0, 0, 0, []) := rfl
theorem i_X8_bindingOrder_142 : tab t_X8_bindingOrder 142 = some (.iload 8, 2, 8, 0, 0, 0, 0, 0, 0, 0, []) := rfl
theorem i_X8_bindingOrder_144 : tab t_X8_bindingOrder 144 = some (.iconst (-1), 1, 0, -1, 0, 0, 0, 0, 0, 0, []) := rfl
theorem i_X8_bindingOrder_145 : tab t_X8_bindingOrder 145 = some (.if_icmp .eq 19, 3, 164, 0, 0, 0, 0, 0, 0, 0, []) := rfl
theorem i_X8_bindingOrder_148 : tab t_X8_bindingOrder 148 = some (.iload 11, 2, 11, 0, 0, 0, 0, 0, 0, 0, []) := rfl
theorem i_X8_bindingOrder_150 : tab t_X8_bindingOrder 150 = some (.ifCond .eq 14, 3, 164, 0, 0, 0, 0, 0, 0, 0, []) := rfl
theorem i_X8_bindingOrder_153 : tab t_X8_bindingOrder 153 = some (.iload 6, 2, 6, 0, 0, 0, 0, 0, 0, 0, []) := rfl
theorem i_X8_bindingOrder_155 : tab t_X8_bindingOrder 155 = some (.istore_n 3, 1, 3, 0, 0, 0, 0, 0, 0, 0, []) := rfl
theorem i_X8_bindingOrder_156 : tab t_X8_bindingOrder 156 = some (.iload 9, 2, 9, 0, 0, 0, 0, 0, 0, 0, []) := rfl
theorem i_X8_bindingOrder_158 : tab t_X8_bindingOrder 158 = some (.istore 4, 2, 4, 0, 0, 0, 0, 0, 0, 0, []) := rfl
theorem i_X8_bindingOrder_160 : tab t_X8_bindingOrder 160 = some (.iload 10, 2, 10, 0, 0, 0, 0, 0, 0, 0, []) := rfl
theorem i_X8_bindingOrder_162 : tab t_X8_bindingOrder 162 = some (.istore 5, 2, 5, 0, 0, 0, 0, 0, 0, 0, []) := rfl
theorem i_X8_bindingOrder_164 : tab t_X8_bindingOrder 164 = some (.iinc 6 1, 3, 6, 1, 0, 0, 0, 0, 0, 0, []) := rfl
theorem i_X8_bindingOrder_167 : tab t_X8_bindingOrder 167 = some (.goto (-156), 3, 11, 0, 0, 0, 0, 0, 0, 0, []) := rfl
theorem i_X8_bindingOrder_170 : tab t_X8_bindingOrder 170 = some (.iload_n 3, 1, 3, 0, 0, 0, 0, 0, 0, 0, []) := rfl
theorem i_X8_bindingOrder_171 : tab t_X8_bindingOrder 171 = some (.ireturn, 1, 0, 0, 0, 0, 0, 0, 0, 0, []) := rfl
