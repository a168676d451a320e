/-! 11: tables of the JDK, Rows.become -/
def t_X6_become : List (Nat × rw_) := [(0, (.aload_n 1, 1, 1, 0, 0, 0, 0, 0, 0, 0, [])), (1, (.getfield 21, 3, 0, 0, 0, 6, 0, 0, 0, 0, [])), (4, (.aload_n 0, 1, 0, 0, 0, 0, 0, 0, 0, 0, [])), (5, (.getfield 21, 3, 0, 0, 0, 6, 0, 0, 0, 0, [])), (8, (.if_icmp .ne 44, 3, 52, 0, 0, 0, 0, 0, 0, 0, [])), (11, (.aload_n 1, 1, 1, 0, 0, 0, 0, 0, 0, 0, [])), (12, (.getfield 24, 3, 0, 0, 0, 6, 1, 0, 0, 0, [])), (15, (.aload_n 0, 1, 0, 0, 0, 0, 0, 0, 0, 0, [])), (16, (.getfield 24, 3, 0, 0, 0, 6, 1, 0, 0, 0, [])), (19, (.if_icmp .ne 33, 3, 52, 0, 0, 0, 0, 0, 0, 0, [])), (22, (.aload_n 1, 1, 1, 0, 0, 0, 0, 0, 0, 0, [])), (23, (.getfield 27, 3, 2, 0, 0, 6, 2, 0, 0, 0, [])), (26, (.iconst 0, 1, 0, 0, 0, 0, 0, 0, 0, 0, [])), (27, (.aload_n 0, 1, 0, 0, 0, 0, 0, 0, 0, 0, [])), (28, (.getfield 27, 3, 2, 0, 0, 6, 2, 0, 0, 0, [])), (31, (.iconst 0, 1, 0, 0, 0, 0, 0, 0, 0, 0, [])), (32, (.aload_n 1, 1, 1, 0, 0, 0, 0, 0, 0, 0, [])), (33, (.getfield 9, 3, 0, 0, 0, 6, 3, 0, 0, 0, [])), (36, (.aload_n 0, 1, 0, 0, 0, 0, 0, 0, 0, 0, [])), (37, (.getfield 21, 3, 0, 0, 0, 6, 0, 0, 0, 0, [])), (40, (.imul, 1, 0, 0, 0, 0, 0, 0, 0, 0, [])), (44, (.aload_n 0, 1, 0, 0, 0, 0, 0, 0, 0, 0, [])), (45, (.aload_n 1, 1, 1, 0, 0, 0, 0, 0, 0, 0, [])), (46, (.getfield 9, 3, 0, 0, 0, 6, 3, 0, 0, 0, [])), (49, (.putfield 9, 3, 0, 0, 0, 6, 3, 0, 0, 0, [])), (52, (.return_, 1, 0, 0, 0, 0, 0, 0, 0, 0, []))]
set_option maxRecDepth 100000 in
theorem ok_X6_become : tb_ok ctX6 m_X6_become t_X6_become = true := by decide +kernel
theorem i_X6_become_0 : tab t_X6_become 0 = some (.aload_n 1, 1, 1, 0, 0, 0, 0, 0, 0, 0, []) := rfl
theorem i_X6_become_1 : tab t_X6_become 1 = some (.getfield 21, 3, 0, 0, 0, 6, 0, 0, 0, 0, []) := rfl
theorem i_X6_become_4 : tab t_X6_become 4 = some (.aload_n 0, 1, 0, 0, 0, 0, 0, 0, 0, 0, []) := rfl
theorem i_X6_become_5 : tab t_X6_become 5 = some (.getfield 21, 3, 0, 0, 0, 6, 0, 0, 0, 0, []) := rfl
theorem i_X6_become_8 : tab t_X6_become 8 = some (.if_icmp .ne 44, 3, 52, 0, 0, 0, 0, 0, 0, 0, []) := rfl
theorem i_X6_become_11 : tab t_X6_become 11 = some (.aload_n 1, 1, 1, 0, 0, 0, 0, 0, 0, 0, []) := rfl
theorem i_X6_become_12 : tab t_X6_become 12 = some (.getfield 24, 3, 0, 0, 0, 6, 1, 0, 0, 0, []) := rfl
theorem i_X6_become_15 : tab t_X6_become 15 = some (.aload_n 0, 1, 0, 0, 0, 0, 0, 0, 0, 0, []) := rfl
theorem i_X6_become_16 : tab t_X6_become 16 = some (.getfield 24, 3, 0, 0, 0, 6, 1, 0, 0, 0, []) := rfl
theorem i_X6_become_19 : tab t_X6_become 19 = some (.if_icmp .ne 33, 3, 52, 0, 0, 0, 0, 0, 0, 0, []) := rfl
theorem i_X6_become_22 : tab t_X6_become 22 = some (.aload_n 1, 1, 1, 0, 0, 0, 0, 0, 0, 0, []) := rfl
theorem i_X6_become_23 : tab t_X6_become 23 = some (.getfield 27, 3, 2, 0, 0, 6, 2, 0, 0, 0, []) := rfl
theorem i_X6_become_26 : tab t_X6_become 26 = some (.iconst 0, 1, 0, 0, 0, 0, 0, 0, 0, 0, []) := rfl
theorem i_X6_become_27 : tab t_X6_become 27 = some (.aload_n 0, 1, 0, 0, 0, 0, 0, 0, 0, 0, []) := rfl
theorem i_X6_become_28 : tab t_X6_become 28 = some (.getfield 27, 3, 2, 0, 0, 6, 2, 0, 0, 0, []) := rfl
theorem i_X6_become_31 : tab t_X6_become 31 = some (.iconst 0, 1, 0, 0, 0, 0, 0, 0, 0, 0, []) := rfl
theorem i_X6_become_32 : tab t_X6_become 32 = some (.aload_n 1, 1, 1, 0, 0, 0, 0, 0, 0, 0, []) := rfl
theorem i_X6_become_33 : tab t_X6_become 33 = some (.getfield 9, 3, 0, 0, 0, 6, 3, 0, 0, 0, []) := rfl
theorem i_X6_become_36 : tab t_X6_become 36 = some (.aload_n 0, 1, 0, 0, 0, 0, 0, 0, 0, 0, []) := rfl
theorem i_X6_become_37 : tab t_X6_become 37 = some (.getfield 21, 3, 0, 0, 0, 6, 0, 0, 0, 0, []) := rfl
theorem i_X6_become_40 : tab t_X6_become 40 = some (.imul, 1, 0, 0, 0, 0, 0, 0, 0, 0, []) := rfl
theorem i_X6_become_44 : tab t_X6_become 44 = some (.aload_n 0, 1, 0, 0, 0, 0, 0, 0, 0, 0, []) := rfl
theorem i_X6_become_45 : tab t_X6_become 45 = some (.aload_n 1, 1, 1, 0, 0, 0, 0, 0, 0, 0, []) := rfl
theorem i_X6_become_46 : tab t_X6_become 46 = some (.getfield 9, 3, 0, 0, 0, 6, 3, 0, 0, 0, []) := rfl
theorem i_X6_become_49 : tab t_X6_become 49 = some (.putfield 9, 3, 0, 0, 0, 6, 3, 0, 0, 0, []) := rfl
theorem i_X6_become_52 : tab t_X6_become 52 = some (.return_, 1, 0, 0, 0, 0, 0, 0, 0, 0, []) := rfl
def t_J6_bitCount_0f7a4 : List (Nat × rw_) := [(0, (.iload_n 0, 1, 0, 0, 0, 0, 0, 0, 0, 0, [])), (1, (.iload_n 0, 1, 0, 0, 0, 0, 0, 0, 0, 0, [])), (2, (.iconst 1, 1, 0, 1, 0, 0, 0, 0, 0, 0, [])), (3, (.iushr, 1, 0, 0, 0, 0, 0, 0, 0, 0, [])), (4, (.ldc_w 265, 3, 0, 1431655765, 0, 0, 0, 0, 0, 0, [])), (7, (.iand, 1, 0, 0, 0, 0, 0, 0, 0, 0, [])), (8, (.isub, 1, 0, 0, 0, 0, 0, 0, 0, 0, [])), (9, (.istore_n 0, 1, 0, 0, 0, 0, 0, 0, 0, 0, [])), (10, (.iload_n 0, 1, 0, 0, 0, 0, 0, 0, 0, 0, [])), (11, (.ldc_w 266, 3, 0, 858993459, 0, 0, 0, 0, 0, 0, [])), (14, (.iand, 1, 0, 0, 0, 0, 0, 0, 0, 0, [])), (15, (.iload_n 0, 1, 0, 0, 0, 0, 0, 0, 0, 0, [])), (16, (.iconst 2, 1, 0, 2, 0, 0, 0, 0, 0, 0, [])), (17, (.iushr, 1, 0, 0, 0, 0, 0, 0, 0, 0, [])), (18, (.ldc_w 266, 3, 0, 858993459, 0, 0, 0, 0, 0, 0, [])), (21, (.iand, 1, 0, 0, 0, 0, 0, 0, 0, 0, [])), (22, (.iadd, 1, 0, 0, 0, 0, 0, 0, 0, 0, [])), (23, (.istore_n 0, 1, 0, 0, 0, 0, 0, 0, 0, 0, [])), (24, (.iload_n 0, 1, 0, 0, 0, 0, 0, 0, 0, 0, [])), (25, (.iload_n 0, 1, 0, 0, 0, 0, 0, 0, 0, 0, [])), (26, (.iconst 4, 1, 0, 4, 0, 0, 0, 0, 0, 0, [])), (27, (.iushr, 1, 0, 0, 0, 0, 0, 0, 0, 0, [])), (28, (.iadd, 1, 0, 0, 0, 0, 0, 0, 0, 0, [])), (29, (.ldc_w 267, 3, 0, 252645135, 0, 0, 0, 0, 0, 0, [])), (32, (.iand, 1, 0, 0, 0, 0, 0, 0, 0, 0, [])), (33, (.istore_n 0, 1, 0, 0, 0, 0, 0, 0, 0, 0, [])), (34, (.iload_n 0, 1, 0, 0, 0, 0, 0, 0, 0, 0, [])), (35, (.iload_n 0, 1, 0, 0, 0, 0, 0, 0, 0, 0, [])), (36, (.bipush 8, 2, 0, 8, 0, 0, 0, 0, 0, 0, [])), (38, (.iushr, 1, 0, 0, 0, 0, 0, 0, 0, 0, [])), (39, (.iadd, 1, 0, 0, 0, 0, 0, 0, 0, 0, [])), (40, (.istore_n 0, 1, 0, 0, 0, 0, 0, 0, 0, 0, [])), (41, (.iload_n 0, 1, 0, 0, 0, 0, 0, 0, 0, 0, [])), (42, (.iload_n 0, 1, 0, 0, 0, 0, 0, 0, 0, 0, [])), (43, (.bipush 16, 2, 0, 16, 0, 0, 0, 0, 0, 0, [])), (45, (.iushr, 1, 0, 0, 0, 0, 0, 0, 0, 0, [])), (46, (.iadd, 1, 0, 0, 0, 0, 0, 0, 0, 0, [])), (47, (.istore_n 0, 1, 0, 0, 0, 0, 0, 0, 0, 0, [])), (48, (.iload_n 0, 1, 0, 0, 0, 0, 0, 0, 0, 0, [])), (49, (.bipush 63, 2, 0, 63, 0, 0, 0, 0, 0, 0, [])), (51, (.iand, 1, 0, 0, 0, 0, 0, 0, 0, 0, [])), (52, (.ireturn, 1, 0, 0, 0, 0, 0, 0, 0, 0, []))]
set_option maxRecDepth 100000 in
theorem ok_J6_bitCount_0f7a4 : tb_ok ctJ6 m_J6_bitCount_0f7a4 t_J6_bitCount_0f7a4 = true := by decide +kernel
theorem i_J6_bitCount_0f7a4_0 : tab t_J6_bitCount_0f7a4 0 = some (.iload_n 0, 1, 0, 0, 0, 0, 0, 0, 0, 0, []) := rfl
theorem i_J6_bitCount_0f7a4_1 : tab t_J6_bitCount_0f7a4 1 = some (.iload_n 0, 1, 0, 0, 0, 0, 0, 0, 0, 0, []) := rfl
theorem i_J6_bitCount_0f7a4_2 : tab t_J6_bitCount_0f7a4 2 = some (.iconst 1, 1, 0, 1, 0, 0, 0, 0, 0, 0, []) := rfl
theorem i_J6_bitCount_0f7a4_3 : tab t_J6_bitCount_0f7a4 3 = some (.iushr, 1, 0, 0, 0, 0, 0, 0, 0, 0, []) := rfl
theorem i_J6_bitCount_0f7a4_4 : tab t_J6_bitCount_0f7a4 4 = some (.ldc_w 265, 3, 0, 1431655765, 0, 0, 0, 0, 0, 0, []) := rfl
theorem i_J6_bitCount_0f7a4_7 : tab t_J6_bitCount_0f7a4 7 = some (.iand, 1, 0, 0, 0, 0, 0, 0, 0, 0, []) := rfl
theorem i_J6_bitCount_0f7a4_8 : tab t_J6_bitCount_0f7a4 8 = some (.isub, 1, 0, 0, 0, 0, 0, 0, 0, 0, []) := rfl
theorem i_J6_bitCount_0f7a4_9 : tab t_J6_bitCount_0f7a4 9 = some (.istore_n 0, 1, 0, 0, 0, 0, 0, 0, 0, 0, []) := rfl
theorem i_J6_bitCount_0f7a4_10 : tab t_J6_bitCount_0f7a4 10 = some (.iload_n 0, 1, 0, 0, 0, 0, 0, 0, 0, 0, []) := rfl
theorem i_J6_bitCount_0f7a4_11 : tab t_J6_bitCount_0f7a4 11 = some (.ldc_w 266, 3, 0, 858993459, 0, 0, 0, 0, 0, 0, []) := rfl
theorem i_J6_bitCount_0f7a4_14 : tab t_J6_bitCount_0f7a4 14 = some (.iand, 1, 0, 0, 0, 0, 0, 0, 0, 0, []) := rfl
theorem i_J6_bitCount_0f7a4_15 : tab t_J6_bitCount_0f7a4 15 = some (.iload_n 0, 1, 0, 0, 0, 0, 0, 0, 0, 0, []) := rfl
theorem i_J6_bitCount_0f7a4_16 : tab t_J6_bitCount_0f7a4 16 = some (.iconst 2, 1, 0, 2, 0, 0, 0, 0, 0, 0, []) := rfl
theorem i_J6_bitCount_0f7a4_17 : tab t_J6_bitCount_0f7a4 17 = some (.iushr, 1, 0, 0, 0, 0, 0, 0, 0, 0, []) := rfl
theorem i_J6_bitCount_0f7a4_18 : tab t_J6_bitCount_0f7a4 18 = some (.ldc_w 266, 3, 0, 858993459, 0, 0, 0, 0, 0, 0, []) := rfl
theorem i_J6_bitCount_0f7a4_21 : tab t_J6_bitCount_0f7a4 21 = some (.iand, 1, 0, 0, 0, 0, 0, 0, 0, 0, []) := rfl
theorem i_J6_bitCount_0f7a4_22 : tab t_J6_bitCount_0f7a4 22 = some (.iadd, 1, 0, 0, 0, 0, 0, 0, 0, 0, []) := rfl
theorem i_J6_bitCount_0f7a4_23 : tab t_J6_bitCount_0f7a4 23 = some (.istore_n 0, 1, 0, 0, 0, 0, 0, 0, 0, 0, []) := rfl
theorem i_J6_bitCount_0f7a4_24 : tab t_J6_bitCount_0f7a4 24 = some (.iload_n 0, 1, 0, 0, 0, 0, 0, 0, 0, 0, []) := rfl
theorem i_J6_bitCount_0f7a4_25 : tab t_J6_bitCount_0f7a4 25 = some (.iload_n 0, 1, 0, 0, 0, 0, 0, 0, 0, 0, []) := rfl
theorem i_J6_bitCount_0f7a4_26 : tab t_J6_bitCount_0f7a4 26 = some (.iconst 4, 1, 0, 4, 0, 0, 0, 0, 0, 0, []) := rfl
theorem i_J6_bitCount_0f7a4_27 : tab t_J6_bitCount_0f7a4 27 = some (.iushr, 1, 0, 0, 0, 0, 0, 0, 0, 0, []) := rfl
theorem i_J6_bitCount_0f7a4_28 : tab t_J6_bitCount_0f7a4 28 = some (.iadd, 1, 0, 0, 0, 0, 0, 0, 0, 0, []) := rfl
theorem i_J6_bitCount_0f7a4_29 : tab t_J6_bitCount_0f7a4 29 = some (.ldc_w 267, 3, 0, 252645135, 0, 0, 0, 0, 0, 0, []) := rfl
theorem i_J6_bitCount_0f7a4_32 : tab t_J6_bitCount_0f7a4 32 = some (.iand, 1, 0, 0, 0, 0, 0, 0, 0, 0, []) := rfl
theorem i_J6_bitCount_0f7a4_33 : tab t_J6_bitCount_0f7a4 33 = some (.istore_n 0, 1, 0, 0, 0, 0, 0, 0, 0, 0, []) := rfl
theorem i_J6_bitCount_0f7a4_34 : tab t_J6_bitCount_0f7a4 34 = some (.iload_n 0, 1, 0, 0, 0, 0, 0, 0, 0, 0, []) := rfl
theorem i_J6_bitCount_0f7a4_35 : tab t_J6_bitCount_0f7a4 35 = some (.iload_n 0, 1, 0, 0, 0, 0, 0, 0, 0, 0, []) := rfl
theorem i_J6_bitCount_0f7a4_36 : tab t_J6_bitCount_0f7a4 36 = some (.bipush 8, 2, 0, 8, 0, 0, 0, 0, 0, 0, []) := rfl
theorem i_J6_bitCount_0f7a4_38 : tab t_J6_bitCount_0f7a4 38 = some (.iushr, 1, 0, 0, 0, 0, 0, 0, 0, 0, []) := rfl
theorem i_J6_bitCount_0f7a4_39 : tab t_J6_bitCount_0f7a4 39 = some (.iadd, 1, 0, 0, 0, 0, 0, 0, 0, 0, []) := rfl
theorem i_J6_bitCount_0f7a4_40 : tab t_J6_bitCount_0f7a4 40 = some (.istore_n 0, 1, 0, 0, 0, 0, 0, 0, 0, 0, []) := rfl
theorem i_J6_bitCount_0f7a4_41 : tab t_J6_bitCount_0f7a4 41 = some (.iload_n 0, 1, 0, 0, 0, 0, 0, 0, 0, 0, []) := rfl
theorem i_J6_bitCount_0f7a4_42 : tab t_J6_bitCount_0f7a4 42 = some (.iload_n 0, 1, 0, 0, 0, 0, 0, 0, 0, 0, []) := rfl
theorem i_J6_bitCount_0f7a4_43 : tab t_J6_bitCount_0f7a4 43 = some (.bipush 16, 2, 0, 16, 0, 0, 0, 0, 0, 0, []) := rfl
theorem i_J6_bitCount_0f7a4_45 : tab t_J6_bitCount_0f7a4 45 = some (.iushr, 1, 0, 0, 0, 0, 0, 0, 0, 0, []) := rfl
theorem i_J6_bitCount_0f7a4_46 : tab t_J6_bitCount_0f7a4 46 = some (.iadd, 1, 0, 0, 0, 0, 0, 0, 0, 0, []) := rfl
theorem i_J6_bitCount_0f7a4_47 : tab t_J6_bitCount_0f7a4 47 = some (.istore_n 0, 1, 0, 0, 0, 0, 0, 0, 0, 0, []) := rfl
theorem i_J6_bitCount_0f7a4_48 : tab t_J6_bitCount_0f7a4 48 = some (.iload_n 0, 1, 0, 0, 0, 0, 0, 0, 0, 0, []) := rfl
theorem i_J6_bitCount_0f7a4_49 : tab t_J6_bitCount_0f7a4 49 = some (.bipush 63, 2, 0, 63, 0, 0, 0, 0, 0, 0, []) := rfl
theorem i_J6_bitCount_0f7a4_51 : tab t_J6_bitCount_0f7a4 51 = some (.iand, 1, 0, 0, 0, 0, 0, 0, 0, 0, []) := rfl
theorem i_J6_bitCount_0f7a4_52 : tab t_J6_bitCount_0f7a4 52 = some (.ireturn, 1, 0, 0, 0, 0, 0, 0, 0, 0, []) := rfl
def t_J7_fill_53178 : List (Nat × rw_) := [(0, (.iconst 0, 1, 0, 0, 0, 0, 0, 0, 0, 0, [])), (1, (.istore_n 2, 1, 2, 0, 0, 0, 0, 0, 0, 0, [])), (2, (.aload_n 0, 1, 0, 0, 0, 0, 0, 0, 0, 0, [])), (3, (.arraylength, 1, 0, 0, 0, 0, 0, 0, 0, 0, [])), (4, (.istore_n 3, 1, 3, 0, 0, 0, 0, 0, 0, 0, [])), (5, (.iload_n 2, 1, 2, 0, 0, 0, 0, 0, 0, 0, [])), (6, (.iload_n 3, 1, 3, 0, 0, 0, 0, 0, 0, 0, [])), (7, (.if_icmp .ge 13, 3, 20, 0, 0, 0, 0, 0, 0, 0, [])), (10, (.aload_n 0, 1, 0, 0, 0, 0, 0, 0, 0, 0, [])), (11, (.iload_n 2, 1, 2, 0, 0, 0, 0, 0, 0, 0, [])), (12, (.iload_n 1, 1, 1, 0, 0, 0, 0, 0, 0, 0, [])), (13, (.iastore, 1, 0, 0, 0, 0, 0, 0, 0, 0, [])), (14, (.iinc 2 1, 3, 2, 1, 0, 0, 0, 0, 0, 0, [])), (17, (.goto (-12), 3, 5, 0, 0, 0, 0, 0, 0, 0, [])), (20, (.return_, 1, 0, 0, 0, 0, 0, 0, 0, 0, []))]
set_option maxRecDepth 100000 in
theorem ok_J7_fill_53178 : tb_ok ctJ7 m_J7_fill_53178 t_J7_fill_53178 = true := by decide +kernel
theorem i_J7_fill_53178_0 : tab t_J7_fill_53178 0 = some (.iconst 0, 1, 0, 0, 0, 0, 0, 0, 0, 0, []) := rfl
theorem i_J7_fill_53178_1 : tab t_J7_fill_53178 1 = some (.istore_n 2, 1, 2, 0, 0, 0, 0, 0, 0, 0, []) := rfl
theorem i_J7_fill_53178_2 : tab t_J7_fill_53178 2 = some (.aload_n 0, 1, 0, 0, 0, 0, 0, 0, 0, 0, []) := rfl
theorem i_J7_fill_53178_3 : tab t_J7_fill_53178 3 = some (.arraylength, 1, 0, 0, 0, 0, 0, 0, 0, 0, []) := rfl
theorem i_J7_fill_53178_4 : tab t_J7_fill_53178 4 = some (.istore_n 3, 1, 3, 0, 0, 0, 0, 0, 0, 0, []) := rfl
theorem i_J7_fill_53178_5 : tab t_J7_fill_53178 5 = some (.iload_n 2, 1, 2, 0, 0, 0, 0, 0, 0, 0, []) := rfl
theorem i_J7_fill_53178_6 : tab t_J7_fill_53178 6 = some (.iload_n 3, 1, 3, 0, 0, 0, 0, 0, 0, 0, []) := rfl
theorem i_J7_fill_53178_7 : tab t_J7_fill_53178 7 = some (.if_icmp .ge 13, 3, 20, 0, 0, 0, 0, 0, 0, 0, []) := rfl
theorem i_J7_fill_53178_10 : tab t_J7_fill_53178 10 = some (.aload_n 0, 1, 0, 0, 0, 0, 0, 0, 0, 0, []) := rfl
theorem i_J7_fill_53178_11 : tab t_J7_fill_53178 11 = some (.iload_n 2, 1, 2, 0, 0, 0, 0, 0, 0, 0, []) := rfl
theorem i_J7_fill_53178_12 : tab t_J7_fill_53178 12 = some (.iload_n 1, 1, 1, 0, 0, 0, 0, 0, 0, 0, []) := rfl
theorem i_J7_fill_53178_13 : tab t_J7_fill_53178 13 = some (.iastore, 1, 0, 0, 0, 0, 0, 0, 0, 0, []) := rfl
theorem i_J7_fill_53178_14 : tab t_J7_fill_53178 14 = some (.iinc 2 1, 3, 2, 1, 0, 0, 0, 0, 0, 0, []) := rfl
theorem i_J7_fill_53178_17 : tab t_J7_fill_53178 17 = some (.goto (-12), 3, 5, 0, 0, 0, 0, 0, 0, 0, []) := rfl
theorem i_J7_fill_53178_20 : tab t_J7_fill_53178 20 = some (.return_, 1, 0, 0, 0, 0, 0, 0, 0, 0, []) := rfl
def t_J7_copyOf_59c91 : List (Nat × rw_) := [(0, (.iload_n 1, 1, 1, 0, 0, 0, 0, 0, 0, 0, [])), (1, (.aload_n 0, 1, 0, 0, 0, 0, 0, 0, 0, 0, [])), (2, (.arraylength, 1, 0, 0, 0, 0, 0, 0, 0, 0, [])), (3, (.if_icmp .ne 11, 3, 14, 0, 0, 0, 0, 0, 0, 0, [])), (6, (.aload_n 0, 1, 0, 0, 0, 0, 0, 0, 0, 0, [])), (13, (.areturn, 1, 0, 0, 0, 0, 0, 0, 0, 0, [])), (14, (.iload_n 1, 1, 1, 0, 0, 0, 0, 0, 0, 0, [])), (15, (.newarray .int, 2, 0, 0, 0, 0, 0, 0, 0, 0, [])), (17, (.astore_n 2, 1, 2, 0, 0, 0, 0, 0, 0, 0, [])), (18, (.aload_n 0, 1, 0, 0, 0, 0, 0, 0, 0, 0, [])), (19, (.iconst 0, 1, 0, 0, 0, 0, 0, 0, 0, 0, [])), (20, (.aload_n 2, 1, 2, 0, 0, 0, 0, 0, 0, 0, [])), (21, (.iconst 0, 1, 0, 0, 0, 0, 0, 0, 0, 0, [])), (22, (.aload_n 0, 1, 0, 0, 0, 0, 0, 0, 0, 0, [])), (23, (.arraylength, 1, 0, 0, 0, 0, 0, 0, 0, 0, [])), (24, (.iload_n 1, 1, 1, 0, 0, 0, 0, 0, 0, 0, [])), (25, (.invokestatic 304, 3, 0, 0, 0, 8, 0, 0, 0, 0, [])), (31, (.aload_n 2, 1, 2, 0, 0, 0, 0, 0, 0, 0, [])), (32, (.areturn, 1, 0, 0, 0, 0, 0, 0, 0, 0, []))]
set_option maxRecDepth 100000 in
theorem ok_J7_copyOf_59c91 : tb_ok ctJ7 m_J7_copyOf_59c91 t_J7_copyOf_59c91 = true := by decide +kernel
theorem i_J7_copyOf_59c91_0 : tab t_J7_copyOf_59c91 0 = some (.iload_n 1, 1, 1, 0, 0, 0, 0, 0, 0, 0, []) := rfl
theorem i_J7_copyOf_59c91_1 : tab t_J7_copyOf_59c91 1 = some (.aload_n 0, 1, 0, 0, 0, 0, 0, 0, 0, 0, []) := rfl
theorem i_J7_copyOf_59c91_2 : tab t_J7_copyOf_59c91 2 = some (.arraylength, 1, 0, 0, 0, 0, 0, 0, 0, 0, []) := rfl
theorem i_J7_copyOf_59c91_3 : tab t_J7_copyOf_59c91 3 = some (.if_icmp .ne 11, 3, 14, 0, 0, 0, 0, 0, 0, 0, []) := rfl
theorem i_J7_copyOf_59c91_6 : tab t_J7_copyOf_59c91 6 = some (.aload_n 0, 1, 0, 0, 0, 0, 0, 0, 0, 0, []) := rfl
theorem i_J7_copyOf_59c91_13 : tab t_J7_copyOf_59c91 13 = some (.areturn, 1, 0, 0, 0, 0, 0, 0, 0, 0, []) := rfl
theorem i_J7_copyOf_59c91_14 : tab t_J7_copyOf_59c91 14 = some (.iload_n 1, 1, 1, 0, 0, 0, 0, 0, 0, 0, []) := rfl
theorem i_J7_copyOf_59c91_15 : tab t_J7_copyOf_59c91 15 = some (.newarray .int, 2, 0, 0, 0, 0, 0, 0, 0, 0, []) := rfl
theorem i_J7_copyOf_59c91_17 : tab t_J7_copyOf_59c91 17 = some (.astore_n 2, 1, 2, 0, 0, 0, 0, 0, 0, 0, []) := rfl
theorem i_J7_copyOf_59c91_18 : tab t_J7_copyOf_59c91 18 = some (.aload_n 0, 1, 0, 0, 0, 0, 0, 0, 0, 0, []) := rfl
theorem i_J7_copyOf_59c91_19 : tab t_J7_copyOf_59c91 19 = some (.iconst 0, 1, 0, 0, 0, 0, 0, 0, 0, 0, []) := rfl
theorem i_J7_copyOf_59c91_20 : tab t_J7_copyOf_59c91 20 = some (.aload_n 2, 1, 2, 0, 0, 0, 0, 0, 0, 0, []) := rfl
theorem i_J7_copyOf_59c91_21 : tab t_J7_copyOf_59c91 21 = some (.iconst 0, 1, 0, 0, 0, 0, 0, 0, 0, 0, []) := rfl
theorem i_J7_copyOf_59c91_22 : tab t_J7_copyOf_59c91 22 = some (.aload_n 0, 1, 0, 0, 0, 0, 0, 0, 0, 0, []) := rfl
theorem i_J7_copyOf_59c91_23 : tab t_J7_copyOf_59c91 23 = some (.arraylength, 1, 0, 0, 0, 0, 0, 0, 0, 0, []) := rfl
theorem i_J7_copyOf_59c91_24 : tab t_J7_copyOf_59c91 24 = some (.iload_n 1, 1, 1, 0, 0, 0, 0, 0, 0, 0, []) := rfl
theorem i_J7_copyOf_59c91_25 : tab t_J7_copyOf_59c91 25 = some (.invokestatic 304, 3, 0, 0, 0, 8, 0, 0, 0, 0, []) := rfl
theorem i_J7_copyOf_59c91_31 : tab t_J7_copyOf_59c91 31 = some (.aload_n 2, 1, 2, 0, 0, 0, 0, 0, 0, 0, []) := rfl
theorem i_J7_copyOf_59c91_32 : tab t_J7_copyOf_59c91 32 = some (.areturn, 1, 0, 0, 0, 0, 0, 0, 0, 0, []) := rfl
