/-! 11: tables of class 0 -/
def t_X0_init : List (Nat × rw_) := [(0, (.aload_n 0, 1, 0, 0, 0, 0, 0, 0, 0, 0, [])), (1, (.invokespecial 3, 3, 0, 0, 0, 6, 0, 0, 0, 0, [])), (4, (.aload_n 0, 1, 0, 0, 0, 0, 0, 0, 0, 0, [])), (5, (.new 9, 3, 0, 0, 0, 4, 3, 0, 0, 0, [])), (8, (.dup, 1, 0, 0, 0, 0, 0, 0, 0, 0, [])), (9, (.invokespecial 11, 3, 0, 0, 0, 0, 45, 0, 3, 72, [])), (12, (.putfield 12, 3, 2, 0, 0, 0, 0, 1, 0, 0, [])), (15, (.aload_n 0, 1, 0, 0, 0, 0, 0, 0, 0, 0, [])), (16, (.sipush 312, 3, 0, 312, 0, 0, 0, 0, 0, 0, [])), (19, (.newarray .int, 2, 0, 0, 0, 0, 0, 0, 0, 0, [])), (21, (.putfield 18, 3, 2, 0, 0, 0, 1, 1, 0, 0, [])), (24, (.aload_n 0, 1, 0, 0, 0, 0, 0, 0, 0, 0, [])), (25, (.bipush 60, 2, 0, 60, 0, 0, 0, 0, 0, 0, [])), (27, (.newarray .int, 2, 0, 0, 0, 0, 0, 0, 0, 0, [])), (29, (.putfield 22, 3, 2, 0, 0, 0, 2, 1, 0, 0, [])), (32, (.aload_n 0, 1, 0, 0, 0, 0, 0, 0, 0, 0, [])), (33, (.iconst 0, 1, 0, 0, 0, 0, 0, 0, 0, 0, [])), (34, (.putfield 25, 3, 0, 0, 0, 0, 3, 0, 0, 0, [])), (37, (.aload_n 0, 1, 0, 0, 0, 0, 0, 0, 0, 0, [])), (38, (.iconst 0, 1, 0, 0, 0, 0, 0, 0, 0, 0, [])), (39, (.putfield 29, 3, 0, 0, 0, 0, 4, 0, 0, 0, [])), (42, (.aload_n 0, 1, 0, 0, 0, 0, 0, 0, 0, 0, [])), (43, (.iconst 0, 1, 0, 0, 0, 0, 0, 0, 0, 0, [])), (44, (.putfield 32, 3, 0, 0, 0, 0, 5, 0, 0, 0, [])), (47, (.return_, 1, 0, 0, 0, 0, 0, 0, 0, 0, []))]
set_option maxRecDepth 100000 in
theorem ok_X0_init : tb_ok ctX0 m_X0_init t_X0_init = true := by decide +kernel
theorem i_X0_init_0 : tab t_X0_init 0 = some (.aload_n 0, 1, 0, 0, 0, 0, 0, 0, 0, 0, []) := rfl
theorem i_X0_init_1 : tab t_X0_init 1 = some (.invokespecial 3, 3, 0, 0, 0, 6, 0, 0, 0, 0, []) := rfl
theorem i_X0_init_4 : tab t_X0_init 4 = some (.aload_n 0, 1, 0, 0, 0, 0, 0, 0, 0, 0, []) := rfl
theorem i_X0_init_5 : tab t_X0_init 5 = some (.new 9, 3, 0, 0, 0, 4, 3, 0, 0, 0, []) := rfl
theorem i_X0_init_8 : tab t_X0_init 8 = some (.dup, 1, 0, 0, 0, 0, 0, 0, 0, 0, []) := rfl
theorem i_X0_init_9 : tab t_X0_init 9 = some (.invokespecial 11, 3, 0, 0, 0, 0, 45, 0, 3, 72, []) := rfl
theorem i_X0_init_12 : tab t_X0_init 12 = some (.putfield 12, 3, 2, 0, 0, 0, 0, 1, 0, 0, []) := rfl
theorem i_X0_init_15 : tab t_X0_init 15 = some (.aload_n 0, 1, 0, 0, 0, 0, 0, 0, 0, 0, []) := rfl
theorem i_X0_init_16 : tab t_X0_init 16 = some (.sipush 312, 3, 0, 312, 0, 0, 0, 0, 0, 0, []) := rfl
theorem i_X0_init_19 : tab t_X0_init 19 = some (.newarray .int, 2, 0, 0, 0, 0, 0, 0, 0, 0, []) := rfl
theorem i_X0_init_21 : tab t_X0_init 21 = some (.putfield 18, 3, 2, 0, 0, 0, 1, 1, 0, 0, []) := rfl
theorem i_X0_init_24 : tab t_X0_init 24 = some (.aload_n 0, 1, 0, 0, 0, 0, 0, 0, 0, 0, []) := rfl
theorem i_X0_init_25 : tab t_X0_init 25 = some (.bipush 60, 2, 0, 60, 0, 0, 0, 0, 0, 0, []) := rfl
theorem i_X0_init_27 : tab t_X0_init 27 = some (.newarray .int, 2, 0, 0, 0, 0, 0, 0, 0, 0, []) := rfl
theorem i_X0_init_29 : tab t_X0_init 29 = some (.putfield 22, 3, 2, 0, 0, 0, 2, 1, 0, 0, []) := rfl
theorem i_X0_init_32 : tab t_X0_init 32 = some (.aload_n 0, 1, 0, 0, 0, 0, 0, 0, 0, 0, []) := rfl
theorem i_X0_init_33 : tab t_X0_init 33 = some (.iconst 0, 1, 0, 0, 0, 0, 0, 0, 0, 0, []) := rfl
theorem i_X0_init_34 : tab t_X0_init 34 = some (.putfield 25, 3, 0, 0, 0, 0, 3, 0, 0, 0, []) := rfl
theorem i_X0_init_37 : tab t_X0_init 37 = some (.aload_n 0, 1, 0, 0, 0, 0, 0, 0, 0, 0, []) := rfl
theorem i_X0_init_38 : tab t_X0_init 38 = some (.iconst 0, 1, 0, 0, 0, 0, 0, 0, 0, 0, []) := rfl
theorem i_X0_init_39 : tab t_X0_init 39 = some (.putfield 29, 3, 0, 0, 0, 0, 4, 0, 0, 0, []) := rfl
theorem i_X0_init_42 : tab t_X0_init 42 = some (.aload_n 0, 1, 0, 0, 0, 0, 0, 0, 0, 0, []) := rfl
theorem i_X0_init_43 : tab t_X0_init 43 = some (.iconst 0, 1, 0, 0, 0, 0, 0, 0, 0, 0, []) := rfl
theorem i_X0_init_44 : tab t_X0_init 44 = some (.putfield 32, 3, 0, 0, 0, 0, 5, 0, 0, 0, []) := rfl
theorem i_X0_init_47 : tab t_X0_init 47 = some (.return_, 1, 0, 0, 0, 0, 0, 0, 0, 0, []) := rfl
def t_X0_gather : List (Nat × rw_) := [(0, (.aload_n 0, 1, 0, 0, 0, 0, 0, 0, 0, 0, [])), (1, (.getfield 18, 3, 2, 0, 0, 0, 1, 0, 0, 0, [])), (4, (.iconst 0, 1, 0, 0, 0, 0, 0, 0, 0, 0, [])), (5, (.invokestatic 35, 3, 2, 0, 0, 0, 241, 0, 0, 0, [])), (8, (.aload_n 0, 1, 0, 0, 0, 0, 0, 0, 0, 0, [])), (9, (.iconst 0, 1, 0, 0, 0, 0, 0, 0, 0, 0, [])), (10, (.putfield 25, 3, 0, 0, 0, 0, 3, 0, 0, 0, [])), (13, (.aload_n 0, 1, 0, 0, 0, 0, 0, 0, 0, 0, [])), (14, (.iconst 0, 1, 0, 0, 0, 0, 0, 0, 0, 0, [])), (15, (.putfield 32, 3, 0, 0, 0, 0, 5, 0, 0, 0, [])), (18, (.aload_n 0, 1, 0, 0, 0, 0, 0, 0, 0, 0, [])), (19, (.getfield 12, 3, 2, 0, 0, 0, 0, 0, 0, 0, [])), (22, (.aload_n 1, 1, 1, 0, 0, 0, 0, 0, 0, 0, [])), (23, (.iload_n 3, 1, 3, 0, 0, 0, 0, 0, 0, 0, [])), (24, (.invokevirtual 41, 3, 2, 0, 0, 0, 46, 5, 0, 0, [])), (27, (.iconst 0, 1, 0, 0, 0, 0, 0, 0, 0, 0, [])), (28, (.istore 4, 2, 4, 0, 0, 0, 0, 0, 0, 0, [])), (30, (.iload 4, 2, 4, 0, 0, 0, 0, 0, 0, 0, [])), (32, (.aload_n 1, 1, 1, 0, 0, 0, 0, 0, 0, 0, [])), (33, (.getfield 45, 3, 2, 0, 0, 7, 1, 0, 0, 0, [])), (36, (.getfield 51, 3, 0, 0, 0, 6, 3, 0, 0, 0, [])), (39, (.if_icmp .ge 18, 3, 57, 0, 0, 0, 0, 0, 0, 0, [])), (42, (.aload_n 0, 1, 0, 0, 0, 0, 0, 0, 0, 0, [])), (43, (.aload_n 1, 1, 1, 0, 0, 0, 0, 0, 0, 0, [])), (44, (.iload 4, 2, 4, 0, 0, 0, 0, 0, 0, 0, [])), (46, (.iload_n 2, 1, 2, 0, 0, 0, 0, 0, 0, 0, [])), (47, (.iload_n 3, 1, 3, 0, 0, 0, 0, 0, 0, 0, [])), (48, (.invokevirtual 56, 3, 4, 0, 0, 0, 2, 1, 0, 0, [])), (51, (.iinc 4 1, 3, 4, 1, 0, 0, 0, 0, 0, 0, [])), (54, (.goto (-24), 3, 30, 0, 0, 0, 0, 0, 0, 0, [])), (57, (.aload_n 0, 1, 0, 0, 0, 0, 0, 0, 0, 0, [])), (58, (.aload_n 1, 1, 1, 0, 0, 0, 0, 0, 0, 0, [])), (59, (.iload_n 2, 1, 2, 0, 0, 0, 0, 0, 0, 0, [])), (60, (.invokevirtual 60, 3, 2, 0, 0, 0, 3, 1, 0, 0, [])), (63, (.aload_n 0, 1, 0, 0, 0, 0, 0, 0, 0, 0, [])), (64, (.aload_n 1, 1, 1, 0, 0, 0, 0, 0, 0, 0, [])), (65, (.iload_n 2, 1, 2, 0, 0, 0, 0, 0, 0, 0, [])), (66, (.iload_n 3, 1, 3, 0, 0, 0, 0, 0, 0, 0, [])), (67, (.invokevirtual 63, 3, 3, 0, 0, 0, 4, 1, 0, 0, [])), (70, (.return_, 1, 0, 0, 0, 0, 0, 0, 0, 0, []))]
set_option maxRecDepth 100000 in
theorem ok_X0_gather : tb_ok ctX0 m_X0_gather t_X0_gather = true := by decide +kernel
theorem i_X0_gather_0 : tab t_X0_gather 0 = some (.aload_n 0, 1, 0, 0, 0, 0, 0, 0, 0, 0, []) := rfl
theorem i_X0_gather_1 : tab t_X0_gather 1 = some (.getfield 18, 3, 2, 0, 0, 0, 1, 0, 0, 0, []) := rfl
theorem i_X0_gather_4 : tab t_X0_gather 4 = some (.iconst 0, 1, 0, 0, 0, 0, 0, 0, 0, 0, []) := rfl
theorem i_X0_gather_5 : tab t_X0_gather 5 = some (.invokestatic 35, 3, 2, 0, 0, 0, 241, 0, 0, 0, []) := rfl
theorem i_X0_gather_8 : tab t_X0_gather 8 = some (.aload_n 0, 1, 0, 0, 0, 0, 0, 0, 0, 0, []) := rfl
theorem i_X0_gather_9 : tab t_X0_gather 9 = some (.iconst 0, 1, 0, 0, 0, 0, 0, 0, 0, 0, []) := rfl
theorem i_X0_gather_10 : tab t_X0_gather 10 = some (.putfield 25, 3, 0, 0, 0, 0, 3, 0, 0, 0, []) := rfl
theorem i_X0_gather_13 : tab t_X0_gather 13 = some (.aload_n 0, 1, 0, 0, 0, 0, 0, 0, 0, 0, []) := rfl
theorem i_X0_gather_14 : tab t_X0_gather 14 = some (.iconst 0, 1, 0, 0, 0, 0, 0, 0, 0, 0, []) := rfl
theorem i_X0_gather_15 : tab t_X0_gather 15 = some (.putfield 32, 3, 0, 0, 0, 0, 5, 0, 0, 0, []) := rfl
theorem i_X0_gather_18 : tab t_X0_gather 18 = some (.aload_n 0, 1, 0, 0, 0, 0, 0, 0, 0, 0, []) := rfl
theorem i_X0_gather_19 : tab t_X0_gather 19 = some (.getfield 12, 3, 2, 0, 0, 0, 0, 0, 0, 0, []) := rfl
theorem i_X0_gather_22 : tab t_X0_gather 22 = some (.aload_n 1, 1, 1, 0, 0, 0, 0, 0, 0, 0, []) := rfl
theorem i_X0_gather_23 : tab t_X0_gather 23 = some (.iload_n 3, 1, 3, 0, 0, 0, 0, 0, 0, 0, []) := rfl
theorem i_X0_gather_24 : tab t_X0_gather 24 = some (.invokevirtual 41, 3, 2, 0, 0, 0, 46, 5, 0, 0, []) := rfl
theorem i_X0_gather_27 : tab t_X0_gather 27 = some (.iconst 0, 1, 0, 0, 0, 0, 0, 0, 0, 0, []) := rfl
theorem i_X0_gather_28 : tab t_X0_gather 28 = some (.istore 4, 2, 4, 0, 0, 0, 0, 0, 0, 0, []) := rfl
theorem i_X0_gather_30 : tab t_X0_gather 30 = some (.iload 4, 2, 4, 0, 0, 0, 0, 0, 0, 0, []) := rfl
theorem i_X0_gather_32 : tab t_X0_gather 32 = some (.aload_n 1, 1, 1, 0, 0, 0, 0, 0, 0, 0, []) := rfl
theorem i_X0_gather_33 : tab t_X0_gather 33 = some (.getfield 45, 3, 2, 0, 0, 7, 1, 0, 0, 0, []) := rfl
theorem i_X0_gather_36 : tab t_X0_gather 36 = some (.getfield 51, 3, 0, 0, 0, 6, 3, 0, 0, 0, []) := rfl
theorem i_X0_gather_39 : tab t_X0_gather 39 = some (.if_icmp .ge 18, 3, 57, 0, 0, 0, 0, 0, 0, 0, []) := rfl
theorem i_X0_gather_42 : tab t_X0_gather 42 = some (.aload_n 0, 1, 0, 0, 0, 0, 0, 0, 0, 0, []) := rfl
theorem i_X0_gather_43 : tab t_X0_gather 43 = some (.aload_n 1, 1, 1, 0, 0, 0, 0, 0, 0, 0, []) := rfl
theorem i_X0_gather_44 : tab t_X0_gather 44 = some (.iload 4, 2, 4, 0, 0, 0, 0, 0, 0, 0, []) := rfl
theorem i_X0_gather_46 : tab t_X0_gather 46 = some (.iload_n 2, 1, 2, 0, 0, 0, 0, 0, 0, 0, []) := rfl
theorem i_X0_gather_47 : tab t_X0_gather 47 = some (.iload_n 3, 1, 3, 0, 0, 0, 0, 0, 0, 0, []) := rfl
theorem i_X0_gather_48 : tab t_X0_gather 48 = some (.invokevirtual 56, 3, 4, 0, 0, 0, 2, 1, 0, 0, []) := rfl
theorem i_X0_gather_51 : tab t_X0_gather 51 = some (.iinc 4 1, 3, 4, 1, 0, 0, 0, 0, 0, 0, []) := rfl
theorem i_X0_gather_54 : tab t_X0_gather 54 = some (.goto (-24), 3, 30, 0, 0, 0, 0, 0, 0, 0, []) := rfl
theorem i_X0_gather_57 : tab t_X0_gather 57 = some (.aload_n 0, 1, 0, 0, 0, 0, 0, 0, 0, 0, []) := rfl
theorem i_X0_gather_58 : tab t_X0_gather 58 = some (.aload_n 1, 1, 1, 0, 0, 0, 0, 0, 0, 0, []) := rfl
theorem i_X0_gather_59 : tab t_X0_gather 59 = some (.iload_n 2, 1, 2, 0, 0, 0, 0, 0, 0, 0, []) := rfl
theorem i_X0_gather_60 : tab t_X0_gather 60 = some (.invokevirtual 60, 3, 2, 0, 0, 0, 3, 1, 0, 0, []) := rfl
theorem i_X0_gather_63 : tab t_X0_gather 63 = some (.aload_n 0, 1, 0, 0, 0, 0, 0, 0, 0, 0, []) := rfl
theorem i_X0_gather_64 : tab t_X0_gather 64 = some (.aload_n 1, 1, 1, 0, 0, 0, 0, 0, 0, 0, []) := rfl
theorem i_X0_gather_65 : tab t_X0_gather 65 = some (.iload_n 2, 1, 2, 0, 0, 0, 0, 0, 0, 0, []) := rfl
theorem i_X0_gather_66 : tab t_X0_gather 66 = some (.iload_n 3, 1, 3, 0, 0, 0, 0, 0, 0, 0, []) := rfl
theorem i_X0_gather_67 : tab t_X0_gather 67 = some (.invokevirtual 63, 3, 3, 0, 0, 0, 4, 1, 0, 0, []) := rfl
theorem i_X0_gather_70 : tab t_X0_gather 70 = some (.return_, 1, 0, 0, 0, 0, 0, 0, 0, 0, []) := rfl
def t_X0_gatherOne : List (Nat × rw_) := [(0, (.aload_n 1, 1, 1, 0, 0, 0, 0, 0, 0, 0, [])), (1, (.getfield 45, 3, 2, 0, 0, 7, 1, 0, 0, 0, [])), (4, (.iload_n 2, 1, 2, 0, 0, 0, 0, 0, 0, 0, [])), (5, (.iconst 2, 1, 0, 2, 0, 0, 0, 0, 0, 0, [])), (6, (.invokevirtual 67, 3, 2, 0, 0, 0, 60, 7, 0, 0, [])), (9, (.istore 5, 2, 5, 0, 0, 0, 0, 0, 0, 0, [])), (11, (.aload_n 1, 1, 1, 0, 0, 0, 0, 0, 0, 0, [])), (12, (.aload_n 1, 1, 1, 0, 0, 0, 0, 0, 0, 0, [])), (13, (.getfield 45, 3, 2, 0, 0, 7, 1, 0, 0, 0, [])), (16, (.iload_n 2, 1, 2, 0, 0, 0, 0, 0, 0, 0, [])), (17, (.iconst 3, 1, 0, 3, 0, 0, 0, 0, 0, 0, [])), (18, (.invokevirtual 67, 3, 2, 0, 0, 0, 60, 7, 0, 0, [])), (21, (.iload_n 3, 1, 3, 0, 0, 0, 0, 0, 0, 0, [])), (22, (.invokevirtual 71, 3, 2, 0, 0, 0, 71, 8, 0, 0, [])), (25, (.istore 6, 2, 6, 0, 0, 0, 0, 0, 0, 0, [])), (27, (.aload_n 0, 1, 0, 0, 0, 0, 0, 0, 0, 0, [])), (28, (.iload_n 2, 1, 2, 0, 0, 0, 0, 0, 0, 0, [])), (29, (.iconst 0, 1, 0, 0, 0, 0, 0, 0, 0, 0, [])), (30, (.iload 4, 2, 4, 0, 0, 0, 0, 0, 0, 0, [])), (32, (.invokevirtual 74, 3, 3, 0, 0, 0, 6, 1, 0, 0, [])), (35, (.aload_n 0, 1, 0, 0, 0, 0, 0, 0, 0, 0, [])), (36, (.iload_n 2, 1, 2, 0, 0, 0, 0, 0, 0, 0, [])), (37, (.iconst 1, 1, 0, 1, 0, 0, 0, 0, 0, 0, [])), (38, (.aload_n 1, 1, 1, 0, 0, 0, 0, 0, 0, 0, [])), (39, (.getfield 45, 3, 2, 0, 0, 7, 1, 0, 0, 0, [])), (42, (.iload_n 2, 1, 2, 0, 0, 0, 0, 0, 0, 0, [])), (43, (.iconst 0, 1, 0, 0, 0, 0, 0, 0, 0, 0, [])), (44, (.invokevirtual 67, 3, 2, 0, 0, 0, 60, 7, 0, 0, [])), (47, (.invokevirtual 74, 3, 3, 0, 0, 0, 6, 1, 0, 0, [])), (50, (.aload_n 0, 1, 0, 0, 0, 0, 0, 0, 0, 0, [])), (51, (.iload_n 2, 1, 2, 0, 0, 0, 0, 0, 0, 0, [])), (52, (.iconst 2, 1, 0, 2, 0, 0, 0, 0, 0, 0, [])), (53, (.aload_n 1, 1, 1, 0, 0, 0, 0, 0, 0, 0, [])), (54, (.getfield 45, 3, 2, 0, 0, 7, 1, 0, 0, 0, [])), (57, (.iload_n 2, 1, 2, 0, 0, 0, 0, 0, 0, 0, [])), (58, (.iconst 1, 1, 0, 1, 0, 0, 0, 0, 0, 0, [])), (59, (.invokevirtual 67, 3, 2, 0, 0, 0, 60, 7, 0, 0, [])), (62, (.invokevirtual 74, 3, 3, 0, 0, 0, 6, 1, 0, 0, [])), (65, (.aload_n 0, 1, 0, 0, 0, 0, 0, 0, 0, 0, [])), (66, (.iload_n 2, 1, 2, 0, 0, 0, 0, 0, 0, 0, [])), (67, (.iconst 3, 1, 0, 3, 0, 0, 0, 0, 0, 0, [])), (68, (.iload 5, 2, 5, 0, 0, 0, 0, 0, 0, 0, [])), (70, (.invokevirtual 74, 3, 3, 0, 0, 0, 6, 1, 0, 0, [])), (73, (.aload_n 0, 1, 0, 0, 0, 0, 0, 0, 0, 0, [])), (74, (.iload_n 2, 1, 2, 0, 0, 0, 0, 0, 0, 0, [])), (75, (.iconst 4, 1, 0, 4, 0, 0, 0, 0, 0, 0, [])), (76, (.aload_n 1, 1, 1, 0, 0, 0, 0, 0, 0, 0, [])), (77, (.getfield 45, 3, 2, 0, 0, 7, 1, 0, 0, 0, [])), (80, (.iload_n 2, 1, 2, 0, 0, 0, 0, 0, 0, 0, [])), (81, (.iconst 4, 1, 0, 4, 0, 0, 0, 0, 0, 0, [])), (82, (.invokevirtual 67, 3, 2, 0, 0, 0, 60, 7, 0, 0, [])), (85, (.invokevirtual 74, 3, 3, 0, 0, 0, 6, 1, 0, 0, [])), (88, (.aload_n 0, 1, 0, 0, 0, 0, 0, 0, 0, 0, [])), (89, (.iload_n 2, 1, 2, 0, 0, 0, 0, 0, 0, 0, [])), (90, (.iconst 5, 1, 0, 5, 0, 0, 0, 0, 0, 0, [])), (91, (.aload_n 0, 1, 0, 0, 0, 0, 0, 0, 0, 0, [])), (92, (.getfield 12, 3, 2, 0, 0, 0, 0, 0, 0, 0, [])), (95, (.iload_n 2, 1, 2, 0, 0, 0, 0, 0, 0, 0, [])), (96, (.aload_n 1, 1, 1, 0, 0, 0, 0, 0, 0, 0, [])), (97, (.getfield 78, 3, 2, 0, 0, 7, 0, 0, 0, 0, [])), (100, (.iload_n 3, 1, 3, 0, 0, 0, 0, 0, 0, 0, [])), (101, (.iconst 2, 1, 0, 2, 0, 0, 0, 0, 0, 0, [])), (102, (.invokevirtual 67, 3, 2, 0, 0, 0, 60, 7, 0, 0, [])), (105, (.aload_n 1, 1, 1, 0, 0, 0, 0, 0, 0, 0, [])), (106, (.getfield 78, 3, 2, 0, 0, 7, 0, 0, 0, 0, [])), (109, (.iload_n 3, 1, 3, 0, 0, 0, 0, 0, 0, 0, [])), (110, (.iconst 3, 1, 0, 3, 0, 0, 0, 0, 0, 0, [])), (111, (.invokevirtual 67, 3, 2, 0, 0, 0, 60, 7, 0, 0, [])), (114, (.invokevirtual 81, 3, 3, 0, 0, 0, 47, 5, 0, 0, [])), (117, (.invokevirtual 74, 3, 3, 0, 0, 0, 6, 1, 0, 0, [])), (120, (.aload_n 0, 1, 0, 0, 0, 0, 0, 0, 0, 0, [])), (121, (.iload_n 2, 1, 2, 0, 0, 0, 0, 0, 0, 0, [])), (122, (.bipush 8, 2, 0, 8, 0, 0, 0, 0, 0, 0, [])), (124, (.iload 5, 2, 5, 0, 0, 0, 0, 0, 0, 0, [])), (126, (.aload_n 1, 1, 1, 0, 0, 0, 0, 0, 0, 0, [])), (127, (.getfield 78, 3, 2, 0, 0, 7, 0, 0, 0, 0, [])), (130, (.iload_n 3, 1, 3, 0, 0, 0, 0, 0, 0, 0, [])), (131, (.iconst 1, 1, 0, 1, 0, 0, 0, 0, 0, 0, [])), (132, (.invokevirtual 67, 3, 2, 0, 0, 0, 60, 7, 0, 0, [])), (135, (.if_icmp .ne 7, 3, 142, 0, 0, 0, 0, 0, 0, 0, [])), (138, (.iconst 1, 1, 0, 1, 0, 0, 0, 0, 0, 0, [])), (139, (.goto 4, 3, 143, 0, 0, 0, 0, 0, 0, 0, [])), (142, (.iconst 0, 1, 0, 0, 0, 0, 0, 0, 0, 0, [])), (143, (.invokevirtual 74, 3, 3, 0, 0, 0, 6, 1, 0, 0, [])), (146, (.aload_n 0, 1, 0, 0, 0, 0, 0, 0, 0, 0, [])), (147, (.iload_n 2, 1, 2, 0, 0, 0, 0, 0, 0, 0, [])), (148, (.bipush 9, 2, 0, 9, 0, 0, 0, 0, 0, 0, [])), (150, (.iconst 0, 1, 0, 0, 0, 0, 0, 0, 0, 0, [])), (151, (.iload 6, 2, 6, 0, 0, 0, 0, 0, 0, 0, [])), (153, (.invokestatic 85, 3, 0, 0, 0, 7, 0, 0, 0, 0, [])), (156, (.invokevirtual 74, 3, 3, 0, 0, 0, 6, 1, 0, 0, [])), (159, (.aload_n 0, 1, 0, 0, 0, 0, 0, 0, 0, 0, [])), (160, (.dup, 1, 0, 0, 0, 0, 0, 0, 0, 0, [])), (161, (.getfield 25, 3, 0, 0, 0, 0, 3, 0, 0, 0, [])), (164, (.iload 6, 2, 6, 0, 0, 0, 0, 0, 0, 0, [])), (166, (.iconst (-1), 1, 0, -1, 0, 0, 0, 0, 0, 0, [])), (167, (.if_icmp .eq 9, 3, 176, 0, 0, 0, 0, 0, 0, 0, [])), (170, (.iconst 1, 1, 0, 1, 0, 0, 0, 0, 0, 0, [])), (171, (.iload_n 2, 1, 2, 0, 0, 0, 0, 0, 0, 0, [])), (172, (.ishl, 1, 0, 0, 0, 0, 0, 0, 0, 0, [])), (173, (.goto 4, 3, 177, 0, 0, 0, 0, 0, 0, 0, [])), (176, (.iconst 0, 1, 0, 0, 0, 0, 0, 0, 0, 0, [])), (177, (.ior, 1, 0, 0, 0, 0, 0, 0, 0, 0, [])), (178, (.putfield 25, 3, 0, 0, 0, 0, 3, 0, 0, 0, [])), (181, (.aload_n 0, 1, 0, 0, 0, 0, 0, 0, 0, 0, [])), (182, (.dup, 1, 0, 0, 0, 0, 0, 0, 0, 0, [])), (183, (.getfield 32, 3, 0, 0, 0, 0, 5, 0, 0, 0, [])), (186, (.aload_n 1, 1, 1, 0, 0, 0, 0, 0, 0, 0, [])), (187, (.iload_n 2, 1, 2, 0, 0, 0, 0, 0, 0, 0, [])), (188, (.iload 4, 2, 4, 0, 0, 0, 0, 0, 0, 0, [])), (190, (.invokevirtual 90, 3, 2, 0, 0, 0, 66, 8, 0, 0, [])), (193, (.ifCond .eq 9, 3, 202, 0, 0, 0, 0, 0, 0, 0, [])), (196, (.iconst 1, 1, 0, 1, 0, 0, 0, 0, 0, 0, [])), (197, (.iload_n 2, 1, 2, 0, 0, 0, 0, 0, 0, 0, [])), (198, (.ishl, 1, 0, 0, 0, 0, 0, 0, 0, 0, [])), (199, (.goto 4, 3, 203, 0, 0, 0, 0, 0, 0, 0, [])), (202, (.iconst 0, 1, 0, 0, 0, 0, 0, 0, 0, 0, [])), (203, (.ior, 1, 0, 0, 0, 0, 0, 0, 0, 0, [])), (204, (.putfield 32, 3, 0, 0, 0, 0, 5, 0, 0, 0, [])), (207, (.return_, 1, 0, 0, 0, 0, 0, 0, 0, 0, []))]
set_option maxRecDepth 100000 in
theorem ok_X0_gatherOne : tb_ok ctX0 m_X0_gatherOne t_X0_gatherOne = true := by decide +kernel
theorem i_X0_gatherOne_0 : tab t_X0_gatherOne 0 = some (.aload_n 1, 1, 1, 0, 0, 0, 0, 0, 0, 0, []) := rfl
theorem i_X0_gatherOne_1 : tab t_X0_gatherOne 1 = some (.getfield 45, 3, 2, 0, 0, 7, 1, 0, 0, 0, []) := rfl
theorem i_X0_gatherOne_4 : tab t_X0_gatherOne 4 = some (.iload_n 2, 1, 2, 0, 0, 0, 0, 0, 0, 0, []) := rfl
theorem i_X0_gatherOne_5 : tab t_X0_gatherOne 5 = some (.iconst 2, 1, 0, 2, 0, 0, 0, 0, 0, 0, []) := rfl
theorem i_X0_gatherOne_6 : tab t_X0_gatherOne 6 = some (.invokevirtual 67, 3, 2, 0, 0, 0, 60, 7, 0, 0, []) := rfl
theorem i_X0_gatherOne_9 : tab t_X0_gatherOne 9 = some (.istore 5, 2, 5, 0, 0, 0, 0, 0, 0, 0, []) := rfl
theorem i_X0_gatherOne_11 : tab t_X0_gatherOne 11 = some (.aload_n 1, 1, 1, 0, 0, 0, 0, 0, 0, 0, []) := rfl
theorem i_X0_gatherOne_12 : tab t_X0_gatherOne 12 = some (.aload_n 1, 1, 1, 0, 0, 0, 0, 0, 0, 0, []) := rfl
theorem i_X0_gatherOne_13 : tab t_X0_gatherOne 13 = some (.getfield 45, 3, 2, 0, 0, 7, 1, 0, 0, 0, []) := rfl
theorem i_X0_gatherOne_16 : tab t_X0_gatherOne 16 = some (.iload_n 2, 1, 2, 0, 0, 0, 0, 0, 0, 0, []) := rfl
theorem i_X0_gatherOne_17 : tab t_X0_gatherOne 17 = some (.iconst 3, 1, 0, 3, 0, 0, 0, 0, 0, 0, []) := rfl
theorem i_X0_gatherOne_18 : tab t_X0_gatherOne 18 = some (.invokevirtual 67, 3, 2, 0, 0, 0, 60, 7, 0, 0, []) := rfl
theorem i_X0_gatherOne_21 : tab t_X0_gatherOne 21 = some (.iload_n 3, 1, 3, 0, 0, 0, 0, 0, 0, 0, []) := rfl
theorem i_X0_gatherOne_22 : tab t_X0_gatherOne 22 = some (.invokevirtual 71, 3, 2, 0, 0, 0, 71, 8, 0, 0, []) := rfl
theorem i_X0_gatherOne_25 : tab t_X0_gatherOne 25 = some (.istore 6, 2, 6, 0, 0, 0, 0, 0, 0, 0, []) := rfl
theorem i_X0_gatherOne_27 : tab t_X0_gatherOne 27 = some (.aload_n 0, 1, 0, 0, 0, 0, 0, 0, 0, 0, []) := rfl
theorem i_X0_gatherOne_28 : tab t_X0_gatherOne 28 = some (.iload_n 2, 1, 2, 0, 0, 0, 0, 0, 0, 0, []) := rfl
theorem i_X0_gatherOne_29 : tab t_X0_gatherOne 29 = some (.iconst 0, 1, 0, 0, 0, 0, 0, 0, 0, 0, []) := rfl
theorem i_X0_gatherOne_30 : tab t_X0_gatherOne 30 = some (.iload 4, 2, 4, 0, 0, 0, 0, 0, 0, 0, []) := rfl
theorem i_X0_gatherOne_32 : tab t_X0_gatherOne 32 = some (.invokevirtual 74, 3, 3, 0, 0, 0, 6, 1, 0, 0, []) := rfl
theorem i_X0_gatherOne_35 : tab t_X0_gatherOne 35 = some (.aload_n 0, 1, 0, 0, 0, 0, 0, 0, 0, 0, []) := rfl
theorem i_X0_gatherOne_36 : tab t_X0_gatherOne 36 = some (.iload_n 2, 1, 2, 0, 0, 0, 0, 0, 0, 0, []) := rfl
theorem i_X0_gatherOne_37 : tab t_X0_gatherOne 37 = some (.iconst 1, 1, 0, 1, 0, 0, 0, 0, 0, 0, []) := rfl
theorem i_X0_gatherOne_38 : tab t_X0_gatherOne 38 = some (.aload_n 1, 1, 1, 0, 0, 0, 0, 0, 0, 0, []) := rfl
theorem i_X0_gatherOne_39 : tab t_X0_gatherOne 39 = some (.getfield 45, 3, 2, 0, 0, 7, 1, 0, 0, 0, []) := rfl
theorem i_X0_gatherOne_42 : tab t_X0_gatherOne 42 = some (.iload_n 2, 1, 2, 0, 0, 0, 0, 0, 0, 0, []) := rfl
theorem i_X0_gatherOne_43 : tab t_X0_gatherOne 43 = some (.iconst 0, 1, 0, 0, 0, 0, 0, 0, 0, 0, []) := rfl
theorem i_X0_gatherOne_44 : tab t_X0_gatherOne 44 = some (.invokevirtual 67, 3, 2, 0, 0, 0, 60, 7, 0, 0, []) := rfl
theorem i_X0_gatherOne_47 : tab t_X0_gatherOne 47 = some (.invokevirtual 74, 3, 3, 0, 0, 0, 6, 1, 0, 0, []) := rfl
theorem i_X0_gatherOne_50 : tab t_X0_gatherOne 50 = some (.aload_n 0, 1, 0, 0, 0, 0, 0, 0, 0, 0, []) := rfl
theorem i_X0_gatherOne_51 : tab t_X0_gatherOne 51 = some (.iload_n 2, 1, 2, 0, 0, 0, 0, 0, 0, 0, []) := rfl
theorem i_X0_gatherOne_52 : tab t_X0_gatherOne 52 = some (.iconst 2, 1, 0, 2, 0, 0, 0, 0, 0, 0, []) := rfl
theorem i_X0_gatherOne_53 : tab t_X0_gatherOne 53 = some (.aload_n 1, 1, 1, 0, 0, 0, 0, 0, 0, 0, []) := rfl
theorem i_X0_gatherOne_54 : tab t_X0_gatherOne 54 = some (.getfield 45, 3, 2, 0, 0, 7, 1, 0, 0, 0, []) := rfl
theorem i_X0_gatherOne_57 : tab t_X0_gatherOne 57 = some (.iload_n 2, 1, 2, 0, 0, 0, 0, 0, 0, 0, []) := rfl
theorem i_X0_gatherOne_58 : tab t_X0_gatherOne 58 = some (.iconst 1, 1, 0, 1, 0, 0, 0, 0, 0, 0, []) := rfl
theorem i_X0_gatherOne_59 : tab t_X0_gatherOne 59 = some (.invokevirtual 67, 3, 2, 0, 0, 0, 60, 7, 0, 0, []) := rfl
theorem i_X0_gatherOne_62 : tab t_X0_gatherOne 62 = some (.invokevirtual 74, 3, 3, 0, 0, 0, 6, 1, 0, 0, []) := rfl
theorem i_X0_gatherOne_65 : tab t_X0_gatherOne 65 = some (.aload_n 0, 1, 0, 0, 0, 0, 0, 0, 0, 0, []) := rfl
theorem i_X0_gatherOne_66 : tab t_X0_gatherOne 66 = some (.iload_n 2, 1, 2, 0, 0, 0, 0, 0, 0, 0, []) := rfl
theorem i_X0_gatherOne_67 : tab t_X0_gatherOne 67 = some (.iconst 3, 1, 0, 3, 0, 0, 0, 0, 0, 0, []) := rfl
theorem i_X0_gatherOne_68 : tab t_X0_gatherOne 68 = some (.iload 5, 2, 5, 0, 0, 0, 0, 0, 0, 0, []) := rfl
theorem i_X0_gatherOne_70 : tab t_X0_gatherOne 70 = some (.invokevirtual 74, 3, 3, 0, 0, 0, 6, 1, 0, 0, []) := rfl
theorem i_X0_gatherOne_73 : tab t_X0_gatherOne 73 = some (.aload_n 0, 1, 0, 0, 0, 0, 0, 0, 0, 0, []) := rfl
theorem i_X0_gatherOne_74 : tab t_X0_gatherOne 74 = some (.iload_n 2, 1, 2, 0, 0, 0, 0, 0, 0, 0, []) := rfl
theorem i_X0_gatherOne_75 : tab t_X0_gatherOne 75 = some (.iconst 4, 1, 0, 4, 0, 0, 0, 0, 0, 0, []) := rfl
theorem i_X0_gatherOne_76 : tab t_X0_gatherOne 76 = some (.aload_n 1, 1, 1, 0, 0, 0, 0, 0, 0, 0, []) := rfl
theorem i_X0_gatherOne_77 : tab t_X0_gatherOne 77 = some (.getfield 45, 3, 2, 0, 0, 7, 1, 0, 0, 0, []) := rfl
theorem i_X0_gatherOne_80 : tab t_X0_gatherOne 80 = some (.iload_n 2, 1, 2, 0, 0, 0, 0, 0, 0, 0, []) := rfl
theorem i_X0_gatherOne_81 : tab t_X0_gatherOne 81 = some (.iconst 4, 1, 0, 4, 0, 0, 0, 0, 0, 0, []) := rfl
theorem i_X0_gatherOne_82 : tab t_X0_gatherOne 82 = some (.invokevirtual 67, 3, 2, 0, 0, 0, 60, 7, 0, 0, []) := rfl
theorem i_X0_gatherOne_85 : tab t_X0_gatherOne 85 = some (.invokevirtual 74, 3, 3, 0, 0, 0, 6, 1, 0, 0, []) := rfl
theorem i_X0_gatherOne_88 : tab t_X0_gatherOne 88 = some (.aload_n 0, 1, 0, 0, 0, 0, 0, 0, 0, 0, []) := rfl
theorem i_X0_gatherOne_89 : tab t_X0_gatherOne 89 = some (.iload_n 2, 1, 2, 0, 0, 0, 0, 0, 0, 0, []) := rfl
theorem i_X0_gatherOne_90 : tab t_X0_gatherOne 90 = some (.iconst 5, 1, 0, 5, 0, 0, 0, 0, 0, 0, []) := rfl
theorem i_X0_gatherOne_91 : tab t_X0_gatherOne 91 = some (.aload_n 0, 1, 0, 0, 0, 0, 0, 0, 0, 0, []) := rfl
theorem i_X0_gatherOne_92 : tab t_X0_gatherOne 92 = some (.getfield 12, 3, 2, 0, 0, 0, 0, 0, 0, 0, []) := rfl
theorem i_X0_gatherOne_95 : tab t_X0_gatherOne 95 = some (.iload_n 2, 1, 2, 0, 0, 0, 0, 0, 0, 0, []) := rfl
theorem i_X0_gatherOne_96 : tab t_X0_gatherOne 96 = some (.aload_n 1, 1, 1, 0, 0, 0, 0, 0, 0, 0, []) := rfl
theorem i_X0_gatherOne_97 : tab t_X0_gatherOne 97 = some (.getfield 78, 3, 2, 0, 0, 7, 0, 0, 0, 0, []) := rfl
theorem i_X0_gatherOne_100 : tab t_X0_gatherOne 100 = some (.iload_n 3, 1, 3, 0, 0, 0, 0, 0, 0, 0, []) := rfl
theorem i_X0_gatherOne_101 : tab t_X0_gatherOne 101 = some (.iconst 2, 1, 0, 2, 0, 0, 0, 0, 0, 0, []) := rfl
theorem i_X0_gatherOne_102 : tab t_X0_gatherOne 102 = some (.invokevirtual 67, 3, 2, 0, 0, 0, 60, 7, 0, 0, []) := rfl
theorem i_X0_gatherOne_105 : tab t_X0_gatherOne 105 = some (.aload_n 1, 1, 1, 0, 0, 0, 0, 0, 0, 0, []) := rfl
theorem i_X0_gatherOne_106 : tab t_X0_gatherOne 106 = some (.getfield 78, 3, 2, 0, 0, 7, 0, 0, 0, 0, []) := rfl
theorem i_X0_gatherOne_109 : tab t_X0_gatherOne 109 = some (.iload_n 3, 1, 3, 0, 0, 0, 0, 0, 0, 0, []) := rfl
theorem i_X0_gatherOne_110 : tab t_X0_gatherOne 110 = some (.iconst 3, 1, 0, 3, 0, 0, 0, 0, 0, 0, []) := rfl
theorem i_X0_gatherOne_111 : tab t_X0_gatherOne 111 = some (.invokevirtual 67, 3, 2, 0, 0, 0, 60, 7, 0, 0, []) := rfl
theorem i_X0_gatherOne_114 : tab t_X0_gatherOne 114 = some (.invokevirtual 81, 3, 3, 0, 0, 0, 47, 5, 0, 0, []) := rfl
theorem i_X0_gatherOne_117 : tab t_X0_gatherOne 117 = some (.invokevirtual 74, 3, 3, 0, 0, 0, 6, 1, 0, 0, []) := rfl
theorem i_X0_gatherOne_120 : tab t_X0_gatherOne 120 = some (.aload_n 0, 1, 0, 0, 0, 0, 0, 0, 0, 0, []) := rfl
theorem i_X0_gatherOne_121 : tab t_X0_gatherOne 121 = some (.iload_n 2, 1, 2, 0, 0, 0, 0, 0, 0, 0, []) := rfl
theorem i_X0_gatherOne_122 : tab t_X0_gatherOne 122 = some (.bipush 8, 2, 0, 8, 0, 0, 0, 0, 0, 0, []) := rfl
theorem i_X0_gatherOne_124 : tab t_X0_gatherOne 124 = some (.iload 5, 2, 5, 0, 0, 0, 0, 0, 0, 0, []) := rfl
theorem i_X0_gatherOne_126 : tab t_X0_gatherOne 126 = some (.aload_n 1, 1, 1, 0, 0, 0, 0, 0, 0, 0, []) := rfl
theorem i_X0_gatherOne_127 : tab t_X0_gatherOne 127 = some (.getfield 78, 3, 2, 0, 0, 7, 0, 0, 0, 0, []) := rfl
theorem i_X0_gatherOne_130 : tab t_X0_gatherOne 130 = some (.iload_n 3, 1, 3, 0, 0, 0, 0, 0, 0, 0, []) := rfl
theorem i_X0_gatherOne_131 : tab t_X0_gatherOne 131 = some (.iconst 1, 1, 0, 1, 0, 0, 0, 0, 0, 0, []) := rfl
theorem i_X0_gatherOne_132 : tab t_X0_gatherOne 132 = some (.invokevirtual 67, 3, 2, 0, 0, 0, 60, 7, 0, 0, []) := rfl
theorem i_X0_gatherOne_135 : tab t_X0_gatherOne 135 = some (.if_icmp .ne 7, 3, 142, 0, 0, 0, 0, 0, 0, 0, []) := rfl
theorem i_X0_gatherOne_138 : tab t_X0_gatherOne 138 = some (.iconst 1, 1, 0, 1, 0, 0, 0, 0, 0, 0, []) := rfl
theorem i_X0_gatherOne_139 : tab t_X0_gatherOne 139 = some (.goto 4, 3, 143, 0, 0, 0, 0, 0, 0, 0, []) := rfl
theorem i_X0_gatherOne_142 : tab t_X0_gatherOne 142 = some (.iconst 0, 1, 0, 0, 0, 0, 0, 0, 0, 0, []) := rfl
theorem i_X0_gatherOne_143 : tab t_X0_gatherOne 143 = some (.invokevirtual 74, 3, 3, 0, 0, 0, 6, 1, 0, 0, []) := rfl
theorem i_X0_gatherOne_146 : tab t_X0_gatherOne 146 = some (.aload_n 0, 1, 0, 0, 0, 0, 0, 0, 0, 0, []) := rfl
theorem i_X0_gatherOne_147 : tab t_X0_gatherOne 147 = some (.iload_n 2, 1, 2, 0, 0, 0, 0, 0, 0, 0, []) := rfl
theorem i_X0_gatherOne_148 : tab t_X0_gatherOne 148 = some (.bipush 9, 2, 0, 9, 0, 0, 0, 0, 0, 0, []) := rfl
theorem i_X0_gatherOne_150 : tab t_X0_gatherOne 150 = some (.iconst 0, 1, 0, 0, 0, 0, 0, 0, 0, 0, []) := rfl
theorem i_X0_gatherOne_151 : tab t_X0_gatherOne 151 = some (.iload 6, 2, 6, 0, 0, 0, 0, 0, 0, 0, []) := rfl
theorem i_X0_gatherOne_153 : tab t_X0_gatherOne 153 = some (.invokestatic 85, 3, 0, 0, 0, 7, 0, 0, 0, 0, []) := rfl
theorem i_X0_gatherOne_156 : tab t_X0_gatherOne 156 = some (.invokevirtual 74, 3, 3, 0, 0, 0, 6, 1, 0, 0, []) := rfl
theorem i_X0_gatherOne_159 : tab t_X0_gatherOne 159 = some (.aload_n 0, 1, 0, 0, 0, 0, 0, 0, 0, 0, []) := rfl
theorem i_X0_gatherOne_160 : tab t_X0_gatherOne 160 = some (.dup, 1, 0, 0, 0, 0, 0, 0, 0, 0, []) := rfl
theorem i_X0_gatherOne_161 : tab t_X0_gatherOne 161 = some (.getfield 25, 3, 0, 0, 0, 0, 3, 0, 0, 0, []) := rfl
theorem i_X0_gatherOne_164 : tab t_X0_gatherOne 164 = some (.iload 6, 2, 6, 0, 0, 0, 0, 0, 0, 0, []) := rfl
theorem i_X0_gatherOne_166 : tab t_X0_gatherOne 166 = some (.iconst (-1), 1, 0, -1, 0, 0, 0, 0, 0, 0, []) := rfl
theorem i_X0_gatherOne_167 : tab t_X0_gatherOne 167 = some (.if_icmp .eq 9, 3, 176, 0, 0, 0, 0, 0, 0, 0, []) := rfl
theorem i_X0_gatherOne_170 : tab t_X0_gatherOne 170 = some (.iconst 1, 1, 0, 1, 0, 0, 0, 0, 0, 0, []) := rfl
theorem i_X0_gatherOne_171 : tab t_X0_gatherOne 171 = some (.iload_n 2, 1, 2, 0, 0, 0, 0, 0, 0, 0, []) := rfl
theorem i_X0_gatherOne_172 : tab t_X0_gatherOne 172 = some (.ishl, 1, 0, 0, 0, 0, 0, 0, 0, 0, []) := rfl
theorem i_X0_gatherOne_173 : tab t_X0_gatherOne 173 = some (.goto 4, 3, 177, 0, 0, 0, 0, 0, 0, 0, []) := rfl
theorem i_X0_gatherOne_176 : tab t_X0_gatherOne 176 = some (.iconst 0, 1, 0, 0, 0, 0, 0, 0, 0, 0, []) := rfl
theorem i_X0_gatherOne_177 : tab t_X0_gatherOne 177 = some (.ior, 1, 0, 0, 0, 0, 0, 0, 0, 0, []) := rfl
theorem i_X0_gatherOne_178 : tab t_X0_gatherOne 178 = some (.putfield 25, 3, 0, 0, 0, 0, 3, 0, 0, 0, []) := rfl
theorem i_X0_gatherOne_181 : tab t_X0_gatherOne 181 = some (.aload_n 0, 1, 0, 0, 0, 0, 0, 0, 0, 0, []) := rfl
theorem i_X0_gatherOne_182 : tab t_X0_gatherOne 182 = some (.dup, 1, 0, 0, 0, 0, 0, 0, 0, 0, []) := rfl
theorem i_X0_gatherOne_183 : tab t_X0_gatherOne 183 = some (.getfield 32, 3, 0, 0, 0, 0, 5, 0, 0, 0, []) := rfl
theorem i_X0_gatherOne_186 : tab t_X0_gatherOne 186 = some (.aload_n 1, 1, 1, 0, 0, 0, 0, 0, 0, 0, []) := rfl
theorem i_X0_gatherOne_187 : tab t_X0_gatherOne 187 = some (.iload_n 2, 1, 2, 0, 0, 0, 0, 0, 0, 0, []) := rfl
theorem i_X0_gatherOne_188 : tab t_X0_gatherOne 188 = some (.iload 4, 2, 4, 0, 0, 0, 0, 0, 0, 0, []) := rfl
theorem i_X0_gatherOne_190 : tab t_X0_gatherOne 190 = some (.invokevirtual 90, 3, 2, 0, 0, 0, 66, 8, 0, 0, []) := rfl
theorem i_X0_gatherOne_193 : tab t_X0_gatherOne 193 = some (.ifCond .eq 9, 3, 202, 0, 0, 0, 0, 0, 0, 0, []) := rfl
theorem i_X0_gatherOne_196 : tab t_X0_gatherOne 196 = some (.iconst 1, 1, 0, 1, 0, 0, 0, 0, 0, 0, []) := rfl
theorem i_X0_gatherOne_197 : tab t_X0_gatherOne 197 = some (.iload_n 2, 1, 2, 0, 0, 0, 0, 0, 0, 0, []) := rfl
theorem i_X0_gatherOne_198 : tab t_X0_gatherOne 198 = some (.ishl, 1, 0, 0, 0, 0, 0, 0, 0, 0, []) := rfl
theorem i_X0_gatherOne_199 : tab t_X0_gatherOne 199 = some (.goto 4, 3, 203, 0, 0, 0, 0, 0, 0, 0, []) := rfl
theorem i_X0_gatherOne_202 : tab t_X0_gatherOne 202 = some (.iconst 0, 1, 0, 0, 0, 0, 0, 0, 0, 0, []) := rfl
theorem i_X0_gatherOne_203 : tab t_X0_gatherOne 203 = some (.ior, 1, 0, 0, 0, 0, 0, 0, 0, 0, []) := rfl
theorem i_X0_gatherOne_204 : tab t_X0_gatherOne 204 = some (.putfield 32, 3, 0, 0, 0, 0, 5, 0, 0, 0, []) := rfl
theorem i_X0_gatherOne_207 : tab t_X0_gatherOne 207 = some (.return_, 1, 0, 0, 0, 0, 0, 0, 0, 0, []) := rfl
def t_X0_gatherList : List (Nat × rw_) := [(0, (.iconst 0, 1, 0, 0, 0, 0, 0, 0, 0, 0, [])), (1, (.istore_n 3, 1, 3, 0, 0, 0, 0, 0, 0, 0, [])), (2, (.iconst 0, 1, 0, 0, 0, 0, 0, 0, 0, 0, [])), (3, (.istore 4, 2, 4, 0, 0, 0, 0, 0, 0, 0, [])), (5, (.iload 4, 2, 4, 0, 0, 0, 0, 0, 0, 0, [])), (7, (.aload_n 1, 1, 1, 0, 0, 0, 0, 0, 0, 0, [])), (8, (.getfield 94, 3, 2, 0, 0, 7, 4, 0, 0, 0, [])), (11, (.getfield 51, 3, 0, 0, 0, 6, 3, 0, 0, 0, [])), (14, (.if_icmp .ge 43, 3, 57, 0, 0, 0, 0, 0, 0, 0, [])), (17, (.aload_n 1, 1, 1, 0, 0, 0, 0, 0, 0, 0, [])), (18, (.getfield 94, 3, 2, 0, 0, 7, 4, 0, 0, 0, [])), (21, (.iload 4, 2, 4, 0, 0, 0, 0, 0, 0, 0, [])), (23, (.iconst 0, 1, 0, 0, 0, 0, 0, 0, 0, 0, [])), (24, (.invokevirtual 67, 3, 2, 0, 0, 0, 60, 7, 0, 0, [])), (27, (.iload_n 2, 1, 2, 0, 0, 0, 0, 0, 0, 0, [])), (28, (.if_icmp .ne 23, 3, 51, 0, 0, 0, 0, 0, 0, 0, [])), (31, (.iinc 3 1, 3, 3, 1, 0, 0, 0, 0, 0, 0, [])), (34, (.aload_n 0, 1, 0, 0, 0, 0, 0, 0, 0, 0, [])), (35, (.aload_n 1, 1, 1, 0, 0, 0, 0, 0, 0, 0, [])), (36, (.getfield 94, 3, 2, 0, 0, 7, 4, 0, 0, 0, [])), (39, (.iload 4, 2, 4, 0, 0, 0, 0, 0, 0, 0, [])), (41, (.iconst 1, 1, 0, 1, 0, 0, 0, 0, 0, 0, [])), (42, (.invokevirtual 67, 3, 2, 0, 0, 0, 60, 7, 0, 0, [])), (45, (.bipush 7, 2, 0, 7, 0, 0, 0, 0, 0, 0, [])), (47, (.iload_n 3, 1, 3, 0, 0, 0, 0, 0, 0, 0, [])), (48, (.invokevirtual 74, 3, 3, 0, 0, 0, 6, 1, 0, 0, [])), (51, (.iinc 4 1, 3, 4, 1, 0, 0, 0, 0, 0, 0, [])), (54, (.goto (-49), 3, 5, 0, 0, 0, 0, 0, 0, 0, [])), (57, (.return_, 1, 0, 0, 0, 0, 0, 0, 0, 0, []))]
set_option maxRecDepth 100000 in
theorem ok_X0_gatherList : tb_ok ctX0 m_X0_gatherList t_X0_gatherList = true := by decide +kernel
theorem i_X0_gatherList_0 : tab t_X0_gatherList 0 = some (.iconst 0, 1, 0, 0, 0, 0, 0, 0, 0, 0, []) := rfl
theorem i_X0_gatherList_1 : tab t_X0_gatherList 1 = some (.istore_n 3, 1, 3, 0, 0, 0, 0, 0, 0, 0, []) := rfl
theorem i_X0_gatherList_2 : tab t_X0_gatherList 2 = some (.iconst 0, 1, 0, 0, 0, 0, 0, 0, 0, 0, []) := rfl
theorem i_X0_gatherList_3 : tab t_X0_gatherList 3 = some (.istore 4, 2, 4, 0, 0, 0, 0, 0, 0, 0, []) := rfl
theorem i_X0_gatherList_5 : tab t_X0_gatherList 5 = some (.iload 4, 2, 4, 0, 0, 0, 0, 0, 0, 0, []) := rfl
theorem i_X0_gatherList_7 : tab t_X0_gatherList 7 = some (.aload_n 1, 1, 1, 0, 0, 0, 0, 0, 0, 0, []) := rfl
theorem i_X0_gatherList_8 : tab t_X0_gatherList 8 = some (.getfield 94, 3, 2, 0, 0, 7, 4, 0, 0, 0, []) := rfl
theorem i_X0_gatherList_11 : tab t_X0_gatherList 11 = some (.getfield 51, 3, 0, 0, 0, 6, 3, 0, 0, 0, []) := rfl
theorem i_X0_gatherList_14 : tab t_X0_gatherList 14 = some (.if_icmp .ge 43, 3, 57, 0, 0, 0, 0, 0, 0, 0, []) := rfl
theorem i_X0_gatherList_17 : tab t_X0_gatherList 17 = some (.aload_n 1, 1, 1, 0, 0, 0, 0, 0, 0, 0, []) := rfl
theorem i_X0_gatherList_18 : tab t_X0_gatherList 18 = some (.getfield 94, 3, 2, 0, 0, 7, 4, 0, 0, 0, []) := rfl
theorem i_X0_gatherList_21 : tab t_X0_gatherList 21 = some (.iload 4, 2, 4, 0, 0, 0, 0, 0, 0, 0, []) := rfl
theorem i_X0_gatherList_23 : tab t_X0_gatherList 23 = some (.iconst 0, 1, 0, 0, 0, 0, 0, 0, 0, 0, []) := rfl
theorem i_X0_gatherList_24 : tab t_X0_gatherList 24 = some (.invokevirtual 67, 3, 2, 0, 0, 0, 60, 7, 0, 0, []) := rfl
theorem i_X0_gatherList_27 : tab t_X0_gatherList 27 = some (.iload_n 2, 1, 2, 0, 0, 0, 0, 0, 0, 0, []) := rfl
theorem i_X0_gatherList_28 : tab t_X0_gatherList 28 = some (.if_icmp .ne 23, 3, 51, 0, 0, 0, 0, 0, 0, 0, []) := rfl
theorem i_X0_gatherList_31 : tab t_X0_gatherList 31 = some (.iinc 3 1, 3, 3, 1, 0, 0, 0, 0, 0, 0, []) := rfl
theorem i_X0_gatherList_34 : tab t_X0_gatherList 34 = some (.aload_n 0, 1, 0, 0, 0, 0, 0, 0, 0, 0, []) := rfl
theorem i_X0_gatherList_35 : tab t_X0_gatherList 35 = some (.aload_n 1, 1, 1, 0, 0, 0, 0, 0, 0, 0, []) := rfl
theorem i_X0_gatherList_36 : tab t_X0_gatherList 36 = some (.getfield 94, 3, 2, 0, 0, 7, 4, 0, 0, 0, []) := rfl
theorem i_X0_gatherList_39 : tab t_X0_gatherList 39 = some (.iload 4, 2, 4, 0, 0, 0, 0, 0, 0, 0, []) := rfl
theorem i_X0_gatherList_41 : tab t_X0_gatherList 41 = some (.iconst 1, 1, 0, 1, 0, 0, 0, 0, 0, 0, []) := rfl
theorem i_X0_gatherList_42 : tab t_X0_gatherList 42 = some (.invokevirtual 67, 3, 2, 0, 0, 0, 60, 7, 0, 0, []) := rfl
theorem i_X0_gatherList_45 : tab t_X0_gatherList 45 = some (.bipush 7, 2, 0, 7, 0, 0, 0, 0, 0, 0, []) := rfl
theorem i_X0_gatherList_47 : tab t_X0_gatherList 47 = some (.iload_n 3, 1, 3, 0, 0, 0, 0, 0, 0, 0, []) := rfl
theorem i_X0_gatherList_48 : tab t_X0_gatherList 48 = some (.invokevirtual 74, 3, 3, 0, 0, 0, 6, 1, 0, 0, []) := rfl
theorem i_X0_gatherList_51 : tab t_X0_gatherList 51 = some (.iinc 4 1, 3, 4, 1, 0, 0, 0, 0, 0, 0, []) := rfl
theorem i_X0_gatherList_54 : tab t_X0_gatherList 54 = some (.goto (-49), 3, 5, 0, 0, 0, 0, 0, 0, 0, []) := rfl
theorem i_X0_gatherList_57 : tab t_X0_gatherList 57 = some (.return_, 1, 0, 0, 0, 0, 0, 0, 0, 0, []) := rfl
def t_X0_gatherPapers : List (Nat × rw_) := [(0, (.aload_n 0, 1, 0, 0, 0, 0, 0, 0, 0, 0, [])), (1, (.iconst 0, 1, 0, 0, 0, 0, 0, 0, 0, 0, [])), (2, (.putfield 29, 3, 0, 0, 0, 0, 4, 0, 0, 0, [])), (5, (.iconst 0, 1, 0, 0, 0, 0, 0, 0, 0, 0, [])), (6, (.istore 4, 2, 4, 0, 0, 0, 0, 0, 0, 0, [])), (8, (.iload 4, 2, 4, 0, 0, 0, 0, 0, 0, 0, [])), (10, (.aload_n 1, 1, 1, 0, 0, 0, 0, 0, 0, 0, [])), (11, (.getfield 97, 3, 2, 0, 0, 7, 3, 0, 0, 0, [])), (14, (.getfield 51, 3, 0, 0, 0, 6, 3, 0, 0, 0, [])), (17, (.if_icmp .ge 54, 3, 71, 0, 0, 0, 0, 0, 0, 0, [])), (20, (.aload_n 1, 1, 1, 0, 0, 0, 0, 0, 0, 0, [])), (21, (.iload 4, 2, 4, 0, 0, 0, 0, 0, 0, 0, [])), (23, (.iload_n 2, 1, 2, 0, 0, 0, 0, 0, 0, 0, [])), (24, (.iload_n 3, 1, 3, 0, 0, 0, 0, 0, 0, 0, [])), (25, (.invokevirtual 100, 3, 3, 0, 0, 0, 68, 8, 0, 0, [])), (28, (.ifCond .eq 37, 3, 65, 0, 0, 0, 0, 0, 0, 0, [])), (31, (.aload_n 1, 1, 1, 0, 0, 0, 0, 0, 0, 0, [])), (32, (.getfield 97, 3, 2, 0, 0, 7, 3, 0, 0, 0, [])), (35, (.iload 4, 2, 4, 0, 0, 0, 0, 0, 0, 0, [])), (37, (.iconst 0, 1, 0, 0, 0, 0, 0, 0, 0, 0, [])), (38, (.invokevirtual 67, 3, 2, 0, 0, 0, 60, 7, 0, 0, [])), (41, (.istore 5, 2, 5, 0, 0, 0, 0, 0, 0, 0, [])), (43, (.aload_n 0, 1, 0, 0, 0, 0, 0, 0, 0, 0, [])), (44, (.iload 5, 2, 5, 0, 0, 0, 0, 0, 0, 0, [])), (46, (.bipush 6, 2, 0, 6, 0, 0, 0, 0, 0, 0, [])), (48, (.iconst 1, 1, 0, 1, 0, 0, 0, 0, 0, 0, [])), (49, (.invokevirtual 74, 3, 3, 0, 0, 0, 6, 1, 0, 0, [])), (52, (.aload_n 0, 1, 0, 0, 0, 0, 0, 0, 0, 0, [])), (53, (.dup, 1, 0, 0, 0, 0, 0, 0, 0, 0, [])), (54, (.getfield 29, 3, 0, 0, 0, 0, 4, 0, 0, 0, [])), (57, (.iconst 1, 1, 0, 1, 0, 0, 0, 0, 0, 0, [])), (58, (.iload 5, 2, 5, 0, 0, 0, 0, 0, 0, 0, [])), (60, (.ishl, 1, 0, 0, 0, 0, 0, 0, 0, 0, [])), (61, (.ior, 1, 0, 0, 0, 0, 0, 0, 0, 0, [])), (62, (.putfield 29, 3, 0, 0, 0, 0, 4, 0, 0, 0, [])), (65, (.iinc 4 1, 3, 4, 1, 0, 0, 0, 0, 0, 0, [])), (68, (.goto (-60), 3, 8, 0, 0, 0, 0, 0, 0, 0, [])), (71, (.return_, 1, 0, 0, 0, 0, 0, 0, 0, 0, []))]
set_option maxRecDepth 100000 in
theorem ok_X0_gatherPapers : tb_ok ctX0 m_X0_gatherPapers t_X0_gatherPapers = true := by decide +kernel
theorem i_X0_gatherPapers_0 : tab t_X0_gatherPapers 0 = some (.aload_n 0, 1, 0, 0, 0, 0, 0, 0, 0, 0, []) := rfl
theorem i_X0_gatherPapers_1 : tab t_X0_gatherPapers 1 = some (.iconst 0, 1, 0, 0, 0, 0, 0, 0, 0, 0, []) := rfl
theorem i_X0_gatherPapers_2 : tab t_X0_gatherPapers 2 = some (.putfield 29, 3, 0, 0, 0, 0, 4, 0, 0, 0, []) := rfl
theorem i_X0_gatherPapers_5 : tab t_X0_gatherPapers 5 = some (.iconst 0, 1, 0, 0, 0, 0, 0, 0, 0, 0, []) := rfl
theorem i_X0_gatherPapers_6 : tab t_X0_gatherPapers 6 = some (.istore 4, 2, 4, 0, 0, 0, 0, 0, 0, 0, []) := rfl
theorem i_X0_gatherPapers_8 : tab t_X0_gatherPapers 8 = some (.iload 4, 2, 4, 0, 0, 0, 0, 0, 0, 0, []) := rfl
theorem i_X0_gatherPapers_10 : tab t_X0_gatherPapers 10 = some (.aload_n 1, 1, 1, 0, 0, 0, 0, 0, 0, 0, []) := rfl
theorem i_X0_gatherPapers_11 : tab t_X0_gatherPapers 11 = some (.getfield 97, 3, 2, 0, 0, 7, 3, 0, 0, 0, []) := rfl
theorem i_X0_gatherPapers_14 : tab t_X0_gatherPapers 14 = some (.getfield 51, 3, 0, 0, 0, 6, 3, 0, 0, 0, []) := rfl
theorem i_X0_gatherPapers_17 : tab t_X0_gatherPapers 17 = some (.if_icmp .ge 54, 3, 71, 0, 0, 0, 0, 0, 0, 0, []) := rfl
theorem i_X0_gatherPapers_20 : tab t_X0_gatherPapers 20 = some (.aload_n 1, 1, 1, 0, 0, 0, 0, 0, 0, 0, []) := rfl
theorem i_X0_gatherPapers_21 : tab t_X0_gatherPapers 21 = some (.iload 4, 2, 4, 0, 0, 0, 0, 0, 0, 0, []) := rfl
theorem i_X0_gatherPapers_23 : tab t_X0_gatherPapers 23 = some (.iload_n 2, 1, 2, 0, 0, 0, 0, 0, 0, 0, []) := rfl
theorem i_X0_gatherPapers_24 : tab t_X0_gatherPapers 24 = some (.iload_n 3, 1, 3, 0, 0, 0, 0, 0, 0, 0, []) := rfl
theorem i_X0_gatherPapers_25 : tab t_X0_gatherPapers 25 = some (.invokevirtual 100, 3, 3, 0, 0, 0, 68, 8, 0, 0, []) := rfl
theorem i_X0_gatherPapers_28 : tab t_X0_gatherPapers 28 = some (.ifCond .eq 37, 3, 65, 0, 0, 0, 0, 0, 0, 0, []) := rfl
theorem i_X0_gatherPapers_31 : tab t_X0_gatherPapers 31 = some (.aload_n 1, 1, 1, 0, 0, 0, 0, 0, 0, 0, []) := rfl
theorem i_X0_gatherPapers_32 : tab t_X0_gatherPapers 32 = some (.getfield 97, 3, 2, 0, 0, 7, 3, 0, 0, 0, []) := rfl
theorem i_X0_gatherPapers_35 : tab t_X0_gatherPapers 35 = some (.iload 4, 2, 4, 0, 0, 0, 0, 0, 0, 0, []) := rfl
theorem i_X0_gatherPapers_37 : tab t_X0_gatherPapers 37 = some (.iconst 0, 1, 0, 0, 0, 0, 0, 0, 0, 0, []) := rfl
theorem i_X0_gatherPapers_38 : tab t_X0_gatherPapers 38 = some (.invokevirtual 67, 3, 2, 0, 0, 0, 60, 7, 0, 0, []) := rfl
theorem i_X0_gatherPapers_41 : tab t_X0_gatherPapers 41 = some (.istore 5, 2, 5, 0, 0, 0, 0, 0, 0, 0, []) := rfl
theorem i_X0_gatherPapers_43 : tab t_X0_gatherPapers 43 = some (.aload_n 0, 1, 0, 0, 0, 0, 0, 0, 0, 0, []) := rfl
theorem i_X0_gatherPapers_44 : tab t_X0_gatherPapers 44 = some (.iload 5, 2, 5, 0, 0, 0, 0, 0, 0, 0, []) := rfl
theorem i_X0_gatherPapers_46 : tab t_X0_gatherPapers 46 = some (.bipush 6, 2, 0, 6, 0, 0, 0, 0, 0, 0, []) := rfl
theorem i_X0_gatherPapers_48 : tab t_X0_gatherPapers 48 = some (.iconst 1, 1, 0, 1, 0, 0, 0, 0, 0, 0, []) := rfl
theorem i_X0_gatherPapers_49 : tab t_X0_gatherPapers 49 = some (.invokevirtual 74, 3, 3, 0, 0, 0, 6, 1, 0, 0, []) := rfl
theorem i_X0_gatherPapers_52 : tab t_X0_gatherPapers 52 = some (.aload_n 0, 1, 0, 0, 0, 0, 0, 0, 0, 0, []) := rfl
theorem i_X0_gatherPapers_53 : tab t_X0_gatherPapers 53 = some (.dup, 1, 0, 0, 0, 0, 0, 0, 0, 0, []) := rfl
theorem i_X0_gatherPapers_54 : tab t_X0_gatherPapers 54 = some (.getfield 29, 3, 0, 0, 0, 0, 4, 0, 0, 0, []) := rfl
theorem i_X0_gatherPapers_57 : tab t_X0_gatherPapers 57 = some (.iconst 1, 1, 0, 1, 0, 0, 0, 0, 0, 0, []) := rfl
theorem i_X0_gatherPapers_58 : tab t_X0_gatherPapers 58 = some (.iload 5, 2, 5, 0, 0, 0, 0, 0, 0, 0, []) := rfl
theorem i_X0_gatherPapers_60 : tab t_X0_gatherPapers 60 = some (.ishl, 1, 0, 0, 0, 0, 0, 0, 0, 0, []) := rfl
theorem i_X0_gatherPapers_61 : tab t_X0_gatherPapers 61 = some (.ior, 1, 0, 0, 0, 0, 0, 0, 0, 0, []) := rfl
theorem i_X0_gatherPapers_62 : tab t_X0_gatherPapers 62 = some (.putfield 29, 3, 0, 0, 0, 0, 4, 0, 0, 0, []) := rfl
theorem i_X0_gatherPapers_65 : tab t_X0_gatherPapers 65 = some (.iinc 4 1, 3, 4, 1, 0, 0, 0, 0, 0, 0, []) := rfl
theorem i_X0_gatherPapers_68 : tab t_X0_gatherPapers 68 = some (.goto (-60), 3, 8, 0, 0, 0, 0, 0, 0, 0, []) := rfl
theorem i_X0_gatherPapers_71 : tab t_X0_gatherPapers 71 = some (.return_, 1, 0, 0, 0, 0, 0, 0, 0, 0, []) := rfl
def t_X0_get : List (Nat × rw_) := [(0, (.iload_n 1, 1, 1, 0, 0, 0, 0, 0, 0, 0, [])), (1, (.ifCond .lt 19, 3, 20, 0, 0, 0, 0, 0, 0, 0, [])), (4, (.iload_n 1, 1, 1, 0, 0, 0, 0, 0, 0, 0, [])), (5, (.bipush 24, 2, 0, 24, 0, 0, 0, 0, 0, 0, [])), (7, (.if_icmp .ge 13, 3, 20, 0, 0, 0, 0, 0, 0, 0, [])), (10, (.iload_n 2, 1, 2, 0, 0, 0, 0, 0, 0, 0, [])), (11, (.ifCond .lt 9, 3, 20, 0, 0, 0, 0, 0, 0, 0, [])), (14, (.iload_n 2, 1, 2, 0, 0, 0, 0, 0, 0, 0, [])), (15, (.bipush 13, 2, 0, 13, 0, 0, 0, 0, 0, 0, [])), (17, (.if_icmp .lt 5, 3, 22, 0, 0, 0, 0, 0, 0, 0, [])), (20, (.iconst 0, 1, 0, 0, 0, 0, 0, 0, 0, 0, [])), (21, (.ireturn, 1, 0, 0, 0, 0, 0, 0, 0, 0, [])), (22, (.aload_n 0, 1, 0, 0, 0, 0, 0, 0, 0, 0, [])), (23, (.getfield 18, 3, 2, 0, 0, 0, 1, 0, 0, 0, [])), (26, (.iload_n 1, 1, 1, 0, 0, 0, 0, 0, 0, 0, [])), (27, (.bipush 13, 2, 0, 13, 0, 0, 0, 0, 0, 0, [])), (29, (.imul, 1, 0, 0, 0, 0, 0, 0, 0, 0, [])), (30, (.iload_n 2, 1, 2, 0, 0, 0, 0, 0, 0, 0, [])), (31, (.iadd, 1, 0, 0, 0, 0, 0, 0, 0, 0, [])), (32, (.iaload, 1, 0, 0, 0, 0, 0, 0, 0, 0, [])), (33, (.ireturn, 1, 0, 0, 0, 0, 0, 0, 0, 0, []))]
set_option maxRecDepth 100000 in
theorem ok_X0_get : tb_ok ctX0 m_X0_get t_X0_get = true := by decide +kernel
theorem i_X0_get_0 : tab t_X0_get 0 = some (.iload_n 1, 1, 1, 0, 0, 0, 0, 0, 0, 0, []) := rfl
theorem i_X0_get_1 : tab t_X0_get 1 = some (.ifCond .lt 19, 3, 20, 0, 0, 0, 0, 0, 0, 0, []) := rfl
theorem i_X0_get_4 : tab t_X0_get 4 = some (.iload_n 1, 1, 1, 0, 0, 0, 0, 0, 0, 0, []) := rfl
theorem i_X0_get_5 : tab t_X0_get 5 = some (.bipush 24, 2, 0, 24, 0, 0, 0, 0, 0, 0, []) := rfl
theorem i_X0_get_7 : tab t_X0_get 7 = some (.if_icmp .ge 13, 3, 20, 0, 0, 0, 0, 0, 0, 0, []) := rfl
theorem i_X0_get_10 : tab t_X0_get 10 = some (.iload_n 2, 1, 2, 0, 0, 0, 0, 0, 0, 0, []) := rfl
theorem i_X0_get_11 : tab t_X0_get 11 = some (.ifCond .lt 9, 3, 20, 0, 0, 0, 0, 0, 0, 0, []) := rfl
theorem i_X0_get_14 : tab t_X0_get 14 = some (.iload_n 2, 1, 2, 0, 0, 0, 0, 0, 0, 0, []) := rfl
theorem i_X0_get_15 : tab t_X0_get 15 = some (.bipush 13, 2, 0, 13, 0, 0, 0, 0, 0, 0, []) := rfl
theorem i_X0_get_17 : tab t_X0_get 17 = some (.if_icmp .lt 5, 3, 22, 0, 0, 0, 0, 0, 0, 0, []) := rfl
theorem i_X0_get_20 : tab t_X0_get 20 = some (.iconst 0, 1, 0, 0, 0, 0, 0, 0, 0, 0, []) := rfl
theorem i_X0_get_21 : tab t_X0_get 21 = some (.ireturn, 1, 0, 0, 0, 0, 0, 0, 0, 0, []) := rfl
theorem i_X0_get_22 : tab t_X0_get 22 = some (.aload_n 0, 1, 0, 0, 0, 0, 0, 0, 0, 0, []) := rfl
theorem i_X0_get_23 : tab t_X0_get 23 = some (.getfield 18, 3, 2, 0, 0, 0, 1, 0, 0, 0, []) := rfl
theorem i_X0_get_26 : tab t_X0_get 26 = some (.iload_n 1, 1, 1, 0, 0, 0, 0, 0, 0, 0, []) := rfl
theorem i_X0_get_27 : tab t_X0_get 27 = some (.bipush 13, 2, 0, 13, 0, 0, 0, 0, 0, 0, []) := rfl
theorem i_X0_get_29 : tab t_X0_get 29 = some (.imul, 1, 0, 0, 0, 0, 0, 0, 0, 0, []) := rfl
theorem i_X0_get_30 : tab t_X0_get 30 = some (.iload_n 2, 1, 2, 0, 0, 0, 0, 0, 0, 0, []) := rfl
theorem i_X0_get_31 : tab t_X0_get 31 = some (.iadd, 1, 0, 0, 0, 0, 0, 0, 0, 0, []) := rfl
theorem i_X0_get_32 : tab t_X0_get 32 = some (.iaload, 1, 0, 0, 0, 0, 0, 0, 0, 0, []) := rfl
theorem i_X0_get_33 : tab t_X0_get 33 = some (.ireturn, 1, 0, 0, 0, 0, 0, 0, 0, 0, []) := rfl
def t_X0_set : List (Nat × rw_) := [(0, (.iload_n 1, 1, 1, 0, 0, 0, 0, 0, 0, 0, [])), (1, (.ifCond .lt 31, 3, 32, 0, 0, 0, 0, 0, 0, 0, [])), (4, (.iload_n 1, 1, 1, 0, 0, 0, 0, 0, 0, 0, [])), (5, (.bipush 24, 2, 0, 24, 0, 0, 0, 0, 0, 0, [])), (7, (.if_icmp .ge 25, 3, 32, 0, 0, 0, 0, 0, 0, 0, [])), (10, (.iload_n 2, 1, 2, 0, 0, 0, 0, 0, 0, 0, [])), (11, (.ifCond .lt 21, 3, 32, 0, 0, 0, 0, 0, 0, 0, [])), (14, (.iload_n 2, 1, 2, 0, 0, 0, 0, 0, 0, 0, [])), (15, (.bipush 13, 2, 0, 13, 0, 0, 0, 0, 0, 0, [])), (17, (.if_icmp .ge 15, 3, 32, 0, 0, 0, 0, 0, 0, 0, [])), (20, (.aload_n 0, 1, 0, 0, 0, 0, 0, 0, 0, 0, [])), (21, (.getfield 18, 3, 2, 0, 0, 0, 1, 0, 0, 0, [])), (24, (.iload_n 1, 1, 1, 0, 0, 0, 0, 0, 0, 0, [])), (25, (.bipush 13, 2, 0, 13, 0, 0, 0, 0, 0, 0, [])), (27, (.imul, 1, 0, 0, 0, 0, 0, 0, 0, 0, [])), (28, (.iload_n 2, 1, 2, 0, 0, 0, 0, 0, 0, 0, [])), (29, (.iadd, 1, 0, 0, 0, 0, 0, 0, 0, 0, [])), (30, (.iload_n 3, 1, 3, 0, 0, 0, 0, 0, 0, 0, [])), (31, (.iastore, 1, 0, 0, 0, 0, 0, 0, 0, 0, [])), (32, (.return_, 1, 0, 0, 0, 0, 0, 0, 0, 0, []))]
set_option maxRecDepth 100000 in
theorem ok_X0_set : tb_ok ctX0 m_X0_set t_X0_set = true := by decide +kernel
theorem i_X0_set_0 : tab t_X0_set 0 = some (.iload_n 1, 1, 1, 0, 0, 0, 0, 0, 0, 0, []) := rfl
theorem i_X0_set_1 : tab t_X0_set 1 = some (.ifCond .lt 31, 3, 32, 0, 0, 0, 0, 0, 0, 0, []) := rfl
theorem i_X0_set_4 : tab t_X0_set 4 = some (.iload_n 1, 1, 1, 0, 0, 0, 0, 0, 0, 0, []) := rfl
theorem i_X0_set_5 : tab t_X0_set 5 = some (.bipush 24, 2, 0, 24, 0, 0, 0, 0, 0, 0, []) := rfl
theorem i_X0_set_7 : tab t_X0_set 7 = some (.if_icmp .ge 25, 3, 32, 0, 0, 0, 0, 0, 0, 0, []) := rfl
theorem i_X0_set_10 : tab t_X0_set 10 = some (.iload_n 2, 1, 2, 0, 0, 0, 0, 0, 0, 0, []) := rfl
theorem i_X0_set_11 : tab t_X0_set 11 = some (.ifCond .lt 21, 3, 32, 0, 0, 0, 0, 0, 0, 0, []) := rfl
theorem i_X0_set_14 : tab t_X0_set 14 = some (.iload_n 2, 1, 2, 0, 0, 0, 0, 0, 0, 0, []) := rfl
theorem i_X0_set_15 : tab t_X0_set 15 = some (.bipush 13, 2, 0, 13, 0, 0, 0, 0, 0, 0, []) := rfl
theorem i_X0_set_17 : tab t_X0_set 17 = some (.if_icmp .ge 15, 3, 32, 0, 0, 0, 0, 0, 0, 0, []) := rfl
theorem i_X0_set_20 : tab t_X0_set 20 = some (.aload_n 0, 1, 0, 0, 0, 0, 0, 0, 0, 0, []) := rfl
theorem i_X0_set_21 : tab t_X0_set 21 = some (.getfield 18, 3, 2, 0, 0, 0, 1, 0, 0, 0, []) := rfl
theorem i_X0_set_24 : tab t_X0_set 24 = some (.iload_n 1, 1, 1, 0, 0, 0, 0, 0, 0, 0, []) := rfl
theorem i_X0_set_25 : tab t_X0_set 25 = some (.bipush 13, 2, 0, 13, 0, 0, 0, 0, 0, 0, []) := rfl
theorem i_X0_set_27 : tab t_X0_set 27 = some (.imul, 1, 0, 0, 0, 0, 0, 0, 0, 0, []) := rfl
theorem i_X0_set_28 : tab t_X0_set 28 = some (.iload_n 2, 1, 2, 0, 0, 0, 0, 0, 0, 0, []) := rfl
theorem i_X0_set_29 : tab t_X0_set 29 = some (.iadd, 1, 0, 0, 0, 0, 0, 0, 0, 0, []) := rfl
theorem i_X0_set_30 : tab t_X0_set 30 = some (.iload_n 3, 1, 3, 0, 0, 0, 0, 0, 0, 0, []) := rfl
theorem i_X0_set_31 : tab t_X0_set 31 = some (.iastore, 1, 0, 0, 0, 0, 0, 0, 0, 0, []) := rfl
theorem i_X0_set_32 : tab t_X0_set 32 = some (.return_, 1, 0, 0, 0, 0, 0, 0, 0, 0, []) := rfl
def t_X0_trueForm : List (Nat × rw_) := [(0, (.iconst 2, 1, 0, 2, 0, 0, 0, 0, 0, 0, [])), (1, (.iload_n 1, 1, 1, 0, 0, 0, 0, 0, 0, 0, [])), (2, (.imul, 1, 0, 0, 0, 0, 0, 0, 0, 0, [])), (3, (.aload_n 0, 1, 0, 0, 0, 0, 0, 0, 0, 0, [])), (4, (.getfield 29, 3, 0, 0, 0, 0, 4, 0, 0, 0, [])), (7, (.iload_n 1, 1, 1, 0, 0, 0, 0, 0, 0, 0, [])), (8, (.invokestatic 104, 3, 2, 0, 0, 0, 112, 0, 0, 0, [])), (11, (.ifCond .eq 7, 3, 18, 0, 0, 0, 0, 0, 0, 0, [])), (14, (.iconst 1, 1, 0, 1, 0, 0, 0, 0, 0, 0, [])), (15, (.goto 4, 3, 19, 0, 0, 0, 0, 0, 0, 0, [])), (18, (.iconst 0, 1, 0, 0, 0, 0, 0, 0, 0, 0, [])), (19, (.iadd, 1, 0, 0, 0, 0, 0, 0, 0, 0, [])), (20, (.ireturn, 1, 0, 0, 0, 0, 0, 0, 0, 0, []))]
set_option maxRecDepth 100000 in
theorem ok_X0_trueForm : tb_ok ctX0 m_X0_trueForm t_X0_trueForm = true := by decide +kernel
theorem i_X0_trueForm_0 : tab t_X0_trueForm 0 = some (.iconst 2, 1, 0, 2, 0, 0, 0, 0, 0, 0, []) := rfl
theorem i_X0_trueForm_1 : tab t_X0_trueForm 1 = some (.iload_n 1, 1, 1, 0, 0, 0, 0, 0, 0, 0, []) := rfl
theorem i_X0_trueForm_2 : tab t_X0_trueForm 2 = some (.imul, 1, 0, 0, 0, 0, 0, 0, 0, 0, []) := rfl
theorem i_X0_trueForm_3 : tab t_X0_trueForm 3 = some (.aload_n 0, 1, 0, 0, 0, 0, 0, 0, 0, 0, []) := rfl
theorem i_X0_trueForm_4 : tab t_X0_trueForm 4 = some (.getfield 29, 3, 0, 0, 0, 0, 4, 0, 0, 0, []) := rfl
theorem i_X0_trueForm_7 : tab t_X0_trueForm 7 = some (.iload_n 1, 1, 1, 0, 0, 0, 0, 0, 0, 0, []) := rfl
theorem i_X0_trueForm_8 : tab t_X0_trueForm 8 = some (.invokestatic 104, 3, 2, 0, 0, 0, 112, 0, 0, 0, []) := rfl
theorem i_X0_trueForm_11 : tab t_X0_trueForm 11 = some (.ifCond .eq 7, 3, 18, 0, 0, 0, 0, 0, 0, 0, []) := rfl
theorem i_X0_trueForm_14 : tab t_X0_trueForm 14 = some (.iconst 1, 1, 0, 1, 0, 0, 0, 0, 0, 0, []) := rfl
theorem i_X0_trueForm_15 : tab t_X0_trueForm 15 = some (.goto 4, 3, 19, 0, 0, 0, 0, 0, 0, 0, []) := rfl
theorem i_X0_trueForm_18 : tab t_X0_trueForm 18 = some (.iconst 0, 1, 0, 0, 0, 0, 0, 0, 0, 0, []) := rfl
theorem i_X0_trueForm_19 : tab t_X0_trueForm 19 = some (.iadd, 1, 0, 0, 0, 0, 0, 0, 0, 0, []) := rfl
theorem i_X0_trueForm_20 : tab t_X0_trueForm 20 = some (.ireturn, 1, 0, 0, 0, 0, 0, 0, 0, 0, []) := rfl
def t_X0_anyHolds : List (Nat × rw_) := [(0, (.iconst 0, 1, 0, 0, 0, 0, 0, 0, 0, 0, [])), (1, (.istore 4, 2, 4, 0, 0, 0, 0, 0, 0, 0, [])), (3, (.iload 4, 2, 4, 0, 0, 0, 0, 0, 0, 0, [])), (5, (.aload_n 1, 1, 1, 0, 0, 0, 0, 0, 0, 0, [])), (6, (.getfield 107, 3, 2, 0, 0, 2, 0, 0, 0, 0, [])), (9, (.arraylength, 1, 0, 0, 0, 0, 0, 0, 0, 0, [])), (10, (.if_icmp .ge 33, 3, 43, 0, 0, 0, 0, 0, 0, 0, [])), (13, (.aload_n 1, 1, 1, 0, 0, 0, 0, 0, 0, 0, [])), (14, (.getfield 107, 3, 2, 0, 0, 2, 0, 0, 0, 0, [])), (17, (.iload 4, 2, 4, 0, 0, 0, 0, 0, 0, 0, [])), (19, (.iaload, 1, 0, 0, 0, 0, 0, 0, 0, 0, [])), (20, (.iload_n 2, 1, 2, 0, 0, 0, 0, 0, 0, 0, [])), (21, (.if_icmp .ne 16, 3, 37, 0, 0, 0, 0, 0, 0, 0, [])), (24, (.aload_n 0, 1, 0, 0, 0, 0, 0, 0, 0, 0, [])), (25, (.aload_n 1, 1, 1, 0, 0, 0, 0, 0, 0, 0, [])), (26, (.iload 4, 2, 4, 0, 0, 0, 0, 0, 0, 0, [])), (28, (.iload_n 3, 1, 3, 0, 0, 0, 0, 0, 0, 0, [])), (29, (.invokevirtual 112, 3, 3, 0, 0, 0, 9, 1, 0, 0, [])), (32, (.ifCond .eq 5, 3, 37, 0, 0, 0, 0, 0, 0, 0, [])), (35, (.iconst 1, 1, 0, 1, 0, 0, 0, 0, 0, 0, [])), (36, (.ireturn, 1, 0, 0, 0, 1, 0, 0, 0, 0, [])), (37, (.iinc 4 1, 3, 4, 1, 0, 0, 0, 0, 0, 0, [])), (40, (.goto (-37), 3, 3, 0, 0, 0, 0, 0, 0, 0, [])), (43, (.iconst 0, 1, 0, 0, 0, 0, 0, 0, 0, 0, [])), (44, (.ireturn, 1, 0, 0, 0, 1, 0, 0, 0, 0, []))]
set_option maxRecDepth 100000 in
theorem ok_X0_anyHolds : tb_ok ctX0 m_X0_anyHolds t_X0_anyHolds = true := by decide +kernel
theorem i_X0_anyHolds_0 : tab t_X0_anyHolds 0 = some (.iconst 0, 1, 0, 0, 0, 0, 0, 0, 0, 0, []) := rfl
theorem i_X0_anyHolds_1 : tab t_X0_anyHolds 1 = some (.istore 4, 2, 4, 0, 0, 0, 0, 0, 0, 0, []) := rfl
theorem i_X0_anyHolds_3 : tab t_X0_anyHolds 3 = some (.iload 4, 2, 4, 0, 0, 0, 0, 0, 0, 0, []) := rfl
theorem i_X0_anyHolds_5 : tab t_X0_anyHolds 5 = some (.aload_n 1, 1, 1, 0, 0, 0, 0, 0, 0, 0, []) := rfl
theorem i_X0_anyHolds_6 : tab t_X0_anyHolds 6 = some (.getfield 107, 3, 2, 0, 0, 2, 0, 0, 0, 0, []) := rfl
theorem i_X0_anyHolds_9 : tab t_X0_anyHolds 9 = some (.arraylength, 1, 0, 0, 0, 0, 0, 0, 0, 0, []) := rfl
theorem i_X0_anyHolds_10 : tab t_X0_anyHolds 10 = some (.if_icmp .ge 33, 3, 43, 0, 0, 0, 0, 0, 0, 0, []) := rfl
theorem i_X0_anyHolds_13 : tab t_X0_anyHolds 13 = some (.aload_n 1, 1, 1, 0, 0, 0, 0, 0, 0, 0, []) := rfl
theorem i_X0_anyHolds_14 : tab t_X0_anyHolds 14 = some (.getfield 107, 3, 2, 0, 0, 2, 0, 0, 0, 0, []) := rfl
theorem i_X0_anyHolds_17 : tab t_X0_anyHolds 17 = some (.iload 4, 2, 4, 0, 0, 0, 0, 0, 0, 0, []) := rfl
theorem i_X0_anyHolds_19 : tab t_X0_anyHolds 19 = some (.iaload, 1, 0, 0, 0, 0, 0, 0, 0, 0, []) := rfl
theorem i_X0_anyHolds_20 : tab t_X0_anyHolds 20 = some (.iload_n 2, 1, 2, 0, 0, 0, 0, 0, 0, 0, []) := rfl
theorem i_X0_anyHolds_21 : tab t_X0_anyHolds 21 = some (.if_icmp .ne 16, 3, 37, 0, 0, 0, 0, 0, 0, 0, []) := rfl
theorem i_X0_anyHolds_24 : tab t_X0_anyHolds 24 = some (.aload_n 0, 1, 0, 0, 0, 0, 0, 0, 0, 0, []) := rfl
theorem i_X0_anyHolds_25 : tab t_X0_anyHolds 25 = some (.aload_n 1, 1, 1, 0, 0, 0, 0, 0, 0, 0, []) := rfl
theorem i_X0_anyHolds_26 : tab t_X0_anyHolds 26 = some (.iload 4, 2, 4, 0, 0, 0, 0, 0, 0, 0, []) := rfl
theorem i_X0_anyHolds_28 : tab t_X0_anyHolds 28 = some (.iload_n 3, 1, 3, 0, 0, 0, 0, 0, 0, 0, []) := rfl
theorem i_X0_anyHolds_29 : tab t_X0_anyHolds 29 = some (.invokevirtual 112, 3, 3, 0, 0, 0, 9, 1, 0, 0, []) := rfl
theorem i_X0_anyHolds_32 : tab t_X0_anyHolds 32 = some (.ifCond .eq 5, 3, 37, 0, 0, 0, 0, 0, 0, 0, []) := rfl
theorem i_X0_anyHolds_35 : tab t_X0_anyHolds 35 = some (.iconst 1, 1, 0, 1, 0, 0, 0, 0, 0, 0, []) := rfl
theorem i_X0_anyHolds_36 : tab t_X0_anyHolds 36 = some (.ireturn, 1, 0, 0, 0, 1, 0, 0, 0, 0, []) := rfl
theorem i_X0_anyHolds_37 : tab t_X0_anyHolds 37 = some (.iinc 4 1, 3, 4, 1, 0, 0, 0, 0, 0, 0, []) := rfl
theorem i_X0_anyHolds_40 : tab t_X0_anyHolds 40 = some (.goto (-37), 3, 3, 0, 0, 0, 0, 0, 0, 0, []) := rfl
theorem i_X0_anyHolds_43 : tab t_X0_anyHolds 43 = some (.iconst 0, 1, 0, 0, 0, 0, 0, 0, 0, 0, []) := rfl
theorem i_X0_anyHolds_44 : tab t_X0_anyHolds 44 = some (.ireturn, 1, 0, 0, 0, 1, 0, 0, 0, 0, []) := rfl
def t_X0_holds : List (Nat × rw_) := [(0, (.iload_n 2, 1, 2, 0, 0, 0, 0, 0, 0, 0, [])), (1, (.ifCond .lt 12, 3, 13, 0, 0, 0, 0, 0, 0, 0, [])), (4, (.iload_n 2, 1, 2, 0, 0, 0, 0, 0, 0, 0, [])), (5, (.aload_n 1, 1, 1, 0, 0, 0, 0, 0, 0, 0, [])), (6, (.getfield 116, 3, 2, 0, 0, 2, 2, 0, 0, 0, [])), (9, (.arraylength, 1, 0, 0, 0, 0, 0, 0, 0, 0, [])), (10, (.if_icmp .lt 5, 3, 15, 0, 0, 0, 0, 0, 0, 0, [])), (13, (.iconst 0, 1, 0, 0, 0, 0, 0, 0, 0, 0, [])), (14, (.ireturn, 1, 0, 0, 0, 1, 0, 0, 0, 0, [])), (15, (.iconst 0, 1, 0, 0, 0, 0, 0, 0, 0, 0, [])), (16, (.istore 4, 2, 4, 0, 0, 0, 0, 0, 0, 0, [])), (18, (.aload_n 1, 1, 1, 0, 0, 0, 0, 0, 0, 0, [])), (19, (.getfield 116, 3, 2, 0, 0, 2, 2, 0, 0, 0, [])), (22, (.iload_n 2, 1, 2, 0, 0, 0, 0, 0, 0, 0, [])), (23, (.iaload, 1, 0, 0, 0, 0, 0, 0, 0, 0, [])), (24, (.istore 5, 2, 5, 0, 0, 0, 0, 0, 0, 0, [])), (26, (.iload 5, 2, 5, 0, 0, 0, 0, 0, 0, 0, [])), (28, (.aload_n 1, 1, 1, 0, 0, 0, 0, 0, 0, 0, [])), (29, (.getfield 119, 3, 2, 0, 0, 2, 3, 0, 0, 0, [])), (32, (.iload_n 2, 1, 2, 0, 0, 0, 0, 0, 0, 0, [])), (33, (.iaload, 1, 0, 0, 0, 0, 0, 0, 0, 0, [])), (34, (.if_icmp .ge 189, 3, 223, 0, 0, 0, 0, 0, 0, 0, [])), (37, (.iload 5, 2, 5, 0, 0, 0, 0, 0, 0, 0, [])), (39, (.aload_n 1, 1, 1, 0, 0, 0, 0, 0, 0, 0, [])), (40, (.getfield 122, 3, 2, 0, 0, 2, 4, 0, 0, 0, [])), (43, (.arraylength, 1, 0, 0, 0, 0, 0, 0, 0, 0, [])), (44, (.if_icmp .ge 179, 3, 223, 0, 0, 0, 0, 0, 0, 0, [])), (47, (.aload_n 1, 1, 1, 0, 0, 0, 0, 0, 0, 0, [])), (48, (.getfield 122, 3, 2, 0, 0, 2, 4, 0, 0, 0, [])), (51, (.iload 5, 2, 5, 0, 0, 0, 0, 0, 0, 0, [])), (53, (.iaload, 1, 0, 0, 0, 0, 0, 0, 0, 0, [])), (54, (.bipush 63, 2, 0, 63, 0, 0, 0, 0, 0, 0, [])), (56, (.iand, 1, 0, 0, 0, 0, 0, 0, 0, 0, [])), (57, (.istore 6, 2, 6, 0, 0, 0, 0, 0, 0, 0, [])), (59, (.iload 6, 2, 6, 0, 0, 0, 0, 0, 0, 0, [])), (61, (.bipush 20, 2, 0, 20, 0, 0, 0, 0, 0, 0, [])), (63, (.if_icmp .ne 41, 3, 104, 0, 0, 0, 0, 0, 0, 0, [])), (66, (.iload 4, 2, 4, 0, 0, 0, 0, 0, 0, 0, [])), (68, (.ifCond .le 149, 3, 217, 0, 0, 0, 0, 0, 0, 0, [])), (71, (.iload 4, 2, 4, 0, 0, 0, 0, 0, 0, 0, [])), (73, (.aload_n 0, 1, 0, 0, 0, 0, 0, 0, 0, 0, [])), (74, (.getfield 22, 3, 2, 0, 0, 0, 2, 0, 0, 0, [])), (77, (.arraylength, 1, 0, 0, 0, 0, 0, 0, 0, 0, [])), (78, (.if_icmp .gt 139, 3, 217, 0, 0, 0, 0, 0, 0, 0, [])), (81, (.aload_n 0, 1, 0, 0, 0, 0, 0, 0, 0, 0, [])), (82, (.getfield 22, 3, 2, 0, 0, 0, 2, 0, 0, 0, [])), (85, (.iload 4, 2, 4, 0, 0, 0, 0, 0, 0, 0, [])), (87, (.iconst 1, 1, 0, 1, 0, 0, 0, 0, 0, 0, [])), (88, (.isub, 1, 0, 0, 0, 0, 0, 0, 0, 0, [])), (89, (.iconst 1, 1, 0, 1, 0, 0, 0, 0, 0, 0, [])), (90, (.aload_n 0, 1, 0, 0, 0, 0, 0, 0, 0, 0, [])), (91, (.getfield 22, 3, 2, 0, 0, 0, 2, 0, 0, 0, [])), (94, (.iload 4, 2, 4, 0, 0, 0, 0, 0, 0, 0, [])), (96, (.iconst 1, 1, 0, 1, 0, 0, 0, 0, 0, 0, [])), (97, (.isub, 1, 0, 0, 0, 0, 0, 0, 0, 0, [])), (98, (.iaload, 1, 0, 0, 0, 0, 0, 0, 0, 0, [])), (99, (.isub, 1, 0, 0, 0, 0, 0, 0, 0, 0, [])), (100, (.iastore, 1, 0, 0, 0, 0, 0, 0, 0, 0, [])), (101, (.goto 116, 3, 217, 0, 0, 0, 0, 0, 0, 0, [])), (104, (.iload 6, 2, 6, 0, 0, 0, 0, 0, 0, 0, [])), (106, (.bipush 13, 2, 0, 13, 0, 0, 0, 0, 0, 0, [])), (108, (.if_icmp .lt 10, 3, 118, 0, 0, 0, 0, 0, 0, 0, [])), (111, (.iload 6, 2, 6, 0, 0, 0, 0, 0, 0, 0, [])), (113, (.bipush 21, 2, 0, 21, 0, 0, 0, 0, 0, 0, [])), (115, (.if_icmp .ne 53, 3, 168, 0, 0, 0, 0, 0, 0, 0, [])), (118, (.iload 4, 2, 4, 0, 0, 0, 0, 0, 0, 0, [])), (120, (.aload_n 0, 1, 0, 0, 0, 0, 0, 0, 0, 0, [])), (121, (.getfield 22, 3, 2, 0, 0, 0, 2, 0, 0, 0, [])), (124, (.arraylength, 1, 0, 0, 0, 0, 0, 0, 0, 0, [])), (125, (.if_icmp .ge 92, 3, 217, 0, 0, 0, 0, 0, 0, 0, [])), (128, (.aload_n 0, 1, 0, 0, 0, 0, 0, 0, 0, 0, [])), (129, (.getfield 22, 3, 2, 0, 0, 0, 2, 0, 0, 0, [])), (132, (.iload 4, 2, 4, 0, 0, 0, 0, 0, 0, 0, [])), (134, (.iload 6, 2, 6, 0, 0, 0, 0, 0, 0, 0, [])), (136, (.bipush 21, 2, 0, 21, 0, 0, 0, 0, 0, 0, [])), (138, (.if_icmp .ne 16, 3, 154, 0, 0, 0, 0, 0, 0, 0, [])), (141, (.aload_n 1, 1, 1, 0, 0, 0, 0, 0, 0, 0, [])), (142, (.getfield 122, 3, 2, 0, 0, 2, 4, 0, 0, 0, [])), (145, (.iload 5, 2, 5, 0, 0, 0, 0, 0, 0, 0, [])), (147, (.iaload, 1, 0, 0, 0, 0, 0, 0, 0, 0, [])), (148, (.bipush 6, 2, 0, 6, 0, 0, 0, 0, 0, 0, [])), (150, (.ishr, 1, 0, 0, 0, 0, 0, 0, 0, 0, [])), (151, (.goto 10, 3, 161, 0, 0, 0, 0, 0, 0, 0, [])), (154, (.aload_n 0, 1, 0, 0, 0, 0, 0, 0, 0, 0, [])), (155, (.iload_n 3, 1, 3, 0, 0, 0, 0, 0, 0, 0, [])), (156, (.iload 6, 2, 6, 0, 0, 0, 0, 0, 0, 0, [])), (158, (.invokevirtual 125, 3, 2, 0, 0, 0, 5, 1, 0, 0, [])), (161, (.iastore, 1, 0, 0, 0, 0, 0, 0, 0, 0, [])), (162, (.iinc 4 1, 3, 4, 1, 0, 0, 0, 0, 0, 0, [])), (165, (.goto 52, 3, 217, 0, 0, 0, 0, 0, 0, 0, [])), (168, (.iload 4, 2, 4, 0, 0, 0, 0, 0, 0, 0, [])), (170, (.iconst 1, 1, 0, 1, 0, 0, 0, 0, 0, 0, [])), (171, (.if_icmp .le 46, 3, 217, 0, 0, 0, 0, 0, 0, 0, [])), (174, (.iload 4, 2, 4, 0, 0, 0, 0, 0, 0, 0, [])), (176, (.aload_n 0, 1, 0, 0, 0, 0, 0, 0, 0, 0, [])), (177, (.getfield 22, 3, 2, 0, 0, 0, 2, 0, 0, 0, [])), (180, (.arraylength, 1, 0, 0, 0, 0, 0, 0, 0, 0, [])), (181, (.if_icmp .gt 36, 3, 217, 0, 0, 0, 0, 0, 0, 0, [])), (184, (.iinc 4 (-1), 3, 4, -1, 0, 0, 0, 0, 0, 0, [])), (187, (.aload_n 0, 1, 0, 0, 0, 0, 0, 0, 0, 0, [])), (188, (.getfield 22, 3, 2, 0, 0, 0, 2, 0, 0, 0, [])), (191, (.iload 4, 2, 4, 0, 0, 0, 0, 0, 0, 0, [])), (193, (.iconst 1, 1, 0, 1, 0, 0, 0, 0, 0, 0, [])), (194, (.isub, 1, 0, 0, 0, 0, 0, 0, 0, 0, [])), (195, (.iload 6, 2, 6, 0, 0, 0, 0, 0, 0, 0, [])), (197, (.aload_n 0, 1, 0, 0, 0, 0, 0, 0, 0, 0, [])), (198, (.getfield 22, 3, 2, 0, 0, 0, 2, 0, 0, 0, [])), (201, (.iload 4, 2, 4, 0, 0, 0, 0, 0, 0, 0, [])), (203, (.iconst 1, 1, 0, 1, 0, 0, 0, 0, 0, 0, [])), (204, (.isub, 1, 0, 0, 0, 0, 0, 0, 0, 0, [])), (205, (.iaload, 1, 0, 0, 0, 0, 0, 0, 0, 0, [])), (206, (.aload_n 0, 1, 0, 0, 0, 0, 0, 0, 0, 0, [])), (207, (.getfield 22, 3, 2, 0, 0, 0, 2, 0, 0, 0, [])), (210, (.iload 4, 2, 4, 0, 0, 0, 0, 0, 0, 0, [])), (212, (.iaload, 1, 0, 0, 0, 0, 0, 0, 0, 0, [])), (213, (.invokestatic 126, 3, 3, 0, 0, 0, 10, 0, 0, 0, [])), (216, (.iastore, 1, 0, 0, 0, 0, 0, 0, 0, 0, [])), (217, (.iinc 5 1, 3, 5, 1, 0, 0, 0, 0, 0, 0, [])), (220, (.goto (-194), 3, 26, 0, 0, 0, 0, 0, 0, 0, [])), (223, (.iload 4, 2, 4, 0, 0, 0, 0, 0, 0, 0, [])), (225, (.ifCond .eq 12, 3, 237, 0, 0, 0, 0, 0, 0, 0, [])), (228, (.aload_n 0, 1, 0, 0, 0, 0, 0, 0, 0, 0, [])), (229, (.getfield 22, 3, 2, 0, 0, 0, 2, 0, 0, 0, [])), (232, (.iconst 0, 1, 0, 0, 0, 0, 0, 0, 0, 0, [])), (233, (.iaload, 1, 0, 0, 0, 0, 0, 0, 0, 0, [])), (234, (.ifCond .eq 7, 3, 241, 0, 0, 0, 0, 0, 0, 0, [])), (237, (.iconst 1, 1, 0, 1, 0, 0, 0, 0, 0, 0, [])), (238, (.goto 4, 3, 242, 0, 0, 0, 0, 0, 0, 0, [])), (241, (.iconst 0, 1, 0, 0, 0, 0, 0, 0, 0, 0, [])), (242, (.ireturn, 1, 0, 0, 0, 1, 0, 0, 0, 0, []))]
set_option maxRecDepth 100000 in
theorem ok_X0_holds : tb_ok ctX0 m_X0_holds t_X0_holds = true := by decide +kernel
theorem i_X0_holds_0 : tab t_X0_holds 0 = some (.iload_n 2, 1, 2, 0, 0, 0, 0, 0, 0, 0, []) := rfl
theorem i_X0_holds_1 : tab t_X0_holds 1 = some (.ifCond .lt 12, 3, 13, 0, 0, 0, 0, 0, 0, 0, []) := rfl
theorem i_X0_holds_4 : tab t_X0_holds 4 = some (.iload_n 2, 1, 2, 0, 0, 0, 0, 0, 0, 0, []) := rfl
theorem i_X0_holds_5 : tab t_X0_holds 5 = some (.aload_n 1, 1, 1, 0, 0, 0, 0, 0, 0, 0, []) := rfl
theorem i_X0_holds_6 : tab t_X0_holds 6 = some (.getfield 116, 3, 2, 0, 0, 2, 2, 0, 0, 0, []) := rfl
theorem i_X0_holds_9 : tab t_X0_holds 9 = some (.arraylength, 1, 0, 0, 0, 0, 0, 0, 0, 0, []) := rfl
theorem i_X0_holds_10 : tab t_X0_holds 10 = some (.if_icmp .lt 5, 3, 15, 0, 0, 0, 0, 0, 0, 0, []) := rfl
theorem i_X0_holds_13 : tab t_X0_holds 13 = some (.iconst 0, 1, 0, 0, 0, 0, 0, 0, 0, 0, []) := rfl
theorem i_X0_holds_14 : tab t_X0_holds 14 = some (.ireturn, 1, 0, 0, 0, 1, 0, 0, 0, 0, []) := rfl
theorem i_X0_holds_15 : tab t_X0_holds 15 = some (.iconst 0, 1, 0, 0, 0, 0, 0, 0, 0, 0, []) := rfl
theorem i_X0_holds_16 : tab t_X0_holds 16 = some (.istore 4, 2, 4, 0, 0, 0, 0, 0, 0, 0, []) := rfl
theorem i_X0_holds_18 : tab t_X0_holds 18 = some (.aload_n 1, 1, 1, 0, 0, 0, 0, 0, 0, 0, []) := rfl
theorem i_X0_holds_19 : tab t_X0_holds 19 = some (.getfield 116, 3, 2, 0, 0, 2, 2, 0, 0, 0, []) := rfl
theorem i_X0_holds_22 : tab t_X0_holds 22 = some (.iload_n 2, 1, 2, 0, 0, 0, 0, 0, 0, 0, []) := rfl
theorem i_X0_holds_23 : tab t_X0_holds 23 = some (.iaload, 1, 0, 0, 0, 0, 0, 0, 0, 0, []) := rfl
theorem i_X0_holds_24 : tab t_X0_holds 24 = some (.istore 5, 2, 5, 0, 0, 0, 0, 0, 0, 0, []) := rfl
theorem i_X0_holds_26 : tab t_X0_holds 26 = some (.iload 5, 2, 5, 0, 0, 0, 0, 0, 0, 0, []) := rfl
theorem i_X0_holds_28 : tab t_X0_holds 28 = some (.aload_n 1, 1, 1, 0, 0, 0, 0, 0, 0, 0, []) := rfl
theorem i_X0_holds_29 : tab t_X0_holds 29 = some (.getfield 119, 3, 2, 0, 0, 2, 3, 0, 0, 0, []) := rfl
theorem i_X0_holds_32 : tab t_X0_holds 32 = some (.iload_n 2, 1, 2, 0, 0, 0, 0, 0, 0, 0, []) := rfl
theorem i_X0_holds_33 : tab t_X0_holds 33 = some (.iaload, 1, 0, 0, 0, 0, 0, 0, 0, 0, []) := rfl
theorem i_X0_holds_34 : tab t_X0_holds 34 = some (.if_icmp .ge 189, 3, 223, 0, 0, 0, 0, 0, 0, 0, []) := rfl
theorem i_X0_holds_37 : tab t_X0_holds 37 = some (.iload 5, 2, 5, 0, 0, 0, 0, 0, 0, 0, []) := rfl
theorem i_X0_holds_39 : tab t_X0_holds 39 = some (.aload_n 1, 1, 1, 0, 0, 0, 0, 0, 0, 0, []) := rfl
theorem i_X0_holds_40 : tab t_X0_holds 40 = some (.getfield 122, 3, 2, 0, 0, 2, 4, 0, 0, 0, []) := rfl
theorem i_X0_holds_43 : tab t_X0_holds 43 = some (.arraylength, 1, 0, 0, 0, 0, 0, 0, 0, 0, []) := rfl
theorem i_X0_holds_44 : tab t_X0_holds 44 = some (.if_icmp .ge 179, 3, 223, 0, 0, 0, 0, 0, 0, 0, []) := rfl
theorem i_X0_holds_47 : tab t_X0_holds 47 = some (.aload_n 1, 1, 1, 0, 0, 0, 0, 0, 0, 0, []) := rfl
theorem i_X0_holds_48 : tab t_X0_holds 48 = some (.getfield 122, 3, 2, 0, 0, 2, 4, 0, 0, 0, []) := rfl
theorem i_X0_holds_51 : tab t_X0_holds 51 = some (.iload 5, 2, 5, 0, 0, 0, 0, 0, 0, 0, []) := rfl
theorem i_X0_holds_53 : tab t_X0_holds 53 = some (.iaload, 1, 0, 0, 0, 0, 0, 0, 0, 0, []) := rfl
theorem i_X0_holds_54 : tab t_X0_holds 54 = some (.bipush 63, 2, 0, 63, 0, 0, 0, 0, 0, 0, []) := rfl
theorem i_X0_holds_56 : tab t_X0_holds 56 = some (.iand, 1, 0, 0, 0, 0, 0, 0, 0, 0, []) := rfl
theorem i_X0_holds_57 : tab t_X0_holds 57 = some (.istore 6, 2, 6, 0, 0, 0, 0, 0, 0, 0, []) := rfl
theorem i_X0_holds_59 : tab t_X0_holds 59 = some (.iload 6, 2, 6, 0, 0, 0, 0, 0, 0, 0, []) := rfl
theorem i_X0_holds_61 : tab t_X0_holds 61 = some (.bipush 20, 2, 0, 20, 0, 0, 0, 0, 0, 0, []) := rfl
theorem i_X0_holds_63 : tab t_X0_holds 63 = some (.if_icmp .ne 41, 3, 104, 0, 0, 0, 0, 0, 0, 0, []) := rfl
theorem i_X0_holds_66 : tab t_X0_holds 66 = some (.iload 4, 2, 4, 0, 0, 0, 0, 0, 0, 0, []) := rfl
theorem i_X0_holds_68 : tab t_X0_holds 68 = some (.ifCond .le 149, 3, 217, 0, 0, 0, 0, 0, 0, 0, []) := rfl
theorem i_X0_holds_71 : tab t_X0_holds 71 = some (.iload 4, 2, 4, 0, 0, 0, 0, 0, 0, 0, []) := rfl
theorem i_X0_holds_73 : tab t_X0_holds 73 = some (.aload_n 0, 1, 0, 0, 0, 0, 0, 0, 0, 0, []) := rfl
theorem i_X0_holds_74 : tab t_X0_holds 74 = some (.getfield 22, 3, 2, 0, 0, 0, 2, 0, 0, 0, []) := rfl
theorem i_X0_holds_77 : tab t_X0_holds 77 = some (.arraylength, 1, 0, 0, 0, 0, 0, 0, 0, 0, []) := rfl
theorem i_X0_holds_78 : tab t_X0_holds 78 = some (.if_icmp .gt 139, 3, 217, 0, 0, 0, 0, 0, 0, 0, []) := rfl
theorem i_X0_holds_81 : tab t_X0_holds 81 = some (.aload_n 0, 1, 0, 0, 0, 0, 0, 0, 0, 0, []) := rfl
theorem i_X0_holds_82 : tab t_X0_holds 82 = some (.getfield 22, 3, 2, 0, 0, 0, 2, 0, 0, 0, []) := rfl
theorem i_X0_holds_85 : tab t_X0_holds 85 = some (.iload 4, 2, 4, 0, 0, 0, 0, 0, 0, 0, []) := rfl
theorem i_X0_holds_87 : tab t_X0_holds 87 = some (.iconst 1, 1, 0, 1, 0, 0, 0, 0, 0, 0, []) := rfl
theorem i_X0_holds_88 : tab t_X0_holds 88 = some (.isub, 1, 0, 0, 0, 0, 0, 0, 0, 0, []) := rfl
theorem i_X0_holds_89 : tab t_X0_holds 89 = some (.iconst 1, 1, 0, 1, 0, 0, 0, 0, 0, 0, []) := rfl
theorem i_X0_holds_90 : tab t_X0_holds 90 = some (.aload_n 0, 1, 0, 0, 0, 0, 0, 0, 0, 0, []) := rfl
theorem i_X0_holds_91 : tab t_X0_holds 91 = some (.getfield 22, 3, 2, 0, 0, 0, 2, 0, 0, 0, []) := rfl
theorem i_X0_holds_94 : tab t_X0_holds 94 = some (.iload 4, 2, 4, 0, 0, 0, 0, 0, 0, 0, []) := rfl
theorem i_X0_holds_96 : tab t_X0_holds 96 = some (.iconst 1, 1, 0, 1, 0, 0, 0, 0, 0, 0, []) := rfl
theorem i_X0_holds_97 : tab t_X0_holds 97 = some (.isub, 1, 0, 0, 0, 0, 0, 0, 0, 0, []) := rfl
theorem i_X0_holds_98 : tab t_X0_holds 98 = some (.iaload, 1, 0, 0, 0, 0, 0, 0, 0, 0, []) := rfl
theorem i_X0_holds_99 : tab t_X0_holds 99 = some (.isub, 1, 0, 0, 0, 0, 0, 0, 0, 0, []) := rfl
theorem i_X0_holds_100 : tab t_X0_holds 100 = some (.iastore, 1, 0, 0, 0, 0, 0, 0, 0, 0, []) := rfl
theorem i_X0_holds_101 : tab t_X0_holds 101 = some (.goto 116, 3, 217, 0, 0, 0, 0, 0, 0, 0, []) := rfl
theorem i_X0_holds_104 : tab t_X0_holds 104 = some (.iload 6, 2, 6, 0, 0, 0, 0, 0, 0, 0, []) := rfl
theorem i_X0_holds_106 : tab t_X0_holds 106 = some (.bipush 13, 2, 0, 13, 0, 0, 0, 0, 0, 0, []) := rfl
theorem i_X0_holds_108 : tab t_X0_holds 108 = some (.if_icmp .lt 10, 3, 118, 0, 0, 0, 0, 0, 0, 0, []) := rfl
theorem i_X0_holds_111 : tab t_X0_holds 111 = some (.iload 6, 2, 6, 0, 0, 0, 0, 0, 0, 0, []) := rfl
theorem i_X0_holds_113 : tab t_X0_holds 113 = some (.bipush 21, 2, 0, 21, 0, 0, 0, 0, 0, 0, []) := rfl
theorem i_X0_holds_115 : tab t_X0_holds 115 = some (.if_icmp .ne 53, 3, 168, 0, 0, 0, 0, 0, 0, 0, []) := rfl
theorem i_X0_holds_118 : tab t_X0_holds 118 = some (.iload 4, 2, 4, 0, 0, 0, 0, 0, 0, 0, []) := rfl
theorem i_X0_holds_120 : tab t_X0_holds 120 = some (.aload_n 0, 1, 0, 0, 0, 0, 0, 0, 0, 0, []) := rfl
theorem i_X0_holds_121 : tab t_X0_holds 121 = some (.getfield 22, 3, 2, 0, 0, 0, 2, 0, 0, 0, []) := rfl
theorem i_X0_holds_124 : tab t_X0_holds 124 = some (.arraylength, 1, 0, 0, 0, 0, 0, 0, 0, 0, []) := rfl
theorem i_X0_holds_125 : tab t_X0_holds 125 = some (.if_icmp .ge 92, 3, 217, 0, 0, 0, 0, 0, 0, 0, []) := rfl
theorem i_X0_holds_128 : tab t_X0_holds 128 = some (.aload_n 0, 1, 0, 0, 0, 0, 0, 0, 0, 0, []) := rfl
theorem i_X0_holds_129 : tab t_X0_holds 129 = some (.getfield 22, 3, 2, 0, 0, 0, 2, 0, 0, 0, []) := rfl
theorem i_X0_holds_132 : tab t_X0_holds 132 = some (.iload 4, 2, 4, 0, 0, 0, 0, 0, 0, 0, []) := rfl
theorem i_X0_holds_134 : tab t_X0_holds 134 = some (.iload 6, 2, 6, 0, 0, 0, 0, 0, 0, 0, []) := rfl
theorem i_X0_holds_136 : tab t_X0_holds 136 = some (.bipush 21, 2, 0, 21, 0, 0, 0, 0, 0, 0, []) := rfl
theorem i_X0_holds_138 : tab t_X0_holds 138 = some (.if_icmp .ne 16, 3, 154, 0, 0, 0, 0, 0, 0, 0, []) := rfl
theorem i_X0_holds_141 : tab t_X0_holds 141 = some (.aload_n 1, 1, 1, 0, 0, 0, 0, 0, 0, 0, []) := rfl
theorem i_X0_holds_142 : tab t_X0_holds 142 = some (.getfield 122, 3, 2, 0, 0, 2, 4, 0, 0, 0, []) := rfl
theorem i_X0_holds_145 : tab t_X0_holds 145 = some (.iload 5, 2, 5, 0, 0, 0, 0, 0, 0, 0, []) := rfl
theorem i_X0_holds_147 : tab t_X0_holds 147 = some (.iaload, 1, 0, 0, 0, 0, 0, 0, 0, 0, []) := rfl
theorem i_X0_holds_148 : tab t_X0_holds 148 = some (.bipush 6, 2, 0, 6, 0, 0, 0, 0, 0, 0, []) := rfl
theorem i_X0_holds_150 : tab t_X0_holds 150 = some (.ishr, 1, 0, 0, 0, 0, 0, 0, 0, 0, []) := rfl
theorem i_X0_holds_151 : tab t_X0_holds 151 = some (.goto 10, 3, 161, 0, 0, 0, 0, 0, 0, 0, []) := rfl
theorem i_X0_holds_154 : tab t_X0_holds 154 = some (.aload_n 0, 1, 0, 0, 0, 0, 0, 0, 0, 0, []) := rfl
theorem i_X0_holds_155 : tab t_X0_holds 155 = some (.iload_n 3, 1, 3, 0, 0, 0, 0, 0, 0, 0, []) := rfl
theorem i_X0_holds_156 : tab t_X0_holds 156 = some (.iload 6, 2, 6, 0, 0, 0, 0, 0, 0, 0, []) := rfl
theorem i_X0_holds_158 : tab t_X0_holds 158 = some (.invokevirtual 125, 3, 2, 0, 0, 0, 5, 1, 0, 0, []) := rfl
theorem i_X0_holds_161 : tab t_X0_holds 161 = some (.iastore, 1, 0, 0, 0, 0, 0, 0, 0, 0, []) := rfl
theorem i_X0_holds_162 : tab t_X0_holds 162 = some (.iinc 4 1, 3, 4, 1, 0, 0, 0, 0, 0, 0, []) := rfl
theorem i_X0_holds_165 : tab t_X0_holds 165 = some (.goto 52, 3, 217, 0, 0, 0, 0, 0, 0, 0, []) := rfl
theorem i_X0_holds_168 : tab t_X0_holds 168 = some (.iload 4, 2, 4, 0, 0, 0, 0, 0, 0, 0, []) := rfl
theorem i_X0_holds_170 : tab t_X0_holds 170 = some (.iconst 1, 1, 0, 1, 0, 0, 0, 0, 0, 0, []) := rfl
theorem i_X0_holds_171 : tab t_X0_holds 171 = some (.if_icmp .le 46, 3, 217, 0, 0, 0, 0, 0, 0, 0, []) := rfl
theorem i_X0_holds_174 : tab t_X0_holds 174 = some (.iload 4, 2, 4, 0, 0, 0, 0, 0, 0, 0, []) := rfl
theorem i_X0_holds_176 : tab t_X0_holds 176 = some (.aload_n 0, 1, 0, 0, 0, 0, 0, 0, 0, 0, []) := rfl
theorem i_X0_holds_177 : tab t_X0_holds 177 = some (.getfield 22, 3, 2, 0, 0, 0, 2, 0, 0, 0, []) := rfl
theorem i_X0_holds_180 : tab t_X0_holds 180 = some (.arraylength, 1, 0, 0, 0, 0, 0, 0, 0, 0, []) := rfl
theorem i_X0_holds_181 : tab t_X0_holds 181 = some (.if_icmp .gt 36, 3, 217, 0, 0, 0, 0, 0, 0, 0, []) := rfl
theorem i_X0_holds_184 : tab t_X0_holds 184 = some (.iinc 4 (-1), 3, 4, -1, 0, 0, 0, 0, 0, 0, []) := rfl
theorem i_X0_holds_187 : tab t_X0_holds 187 = some (.aload_n 0, 1, 0, 0, 0, 0, 0, 0, 0, 0, []) := rfl
theorem i_X0_holds_188 : tab t_X0_holds 188 = some (.getfield 22, 3, 2, 0, 0, 0, 2, 0, 0, 0, []) := rfl
theorem i_X0_holds_191 : tab t_X0_holds 191 = some (.iload 4, 2, 4, 0, 0, 0, 0, 0, 0, 0, []) := rfl
theorem i_X0_holds_193 : tab t_X0_holds 193 = some (.iconst 1, 1, 0, 1, 0, 0, 0, 0, 0, 0, []) := rfl
theorem i_X0_holds_194 : tab t_X0_holds 194 = some (.isub, 1, 0, 0, 0, 0, 0, 0, 0, 0, []) := rfl
theorem i_X0_holds_195 : tab t_X0_holds 195 = some (.iload 6, 2, 6, 0, 0, 0, 0, 0, 0, 0, []) := rfl
theorem i_X0_holds_197 : tab t_X0_holds 197 = some (.aload_n 0, 1, 0, 0, 0, 0, 0, 0, 0, 0, []) := rfl
theorem i_X0_holds_198 : tab t_X0_holds 198 = some (.getfield 22, 3, 2, 0, 0, 0, 2, 0, 0, 0, []) := rfl
theorem i_X0_holds_201 : tab t_X0_holds 201 = some (.iload 4, 2, 4, 0, 0, 0, 0, 0, 0, 0, []) := rfl
theorem i_X0_holds_203 : tab t_X0_holds 203 = some (.iconst 1, 1, 0, 1, 0, 0, 0, 0, 0, 0, []) := rfl
theorem i_X0_holds_204 : tab t_X0_holds 204 = some (.isub, 1, 0, 0, 0, 0, 0, 0, 0, 0, []) := rfl
theorem i_X0_holds_205 : tab t_X0_holds 205 = some (.iaload, 1, 0, 0, 0, 0, 0, 0, 0, 0, []) := rfl
theorem i_X0_holds_206 : tab t_X0_holds 206 = some (.aload_n 0, 1, 0, 0, 0, 0, 0, 0, 0, 0, []) := rfl
theorem i_X0_holds_207 : tab t_X0_holds 207 = some (.getfield 22, 3, 2, 0, 0, 0, 2, 0, 0, 0, []) := rfl
theorem i_X0_holds_210 : tab t_X0_holds 210 = some (.iload 4, 2, 4, 0, 0, 0, 0, 0, 0, 0, []) := rfl
theorem i_X0_holds_212 : tab t_X0_holds 212 = some (.iaload, 1, 0, 0, 0, 0, 0, 0, 0, 0, []) := rfl
theorem i_X0_holds_213 : tab t_X0_holds 213 = some (.invokestatic 126, 3, 3, 0, 0, 0, 10, 0, 0, 0, []) := rfl
theorem i_X0_holds_216 : tab t_X0_holds 216 = some (.iastore, 1, 0, 0, 0, 0, 0, 0, 0, 0, []) := rfl
theorem i_X0_holds_217 : tab t_X0_holds 217 = some (.iinc 5 1, 3, 5, 1, 0, 0, 0, 0, 0, 0, []) := rfl
theorem i_X0_holds_220 : tab t_X0_holds 220 = some (.goto (-194), 3, 26, 0, 0, 0, 0, 0, 0, 0, []) := rfl
theorem i_X0_holds_223 : tab t_X0_holds 223 = some (.iload 4, 2, 4, 0, 0, 0, 0, 0, 0, 0, []) := rfl
theorem i_X0_holds_225 : tab t_X0_holds 225 = some (.ifCond .eq 12, 3, 237, 0, 0, 0, 0, 0, 0, 0, []) := rfl
theorem i_X0_holds_228 : tab t_X0_holds 228 = some (.aload_n 0, 1, 0, 0, 0, 0, 0, 0, 0, 0, []) := rfl
theorem i_X0_holds_229 : tab t_X0_holds 229 = some (.getfield 22, 3, 2, 0, 0, 0, 2, 0, 0, 0, []) := rfl
theorem i_X0_holds_232 : tab t_X0_holds 232 = some (.iconst 0, 1, 0, 0, 0, 0, 0, 0, 0, 0, []) := rfl
theorem i_X0_holds_233 : tab t_X0_holds 233 = some (.iaload, 1, 0, 0, 0, 0, 0, 0, 0, 0, []) := rfl
theorem i_X0_holds_234 : tab t_X0_holds 234 = some (.ifCond .eq 7, 3, 241, 0, 0, 0, 0, 0, 0, 0, []) := rfl
theorem i_X0_holds_237 : tab t_X0_holds 237 = some (.iconst 1, 1, 0, 1, 0, 0, 0, 0, 0, 0, []) := rfl
theorem i_X0_holds_238 : tab t_X0_holds 238 = some (.goto 4, 3, 242, 0, 0, 0, 0, 0, 0, 0, []) := rfl
theorem i_X0_holds_241 : tab t_X0_holds 241 = some (.iconst 0, 1, 0, 0, 0, 0, 0, 0, 0, 0, []) := rfl
theorem i_X0_holds_242 : tab t_X0_holds 242 = some (.ireturn, 1, 0, 0, 0, 1, 0, 0, 0, 0, []) := rfl
def t_X0_joined : List (Nat × rw_) := [(0, (.iload_n 0, 1, 0, 0, 0, 0, 0, 0, 0, 0, [])), (1, (.tableswitch 130 18 29 #[126, 130, 130, 130, 130, 63, 67, 71, 82, 93, 104, 115], 63, 131, 0, 0, 0, 0, 0, 0, 0, [(18, 127), (19, 131), (20, 131), (21, 131), (22, 131), (23, 64), (24, 68), (25, 72), (26, 83), (27, 94), (28, 105), (29, 116)])), (64, (.iload_n 1, 1, 1, 0, 0, 0, 0, 0, 0, 0, [])), (65, (.iload_n 2, 1, 2, 0, 0, 0, 0, 0, 0, 0, [])), (66, (.iadd, 1, 0, 0, 0, 0, 0, 0, 0, 0, [])), (67, (.ireturn, 1, 0, 0, 0, 0, 0, 0, 0, 0, [])), (68, (.iload_n 1, 1, 1, 0, 0, 0, 0, 0, 0, 0, [])), (69, (.iload_n 2, 1, 2, 0, 0, 0, 0, 0, 0, 0, [])), (70, (.isub, 1, 0, 0, 0, 0, 0, 0, 0, 0, [])), (71, (.ireturn, 1, 0, 0, 0, 0, 0, 0, 0, 0, [])), (72, (.iload_n 1, 1, 1, 0, 0, 0, 0, 0, 0, 0, [])), (73, (.iload_n 2, 1, 2, 0, 0, 0, 0, 0, 0, 0, [])), (74, (.if_icmp .ge 7, 3, 81, 0, 0, 0, 0, 0, 0, 0, [])), (77, (.iconst 1, 1, 0, 1, 0, 0, 0, 0, 0, 0, [])), (78, (.goto 4, 3, 82, 0, 0, 0, 0, 0, 0, 0, [])), (81, (.iconst 0, 1, 0, 0, 0, 0, 0, 0, 0, 0, [])), (82, (.ireturn, 1, 0, 0, 0, 0, 0, 0, 0, 0, [])), (83, (.iload_n 1, 1, 1, 0, 0, 0, 0, 0, 0, 0, [])), (84, (.iload_n 2, 1, 2, 0, 0, 0, 0, 0, 0, 0, [])), (85, (.if_icmp .gt 7, 3, 92, 0, 0, 0, 0, 0, 0, 0, [])), (88, (.iconst 1, 1, 0, 1, 0, 0, 0, 0, 0, 0, [])), (89, (.goto 4, 3, 93, 0, 0, 0, 0, 0, 0, 0, [])), (92, (.iconst 0, 1, 0, 0, 0, 0, 0, 0, 0, 0, [])), (93, (.ireturn, 1, 0, 0, 0, 0, 0, 0, 0, 0, [])), (94, (.iload_n 1, 1, 1, 0, 0, 0, 0, 0, 0, 0, [])), (95, (.iload_n 2, 1, 2, 0, 0, 0, 0, 0, 0, 0, [])), (96, (.if_icmp .ne 7, 3, 103, 0, 0, 0, 0, 0, 0, 0, [])), (99, (.iconst 1, 1, 0, 1, 0, 0, 0, 0, 0, 0, [])), (100, (.goto 4, 3, 104, 0, 0, 0, 0, 0, 0, 0, [])), (103, (.iconst 0, 1, 0, 0, 0, 0, 0, 0, 0, 0, [])), (104, (.ireturn, 1, 0, 0, 0, 0, 0, 0, 0, 0, [])), (105, (.iload_n 1, 1, 1, 0, 0, 0, 0, 0, 0, 0, [])), (106, (.iload_n 2, 1, 2, 0, 0, 0, 0, 0, 0, 0, [])), (107, (.if_icmp .lt 7, 3, 114, 0, 0, 0, 0, 0, 0, 0, [])), (110, (.iconst 1, 1, 0, 1, 0, 0, 0, 0, 0, 0, [])), (111, (.goto 4, 3, 115, 0, 0, 0, 0, 0, 0, 0, [])), (114, (.iconst 0, 1, 0, 0, 0, 0, 0, 0, 0, 0, [])), (115, (.ireturn, 1, 0, 0, 0, 0, 0, 0, 0, 0, [])), (116, (.iload_n 1, 1, 1, 0, 0, 0, 0, 0, 0, 0, [])), (117, (.iload_n 2, 1, 2, 0, 0, 0, 0, 0, 0, 0, [])), (118, (.if_icmp .le 7, 3, 125, 0, 0, 0, 0, 0, 0, 0, [])), (121, (.iconst 1, 1, 0, 1, 0, 0, 0, 0, 0, 0, [])), (122, (.goto 4, 3, 126, 0, 0, 0, 0, 0, 0, 0, [])), (125, (.iconst 0, 1, 0, 0, 0, 0, 0, 0, 0, 0, [])), (126, (.ireturn, 1, 0, 0, 0, 0, 0, 0, 0, 0, [])), (127, (.iload_n 1, 1, 1, 0, 0, 0, 0, 0, 0, 0, [])), (128, (.iload_n 2, 1, 2, 0, 0, 0, 0, 0, 0, 0, [])), (129, (.iand, 1, 0, 0, 0, 0, 0, 0, 0, 0, [])), (130, (.ireturn, 1, 0, 0, 0, 0, 0, 0, 0, 0, [])), (131, (.iload_n 1, 1, 1, 0, 0, 0, 0, 0, 0, 0, [])), (132, (.iload_n 2, 1, 2, 0, 0, 0, 0, 0, 0, 0, [])), (133, (.ior, 1, 0, 0, 0, 0, 0, 0, 0, 0, [])), (134, (.ireturn, 1, 0, 0, 0, 0, 0, 0, 0, 0, []))]
set_option maxRecDepth 100000 in
theorem ok_X0_joined : tb_ok ctX0 m_X0_joined t_X0_joined = true := by decide +kernel
theorem i_X0_joined_0 : tab t_X0_joined 0 = some (.iload_n 0, 1, 0, 0, 0, 0, 0, 0, 0, 0, []) := rfl
theorem i_X0_joined_1 : tab t_X0_joined 1 = some (.tableswitch 130 18 29 #[126, 130, 130, 130, 130, 63, 67, 71, 82, 93, 104, 115], 63, 131, 0, 0, 0, 0, 0, 0, 0, [(18, 127), (19, 131), (20, 131), (21, 131), (22, 131), (23, 64), (24, 68), (25, 72), (26, 83), (27, 94), (28, 105), (29, 116)]) := rfl
theorem i_X0_joined_64 : tab t_X0_joined 64 = some (.iload_n 1, 1, 1, 0, 0, 0, 0, 0, 0, 0, []) := rfl
theorem i_X0_joined_65 : tab t_X0_joined 65 = some (.iload_n 2, 1, 2, 0, 0, 0, 0, 0, 0, 0, []) := rfl
theorem i_X0_joined_66 : tab t_X0_joined 66 = some (.iadd, 1, 0, 0, 0, 0, 0, 0, 0, 0, []) := rfl
theorem i_X0_joined_67 : tab t_X0_joined 67 = some (.ireturn, 1, 0, 0, 0, 0, 0, 0, 0, 0, []) := rfl
theorem i_X0_joined_68 : tab t_X0_joined 68 = some (.iload_n 1, 1, 1, 0, 0, 0, 0, 0, 0, 0, []) := rfl
theorem i_X0_joined_69 : tab t_X0_joined 69 = some (.iload_n 2, 1, 2, 0, 0, 0, 0, 0, 0, 0, []) := rfl
theorem i_X0_joined_70 : tab t_X0_joined 70 = some (.isub, 1, 0, 0, 0, 0, 0, 0, 0, 0, []) := rfl
theorem i_X0_joined_71 : tab t_X0_joined 71 = some (.ireturn, 1, 0, 0, 0, 0, 0, 0, 0, 0, []) := rfl
theorem i_X0_joined_72 : tab t_X0_joined 72 = some (.iload_n 1, 1, 1, 0, 0, 0, 0, 0, 0, 0, []) := rfl
theorem i_X0_joined_73 : tab t_X0_joined 73 = some (.iload_n 2, 1, 2, 0, 0, 0, 0, 0, 0, 0, []) := rfl
theorem i_X0_joined_74 : tab t_X0_joined 74 = some (.if_icmp .ge 7, 3, 81, 0, 0, 0, 0, 0, 0, 0, []) := rfl
theorem i_X0_joined_77 : tab t_X0_joined 77 = some (.iconst 1, 1, 0, 1, 0, 0, 0, 0, 0, 0, []) := rfl
theorem i_X0_joined_78 : tab t_X0_joined 78 = some (.goto 4, 3, 82, 0, 0, 0, 0, 0, 0, 0, []) := rfl
theorem i_X0_joined_81 : tab t_X0_joined 81 = some (.iconst 0, 1, 0, 0, 0, 0, 0, 0, 0, 0, []) := rfl
theorem i_X0_joined_82 : tab t_X0_joined 82 = some (.ireturn, 1, 0, 0, 0, 0, 0, 0, 0, 0, []) := rfl
theorem i_X0_joined_83 : tab t_X0_joined 83 = some (.iload_n 1, 1, 1, 0, 0, 0, 0, 0, 0, 0, []) := rfl
theorem i_X0_joined_84 : tab t_X0_joined 84 = some (.iload_n 2, 1, 2, 0, 0, 0, 0, 0, 0, 0, []) := rfl
theorem i_X0_joined_85 : tab t_X0_joined 85 = some (.if_icmp .gt 7, 3, 92, 0, 0, 0, 0, 0, 0, 0, []) := rfl
theorem i_X0_joined_88 : tab t_X0_joined 88 = some (.iconst 1, 1, 0, 1, 0, 0, 0, 0, 0, 0, []) := rfl
theorem i_X0_joined_89 : tab t_X0_joined 89 = some (.goto 4, 3, 93, 0, 0, 0, 0, 0, 0, 0, []) := rfl
theorem i_X0_joined_92 : tab t_X0_joined 92 = some (.iconst 0, 1, 0, 0, 0, 0, 0, 0, 0, 0, []) := rfl
theorem i_X0_joined_93 : tab t_X0_joined 93 = some (.ireturn, 1, 0, 0, 0, 0, 0, 0, 0, 0, []) := rfl
theorem i_X0_joined_94 : tab t_X0_joined 94 = some (.iload_n 1, 1, 1, 0, 0, 0, 0, 0, 0, 0, []) := rfl
theorem i_X0_joined_95 : tab t_X0_joined 95 = some (.iload_n 2, 1, 2, 0, 0, 0, 0, 0, 0, 0, []) := rfl
theorem i_X0_joined_96 : tab t_X0_joined 96 = some (.if_icmp .ne 7, 3, 103, 0, 0, 0, 0, 0, 0, 0, []) := rfl
theorem i_X0_joined_99 : tab t_X0_joined 99 = some (.iconst 1, 1, 0, 1, 0, 0, 0, 0, 0, 0, []) := rfl
theorem i_X0_joined_100 : tab t_X0_joined 100 = some (.goto 4, 3, 104, 0, 0, 0, 0, 0, 0, 0, []) := rfl
theorem i_X0_joined_103 : tab t_X0_joined 103 = some (.iconst 0, 1, 0, 0, 0, 0, 0, 0, 0, 0, []) := rfl
theorem i_X0_joined_104 : tab t_X0_joined 104 = some (.ireturn, 1, 0, 0, 0, 0, 0, 0, 0, 0, []) := rfl
theorem i_X0_joined_105 : tab t_X0_joined 105 = some (.iload_n 1, 1, 1, 0, 0, 0, 0, 0, 0, 0, []) := rfl
theorem i_X0_joined_106 : tab t_X0_joined 106 = some (.iload_n 2, 1, 2, 0, 0, 0, 0, 0, 0, 0, []) := rfl
theorem i_X0_joined_107 : tab t_X0_joined 107 = some (.if_icmp .lt 7, 3, 114, 0, 0, 0, 0, 0, 0, 0, []) := rfl
theorem i_X0_joined_110 : tab t_X0_joined 110 = some (.iconst 1, 1, 0, 1, 0, 0, 0, 0, 0, 0, []) := rfl
theorem i_X0_joined_111 : tab t_X0_joined 111 = some (.goto 4, 3, 115, 0, 0, 0, 0, 0, 0, 0, []) := rfl
theorem i_X0_joined_114 : tab t_X0_joined 114 = some (.iconst 0, 1, 0, 0, 0, 0, 0, 0, 0, 0, []) := rfl
theorem i_X0_joined_115 : tab t_X0_joined 115 = some (.ireturn, 1, 0, 0, 0, 0, 0, 0, 0, 0, []) := rfl
theorem i_X0_joined_116 : tab t_X0_joined 116 = some (.iload_n 1, 1, 1, 0, 0, 0, 0, 0, 0, 0, []) := rfl
theorem i_X0_joined_117 : tab t_X0_joined 117 = some (.iload_n 2, 1, 2, 0, 0, 0, 0, 0, 0, 0, []) := rfl
theorem i_X0_joined_118 : tab t_X0_joined 118 = some (.if_icmp .le 7, 3, 125, 0, 0, 0, 0, 0, 0, 0, []) := rfl
theorem i_X0_joined_121 : tab t_X0_joined 121 = some (.iconst 1, 1, 0, 1, 0, 0, 0, 0, 0, 0, []) := rfl
theorem i_X0_joined_122 : tab t_X0_joined 122 = some (.goto 4, 3, 126, 0, 0, 0, 0, 0, 0, 0, []) := rfl
theorem i_X0_joined_125 : tab t_X0_joined 125 = some (.iconst 0, 1, 0, 0, 0, 0, 0, 0, 0, 0, []) := rfl
theorem i_X0_joined_126 : tab t_X0_joined 126 = some (.ireturn, 1, 0, 0, 0, 0, 0, 0, 0, 0, []) := rfl
theorem i_X0_joined_127 : tab t_X0_joined 127 = some (.iload_n 1, 1, 1, 0, 0, 0, 0, 0, 0, 0, []) := rfl
theorem i_X0_joined_128 : tab t_X0_joined 128 = some (.iload_n 2, 1, 2, 0, 0, 0, 0, 0, 0, 0, []) := rfl
theorem i_X0_joined_129 : tab t_X0_joined 129 = some (.iand, 1, 0, 0, 0, 0, 0, 0, 0, 0, []) := rfl
theorem i_X0_joined_130 : tab t_X0_joined 130 = some (.ireturn, 1, 0, 0, 0, 0, 0, 0, 0, 0, []) := rfl
theorem i_X0_joined_131 : tab t_X0_joined 131 = some (.iload_n 1, 1, 1, 0, 0, 0, 0, 0, 0, 0, []) := rfl
theorem i_X0_joined_132 : tab t_X0_joined 132 = some (.iload_n 2, 1, 2, 0, 0, 0, 0, 0, 0, 0, []) := rfl
theorem i_X0_joined_133 : tab t_X0_joined 133 = some (.ior, 1, 0, 0, 0, 0, 0, 0, 0, 0, []) := rfl
theorem i_X0_joined_134 : tab t_X0_joined 134 = some (.ireturn, 1, 0, 0, 0, 0, 0, 0, 0, 0, []) := rfl
def t_X0_keyValue : List (Nat × rw_) := [(0, (.iload_n 1, 1, 1, 0, 0, 0, 0, 0, 0, 0, [])), (1, (.lookupswitch 96 #[(1, 76), (6, 43), (8, 86), (13, 53)], 43, 97, 0, 0, 0, 0, 0, 0, 0, [(1, 77), (6, 44), (8, 87), (13, 54)])), (44, (.iconst 1, 1, 0, 1, 0, 0, 0, 0, 0, 0, [])), (45, (.aload_n 0, 1, 0, 0, 0, 0, 0, 0, 0, 0, [])), (46, (.iload_n 2, 1, 2, 0, 0, 0, 0, 0, 0, 0, [])), (47, (.bipush 6, 2, 0, 6, 0, 0, 0, 0, 0, 0, [])), (49, (.invokevirtual 125, 3, 2, 0, 0, 0, 5, 1, 0, 0, [])), (52, (.isub, 1, 0, 0, 0, 0, 0, 0, 0, 0, [])), (53, (.ireturn, 1, 0, 0, 0, 0, 0, 0, 0, 0, [])), (54, (.aload_n 0, 1, 0, 0, 0, 0, 0, 0, 0, 0, [])), (55, (.iload_n 2, 1, 2, 0, 0, 0, 0, 0, 0, 0, [])), (56, (.bipush 7, 2, 0, 7, 0, 0, 0, 0, 0, 0, [])), (58, (.invokevirtual 125, 3, 2, 0, 0, 0, 5, 1, 0, 0, [])), (61, (.ifCond .ne 8, 3, 69, 0, 0, 0, 0, 0, 0, 0, [])), (64, (.bipush 99, 2, 0, 99, 0, 0, 0, 0, 0, 0, [])), (66, (.goto 10, 3, 76, 0, 0, 0, 0, 0, 0, 0, [])), (69, (.aload_n 0, 1, 0, 0, 0, 0, 0, 0, 0, 0, [])), (70, (.iload_n 2, 1, 2, 0, 0, 0, 0, 0, 0, 0, [])), (71, (.bipush 7, 2, 0, 7, 0, 0, 0, 0, 0, 0, [])), (73, (.invokevirtual 125, 3, 2, 0, 0, 0, 5, 1, 0, 0, [])), (76, (.ireturn, 1, 0, 0, 0, 0, 0, 0, 0, 0, [])), (77, (.bipush 9, 2, 0, 9, 0, 0, 0, 0, 0, 0, [])), (79, (.aload_n 0, 1, 0, 0, 0, 0, 0, 0, 0, 0, [])), (80, (.iload_n 2, 1, 2, 0, 0, 0, 0, 0, 0, 0, [])), (81, (.iconst 1, 1, 0, 1, 0, 0, 0, 0, 0, 0, [])), (82, (.invokevirtual 125, 3, 2, 0, 0, 0, 5, 1, 0, 0, [])), (85, (.isub, 1, 0, 0, 0, 0, 0, 0, 0, 0, [])), (86, (.ireturn, 1, 0, 0, 0, 0, 0, 0, 0, 0, [])), (87, (.iconst 1, 1, 0, 1, 0, 0, 0, 0, 0, 0, [])), (88, (.aload_n 0, 1, 0, 0, 0, 0, 0, 0, 0, 0, [])), (89, (.iload_n 2, 1, 2, 0, 0, 0, 0, 0, 0, 0, [])), (90, (.bipush 8, 2, 0, 8, 0, 0, 0, 0, 0, 0, [])), (92, (.invokevirtual 125, 3, 2, 0, 0, 0, 5, 1, 0, 0, [])), (95, (.isub, 1, 0, 0, 0, 0, 0, 0, 0, 0, [])), (96, (.ireturn, 1, 0, 0, 0, 0, 0, 0, 0, 0, [])), (97, (.aload_n 0, 1, 0, 0, 0, 0, 0, 0, 0, 0, [])), (98, (.iload_n 2, 1, 2, 0, 0, 0, 0, 0, 0, 0, [])), (99, (.iload_n 1, 1, 1, 0, 0, 0, 0, 0, 0, 0, [])), (100, (.invokevirtual 125, 3, 2, 0, 0, 0, 5, 1, 0, 0, [])), (103, (.ireturn, 1, 0, 0, 0, 0, 0, 0, 0, 0, []))]
set_option maxRecDepth 100000 in
theorem ok_X0_keyValue : tb_ok ctX0 m_X0_keyValue t_X0_keyValue = true := by decide +kernel
theorem i_X0_keyValue_0 : tab t_X0_keyValue 0 = some (.iload_n 1, 1, 1, 0, 0, 0, 0, 0, 0, 0, []) := rfl
theorem i_X0_keyValue_1 : tab t_X0_keyValue 1 = some (.lookupswitch 96 #[(1, 76), (6, 43), (8, 86), (13, 53)], 43, 97, 0, 0, 0, 0, 0, 0, 0, [(1, 77), (6, 44), (8, 87), (13, 54)]) := rfl
theorem i_X0_keyValue_44 : tab t_X0_keyValue 44 = some (.iconst 1, 1, 0, 1, 0, 0, 0, 0, 0, 0, []) := rfl
theorem i_X0_keyValue_45 : tab t_X0_keyValue 45 = some (.aload_n 0, 1, 0, 0, 0, 0, 0, 0, 0, 0, []) := rfl
theorem i_X0_keyValue_46 : tab t_X0_keyValue 46 = some (.iload_n 2, 1, 2, 0, 0, 0, 0, 0, 0, 0, []) := rfl
theorem i_X0_keyValue_47 : tab t_X0_keyValue 47 = some (.bipush 6, 2, 0, 6, 0, 0, 0, 0, 0, 0, []) := rfl
theorem i_X0_keyValue_49 : tab t_X0_keyValue 49 = some (.invokevirtual 125, 3, 2, 0, 0, 0, 5, 1, 0, 0, []) := rfl
theorem i_X0_keyValue_52 : tab t_X0_keyValue 52 = some (.isub, 1, 0, 0, 0, 0, 0, 0, 0, 0, []) := rfl
theorem i_X0_keyValue_53 : tab t_X0_keyValue 53 = some (.ireturn, 1, 0, 0, 0, 0, 0, 0, 0, 0, []) := rfl
theorem i_X0_keyValue_54 : tab t_X0_keyValue 54 = some (.aload_n 0, 1, 0, 0, 0, 0, 0, 0, 0, 0, []) := rfl
theorem i_X0_keyValue_55 : tab t_X0_keyValue 55 = some (.iload_n 2, 1, 2, 0, 0, 0, 0, 0, 0, 0, []) := rfl
theorem i_X0_keyValue_56 : tab t_X0_keyValue 56 = some (.bipush 7, 2, 0, 7, 0, 0, 0, 0, 0, 0, []) := rfl
theorem i_X0_keyValue_58 : tab t_X0_keyValue 58 = some (.invokevirtual 125, 3, 2, 0, 0, 0, 5, 1, 0, 0, []) := rfl
theorem i_X0_keyValue_61 : tab t_X0_keyValue 61 = some (.ifCond .ne 8, 3, 69, 0, 0, 0, 0, 0, 0, 0, []) := rfl
theorem i_X0_keyValue_64 : tab t_X0_keyValue 64 = some (.bipush 99, 2, 0, 99, 0, 0, 0, 0, 0, 0, []) := rfl
theorem i_X0_keyValue_66 : tab t_X0_keyValue 66 = some (.goto 10, 3, 76, 0, 0, 0, 0, 0, 0, 0, []) := rfl
theorem i_X0_keyValue_69 : tab t_X0_keyValue 69 = some (.aload_n 0, 1, 0, 0, 0, 0, 0, 0, 0, 0, []) := rfl
theorem i_X0_keyValue_70 : tab t_X0_keyValue 70 = some (.iload_n 2, 1, 2, 0, 0, 0, 0, 0, 0, 0, []) := rfl
theorem i_X0_keyValue_71 : tab t_X0_keyValue 71 = some (.bipush 7, 2, 0, 7, 0, 0, 0, 0, 0, 0, []) := rfl
theorem i_X0_keyValue_73 : tab t_X0_keyValue 73 = some (.invokevirtual 125, 3, 2, 0, 0, 0, 5, 1, 0, 0, []) := rfl
theorem i_X0_keyValue_76 : tab t_X0_keyValue 76 = some (.ireturn, 1, 0, 0, 0, 0, 0, 0, 0, 0, []) := rfl
theorem i_X0_keyValue_77 : tab t_X0_keyValue 77 = some (.bipush 9, 2, 0, 9, 0, 0, 0, 0, 0, 0, []) := rfl
theorem i_X0_keyValue_79 : tab t_X0_keyValue 79 = some (.aload_n 0, 1, 0, 0, 0, 0, 0, 0, 0, 0, []) := rfl
theorem i_X0_keyValue_80 : tab t_X0_keyValue 80 = some (.iload_n 2, 1, 2, 0, 0, 0, 0, 0, 0, 0, []) := rfl
theorem i_X0_keyValue_81 : tab t_X0_keyValue 81 = some (.iconst 1, 1, 0, 1, 0, 0, 0, 0, 0, 0, []) := rfl
theorem i_X0_keyValue_82 : tab t_X0_keyValue 82 = some (.invokevirtual 125, 3, 2, 0, 0, 0, 5, 1, 0, 0, []) := rfl
theorem i_X0_keyValue_85 : tab t_X0_keyValue 85 = some (.isub, 1, 0, 0, 0, 0, 0, 0, 0, 0, []) := rfl
theorem i_X0_keyValue_86 : tab t_X0_keyValue 86 = some (.ireturn, 1, 0, 0, 0, 0, 0, 0, 0, 0, []) := rfl
theorem i_X0_keyValue_87 : tab t_X0_keyValue 87 = some (.iconst 1, 1, 0, 1, 0, 0, 0, 0, 0, 0, []) := rfl
theorem i_X0_keyValue_88 : tab t_X0_keyValue 88 = some (.aload_n 0, 1, 0, 0, 0, 0, 0, 0, 0, 0, []) := rfl
theorem i_X0_keyValue_89 : tab t_X0_keyValue 89 = some (.iload_n 2, 1, 2, 0, 0, 0, 0, 0, 0, 0, []) := rfl
theorem i_X0_keyValue_90 : tab t_X0_keyValue 90 = some (.bipush 8, 2, 0, 8, 0, 0, 0, 0, 0, 0, []) := rfl
theorem i_X0_keyValue_92 : tab t_X0_keyValue 92 = some (.invokevirtual 125, 3, 2, 0, 0, 0, 5, 1, 0, 0, []) := rfl
theorem i_X0_keyValue_95 : tab t_X0_keyValue 95 = some (.isub, 1, 0, 0, 0, 0, 0, 0, 0, 0, []) := rfl
theorem i_X0_keyValue_96 : tab t_X0_keyValue 96 = some (.ireturn, 1, 0, 0, 0, 0, 0, 0, 0, 0, []) := rfl
theorem i_X0_keyValue_97 : tab t_X0_keyValue 97 = some (.aload_n 0, 1, 0, 0, 0, 0, 0, 0, 0, 0, []) := rfl
theorem i_X0_keyValue_98 : tab t_X0_keyValue 98 = some (.iload_n 2, 1, 2, 0, 0, 0, 0, 0, 0, 0, []) := rfl
theorem i_X0_keyValue_99 : tab t_X0_keyValue 99 = some (.iload_n 1, 1, 1, 0, 0, 0, 0, 0, 0, 0, []) := rfl
theorem i_X0_keyValue_100 : tab t_X0_keyValue 100 = some (.invokevirtual 125, 3, 2, 0, 0, 0, 5, 1, 0, 0, []) := rfl
theorem i_X0_keyValue_103 : tab t_X0_keyValue 103 = some (.ireturn, 1, 0, 0, 0, 0, 0, 0, 0, 0, []) := rfl
