/-! 11: tables of class 2 -/
def t_X2_init : List (Nat × rw_) := [(0, (.aload_n 0, 1, 0, 0, 0, 0, 0, 0, 0, 0, [])), (1, (.invokespecial 1, 3, 0, 0, 0, 6, 0, 0, 0, 0, [])), (4, (.aload_n 0, 1, 0, 0, 0, 0, 0, 0, 0, 0, [])), (5, (.aload_n 1, 1, 1, 0, 0, 0, 0, 0, 0, 0, [])), (6, (.getfield 7, 3, 2, 0, 0, 3, 7, 0, 0, 0, [])), (9, (.aload_n 1, 1, 1, 0, 0, 0, 0, 0, 0, 0, [])), (10, (.getfield 13, 3, 0, 0, 0, 3, 11, 0, 0, 0, [])), (13, (.invokestatic 17, 3, 2, 0, 0, 0, 242, 0, 1, 400, [])), (16, (.putfield 23, 3, 2, 0, 0, 2, 0, 1, 0, 0, [])), (19, (.aload_n 0, 1, 0, 0, 0, 0, 0, 0, 0, 0, [])), (20, (.aload_n 1, 1, 1, 0, 0, 0, 0, 0, 0, 0, [])), (21, (.getfield 28, 3, 2, 0, 0, 3, 8, 0, 0, 0, [])), (24, (.aload_n 1, 1, 1, 0, 0, 0, 0, 0, 0, 0, [])), (25, (.getfield 13, 3, 0, 0, 0, 3, 11, 0, 0, 0, [])), (28, (.invokestatic 17, 3, 2, 0, 0, 0, 242, 0, 1, 400, [])), (31, (.putfield 31, 3, 2, 0, 0, 2, 1, 1, 0, 0, [])), (34, (.aload_n 0, 1, 0, 0, 0, 0, 0, 0, 0, 0, [])), (35, (.aload_n 1, 1, 1, 0, 0, 0, 0, 0, 0, 0, [])), (36, (.getfield 34, 3, 2, 0, 0, 3, 9, 0, 0, 0, [])), (39, (.aload_n 1, 1, 1, 0, 0, 0, 0, 0, 0, 0, [])), (40, (.getfield 13, 3, 0, 0, 0, 3, 11, 0, 0, 0, [])), (43, (.invokestatic 17, 3, 2, 0, 0, 0, 242, 0, 1, 400, [])), (46, (.putfield 37, 3, 2, 0, 0, 2, 2, 1, 0, 0, [])), (49, (.aload_n 0, 1, 0, 0, 0, 0, 0, 0, 0, 0, [])), (50, (.aload_n 1, 1, 1, 0, 0, 0, 0, 0, 0, 0, [])), (51, (.getfield 40, 3, 2, 0, 0, 3, 10, 0, 0, 0, [])), (54, (.aload_n 1, 1, 1, 0, 0, 0, 0, 0, 0, 0, [])), (55, (.getfield 13, 3, 0, 0, 0, 3, 11, 0, 0, 0, [])), (58, (.invokestatic 17, 3, 2, 0, 0, 0, 242, 0, 1, 400, [])), (61, (.putfield 43, 3, 2, 0, 0, 2, 3, 1, 0, 0, [])), (64, (.aload_n 0, 1, 0, 0, 0, 0, 0, 0, 0, 0, [])), (65, (.aload_n 1, 1, 1, 0, 0, 0, 0, 0, 0, 0, [])), (66, (.getfield 46, 3, 2, 0, 0, 3, 12, 0, 0, 0, [])), (69, (.aload_n 1, 1, 1, 0, 0, 0, 0, 0, 0, 0, [])), (70, (.getfield 49, 3, 0, 0, 0, 3, 13, 0, 0, 0, [])), (73, (.invokestatic 17, 3, 2, 0, 0, 0, 242, 0, 1, 400, [])), (76, (.putfield 52, 3, 2, 0, 0, 2, 4, 1, 0, 0, [])), (79, (.return_, 1, 0, 0, 0, 0, 0, 0, 0, 0, []))]
set_option maxRecDepth 100000 in
theorem ok_X2_init : tb_ok ctX2 m_X2_init t_X2_init = true := by decide +kernel
theorem i_X2_init_0 : tab t_X2_init 0 = some (.aload_n 0, 1, 0, 0, 0, 0, 0, 0, 0, 0, []) := rfl
theorem i_X2_init_1 : tab t_X2_init 1 = some (.invokespecial 1, 3, 0, 0, 0, 6, 0, 0, 0, 0, []) := rfl
theorem i_X2_init_4 : tab t_X2_init 4 = some (.aload_n 0, 1, 0, 0, 0, 0, 0, 0, 0, 0, []) := rfl
theorem i_X2_init_5 : tab t_X2_init 5 = some (.aload_n 1, 1, 1, 0, 0, 0, 0, 0, 0, 0, []) := rfl
theorem i_X2_init_6 : tab t_X2_init 6 = some (.getfield 7, 3, 2, 0, 0, 3, 7, 0, 0, 0, []) := rfl
theorem i_X2_init_9 : tab t_X2_init 9 = some (.aload_n 1, 1, 1, 0, 0, 0, 0, 0, 0, 0, []) := rfl
theorem i_X2_init_10 : tab t_X2_init 10 = some (.getfield 13, 3, 0, 0, 0, 3, 11, 0, 0, 0, []) := rfl
theorem i_X2_init_13 : tab t_X2_init 13 = some (.invokestatic 17, 3, 2, 0, 0, 0, 242, 0, 1, 400, []) := rfl
theorem i_X2_init_16 : tab t_X2_init 16 = some (.putfield 23, 3, 2, 0, 0, 2, 0, 1, 0, 0, []) := rfl
theorem i_X2_init_19 : tab t_X2_init 19 = some (.aload_n 0, 1, 0, 0, 0, 0, 0, 0, 0, 0, []) := rfl
theorem i_X2_init_20 : tab t_X2_init 20 = some (.aload_n 1, 1, 1, 0, 0, 0, 0, 0, 0, 0, []) := rfl
theorem i_X2_init_21 : tab t_X2_init 21 = some (.getfield 28, 3, 2, 0, 0, 3, 8, 0, 0, 0, []) := rfl
theorem i_X2_init_24 : tab t_X2_init 24 = some (.aload_n 1, 1, 1, 0, 0, 0, 0, 0, 0, 0, []) := rfl
theorem i_X2_init_25 : tab t_X2_init 25 = some (.getfield 13, 3, 0, 0, 0, 3, 11, 0, 0, 0, []) := rfl
theorem i_X2_init_28 : tab t_X2_init 28 = some (.invokestatic 17, 3, 2, 0, 0, 0, 242, 0, 1, 400, []) := rfl
theorem i_X2_init_31 : tab t_X2_init 31 = some (.putfield 31, 3, 2, 0, 0, 2, 1, 1, 0, 0, []) := rfl
theorem i_X2_init_34 : tab t_X2_init 34 = some (.aload_n 0, 1, 0, 0, 0, 0, 0, 0, 0, 0, []) := rfl
theorem i_X2_init_35 : tab t_X2_init 35 = some (.aload_n 1, 1, 1, 0, 0, 0, 0, 0, 0, 0, []) := rfl
theorem i_X2_init_36 : tab t_X2_init 36 = some (.getfield 34, 3, 2, 0, 0, 3, 9, 0, 0, 0, []) := rfl
theorem i_X2_init_39 : tab t_X2_init 39 = some (.aload_n 1, 1, 1, 0, 0, 0, 0, 0, 0, 0, []) := rfl
theorem i_X2_init_40 : tab t_X2_init 40 = some (.getfield 13, 3, 0, 0, 0, 3, 11, 0, 0, 0, []) := rfl
theorem i_X2_init_43 : tab t_X2_init 43 = some (.invokestatic 17, 3, 2, 0, 0, 0, 242, 0, 1, 400, []) := rfl
theorem i_X2_init_46 : tab t_X2_init 46 = some (.putfield 37, 3, 2, 0, 0, 2, 2, 1, 0, 0, []) := rfl
theorem i_X2_init_49 : tab t_X2_init 49 = some (.aload_n 0, 1, 0, 0, 0, 0, 0, 0, 0, 0, []) := rfl
theorem i_X2_init_50 : tab t_X2_init 50 = some (.aload_n 1, 1, 1, 0, 0, 0, 0, 0, 0, 0, []) := rfl
theorem i_X2_init_51 : tab t_X2_init 51 = some (.getfield 40, 3, 2, 0, 0, 3, 10, 0, 0, 0, []) := rfl
theorem i_X2_init_54 : tab t_X2_init 54 = some (.aload_n 1, 1, 1, 0, 0, 0, 0, 0, 0, 0, []) := rfl
theorem i_X2_init_55 : tab t_X2_init 55 = some (.getfield 13, 3, 0, 0, 0, 3, 11, 0, 0, 0, []) := rfl
theorem i_X2_init_58 : tab t_X2_init 58 = some (.invokestatic 17, 3, 2, 0, 0, 0, 242, 0, 1, 400, []) := rfl
theorem i_X2_init_61 : tab t_X2_init 61 = some (.putfield 43, 3, 2, 0, 0, 2, 3, 1, 0, 0, []) := rfl
theorem i_X2_init_64 : tab t_X2_init 64 = some (.aload_n 0, 1, 0, 0, 0, 0, 0, 0, 0, 0, []) := rfl
theorem i_X2_init_65 : tab t_X2_init 65 = some (.aload_n 1, 1, 1, 0, 0, 0, 0, 0, 0, 0, []) := rfl
theorem i_X2_init_66 : tab t_X2_init 66 = some (.getfield 46, 3, 2, 0, 0, 3, 12, 0, 0, 0, []) := rfl
theorem i_X2_init_69 : tab t_X2_init 69 = some (.aload_n 1, 1, 1, 0, 0, 0, 0, 0, 0, 0, []) := rfl
theorem i_X2_init_70 : tab t_X2_init 70 = some (.getfield 49, 3, 0, 0, 0, 3, 13, 0, 0, 0, []) := rfl
theorem i_X2_init_73 : tab t_X2_init 73 = some (.invokestatic 17, 3, 2, 0, 0, 0, 242, 0, 1, 400, []) := rfl
theorem i_X2_init_76 : tab t_X2_init 76 = some (.putfield 52, 3, 2, 0, 0, 2, 4, 1, 0, 0, []) := rfl
theorem i_X2_init_79 : tab t_X2_init 79 = some (.return_, 1, 0, 0, 0, 0, 0, 0, 0, 0, []) := rfl
