/-! 11: tables of class 6 -/
def t_X6_init : List (Nat × rw_) := [(0, (.aload_n 0, 1, 0, 0, 0, 0, 0, 0, 0, 0, [])), (1, (.invokespecial 3, 3, 0, 0, 0, 6, 0, 0, 0, 0, [])), (4, (.aload_n 0, 1, 0, 0, 0, 0, 0, 0, 0, 0, [])), (5, (.iconst 0, 1, 0, 0, 0, 0, 0, 0, 0, 0, [])), (6, (.putfield 9, 3, 0, 0, 0, 6, 3, 0, 0, 0, [])), (9, (.aload_n 0, 1, 0, 0, 0, 0, 0, 0, 0, 0, [])), (10, (.iconst 1, 1, 0, 1, 0, 0, 0, 0, 0, 0, [])), (11, (.iload_n 1, 1, 1, 0, 0, 0, 0, 0, 0, 0, [])), (12, (.invokestatic 15, 3, 0, 0, 0, 7, 0, 0, 0, 0, [])), (15, (.putfield 21, 3, 0, 0, 0, 6, 0, 1, 0, 0, [])), (18, (.aload_n 0, 1, 0, 0, 0, 0, 0, 0, 0, 0, [])), (19, (.iconst 0, 1, 0, 0, 0, 0, 0, 0, 0, 0, [])), (20, (.iload_n 2, 1, 2, 0, 0, 0, 0, 0, 0, 0, [])), (21, (.invokestatic 15, 3, 0, 0, 0, 7, 0, 0, 0, 0, [])), (24, (.putfield 24, 3, 0, 0, 0, 6, 1, 1, 0, 0, [])), (27, (.aload_n 0, 1, 0, 0, 0, 0, 0, 0, 0, 0, [])), (28, (.aload_n 0, 1, 0, 0, 0, 0, 0, 0, 0, 0, [])), (29, (.getfield 21, 3, 0, 0, 0, 6, 0, 0, 0, 0, [])), (32, (.aload_n 0, 1, 0, 0, 0, 0, 0, 0, 0, 0, [])), (33, (.getfield 24, 3, 0, 0, 0, 6, 1, 0, 0, 0, [])), (36, (.imul, 1, 0, 0, 0, 0, 0, 0, 0, 0, [])), (37, (.newarray .int, 2, 0, 0, 0, 0, 0, 0, 0, 0, [])), (39, (.putfield 27, 3, 2, 0, 0, 6, 2, 1, 0, 0, [])), (42, (.return_, 1, 0, 0, 0, 0, 0, 0, 0, 0, []))]
set_option maxRecDepth 100000 in
theorem ok_X6_init : tb_ok ctX6 m_X6_init t_X6_init = true := by decide +kernel
theorem i_X6_init_0 : tab t_X6_init 0 = some (.aload_n 0, 1, 0, 0, 0, 0, 0, 0, 0, 0, []) := rfl
theorem i_X6_init_1 : tab t_X6_init 1 = some (.invokespecial 3, 3, 0, 0, 0, 6, 0, 0, 0, 0, []) := rfl
theorem i_X6_init_4 : tab t_X6_init 4 = some (.aload_n 0, 1, 0, 0, 0, 0, 0, 0, 0, 0, []) := rfl
theorem i_X6_init_5 : tab t_X6_init 5 = some (.iconst 0, 1, 0, 0, 0, 0, 0, 0, 0, 0, []) := rfl
theorem i_X6_init_6 : tab t_X6_init 6 = some (.putfield 9, 3, 0, 0, 0, 6, 3, 0, 0, 0, []) := rfl
theorem i_X6_init_9 : tab t_X6_init 9 = some (.aload_n 0, 1, 0, 0, 0, 0, 0, 0, 0, 0, []) := rfl
theorem i_X6_init_10 : tab t_X6_init 10 = some (.iconst 1, 1, 0, 1, 0, 0, 0, 0, 0, 0, []) := rfl
theorem i_X6_init_11 : tab t_X6_init 11 = some (.iload_n 1, 1, 1, 0, 0, 0, 0, 0, 0, 0, []) := rfl
theorem i_X6_init_12 : tab t_X6_init 12 = some (.invokestatic 15, 3, 0, 0, 0, 7, 0, 0, 0, 0, []) := rfl
theorem i_X6_init_15 : tab t_X6_init 15 = some (.putfield 21, 3, 0, 0, 0, 6, 0, 1, 0, 0, []) := rfl
theorem i_X6_init_18 : tab t_X6_init 18 = some (.aload_n 0, 1, 0, 0, 0, 0, 0, 0, 0, 0, []) := rfl
theorem i_X6_init_19 : tab t_X6_init 19 = some (.iconst 0, 1, 0, 0, 0, 0, 0, 0, 0, 0, []) := rfl
theorem i_X6_init_20 : tab t_X6_init 20 = some (.iload_n 2, 1, 2, 0, 0, 0, 0, 0, 0, 0, []) := rfl
theorem i_X6_init_21 : tab t_X6_init 21 = some (.invokestatic 15, 3, 0, 0, 0, 7, 0, 0, 0, 0, []) := rfl
theorem i_X6_init_24 : tab t_X6_init 24 = some (.putfield 24, 3, 0, 0, 0, 6, 1, 1, 0, 0, []) := rfl
theorem i_X6_init_27 : tab t_X6_init 27 = some (.aload_n 0, 1, 0, 0, 0, 0, 0, 0, 0, 0, []) := rfl
theorem i_X6_init_28 : tab t_X6_init 28 = some (.aload_n 0, 1, 0, 0, 0, 0, 0, 0, 0, 0, []) := rfl
theorem i_X6_init_29 : tab t_X6_init 29 = some (.getfield 21, 3, 0, 0, 0, 6, 0, 0, 0, 0, []) := rfl
theorem i_X6_init_32 : tab t_X6_init 32 = some (.aload_n 0, 1, 0, 0, 0, 0, 0, 0, 0, 0, []) := rfl
theorem i_X6_init_33 : tab t_X6_init 33 = some (.getfield 24, 3, 0, 0, 0, 6, 1, 0, 0, 0, []) := rfl
theorem i_X6_init_36 : tab t_X6_init 36 = some (.imul, 1, 0, 0, 0, 0, 0, 0, 0, 0, []) := rfl
theorem i_X6_init_37 : tab t_X6_init 37 = some (.newarray .int, 2, 0, 0, 0, 0, 0, 0, 0, 0, []) := rfl
theorem i_X6_init_39 : tab t_X6_init 39 = some (.putfield 27, 3, 2, 0, 0, 6, 2, 1, 0, 0, []) := rfl
theorem i_X6_init_42 : tab t_X6_init 42 = some (.return_, 1, 0, 0, 0, 0, 0, 0, 0, 0, []) := rfl
def t_X6_has : List (Nat × rw_) := [(0, (.iload_n 1, 1, 1, 0, 0, 0, 0, 0, 0, 0, [])), (1, (.ifCond .lt 15, 3, 16, 0, 0, 0, 0, 0, 0, 0, [])), (4, (.iload_n 1, 1, 1, 0, 0, 0, 0, 0, 0, 0, [])), (5, (.aload_n 0, 1, 0, 0, 0, 0, 0, 0, 0, 0, [])), (6, (.getfield 9, 3, 0, 0, 0, 6, 3, 0, 0, 0, [])), (9, (.if_icmp .ge 7, 3, 16, 0, 0, 0, 0, 0, 0, 0, [])), (12, (.iconst 1, 1, 0, 1, 0, 0, 0, 0, 0, 0, [])), (13, (.goto 4, 3, 17, 0, 0, 0, 0, 0, 0, 0, [])), (16, (.iconst 0, 1, 0, 0, 0, 0, 0, 0, 0, 0, [])), (17, (.ireturn, 1, 0, 0, 0, 1, 0, 0, 0, 0, []))]
set_option maxRecDepth 100000 in
theorem ok_X6_has : tb_ok ctX6 m_X6_has t_X6_has = true := by decide +kernel
theorem i_X6_has_0 : tab t_X6_has 0 = some (.iload_n 1, 1, 1, 0, 0, 0, 0, 0, 0, 0, []) := rfl
theorem i_X6_has_1 : tab t_X6_has 1 = some (.ifCond .lt 15, 3, 16, 0, 0, 0, 0, 0, 0, 0, []) := rfl
theorem i_X6_has_4 : tab t_X6_has 4 = some (.iload_n 1, 1, 1, 0, 0, 0, 0, 0, 0, 0, []) := rfl
theorem i_X6_has_5 : tab t_X6_has 5 = some (.aload_n 0, 1, 0, 0, 0, 0, 0, 0, 0, 0, []) := rfl
theorem i_X6_has_6 : tab t_X6_has 6 = some (.getfield 9, 3, 0, 0, 0, 6, 3, 0, 0, 0, []) := rfl
theorem i_X6_has_9 : tab t_X6_has 9 = some (.if_icmp .ge 7, 3, 16, 0, 0, 0, 0, 0, 0, 0, []) := rfl
theorem i_X6_has_12 : tab t_X6_has 12 = some (.iconst 1, 1, 0, 1, 0, 0, 0, 0, 0, 0, []) := rfl
theorem i_X6_has_13 : tab t_X6_has 13 = some (.goto 4, 3, 17, 0, 0, 0, 0, 0, 0, 0, []) := rfl
theorem i_X6_has_16 : tab t_X6_has 16 = some (.iconst 0, 1, 0, 0, 0, 0, 0, 0, 0, 0, []) := rfl
theorem i_X6_has_17 : tab t_X6_has 17 = some (.ireturn, 1, 0, 0, 0, 1, 0, 0, 0, 0, []) := rfl
def t_X6_get : List (Nat × rw_) := [(0, (.iload_n 1, 1, 1, 0, 0, 0, 0, 0, 0, 0, [])), (1, (.ifCond .lt 23, 3, 24, 0, 0, 0, 0, 0, 0, 0, [])), (4, (.iload_n 1, 1, 1, 0, 0, 0, 0, 0, 0, 0, [])), (5, (.aload_n 0, 1, 0, 0, 0, 0, 0, 0, 0, 0, [])), (6, (.getfield 9, 3, 0, 0, 0, 6, 3, 0, 0, 0, [])), (9, (.if_icmp .ge 15, 3, 24, 0, 0, 0, 0, 0, 0, 0, [])), (12, (.iload_n 2, 1, 2, 0, 0, 0, 0, 0, 0, 0, [])), (13, (.ifCond .lt 11, 3, 24, 0, 0, 0, 0, 0, 0, 0, [])), (16, (.iload_n 2, 1, 2, 0, 0, 0, 0, 0, 0, 0, [])), (17, (.aload_n 0, 1, 0, 0, 0, 0, 0, 0, 0, 0, [])), (18, (.getfield 21, 3, 0, 0, 0, 6, 0, 0, 0, 0, [])), (21, (.if_icmp .lt 5, 3, 26, 0, 0, 0, 0, 0, 0, 0, [])), (24, (.iconst (-1), 1, 0, -1, 0, 0, 0, 0, 0, 0, [])), (25, (.ireturn, 1, 0, 0, 0, 0, 0, 0, 0, 0, [])), (26, (.aload_n 0, 1, 0, 0, 0, 0, 0, 0, 0, 0, [])), (27, (.getfield 27, 3, 2, 0, 0, 6, 2, 0, 0, 0, [])), (30, (.iload_n 1, 1, 1, 0, 0, 0, 0, 0, 0, 0, [])), (31, (.aload_n 0, 1, 0, 0, 0, 0, 0, 0, 0, 0, [])), (32, (.getfield 21, 3, 0, 0, 0, 6, 0, 0, 0, 0, [])), (35, (.imul, 1, 0, 0, 0, 0, 0, 0, 0, 0, [])), (36, (.iload_n 2, 1, 2, 0, 0, 0, 0, 0, 0, 0, [])), (37, (.iadd, 1, 0, 0, 0, 0, 0, 0, 0, 0, [])), (38, (.iaload, 1, 0, 0, 0, 0, 0, 0, 0, 0, [])), (39, (.ireturn, 1, 0, 0, 0, 0, 0, 0, 0, 0, []))]
set_option maxRecDepth 100000 in
theorem ok_X6_get : tb_ok ctX6 m_X6_get t_X6_get = true := by decide +kernel
theorem i_X6_get_0 : tab t_X6_get 0 = some (.iload_n 1, 1, 1, 0, 0, 0, 0, 0, 0, 0, []) := rfl
theorem i_X6_get_1 : tab t_X6_get 1 = some (.ifCond .lt 23, 3, 24, 0, 0, 0, 0, 0, 0, 0, []) := rfl
theorem i_X6_get_4 : tab t_X6_get 4 = some (.iload_n 1, 1, 1, 0, 0, 0, 0, 0, 0, 0, []) := rfl
theorem i_X6_get_5 : tab t_X6_get 5 = some (.aload_n 0, 1, 0, 0, 0, 0, 0, 0, 0, 0, []) := rfl
theorem i_X6_get_6 : tab t_X6_get 6 = some (.getfield 9, 3, 0, 0, 0, 6, 3, 0, 0, 0, []) := rfl
theorem i_X6_get_9 : tab t_X6_get 9 = some (.if_icmp .ge 15, 3, 24, 0, 0, 0, 0, 0, 0, 0, []) := rfl
theorem i_X6_get_12 : tab t_X6_get 12 = some (.iload_n 2, 1, 2, 0, 0, 0, 0, 0, 0, 0, []) := rfl
theorem i_X6_get_13 : tab t_X6_get 13 = some (.ifCond .lt 11, 3, 24, 0, 0, 0, 0, 0, 0, 0, []) := rfl
theorem i_X6_get_16 : tab t_X6_get 16 = some (.iload_n 2, 1, 2, 0, 0, 0, 0, 0, 0, 0, []) := rfl
theorem i_X6_get_17 : tab t_X6_get 17 = some (.aload_n 0, 1, 0, 0, 0, 0, 0, 0, 0, 0, []) := rfl
theorem i_X6_get_18 : tab t_X6_get 18 = some (.getfield 21, 3, 0, 0, 0, 6, 0, 0, 0, 0, []) := rfl
theorem i_X6_get_21 : tab t_X6_get 21 = some (.if_icmp .lt 5, 3, 26, 0, 0, 0, 0, 0, 0, 0, []) := rfl
theorem i_X6_get_24 : tab t_X6_get 24 = some (.iconst (-1), 1, 0, -1, 0, 0, 0, 0, 0, 0, []) := rfl
theorem i_X6_get_25 : tab t_X6_get 25 = some (.ireturn, 1, 0, 0, 0, 0, 0, 0, 0, 0, []) := rfl
theorem i_X6_get_26 : tab t_X6_get 26 = some (.aload_n 0, 1, 0, 0, 0, 0, 0, 0, 0, 0, []) := rfl
theorem i_X6_get_27 : tab t_X6_get 27 = some (.getfield 27, 3, 2, 0, 0, 6, 2, 0, 0, 0, []) := rfl
theorem i_X6_get_30 : tab t_X6_get 30 = some (.iload_n 1, 1, 1, 0, 0, 0, 0, 0, 0, 0, []) := rfl
theorem i_X6_get_31 : tab t_X6_get 31 = some (.aload_n 0, 1, 0, 0, 0, 0, 0, 0, 0, 0, []) := rfl
theorem i_X6_get_32 : tab t_X6_get 32 = some (.getfield 21, 3, 0, 0, 0, 6, 0, 0, 0, 0, []) := rfl
theorem i_X6_get_35 : tab t_X6_get 35 = some (.imul, 1, 0, 0, 0, 0, 0, 0, 0, 0, []) := rfl
theorem i_X6_get_36 : tab t_X6_get 36 = some (.iload_n 2, 1, 2, 0, 0, 0, 0, 0, 0, 0, []) := rfl
theorem i_X6_get_37 : tab t_X6_get 37 = some (.iadd, 1, 0, 0, 0, 0, 0, 0, 0, 0, []) := rfl
theorem i_X6_get_38 : tab t_X6_get 38 = some (.iaload, 1, 0, 0, 0, 0, 0, 0, 0, 0, []) := rfl
theorem i_X6_get_39 : tab t_X6_get 39 = some (.ireturn, 1, 0, 0, 0, 0, 0, 0, 0, 0, []) := rfl
def t_X6_set : List (Nat × rw_) := [(0, (.iload_n 1, 1, 1, 0, 0, 0, 0, 0, 0, 0, [])), (1, (.ifCond .lt 37, 3, 38, 0, 0, 0, 0, 0, 0, 0, [])), (4, (.iload_n 1, 1, 1, 0, 0, 0, 0, 0, 0, 0, [])), (5, (.aload_n 0, 1, 0, 0, 0, 0, 0, 0, 0, 0, [])), (6, (.getfield 9, 3, 0, 0, 0, 6, 3, 0, 0, 0, [])), (9, (.if_icmp .ge 29, 3, 38, 0, 0, 0, 0, 0, 0, 0, [])), (12, (.iload_n 2, 1, 2, 0, 0, 0, 0, 0, 0, 0, [])), (13, (.ifCond .lt 25, 3, 38, 0, 0, 0, 0, 0, 0, 0, [])), (16, (.iload_n 2, 1, 2, 0, 0, 0, 0, 0, 0, 0, [])), (17, (.aload_n 0, 1, 0, 0, 0, 0, 0, 0, 0, 0, [])), (18, (.getfield 21, 3, 0, 0, 0, 6, 0, 0, 0, 0, [])), (21, (.if_icmp .ge 17, 3, 38, 0, 0, 0, 0, 0, 0, 0, [])), (24, (.aload_n 0, 1, 0, 0, 0, 0, 0, 0, 0, 0, [])), (25, (.getfield 27, 3, 2, 0, 0, 6, 2, 0, 0, 0, [])), (28, (.iload_n 1, 1, 1, 0, 0, 0, 0, 0, 0, 0, [])), (29, (.aload_n 0, 1, 0, 0, 0, 0, 0, 0, 0, 0, [])), (30, (.getfield 21, 3, 0, 0, 0, 6, 0, 0, 0, 0, [])), (33, (.imul, 1, 0, 0, 0, 0, 0, 0, 0, 0, [])), (34, (.iload_n 2, 1, 2, 0, 0, 0, 0, 0, 0, 0, [])), (35, (.iadd, 1, 0, 0, 0, 0, 0, 0, 0, 0, [])), (36, (.iload_n 3, 1, 3, 0, 0, 0, 0, 0, 0, 0, [])), (37, (.iastore, 1, 0, 0, 0, 0, 0, 0, 0, 0, [])), (38, (.return_, 1, 0, 0, 0, 0, 0, 0, 0, 0, []))]
set_option maxRecDepth 100000 in
theorem ok_X6_set : tb_ok ctX6 m_X6_set t_X6_set = true := by decide +kernel
theorem i_X6_set_0 : tab t_X6_set 0 = some (.iload_n 1, 1, 1, 0, 0, 0, 0, 0, 0, 0, []) := rfl
theorem i_X6_set_1 : tab t_X6_set 1 = some (.ifCond .lt 37, 3, 38, 0, 0, 0, 0, 0, 0, 0, []) := rfl
theorem i_X6_set_4 : tab t_X6_set 4 = some (.iload_n 1, 1, 1, 0, 0, 0, 0, 0, 0, 0, []) := rfl
theorem i_X6_set_5 : tab t_X6_set 5 = some (.aload_n 0, 1, 0, 0, 0, 0, 0, 0, 0, 0, []) := rfl
theorem i_X6_set_6 : tab t_X6_set 6 = some (.getfield 9, 3, 0, 0, 0, 6, 3, 0, 0, 0, []) := rfl
theorem i_X6_set_9 : tab t_X6_set 9 = some (.if_icmp .ge 29, 3, 38, 0, 0, 0, 0, 0, 0, 0, []) := rfl
theorem i_X6_set_12 : tab t_X6_set 12 = some (.iload_n 2, 1, 2, 0, 0, 0, 0, 0, 0, 0, []) := rfl
theorem i_X6_set_13 : tab t_X6_set 13 = some (.ifCond .lt 25, 3, 38, 0, 0, 0, 0, 0, 0, 0, []) := rfl
theorem i_X6_set_16 : tab t_X6_set 16 = some (.iload_n 2, 1, 2, 0, 0, 0, 0, 0, 0, 0, []) := rfl
theorem i_X6_set_17 : tab t_X6_set 17 = some (.aload_n 0, 1, 0, 0, 0, 0, 0, 0, 0, 0, []) := rfl
theorem i_X6_set_18 : tab t_X6_set 18 = some (.getfield 21, 3, 0, 0, 0, 6, 0, 0, 0, 0, []) := rfl
theorem i_X6_set_21 : tab t_X6_set 21 = some (.if_icmp .ge 17, 3, 38, 0, 0, 0, 0, 0, 0, 0, []) := rfl
theorem i_X6_set_24 : tab t_X6_set 24 = some (.aload_n 0, 1, 0, 0, 0, 0, 0, 0, 0, 0, []) := rfl
theorem i_X6_set_25 : tab t_X6_set 25 = some (.getfield 27, 3, 2, 0, 0, 6, 2, 0, 0, 0, []) := rfl
theorem i_X6_set_28 : tab t_X6_set 28 = some (.iload_n 1, 1, 1, 0, 0, 0, 0, 0, 0, 0, []) := rfl
theorem i_X6_set_29 : tab t_X6_set 29 = some (.aload_n 0, 1, 0, 0, 0, 0, 0, 0, 0, 0, []) := rfl
theorem i_X6_set_30 : tab t_X6_set 30 = some (.getfield 21, 3, 0, 0, 0, 6, 0, 0, 0, 0, []) := rfl
theorem i_X6_set_33 : tab t_X6_set 33 = some (.imul, 1, 0, 0, 0, 0, 0, 0, 0, 0, []) := rfl
theorem i_X6_set_34 : tab t_X6_set 34 = some (.iload_n 2, 1, 2, 0, 0, 0, 0, 0, 0, 0, []) := rfl
theorem i_X6_set_35 : tab t_X6_set 35 = some (.iadd, 1, 0, 0, 0, 0, 0, 0, 0, 0, []) := rfl
theorem i_X6_set_36 : tab t_X6_set 36 = some (.iload_n 3, 1, 3, 0, 0, 0, 0, 0, 0, 0, []) := rfl
theorem i_X6_set_37 : tab t_X6_set 37 = some (.iastore, 1, 0, 0, 0, 0, 0, 0, 0, 0, []) := rfl
theorem i_X6_set_38 : tab t_X6_set 38 = some (.return_, 1, 0, 0, 0, 0, 0, 0, 0, 0, []) := rfl
def t_X6_open : List (Nat × rw_) := [(0, (.aload_n 0, 1, 0, 0, 0, 0, 0, 0, 0, 0, [])), (1, (.getfield 9, 3, 0, 0, 0, 6, 3, 0, 0, 0, [])), (4, (.aload_n 0, 1, 0, 0, 0, 0, 0, 0, 0, 0, [])), (5, (.getfield 24, 3, 0, 0, 0, 6, 1, 0, 0, 0, [])), (8, (.if_icmp .lt 5, 3, 13, 0, 0, 0, 0, 0, 0, 0, [])), (11, (.iconst (-1), 1, 0, -1, 0, 0, 0, 0, 0, 0, [])), (12, (.ireturn, 1, 0, 0, 0, 0, 0, 0, 0, 0, [])), (13, (.aload_n 0, 1, 0, 0, 0, 0, 0, 0, 0, 0, [])), (14, (.dup, 1, 0, 0, 0, 0, 0, 0, 0, 0, [])), (15, (.getfield 9, 3, 0, 0, 0, 6, 3, 0, 0, 0, [])), (18, (.iconst 1, 1, 0, 1, 0, 0, 0, 0, 0, 0, [])), (19, (.iadd, 1, 0, 0, 0, 0, 0, 0, 0, 0, [])), (20, (.putfield 9, 3, 0, 0, 0, 6, 3, 0, 0, 0, [])), (23, (.aload_n 0, 1, 0, 0, 0, 0, 0, 0, 0, 0, [])), (24, (.getfield 9, 3, 0, 0, 0, 6, 3, 0, 0, 0, [])), (27, (.iconst 1, 1, 0, 1, 0, 0, 0, 0, 0, 0, [])), (28, (.isub, 1, 0, 0, 0, 0, 0, 0, 0, 0, [])), (29, (.ireturn, 1, 0, 0, 0, 0, 0, 0, 0, 0, []))]
set_option maxRecDepth 100000 in
theorem ok_X6_open : tb_ok ctX6 m_X6_open t_X6_open = true := by decide +kernel
theorem i_X6_open_0 : tab t_X6_open 0 = some (.aload_n 0, 1, 0, 0, 0, 0, 0, 0, 0, 0, []) := rfl
theorem i_X6_open_1 : tab t_X6_open 1 = some (.getfield 9, 3, 0, 0, 0, 6, 3, 0, 0, 0, []) := rfl
theorem i_X6_open_4 : tab t_X6_open 4 = some (.aload_n 0, 1, 0, 0, 0, 0, 0, 0, 0, 0, []) := rfl
theorem i_X6_open_5 : tab t_X6_open 5 = some (.getfield 24, 3, 0, 0, 0, 6, 1, 0, 0, 0, []) := rfl
theorem i_X6_open_8 : tab t_X6_open 8 = some (.if_icmp .lt 5, 3, 13, 0, 0, 0, 0, 0, 0, 0, []) := rfl
theorem i_X6_open_11 : tab t_X6_open 11 = some (.iconst (-1), 1, 0, -1, 0, 0, 0, 0, 0, 0, []) := rfl
theorem i_X6_open_12 : tab t_X6_open 12 = some (.ireturn, 1, 0, 0, 0, 0, 0, 0, 0, 0, []) := rfl
theorem i_X6_open_13 : tab t_X6_open 13 = some (.aload_n 0, 1, 0, 0, 0, 0, 0, 0, 0, 0, []) := rfl
theorem i_X6_open_14 : tab t_X6_open 14 = some (.dup, 1, 0, 0, 0, 0, 0, 0, 0, 0, []) := rfl
theorem i_X6_open_15 : tab t_X6_open 15 = some (.getfield 9, 3, 0, 0, 0, 6, 3, 0, 0, 0, []) := rfl
theorem i_X6_open_18 : tab t_X6_open 18 = some (.iconst 1, 1, 0, 1, 0, 0, 0, 0, 0, 0, []) := rfl
theorem i_X6_open_19 : tab t_X6_open 19 = some (.iadd, 1, 0, 0, 0, 0, 0, 0, 0, 0, []) := rfl
theorem i_X6_open_20 : tab t_X6_open 20 = some (.putfield 9, 3, 0, 0, 0, 6, 3, 0, 0, 0, []) := rfl
theorem i_X6_open_23 : tab t_X6_open 23 = some (.aload_n 0, 1, 0, 0, 0, 0, 0, 0, 0, 0, []) := rfl
theorem i_X6_open_24 : tab t_X6_open 24 = some (.getfield 9, 3, 0, 0, 0, 6, 3, 0, 0, 0, []) := rfl
theorem i_X6_open_27 : tab t_X6_open 27 = some (.iconst 1, 1, 0, 1, 0, 0, 0, 0, 0, 0, []) := rfl
theorem i_X6_open_28 : tab t_X6_open 28 = some (.isub, 1, 0, 0, 0, 0, 0, 0, 0, 0, []) := rfl
theorem i_X6_open_29 : tab t_X6_open 29 = some (.ireturn, 1, 0, 0, 0, 0, 0, 0, 0, 0, []) := rfl
