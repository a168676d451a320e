/-! 34: how many bits; what the reference keeps -/
/-- the bits of x below n -/
def pcn (x : Int32) : Nat → Nat
  | 0 => 0
  | n + 1 => pcn x n + (if tb x n then 1 else 0)
def ncb (N : Nat) : Nat → Nat
  | 0 => 0
  | n + 1 => ncb N n + (if N.testBit n then 1 else 0)
theorem pcn_ncb (x : Int32) : ∀ n, pcn x n = ncb x.toBitVec.toNat n
  | 0 => rfl
  | n + 1 => by rw [pcn, ncb, pcn_ncb x n]; rfl
theorem ncb_s (N : Nat) : ∀ n, ncb N (n + 1) = (if N.testBit 0 then 1 else 0) + ncb (N / 2) n
  | 0 => by rw [ncb, ncb, ncb]; omega
  | n + 1 => by
    rw [ncb, ncb_s N n, ncb, Nat.testBit_succ]
    omega
theorem ncb_z : ∀ n, ncb 0 n = 0
  | 0 => rfl
  | n + 1 => by rw [ncb, ncb_z n]; simp
theorem and_even (a b : Nat) : (2 * a) &&& (2 * b + 1) = 2 * (a &&& b) := by
  apply Nat.eq_of_testBit_eq
  intro i
  rw [Nat.testBit_and]
  cases i with
  | zero => simp
  | succ i =>
    rw [Nat.testBit_succ, Nat.testBit_succ, Nat.testBit_succ, show 2 * a / 2 = a by omega, show (2 * b + 1) / 2 = b by omega, show 2 * (a &&& b) / 2 = a &&& b by omega, Nat.testBit_and]
theorem and_odd (a : Nat) : (2 * a + 1) &&& (2 * a) = 2 * a := by
  apply Nat.eq_of_testBit_eq
  intro i
  rw [Nat.testBit_and]
  cases i with
  | zero => simp
  | succ i =>
    rw [Nat.testBit_succ, Nat.testBit_succ, show 2 * a / 2 = a by omega, show (2 * a + 1) / 2 = a by omega, Bool.and_self]
theorem tb0_even (a : Nat) : (2 * a).testBit 0 = false := by simp
theorem tb0_odd (a : Nat) : (2 * a + 1).testBit 0 = true := by simp
theorem ncb_drop : ∀ (n N : Nat), 0 < N → N < 2 ^ n → ncb (N &&& (N - 1)) n + 1 = ncb N n
  | 0, N, h1, h2 => by simp at h2; omega
  | n + 1, N, h1, h2 => by
    rw [ncb_s, ncb_s]
    rcases Nat.mod_two_eq_zero_or_one N with e | e
    · obtain ⟨a, rfl⟩ : ∃ a, N = 2 * a := ⟨N / 2, by omega⟩
      rw [show 2 * a - 1 = 2 * (a - 1) + 1 by omega, and_even, tb0_even, tb0_even, show 2 * (a &&& (a - 1)) / 2 = a &&& (a - 1) by omega, show 2 * a / 2 = a by omega]
      have := ncb_drop n a (by omega) (by rw [Nat.pow_succ] at h2; omega)
      omega
    · obtain ⟨a, rfl⟩ : ∃ a, N = 2 * a + 1 := ⟨N / 2, by omega⟩
      rw [show 2 * a + 1 - 1 = 2 * a by omega, and_odd, tb0_even, tb0_odd, show 2 * a / 2 = a by omega, show (2 * a + 1) / 2 = a by omega]
      simp
      omega
theorem pcn_drop {x : Int32} (h : ¬ x = 0) : pcn (x &&& (x - 1)) 32 + 1 = pcn x 32 := by
  rw [pcn_ncb, pcn_ncb, Int32.toBitVec_and, BitVec.toNat_and, Int32.toBitVec_sub]
  have h0 : 0 < x.toBitVec.toNat := by
    rcases Nat.eq_zero_or_pos x.toBitVec.toNat with e | e
    · exact absurd (Int32.toBitVec_inj.mp (BitVec.eq_of_toNat_eq (by rw [e]; rfl))) h
    · exact e
  have e1 : (x.toBitVec - (1 : Int32).toBitVec).toNat = x.toBitVec.toNat - 1 := by
    have := x.toBitVec.isLt
    rw [BitVec.toNat_sub, show (1 : Int32).toBitVec.toNat = 1 from rfl]
    omega
  rw [e1]
  exact ncb_drop 32 _ h0 x.toBitVec.isLt
theorem pcn_le (x : Int32) : ∀ n, pcn x n ≤ n
  | 0 => Nat.le_refl _
  | n + 1 => by rw [pcn]; have := pcn_le x n; split <;> omega
theorem pcn_0 : ∀ n, pcn 0 n = 0
  | 0 => rfl
  | n + 1 => by rw [pcn, pcn_0 n, tb_0]; rfl

set_option maxRecDepth 100000 in
set_option maxHeartbeats 4000000 in
theorem l_X9_bits (g : gx) (n : Nat) {h : hp} (x0 : Int32) (R : Nat) : ∀ (d : Nat) (x : Int32) (k : Nat), pcn x 32 = d → k + d = R → Wp g n 0 0 m_X9_bits h (fun rv h' => rv = some (.int (nI R)) ∧ h' = h) 0 0 4 [some (.int x0), some (.int (nI k)), some (.int x)] [] h := by
  intro d
  induction d with
  | zero =>
    intro x k hx hk
    have e0 : x = 0 := Decidable.byContradiction fun e => by have := pcn_drop e; omega
    subst e0
    have ek : k = R := by omega
    subst ek
    refine wp_run ctX9_ok ok_X9_bits (fun pc => pc == 4) 18 ?_
    simp (maxSteps := 10000000) only [↓wq, ↓oel_s, ↓nx_t, ↓nx_f, ↓lf_e, ↓sq_aconst_null, ↓sq_iconst, ↓sq_bipush, ↓sq_sipush, ↓sq_lconst, ↓sq_ldc, ↓sq_ldc_w, ↓sq_ldc2_w, ↓sq_iload_n, ↓sq_iload, ↓sq_lload_n, ↓sq_lload, ↓sq_aload_n, ↓sq_aload, ↓sq_istore_n, ↓sq_istore, ↓sq_lstore_n, ↓sq_lstore, ↓sq_astore_n, ↓sq_astore, ↓sq_iinc, ↓sq_iadd, ↓sq_isub, ↓sq_imul, ↓sq_iand, ↓sq_ior, ↓sq_ixor, ↓sq_ishl, ↓sq_ishr, ↓sq_iushr, ↓sq_ladd, ↓sq_lsub, ↓sq_lmul, ↓sq_land, ↓sq_lor, ↓sq_ldiv, ↓sq_lrem, ↓sq_lcmp, ↓sq_i2l, ↓sq_l2i, ↓sq_i2b, ↓sq_dup, ↓sq_pop, ↓sq_dup2, ↓sq_goto, ↓sq_ifCond_eq, ↓sq_ifCond_ne, ↓sq_ifCond_lt, ↓sq_ifCond_ge, ↓sq_ifCond_gt, ↓sq_ifCond_le, ↓sq_if_icmp_eq, ↓sq_if_icmp_ne, ↓sq_if_icmp_lt, ↓sq_if_icmp_ge, ↓sq_if_icmp_gt, ↓sq_if_icmp_le, ↓sq_ifnull, ↓sq_ifnonnull, ↓sq_tableswitch, ↓sq_lookupswitch, ↓sq_getfield, ↓sq_putfield, ↓sq_iaload, ↓sq_baload, ↓sq_laload, ↓sq_aaload, ↓sq_arraylength, ↓sq_iastore, ↓sq_bastore, ↓sq_lastore, ↓sq_aastore, ↓sq_new, ↓sq_newarray, ↓sq_anewarray, ↓sq_invokestatic, ↓sq_invokevirtual, ↓sq_invokespecial, ↓sq_ireturn, ↓sq_lreturn, ↓sq_areturn, ↓sq_return_, ↓pI_c, ↓pJ_c, ↓pA_c, ↓pN_c, ↓pN_n, ↓pV_c, ↓p1_i, ↓p1_r, ↓p1_n, ↓pE_c, ↓p0_c, ↓nl_n, ↓nl_r, ↓lI_0, ↓lI_s, ↓lJ_0, ↓lJ_s, ↓lA_0, ↓lA_n, ↓lA_s, ↓gtf_0, ↓gtf_1, ↓gtf_2, ↓rfc_s, ↓rfc_n, ↓swc_n, ↓swc_c, ↓rti_0, ↓rti_1, ↓rti_2, ↓rti_3, ↓scl_0, ↓scl_7, ↓scl_8, ↓scl_9, ↓icl_0, ↓icl_6, pI_c, pJ_c, pA_c, pN_c, pN_n, pV_c, p1_i, p1_r, p1_n, pE_c, p0_c, nl_n, nl_r, lI_0, lI_s, lJ_0, lJ_s, lA_0, lA_n, lA_s, gtf_0, gtf_1, gtf_2, rfc_s, rfc_n, swc_n, swc_c, rti_0, rti_1, rti_2, rti_3, scl_0, scl_7, scl_8, scl_9, icl_0, icl_6, setV_0, setV_1, setV_2, ptf_1, ptf_2, nb_1, nb_2, ldv_0, ldv_1, ls1_0, ls1_ni, ls1_nr, ls1_nn, ls1_nu, ls1_nl, ls1_s, ls2_0, ls2_ni, ls2_nr, ls2_nn, ls2_s, oel_s, Nat.reduceAdd, Nat.reduceSub, Nat.reduceLeDiff, Nat.reduceBEq, Bool.or_false, Bool.false_or, Bool.or_true, Bool.true_or, List.take_succ_cons, List.take_zero, List.drop_succ_cons, List.drop_zero, List.reverse_cons, List.reverse_nil, List.nil_append, List.cons_append, Option.toList_some, Option.toList_none, List.map_cons, List.map_nil, List.sum_cons, List.sum_nil, Value.category, List.length_cons, List.length_nil, Nat.le_refl, Nat.zero_le, Nat.add_zero, Nat.zero_add, Nat.add_one_sub_one, Nat.zero_lt_succ, true_and, and_true, ne_eq, not_false_eq_true, hK_setI, hN_setI, hR_setI, hr_setI, hZ_setI, hJ_setI, hK_setJ, hN_setJ, hR_setJ, hr_setJ, hZ_setJ, hI_setJ, reduceCtorEq, forall_const, and_self, eq_self, reduceIte, true_or, or_true, i_X9_bits_0, i_X9_bits_1, i_X9_bits_2, i_X9_bits_3, i_X9_bits_4, i_X9_bits_5, i_X9_bits_8, i_X9_bits_11, i_X9_bits_12, i_X9_bits_13, i_X9_bits_14, i_X9_bits_15, i_X9_bits_16, i_X9_bits_17, i_X9_bits_20, i_X9_bits_21, Option.some.injEq, Value.int.injEq, Value.long.injEq, and_self, not_true_eq_false, not_false_eq_true, false_implies, true_implies]

  | succ d ih =>
    intro x k hx hk
    have e0 : ¬ x = 0 := fun e => by rw [e, pcn_0] at hx; omega
    have e1 := pcn_drop e0
    refine wp_run ctX9_ok ok_X9_bits (fun pc => pc == 4) 18 ?_
    simp (maxSteps := 10000000) only [↓wq, ↓oel_s, ↓nx_t, ↓nx_f, ↓lf_e, ↓sq_aconst_null, ↓sq_iconst, ↓sq_bipush, ↓sq_sipush, ↓sq_lconst, ↓sq_ldc, ↓sq_ldc_w, ↓sq_ldc2_w, ↓sq_iload_n, ↓sq_iload, ↓sq_lload_n, ↓sq_lload, ↓sq_aload_n, ↓sq_aload, ↓sq_istore_n, ↓sq_istore, ↓sq_lstore_n, ↓sq_lstore, ↓sq_astore_n, ↓sq_astore, ↓sq_iinc, ↓sq_iadd, ↓sq_isub, ↓sq_imul, ↓sq_iand, ↓sq_ior, ↓sq_ixor, ↓sq_ishl, ↓sq_ishr, ↓sq_iushr, ↓sq_ladd, ↓sq_lsub, ↓sq_lmul, ↓sq_land, ↓sq_lor, ↓sq_ldiv, ↓sq_lrem, ↓sq_lcmp, ↓sq_i2l, ↓sq_l2i, ↓sq_i2b, ↓sq_dup, ↓sq_pop, ↓sq_dup2, ↓sq_goto, ↓sq_ifCond_eq, ↓sq_ifCond_ne, ↓sq_ifCond_lt, ↓sq_ifCond_ge, ↓sq_ifCond_gt, ↓sq_ifCond_le, ↓sq_if_icmp_eq, ↓sq_if_icmp_ne, ↓sq_if_icmp_lt, ↓sq_if_icmp_ge, ↓sq_if_icmp_gt, ↓sq_if_icmp_le, ↓sq_ifnull, ↓sq_ifnonnull, ↓sq_tableswitch, ↓sq_lookupswitch, ↓sq_getfield, ↓sq_putfield, ↓sq_iaload, ↓sq_baload, ↓sq_laload, ↓sq_aaload, ↓sq_arraylength, ↓sq_iastore, ↓sq_bastore, ↓sq_lastore, ↓sq_aastore, ↓sq_new, ↓sq_newarray, ↓sq_anewarray, ↓sq_invokestatic, ↓sq_invokevirtual, ↓sq_invokespecial, ↓sq_ireturn, ↓sq_lreturn, ↓sq_areturn, ↓sq_return_, ↓pI_c, ↓pJ_c, ↓pA_c, ↓pN_c, ↓pN_n, ↓pV_c, ↓p1_i, ↓p1_r, ↓p1_n, ↓pE_c, ↓p0_c, ↓nl_n, ↓nl_r, ↓lI_0, ↓lI_s, ↓lJ_0, ↓lJ_s, ↓lA_0, ↓lA_n, ↓lA_s, ↓gtf_0, ↓gtf_1, ↓gtf_2, ↓rfc_s, ↓rfc_n, ↓swc_n, ↓swc_c, ↓rti_0, ↓rti_1, ↓rti_2, ↓rti_3, ↓scl_0, ↓scl_7, ↓scl_8, ↓scl_9, ↓icl_0, ↓icl_6, pI_c, pJ_c, pA_c, pN_c, pN_n, pV_c, p1_i, p1_r, p1_n, pE_c, p0_c, nl_n, nl_r, lI_0, lI_s, lJ_0, lJ_s, lA_0, lA_n, lA_s, gtf_0, gtf_1, gtf_2, rfc_s, rfc_n, swc_n, swc_c, rti_0, rti_1, rti_2, rti_3, scl_0, scl_7, scl_8, scl_9, icl_0, icl_6, setV_0, setV_1, setV_2, ptf_1, ptf_2, nb_1, nb_2, ldv_0, ldv_1, ls1_0, ls1_ni, ls1_nr, ls1_nn, ls1_nu, ls1_nl, ls1_s, ls2_0, ls2_ni, ls2_nr, ls2_nn, ls2_s, oel_s, Nat.reduceAdd, Nat.reduceSub, Nat.reduceLeDiff, Nat.reduceBEq, Bool.or_false, Bool.false_or, Bool.or_true, Bool.true_or, List.take_succ_cons, List.take_zero, List.drop_succ_cons, List.drop_zero, List.reverse_cons, List.reverse_nil, List.nil_append, List.cons_append, Option.toList_some, Option.toList_none, List.map_cons, List.map_nil, List.sum_cons, List.sum_nil, Value.category, List.length_cons, List.length_nil, Nat.le_refl, Nat.zero_le, Nat.add_zero, Nat.zero_add, Nat.add_one_sub_one, Nat.zero_lt_succ, true_and, and_true, ne_eq, not_false_eq_true, hK_setI, hN_setI, hR_setI, hr_setI, hZ_setI, hJ_setI, hK_setJ, hN_setJ, hR_setJ, hr_setJ, hZ_setJ, hI_setJ, reduceCtorEq, forall_const, and_self, eq_self, reduceIte, true_or, or_true, i_X9_bits_0, i_X9_bits_1, i_X9_bits_2, i_X9_bits_3, i_X9_bits_4, i_X9_bits_5, i_X9_bits_8, i_X9_bits_11, i_X9_bits_12, i_X9_bits_13, i_X9_bits_14, i_X9_bits_15, i_X9_bits_16, i_X9_bits_17, i_X9_bits_20, i_X9_bits_21, Option.some.injEq, Value.int.injEq, Value.long.injEq, and_self, not_true_eq_false, not_false_eq_true, false_implies, true_implies, e0, nI_1]
    exact ih _ (k + 1) (by omega) (by omega)

set_option maxRecDepth 100000 in
set_option maxHeartbeats 4000000 in
theorem c_X9_bits (g : gx) (n : Nat) {h : hp} (x : Int32) : Call g n 0 0 m_X9_bits [.int x] h (fun rv h' => rv = some (.int (nI (pcn x 32))) ∧ h' = h) := by
  refine Call.of rfl (Nat.le_of_ble_eq_true rfl) ?_
  show Wp g n 0 0 m_X9_bits h _ 0 0 0 [some (.int x), none, none] [] h
  refine wp_run ctX9_ok ok_X9_bits (fun pc => pc == 4) 18 ?_
  simp (maxSteps := 10000000) only [↓wq, ↓oel_s, ↓nx_t, ↓nx_f, ↓lf_e, ↓sq_aconst_null, ↓sq_iconst, ↓sq_bipush, ↓sq_sipush, ↓sq_lconst, ↓sq_ldc, ↓sq_ldc_w, ↓sq_ldc2_w, ↓sq_iload_n, ↓sq_iload, ↓sq_lload_n, ↓sq_lload, ↓sq_aload_n, ↓sq_aload, ↓sq_istore_n, ↓sq_istore, ↓sq_lstore_n, ↓sq_lstore, ↓sq_astore_n, ↓sq_astore, ↓sq_iinc, ↓sq_iadd, ↓sq_isub, ↓sq_imul, ↓sq_iand, ↓sq_ior, ↓sq_ixor, ↓sq_ishl, ↓sq_ishr, ↓sq_iushr, ↓sq_ladd, ↓sq_lsub, ↓sq_lmul, ↓sq_land, ↓sq_lor, ↓sq_ldiv, ↓sq_lrem, ↓sq_lcmp, ↓sq_i2l, ↓sq_l2i, ↓sq_i2b, ↓sq_dup, ↓sq_pop, ↓sq_dup2, ↓sq_goto, ↓sq_ifCond_eq, ↓sq_ifCond_ne, ↓sq_ifCond_lt, ↓sq_ifCond_ge, ↓sq_ifCond_gt, ↓sq_ifCond_le, ↓sq_if_icmp_eq, ↓sq_if_icmp_ne, ↓sq_if_icmp_lt, ↓sq_if_icmp_ge, ↓sq_if_icmp_gt, ↓sq_if_icmp_le, ↓sq_ifnull, ↓sq_ifnonnull, ↓sq_tableswitch, ↓sq_lookupswitch, ↓sq_getfield, ↓sq_putfield, ↓sq_iaload, ↓sq_baload, ↓sq_laload, ↓sq_aaload, ↓sq_arraylength, ↓sq_iastore, ↓sq_bastore, ↓sq_lastore, ↓sq_aastore, ↓sq_new, ↓sq_newarray, ↓sq_anewarray, ↓sq_invokestatic, ↓sq_invokevirtual, ↓sq_invokespecial, ↓sq_ireturn, ↓sq_lreturn, ↓sq_areturn, ↓sq_return_, ↓pI_c, ↓pJ_c, ↓pA_c, ↓pN_c, ↓pN_n, ↓pV_c, ↓p1_i, ↓p1_r, ↓p1_n, ↓pE_c, ↓p0_c, ↓nl_n, ↓nl_r, ↓lI_0, ↓lI_s, ↓lJ_0, ↓lJ_s, ↓lA_0, ↓lA_n, ↓lA_s, ↓gtf_0, ↓gtf_1, ↓gtf_2, ↓rfc_s, ↓rfc_n, ↓swc_n, ↓swc_c, ↓rti_0, ↓rti_1, ↓rti_2, ↓rti_3, ↓scl_0, ↓scl_7, ↓scl_8, ↓scl_9, ↓icl_0, ↓icl_6, pI_c, pJ_c, pA_c, pN_c, pN_n, pV_c, p1_i, p1_r, p1_n, pE_c, p0_c, nl_n, nl_r, lI_0, lI_s, lJ_0, lJ_s, lA_0, lA_n, lA_s, gtf_0, gtf_1, gtf_2, rfc_s, rfc_n, swc_n, swc_c, rti_0, rti_1, rti_2, rti_3, scl_0, scl_7, scl_8, scl_9, icl_0, icl_6, setV_0, setV_1, setV_2, ptf_1, ptf_2, nb_1, nb_2, ldv_0, ldv_1, ls1_0, ls1_ni, ls1_nr, ls1_nn, ls1_nu, ls1_nl, ls1_s, ls2_0, ls2_ni, ls2_nr, ls2_nn, ls2_s, oel_s, Nat.reduceAdd, Nat.reduceSub, Nat.reduceLeDiff, Nat.reduceBEq, Bool.or_false, Bool.false_or, Bool.or_true, Bool.true_or, List.take_succ_cons, List.take_zero, List.drop_succ_cons, List.drop_zero, List.reverse_cons, List.reverse_nil, List.nil_append, List.cons_append, Option.toList_some, Option.toList_none, List.map_cons, List.map_nil, List.sum_cons, List.sum_nil, Value.category, List.length_cons, List.length_nil, Nat.le_refl, Nat.zero_le, Nat.add_zero, Nat.zero_add, Nat.add_one_sub_one, Nat.zero_lt_succ, true_and, and_true, ne_eq, not_false_eq_true, hK_setI, hN_setI, hR_setI, hr_setI, hZ_setI, hJ_setI, hK_setJ, hN_setJ, hR_setJ, hr_setJ, hZ_setJ, hI_setJ, reduceCtorEq, forall_const, and_self, eq_self, reduceIte, true_or, or_true, i_X9_bits_0, i_X9_bits_1, i_X9_bits_2, i_X9_bits_3, i_X9_bits_4, i_X9_bits_5, i_X9_bits_8, i_X9_bits_11, i_X9_bits_12, i_X9_bits_13, i_X9_bits_14, i_X9_bits_15, i_X9_bits_16, i_X9_bits_17, i_X9_bits_20, i_X9_bits_21, Option.some.injEq, Value.int.injEq, Value.long.injEq, and_self, not_true_eq_false, not_false_eq_true, false_implies, true_implies]
  have q := l_X9_bits g n (h := h) x (pcn x 32) (pcn x 32) x 0 rfl (by omega)
  rw [nI_0] at q
  exact q

/-- the reference but for scratch, mostWrong and draw is as it was -/
def Kp (M : Nat) (h h' : hp) : Prop := Chg (fun q => scr M q ∨ q = M ∨ q = M + 5) h h' ∧ (∀ k, ¬ k = 63 → hI h' M k = hI h M k) ∧ ∀ k, hI h' (M + 5) k = hI h (M + 5) k
theorem Kp.rf {M : Nat} {h : hp} : Kp M h h := ⟨Chg.rf, fun _ _ => rfl, fun _ => rfl⟩
theorem Kp.tr {M : Nat} {h h1 h2 : hp} (a : Kp M h h1) (b : Kp M h1 h2) : Kp M h h2 := ⟨a.1.tr b.1, fun k hk => (b.2.1 k hk).trans (a.2.1 k hk), fun k => (b.2.2 k).trans (a.2.2 k)⟩
theorem Kp.of {M : Nat} {h h1 : hp} (a : Chg (scr M) h h1) : Kp M h h1 := ⟨a.wk (fun q e => Or.inl e), fun k _ => by rw [(a.2.2.2.2 M (by unfold scr; omega)).1], fun k => by rw [(a.2.2.2.2 (M + 5) (by unfold scr; omega)).1]⟩
theorem Kp.mr {M : Nat} {h h1 : hp} {v : vw} (k : Kp M h h1) (H : MRep h M v) : MRep h1 M v := by
  obtain ⟨g0, ⟨g1, g2, g3, g4, g5, g6, g7⟩, g8, t0, t1, t2, t3, t5, t6⟩ := H
  have n1 : ∀ q, ¬ (scr M q ∨ q = M ∨ q = M + 5) → hI h1 q = hI h q := fun q hq => (k.1.2.2.2.2 q hq).1
  refine ⟨g0.kept k.1, ⟨by rw [k.2.1 _ (by omega)]; exact g1, by rw [k.2.1 _ (by omega)]; exact g2, by rw [k.2.1 _ (by omega)]; exact g3, by rw [k.2.1 _ (by omega)]; exact g4, by rw [k.2.1 _ (by omega)]; exact g5, by rw [k.2.1 _ (by omega)]; exact g6, by rw [k.2.1 _ (by omega)]; exact g7⟩, g8, fun r hr c hc => ?_, fun r hr c hc => ?_, fun r hr c hc => ?_, fun r hr c hc => ?_, fun r hr c hc => ?_, fun r hr c hc => ?_⟩
  · by_cases e : c = 4
    · subst e; rw [k.2.2]; exact t0 r hr 4 hc
    · rw [n1 _ (by unfold scr; omega)]; exact t0 r hr c hc
  · rw [n1 _ (by unfold scr; omega)]; exact t1 r hr c hc
  · rw [n1 _ (by unfold scr; omega)]; exact t2 r hr c hc
  · rw [n1 _ (by unfold scr; omega)]; exact t3 r hr c hc
  · rw [n1 _ (by unfold scr; omega)]; exact t5 r hr c hc
  · rw [n1 _ (by unfold scr; omega)]; exact t6 r hr c hc
theorem Kp.mi {M : Nat} {h h1 : hp} {v : vw} {L : Nat} {ls : lws} (k : Kp M h h1) (H : MI h M v L ls) : MI h1 M v L ls :=
  ⟨k.mr H.1, H.2.1.kept k.1 (by unfold scr; omega) (by unfold scr; omega), by rw [k.2.1 _ (by omega)]; exact H.2.2.1, fun r hr => (H.2.2.2 r hr).kept k.1 (fun b h1 h2 => by unfold scr; omega)⟩

