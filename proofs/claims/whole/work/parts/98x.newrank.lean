/-! 98x: the class: new Ranking -/
def l5_ : Nat → Nat
  | 0 => 48
  | _ => 576

set_option maxRecDepth 100000 in
set_option maxHeartbeats 1000000 in
theorem c_X5_init (g : gx) (n : Nat) {h : hp} {a : Nat} (hk : hK h a = 6) (hz : hZ h = a + 1) : Call g n 2 624 m_X5_init [.ref a] h (fun rv h' => rv = none ∧ hZ h' = a + 3 ∧ (∀ b, b < a → hp_eq h h' b) ∧ RkAt h' a) := by
  have L0 : Ai h a 6 l5_ 0 h := ⟨hz, fun b _ => ⟨rfl, rfl, fun _ => rfl, fun _ => rfl, fun _ => rfl⟩, hk, fun j hj => by omega⟩
  have z0 : hZ h = a + 1 := L0.1
  have L1 : Ai h a 6 l5_ 1 (setR (mkC h 20 48) a 0 (some (a + 1))) := L0.nx.1
  have k0 : hK (mkC h 20 48) a = 6 := L0.nx.2
  have z1 : hZ (setR (mkC h 20 48) a 0 (some (a + 1))) = a + 2 := L1.1
  have L2 : Ai h a 6 l5_ 2 (setR (mkC (setR (mkC h 20 48) a 0 (some (a + 1))) 20 576) a 1 (some (a + 2))) := L1.nx.1
  have k1 : hK (mkC (setR (mkC h 20 48) a 0 (some (a + 1))) 20 576) a = 6 := L1.nx.2
  have t48 : (48 : Int32).toNatClampNeg = 48 := rfl
  have n48 : ((48 : Int32) < 0) = False := eq_false (by decide)
  have t57 : (576 : Int32).toNatClampNeg = 576 := rfl
  have n57 : ((576 : Int32) < 0) = False := eq_false (by decide)
  have k6 : hK (setR (mkC (setR (mkC h 20 48) a 0 (some (a + 1))) 20 576) a 1 (some (a + 2))) a = 6 := L2.2.2.1
  have fin : hZ (setI (setI (setR (mkC (setR (mkC h 20 48) a 0 (some (a + 1))) 20 576) a 1 (some (a + 2))) a 2 0) a 3 0) = a + 3 ∧ (∀ b, b < a → hp_eq h (setI (setI (setR (mkC (setR (mkC h 20 48) a 0 (some (a + 1))) 20 576) a 1 (some (a + 2))) a 2 0) a 3 0) b) ∧ RkAt (setI (setI (setR (mkC (setR (mkC h 20 48) a 0 (some (a + 1))) 20 576) a 1 (some (a + 2))) a 2 0) a 3 0) a := by
    refine ⟨L2.1, fun b hb => hp_eq.tr (L2.2.1 b hb) ⟨rfl, rfl, fun j => by rw [hI_setI, if_neg (by omega), hI_setI, if_neg (by omega)], fun _ => rfl, fun _ => rfl⟩, ?_⟩
    obtain ⟨a1, a2, a3⟩ := L2.2.2.2 0 (by omega)
    obtain ⟨b1, b2, b3⟩ := L2.2.2.2 1 (by omega)
    exact ⟨k6, ⟨a1, b1⟩, ⟨a2, a3⟩, b2, b3⟩
  refine Call.of rfl (Nat.le_of_ble_eq_true rfl) ?_
  show Wp g n 2 624 m_X5_init h _ 0 0 0 [some (.ref a)] [] h
  refine wp_run ctX5_ok ok_X5_init (fun _ => false) 19 ?_
  simp (maxSteps := 10000000) only [↓wq, ↓oel_s, ↓nx_t, ↓nx_f, ↓lf_e, ↓sq_aconst_null, ↓sq_iconst, ↓sq_bipush, ↓sq_sipush, ↓sq_lconst, ↓sq_ldc, ↓sq_ldc_w, ↓sq_ldc2_w, ↓sq_iload_n, ↓sq_iload, ↓sq_lload_n, ↓sq_lload, ↓sq_aload_n, ↓sq_aload, ↓sq_istore_n, ↓sq_istore, ↓sq_lstore_n, ↓sq_lstore, ↓sq_astore_n, ↓sq_astore, ↓sq_iinc, ↓sq_iadd, ↓sq_isub, ↓sq_imul, ↓sq_iand, ↓sq_ior, ↓sq_ixor, ↓sq_ishl, ↓sq_ishr, ↓sq_iushr, ↓sq_ladd, ↓sq_lsub, ↓sq_lmul, ↓sq_land, ↓sq_lor, ↓sq_ldiv, ↓sq_lrem, ↓sq_lcmp, ↓sq_i2l, ↓sq_l2i, ↓sq_i2b, ↓sq_dup, ↓sq_pop, ↓sq_dup2, ↓sq_goto, ↓sq_ifCond_eq, ↓sq_ifCond_ne, ↓sq_ifCond_lt, ↓sq_ifCond_ge, ↓sq_ifCond_gt, ↓sq_ifCond_le, ↓sq_if_icmp_eq, ↓sq_if_icmp_ne, ↓sq_if_icmp_lt, ↓sq_if_icmp_ge, ↓sq_if_icmp_gt, ↓sq_if_icmp_le, ↓sq_ifnull, ↓sq_ifnonnull, ↓sq_tableswitch, ↓sq_lookupswitch, ↓sq_getfield, ↓sq_putfield, ↓sq_iaload, ↓sq_baload, ↓sq_laload, ↓sq_aaload, ↓sq_arraylength, ↓sq_iastore, ↓sq_bastore, ↓sq_lastore, ↓sq_aastore, ↓sq_new, ↓sq_newarray, ↓sq_anewarray, ↓sq_invokestatic, ↓sq_invokevirtual, ↓sq_invokespecial, ↓sq_ireturn, ↓sq_lreturn, ↓sq_areturn, ↓sq_return_, ↓pI_c, ↓pJ_c, ↓pA_c, ↓pN_c, ↓pN_n, ↓pV_c, ↓p1_i, ↓p1_r, ↓p1_n, ↓pE_c, ↓p0_c, ↓nl_n, ↓nl_r, ↓lI_0, ↓lI_s, ↓lJ_0, ↓lJ_s, ↓lA_0, ↓lA_n, ↓lA_s, ↓gtf_0, ↓gtf_1, ↓gtf_2, ↓rfc_s, ↓rfc_n, ↓swc_n, ↓swc_c, ↓rti_0, ↓rti_1, ↓rti_2, ↓rti_3, ↓scl_0, ↓scl_7, ↓scl_8, ↓scl_9, ↓icl_0, ↓icl_6, pI_c, pJ_c, pA_c, pN_c, pN_n, pV_c, p1_i, p1_r, p1_n, pE_c, p0_c, nl_n, nl_r, lI_0, lI_s, lJ_0, lJ_s, lA_0, lA_n, lA_s, gtf_0, gtf_1, gtf_2, rfc_s, rfc_n, swc_n, swc_c, rti_0, rti_1, rti_2, rti_3, scl_0, scl_7, scl_8, scl_9, icl_0, icl_6, setV_0, setV_1, setV_2, ptf_1, ptf_2, nb_1, nb_2, ldv_0, ldv_1, ls1_0, ls1_ni, ls1_nr, ls1_nn, ls1_nu, ls1_nl, ls1_s, ls2_0, ls2_ni, ls2_nr, ls2_nn, ls2_s, oel_s, Nat.reduceAdd, Nat.reduceSub, Nat.reduceLeDiff, Nat.reduceBEq, Bool.or_false, Bool.false_or, Bool.or_true, Bool.true_or, List.take_succ_cons, List.take_zero, List.drop_succ_cons, List.drop_zero, List.reverse_cons, List.reverse_nil, List.nil_append, List.cons_append, Option.toList_some, Option.toList_none, List.map_cons, List.map_nil, List.sum_cons, List.sum_nil, Value.category, List.length_cons, List.length_nil, Nat.le_refl, Nat.zero_le, Nat.add_zero, Nat.zero_add, Nat.add_one_sub_one, Nat.zero_lt_succ, true_and, and_true, ne_eq, not_false_eq_true, hK_setI, hN_setI, hR_setI, hr_setI, hZ_setI, hJ_setI, hK_setJ, hN_setJ, hR_setJ, hr_setJ, hZ_setJ, hI_setJ, reduceCtorEq, forall_const, and_self, eq_self, reduceIte, true_or, or_true, i_X5_init_0, i_X5_init_1, i_X5_init_4, i_X5_init_5, i_X5_init_7, i_X5_init_9, i_X5_init_12, i_X5_init_13, i_X5_init_16, i_X5_init_18, i_X5_init_21, i_X5_init_22, i_X5_init_23, i_X5_init_26, i_X5_init_27, i_X5_init_28, i_X5_init_31, ft_5_2, ft_5_3, Option.some.injEq, Value.int.injEq, Value.long.injEq, and_self, not_true_eq_false, not_false_eq_true, false_implies, true_implies, hk, z0, z1, k0, k1, k6, t48, n48, t57, n57]
  exact fin

