/-! 98s: the class: new rows -/
/-- new rows at a, their cells at the end of the heap -/
def Nr (h h' : hp) (a w m : Nat) : Prop := hZ h' = hZ h + 1 ∧ RowsAt h' a (hZ h) w m 0 ∧ ∀ b, b < hZ h → ¬ b = a → hp_eq h h' b

set_option maxRecDepth 100000 in
set_option maxHeartbeats 1000000 in
theorem c_X6_init (g : gx) (n : Nat) {h : hp} {a w m : Nat} (hk : hK h a = 7) (ha : a < hZ h) (w1 : 1 ≤ w) (w6 : w ≤ 6) (m2 : m ≤ 200) (wm : w * m ≤ 800) : Call g n 1 800 m_X6_init [.ref a, .int (nI w), .int (nI m)] h (fun rv h' => rv = none ∧ Nr h h' a w m) := by
  have em1 : (if (1 : Int32) < nI w then nI w else 1) = nI w := by
    by_cases e : w = 1
    · subst e; rfl
    · exact if_pos (nI_lt (a := 1) (by omega) (by omega))
  have em2 : (if (0 : Int32) < nI m then nI m else 0) = nI m := by
    by_cases e : m = 0
    · subst e; rfl
    · exact if_pos (nI_lt (a := 0) (by omega) (by omega))
  have e0 : hI (setI (setI (setI h a 3 0) a 0 (nI w)) a 1 (nI m)) a 0 = nI w := by rw [hI_setI, if_neg (by omega), hI_setI, if_pos ⟨rfl, rfl⟩]
  have e1 : hI (setI (setI (setI h a 3 0) a 0 (nI w)) a 1 (nI m)) a 1 = nI m := by rw [hI_setI, if_pos ⟨rfl, rfl⟩]
  have em : nI w * nI m = nI (w * m) := nI_mul
  have tn0 := nI_tn (a := w * m) (by omega)
  have nn := nI_nn (a := w * m) (by omega)
  have wb : w * m ≤ 67108864 := by omega
  have kM : hK (mkC (setI (setI (setI h a 3 0) a 0 (nI w)) a 1 (nI m)) 20 (w * m)) a = 7 := by rw [hK_mkC, if_neg (by rw [hZ_setI, hZ_setI, hZ_setI]; omega)]; exact hk
  have fin : Nr h (setR (mkC (setI (setI (setI h a 3 0) a 0 (nI w)) a 1 (nI m)) 20 (w * m)) a 2 (some (hZ h))) a w m := by
    have zz : hZ (setI (setI (setI h a 3 0) a 0 (nI w)) a 1 (nI m)) = hZ h := rfl
    refine ⟨rfl, ⟨kM, by rw [hR_setR, if_pos ⟨rfl, rfl⟩], ?_, ?_, ?_, ?_, ?_, by omega, by omega, by omega, by omega, by omega⟩, fun b hb e => ⟨?_, ?_, fun j => ?_, fun j => ?_, fun j => ?_⟩⟩
    · rw [hK_setR, hK_mkC, if_pos zz.symm]
    · rw [hN_setR, hN_mkC, if_pos zz.symm]
    · rw [hI_setR, hI_mkC, if_neg (by rw [zz]; omega)]; exact e0
    · rw [hI_setR, hI_mkC, if_neg (by rw [zz]; omega)]; exact e1
    · rw [hI_setR, hI_mkC, if_neg (by rw [zz]; omega), hI_setI, if_neg (by omega), hI_setI, if_neg (by omega), hI_setI, if_pos ⟨rfl, rfl⟩]; rfl
    · rw [hK_setR, hK_mkC, if_neg (by rw [zz]; omega)]; rfl
    · rw [hN_setR, hN_mkC, if_neg (by rw [zz]; omega)]; rfl
    · rw [hI_setR, hI_mkC, if_neg (by rw [zz]; omega), hI_setI, if_neg (fun z => e z.1), hI_setI, if_neg (fun z => e z.1), hI_setI, if_neg (fun z => e z.1)]
    · rw [hJ_setR, hJ_mkC, if_neg (by rw [zz]; omega)]; rfl
    · rw [hR_setR, if_neg (fun z => e z.1), hR_mkC, if_neg (by rw [zz]; omega)]; rfl
  refine Call.of rfl (Nat.le_of_ble_eq_true rfl) ?_
  show Wp g n 1 800 m_X6_init h _ 0 0 0 [some (.ref a), some (.int (nI w)), some (.int (nI m))] [] h
  refine wp_run ctX6_ok ok_X6_init (fun _ => false) 26 ?_
  simp (maxSteps := 10000000) only [↓wq, ↓oel_s, ↓nx_t, ↓nx_f, ↓lf_e, ↓sq_aconst_null, ↓sq_iconst, ↓sq_bipush, ↓sq_sipush, ↓sq_lconst, ↓sq_ldc, ↓sq_ldc_w, ↓sq_ldc2_w, ↓sq_iload_n, ↓sq_iload, ↓sq_lload_n, ↓sq_lload, ↓sq_aload_n, ↓sq_aload, ↓sq_istore_n, ↓sq_istore, ↓sq_lstore_n, ↓sq_lstore, ↓sq_astore_n, ↓sq_astore, ↓sq_iinc, ↓sq_iadd, ↓sq_isub, ↓sq_imul, ↓sq_iand, ↓sq_ior, ↓sq_ixor, ↓sq_ishl, ↓sq_ishr, ↓sq_iushr, ↓sq_ladd, ↓sq_lsub, ↓sq_lmul, ↓sq_land, ↓sq_lor, ↓sq_ldiv, ↓sq_lrem, ↓sq_lcmp, ↓sq_i2l, ↓sq_l2i, ↓sq_i2b, ↓sq_dup, ↓sq_pop, ↓sq_dup2, ↓sq_goto, ↓sq_ifCond_eq, ↓sq_ifCond_ne, ↓sq_ifCond_lt, ↓sq_ifCond_ge, ↓sq_ifCond_gt, ↓sq_ifCond_le, ↓sq_if_icmp_eq, ↓sq_if_icmp_ne, ↓sq_if_icmp_lt, ↓sq_if_icmp_ge, ↓sq_if_icmp_gt, ↓sq_if_icmp_le, ↓sq_ifnull, ↓sq_ifnonnull, ↓sq_tableswitch, ↓sq_lookupswitch, ↓sq_getfield, ↓sq_putfield, ↓sq_iaload, ↓sq_baload, ↓sq_laload, ↓sq_aaload, ↓sq_arraylength, ↓sq_iastore, ↓sq_bastore, ↓sq_lastore, ↓sq_aastore, ↓sq_new, ↓sq_newarray, ↓sq_anewarray, ↓sq_invokestatic, ↓sq_invokevirtual, ↓sq_invokespecial, ↓sq_ireturn, ↓sq_lreturn, ↓sq_areturn, ↓sq_return_, ↓pI_c, ↓pJ_c, ↓pA_c, ↓pN_c, ↓pN_n, ↓pV_c, ↓p1_i, ↓p1_r, ↓p1_n, ↓pE_c, ↓p0_c, ↓nl_n, ↓nl_r, ↓lI_0, ↓lI_s, ↓lJ_0, ↓lJ_s, ↓lA_0, ↓lA_n, ↓lA_s, ↓gtf_0, ↓gtf_1, ↓gtf_2, ↓rfc_s, ↓rfc_n, ↓swc_n, ↓swc_c, ↓rti_0, ↓rti_1, ↓rti_2, ↓rti_3, ↓scl_0, ↓scl_7, ↓scl_8, ↓scl_9, ↓icl_0, ↓icl_6, pI_c, pJ_c, pA_c, pN_c, pN_n, pV_c, p1_i, p1_r, p1_n, pE_c, p0_c, nl_n, nl_r, lI_0, lI_s, lJ_0, lJ_s, lA_0, lA_n, lA_s, gtf_0, gtf_1, gtf_2, rfc_s, rfc_n, swc_n, swc_c, rti_0, rti_1, rti_2, rti_3, scl_0, scl_7, scl_8, scl_9, icl_0, icl_6, setV_0, setV_1, setV_2, ptf_1, ptf_2, nb_1, nb_2, ldv_0, ldv_1, ls1_0, ls1_ni, ls1_nr, ls1_nn, ls1_nu, ls1_nl, ls1_s, ls2_0, ls2_ni, ls2_nr, ls2_nn, ls2_s, oel_s, Nat.reduceAdd, Nat.reduceSub, Nat.reduceLeDiff, Nat.reduceBEq, Bool.or_false, Bool.false_or, Bool.or_true, Bool.true_or, List.take_succ_cons, List.take_zero, List.drop_succ_cons, List.drop_zero, List.reverse_cons, List.reverse_nil, List.nil_append, List.cons_append, Option.toList_some, Option.toList_none, List.map_cons, List.map_nil, List.sum_cons, List.sum_nil, Value.category, List.length_cons, List.length_nil, Nat.le_refl, Nat.zero_le, Nat.add_zero, Nat.zero_add, Nat.add_one_sub_one, Nat.zero_lt_succ, true_and, and_true, ne_eq, not_false_eq_true, hK_setI, hN_setI, hR_setI, hr_setI, hZ_setI, hJ_setI, hK_setJ, hN_setJ, hR_setJ, hr_setJ, hZ_setJ, hI_setJ, reduceCtorEq, forall_const, and_self, eq_self, reduceIte, true_or, or_true, i_X6_init_0, i_X6_init_1, i_X6_init_4, i_X6_init_5, i_X6_init_6, i_X6_init_9, i_X6_init_10, i_X6_init_11, i_X6_init_12, i_X6_init_15, i_X6_init_18, i_X6_init_19, i_X6_init_20, i_X6_init_21, i_X6_init_24, i_X6_init_27, i_X6_init_28, i_X6_init_29, i_X6_init_32, i_X6_init_33, i_X6_init_36, i_X6_init_37, i_X6_init_39, i_X6_init_42, ft_6_0, ft_6_1, ft_6_3, Option.some.injEq, Value.int.injEq, Value.long.injEq, and_self, not_true_eq_false, not_false_eq_true, false_implies, true_implies, hk, em1, em2, e0, e1, em, tn0, nn, wb, wm, kM]
  exact fin

