/-! 13: Rows -/
/-- a Rows object at a with its cells at c: w columns, m rows at most, s of them there -/
def RowsAt (h : hp) (a c w m s : Nat) : Prop := hK h a = 7 ∧ hR h a 2 = some c ∧ hK h c = 20 ∧ hN h c = w * m ∧ hI h a 0 = nI w ∧ hI h a 1 = nI m ∧ hI h a 3 = nI s ∧ s ≤ m ∧ w * m < 100000 ∧ 1 ≤ w ∧ m < 100000 ∧ w < 100000
theorem hr_of {h : hp} {a k c : Nat} (e : hR h a k = some c) : hr h a k = c := by unfold hr; rw [e]; rfl
/-- a number from 0 on, below s -/
abbrev inR (s : Nat) (r : Int32) : Prop := 0 ≤ r.toInt ∧ r.toInt < (s : Int)
theorem inR_of {s : Nat} {r : Int32} (h : inR s r) : ∃ k : Nat, k < s ∧ r = nI k ∧ k < 2147483648 := by
  have := i_hi r
  refine ⟨r.toInt.toNat, by omega, ?_, by omega⟩
  rw [i_eq, nI_toInt (by omega)]
  omega
theorem inR_nI {s k : Nat} (h : k < s) (hs : k < 2147483648) : inR s (nI k) := by
  unfold inR
  rw [nI_toInt (by omega)]
  omega
theorem not_lt_le {x y : Int32} : ¬ x < y ↔ y ≤ x := by rw [i_lt, i_le]; omega
theorem not_le_lt {x y : Int32} : ¬ x ≤ y ↔ y < x := by rw [i_lt, i_le]; omega

set_option maxRecDepth 100000 in
set_option maxHeartbeats 4000000 in
theorem c_X6_has (g : gx) (n : Nat) {h : hp} {a c w m s : Nat} (H : RowsAt h a c w m s) (r : Int32) : Call g n 0 0 m_X6_has [.ref a, .int r] h (fun rv h' => rv = some (.int (bz (inR s r))) ∧ h' = h) := by
  obtain ⟨h1, h2, h3, h4, h5, h6, h7, h8, h9, h10, h11, h12⟩ := H
  refine Call.of rfl (Nat.le_of_ble_eq_true rfl) ?_
  show Wp g n 0 0 m_X6_has h _ 0 0 0 [some (.ref a), some (.int r)] [] h
  refine wp_run ctX6_ok ok_X6_has (fun _ => false) 12 ?_
  simp (maxSteps := 10000000) only [↓wq, ↓oel_s, ↓nx_t, ↓nx_f, ↓lf_e, ↓sq_aconst_null, ↓sq_iconst, ↓sq_bipush, ↓sq_sipush, ↓sq_lconst, ↓sq_ldc, ↓sq_ldc_w, ↓sq_ldc2_w, ↓sq_iload_n, ↓sq_iload, ↓sq_lload_n, ↓sq_lload, ↓sq_aload_n, ↓sq_aload, ↓sq_istore_n, ↓sq_istore, ↓sq_lstore_n, ↓sq_lstore, ↓sq_astore_n, ↓sq_astore, ↓sq_iinc, ↓sq_iadd, ↓sq_isub, ↓sq_imul, ↓sq_iand, ↓sq_ior, ↓sq_ixor, ↓sq_ishl, ↓sq_ishr, ↓sq_iushr, ↓sq_ladd, ↓sq_lsub, ↓sq_lmul, ↓sq_land, ↓sq_lor, ↓sq_ldiv, ↓sq_lrem, ↓sq_lcmp, ↓sq_i2l, ↓sq_l2i, ↓sq_i2b, ↓sq_dup, ↓sq_pop, ↓sq_dup2, ↓sq_goto, ↓sq_ifCond_eq, ↓sq_ifCond_ne, ↓sq_ifCond_lt, ↓sq_ifCond_ge, ↓sq_ifCond_gt, ↓sq_ifCond_le, ↓sq_if_icmp_eq, ↓sq_if_icmp_ne, ↓sq_if_icmp_lt, ↓sq_if_icmp_ge, ↓sq_if_icmp_gt, ↓sq_if_icmp_le, ↓sq_ifnull, ↓sq_ifnonnull, ↓sq_tableswitch, ↓sq_lookupswitch, ↓sq_getfield, ↓sq_putfield, ↓sq_iaload, ↓sq_baload, ↓sq_laload, ↓sq_aaload, ↓sq_arraylength, ↓sq_iastore, ↓sq_bastore, ↓sq_lastore, ↓sq_aastore, ↓sq_new, ↓sq_newarray, ↓sq_anewarray, ↓sq_invokestatic, ↓sq_invokevirtual, ↓sq_invokespecial, ↓sq_ireturn, ↓sq_lreturn, ↓sq_areturn, ↓sq_return_, ↓pI_c, ↓pJ_c, ↓pA_c, ↓pN_c, ↓pN_n, ↓pV_c, ↓p1_i, ↓p1_r, ↓p1_n, ↓pE_c, ↓p0_c, ↓nl_n, ↓nl_r, ↓lI_0, ↓lI_s, ↓lJ_0, ↓lJ_s, ↓lA_0, ↓lA_n, ↓lA_s, ↓gtf_0, ↓gtf_1, ↓gtf_2, ↓rfc_s, ↓rfc_n, ↓swc_n, ↓swc_c, ↓rti_0, ↓rti_1, ↓rti_2, ↓rti_3, ↓scl_0, ↓scl_7, ↓scl_8, ↓scl_9, ↓icl_0, ↓icl_6, pI_c, pJ_c, pA_c, pN_c, pN_n, pV_c, p1_i, p1_r, p1_n, pE_c, p0_c, nl_n, nl_r, lI_0, lI_s, lJ_0, lJ_s, lA_0, lA_n, lA_s, gtf_0, gtf_1, gtf_2, rfc_s, rfc_n, swc_n, swc_c, rti_0, rti_1, rti_2, rti_3, scl_0, scl_7, scl_8, scl_9, icl_0, icl_6, setV_0, setV_1, setV_2, ptf_1, ptf_2, nb_1, nb_2, ldv_0, ldv_1, ls1_0, ls1_ni, ls1_nr, ls1_nn, ls1_nu, ls1_nl, ls1_s, ls2_0, ls2_ni, ls2_nr, ls2_nn, ls2_s, oel_s, Nat.reduceAdd, Nat.reduceSub, Nat.reduceLeDiff, Nat.reduceBEq, Bool.or_false, Bool.false_or, Bool.or_true, Bool.true_or, List.take_succ_cons, List.take_zero, List.drop_succ_cons, List.drop_zero, List.reverse_cons, List.reverse_nil, List.nil_append, List.cons_append, Option.toList_some, Option.toList_none, List.map_cons, List.map_nil, List.sum_cons, List.sum_nil, Value.category, List.length_cons, List.length_nil, Nat.le_refl, Nat.zero_le, Nat.add_zero, Nat.zero_add, Nat.add_one_sub_one, Nat.zero_lt_succ, true_and, and_true, ne_eq, not_false_eq_true, hK_setI, hN_setI, hR_setI, hr_setI, hZ_setI, hJ_setI, hK_setJ, hN_setJ, hR_setJ, hr_setJ, hZ_setJ, hI_setJ, reduceCtorEq, forall_const, and_self, eq_self, reduceIte, true_or, or_true, i_X6_has_0, i_X6_has_1, i_X6_has_4, i_X6_has_5, i_X6_has_6, i_X6_has_9, i_X6_has_12, i_X6_has_13, i_X6_has_16, i_X6_has_17, h1, h7, Option.some.injEq, Value.int.injEq, and_self]
  have e : (nI s).toInt = s := nI_toInt (by omega)
  unfold bz
  simp only [i_lt, i_le, i_0, e]
  grind

def getV (h : hp) (c w s : Nat) (r k : Int32) : Int32 := if inR s r ∧ inR w k then hI h c (r.toNatClampNeg * w + k.toNatClampNeg) else -1
theorem ix_ {s w : Nat} {r k : Int32} (hr : inR s r) (hk : inR w k) (hs : s * w < 100000) (hw : w < 100000) (hs2 : s < 100000) : (r * nI w + k).toNatClampNeg = r.toNatClampNeg * w + k.toNatClampNeg ∧ ¬ (r * nI w + k) < 0 ∧ r.toNatClampNeg * w + k.toNatClampNeg < s * w := by
  obtain ⟨i, hi, rfl, -⟩ := inR_of hr
  obtain ⟨j, hj, rfl, -⟩ := inR_of hk
  have hlt : i * w + j < s * w := by
    calc i * w + j < i * w + w := by omega
      _ = (i + 1) * w := by rw [Nat.add_mul]; omega
      _ ≤ s * w := Nat.mul_le_mul_right _ hi
  rw [nI_mul, nI_plus, nI_tn (by omega), nI_tn (by omega), nI_tn (by omega)]
  exact ⟨rfl, nI_nn (by omega), hlt⟩

set_option maxRecDepth 100000 in
set_option maxHeartbeats 4000000 in
theorem c_X6_get (g : gx) (n : Nat) {h : hp} {a c w m s : Nat} (H : RowsAt h a c w m s) (r k : Int32) : Call g n 0 0 m_X6_get [.ref a, .int r, .int k] h (fun rv h' => rv = some (.int (getV h c w s r k)) ∧ h' = h) := by
  obtain ⟨h1, h2, h3, h4, h5, h6, h7, h8, h9, h10, h11, h12⟩ := H
  have h2r := hr_of h2
  have hsw : s * w ≤ w * m := by rw [Nat.mul_comm s w]; exact Nat.mul_le_mul_left _ h8
  have hw : w < 100000 := by
    exact h12
  refine Call.of rfl (Nat.le_of_ble_eq_true rfl) ?_
  show Wp g n 0 0 m_X6_get h _ 0 0 0 [some (.ref a), some (.int r), some (.int k)] [] h
  refine wp_run ctX6_ok ok_X6_get (fun _ => false) 26 ?_
  simp (maxSteps := 10000000) only [↓wq, ↓oel_s, ↓nx_t, ↓nx_f, ↓lf_e, ↓sq_aconst_null, ↓sq_iconst, ↓sq_bipush, ↓sq_sipush, ↓sq_lconst, ↓sq_ldc, ↓sq_ldc_w, ↓sq_ldc2_w, ↓sq_iload_n, ↓sq_iload, ↓sq_lload_n, ↓sq_lload, ↓sq_aload_n, ↓sq_aload, ↓sq_istore_n, ↓sq_istore, ↓sq_lstore_n, ↓sq_lstore, ↓sq_astore_n, ↓sq_astore, ↓sq_iinc, ↓sq_iadd, ↓sq_isub, ↓sq_imul, ↓sq_iand, ↓sq_ior, ↓sq_ixor, ↓sq_ishl, ↓sq_ishr, ↓sq_iushr, ↓sq_ladd, ↓sq_lsub, ↓sq_lmul, ↓sq_land, ↓sq_lor, ↓sq_ldiv, ↓sq_lrem, ↓sq_lcmp, ↓sq_i2l, ↓sq_l2i, ↓sq_i2b, ↓sq_dup, ↓sq_pop, ↓sq_dup2, ↓sq_goto, ↓sq_ifCond_eq, ↓sq_ifCond_ne, ↓sq_ifCond_lt, ↓sq_ifCond_ge, ↓sq_ifCond_gt, ↓sq_ifCond_le, ↓sq_if_icmp_eq, ↓sq_if_icmp_ne, ↓sq_if_icmp_lt, ↓sq_if_icmp_ge, ↓sq_if_icmp_gt, ↓sq_if_icmp_le, ↓sq_ifnull, ↓sq_ifnonnull, ↓sq_tableswitch, ↓sq_lookupswitch, ↓sq_getfield, ↓sq_putfield, ↓sq_iaload, ↓sq_baload, ↓sq_laload, ↓sq_aaload, ↓sq_arraylength, ↓sq_iastore, ↓sq_bastore, ↓sq_lastore, ↓sq_aastore, ↓sq_new, ↓sq_newarray, ↓sq_anewarray, ↓sq_invokestatic, ↓sq_invokevirtual, ↓sq_invokespecial, ↓sq_ireturn, ↓sq_lreturn, ↓sq_areturn, ↓sq_return_, ↓pI_c, ↓pJ_c, ↓pA_c, ↓pN_c, ↓pN_n, ↓pV_c, ↓p1_i, ↓p1_r, ↓p1_n, ↓pE_c, ↓p0_c, ↓nl_n, ↓nl_r, ↓lI_0, ↓lI_s, ↓lJ_0, ↓lJ_s, ↓lA_0, ↓lA_n, ↓lA_s, ↓gtf_0, ↓gtf_1, ↓gtf_2, ↓rfc_s, ↓rfc_n, ↓swc_n, ↓swc_c, ↓rti_0, ↓rti_1, ↓rti_2, ↓rti_3, ↓scl_0, ↓scl_7, ↓scl_8, ↓scl_9, ↓icl_0, ↓icl_6, pI_c, pJ_c, pA_c, pN_c, pN_n, pV_c, p1_i, p1_r, p1_n, pE_c, p0_c, nl_n, nl_r, lI_0, lI_s, lJ_0, lJ_s, lA_0, lA_n, lA_s, gtf_0, gtf_1, gtf_2, rfc_s, rfc_n, swc_n, swc_c, rti_0, rti_1, rti_2, rti_3, scl_0, scl_7, scl_8, scl_9, icl_0, icl_6, setV_0, setV_1, setV_2, ptf_1, ptf_2, nb_1, nb_2, ldv_0, ldv_1, ls1_0, ls1_ni, ls1_nr, ls1_nn, ls1_nu, ls1_nl, ls1_s, ls2_0, ls2_ni, ls2_nr, ls2_nn, ls2_s, oel_s, Nat.reduceAdd, Nat.reduceSub, Nat.reduceLeDiff, Nat.reduceBEq, Bool.or_false, Bool.false_or, Bool.or_true, Bool.true_or, List.take_succ_cons, List.take_zero, List.drop_succ_cons, List.drop_zero, List.reverse_cons, List.reverse_nil, List.nil_append, List.cons_append, Option.toList_some, Option.toList_none, List.map_cons, List.map_nil, List.sum_cons, List.sum_nil, Value.category, List.length_cons, List.length_nil, Nat.le_refl, Nat.zero_le, Nat.add_zero, Nat.zero_add, Nat.add_one_sub_one, Nat.zero_lt_succ, true_and, and_true, ne_eq, not_false_eq_true, hK_setI, hN_setI, hR_setI, hr_setI, hZ_setI, hJ_setI, hK_setJ, hN_setJ, hR_setJ, hr_setJ, hZ_setJ, hI_setJ, reduceCtorEq, forall_const, and_self, eq_self, reduceIte, true_or, or_true, i_X6_get_0, i_X6_get_1, i_X6_get_4, i_X6_get_5, i_X6_get_6, i_X6_get_9, i_X6_get_12, i_X6_get_13, i_X6_get_16, i_X6_get_17, i_X6_get_18, i_X6_get_21, i_X6_get_24, i_X6_get_25, i_X6_get_26, i_X6_get_27, i_X6_get_30, i_X6_get_31, i_X6_get_32, i_X6_get_35, i_X6_get_36, i_X6_get_37, i_X6_get_38, i_X6_get_39, h1, h2, h2r, h3, h4, h5, h7, Option.some.injEq, Value.int.injEq, and_self]
  by_cases hc : inR s r ∧ inR w k
  · obtain ⟨e1, e2, e3⟩ := ix_ hc.1 hc.2 (by omega) (by omega) (by omega)
    unfold getV
    rw [if_pos hc, e1]
    unfold vp_in
    have e4 : (nI s).toInt = s := nI_toInt (by omega)
    have e5 : (nI w).toInt = w := nI_toInt (by omega)
    simp only [i_lt, i_le, i_0, e4, e5] at e2 ⊢
    grind
  · unfold getV
    rw [if_neg hc]
    have e4 : (nI s).toInt = s := nI_toInt (by omega)
    have e5 : (nI w).toInt = w := nI_toInt (by omega)
    simp only [i_lt, i_le, i_0, e4, e5]
    grind
