/-! 18: the reference: places -/
/-- the last step that counts, of the first k -/
def stA (v : vw) (p m : Int32) : Nat → Int32
  | 0 => -1
  | k + 1 => if vc v 2 k 0 = p ∧ vc v 2 k 1 ≤ m ∧ (stA v p m k = -1 ∨ vc v 2 (stA v p m k).toNatClampNeg 1 ≤ vc v 2 k 1) then nI k else stA v p m k
theorem stA_in (v : vw) (p m : Int32) (k : Nat) (hk : k < 2147483648) : stA v p m k = -1 ∨ inR k (stA v p m k) := by
  induction k with
  | zero => exact Or.inl rfl
  | succ k ih =>
    rw [stA]
    split
    · exact Or.inr (inR_nI (by omega) (by omega))
    · rcases ih (by omega) with h | h
      · exact Or.inl h
      · exact Or.inr ⟨h.1, by have := h.2; omega⟩
theorem MRep.lay {h : hp} {M : Nat} {v : vw} (H : MRep h M v) : MLay h M := H.1
theorem MRep.st {h : hp} {M : Nat} {v : vw} (H : MRep h M v) {r : Nat} (hr : r < vn v 2) : hI h (M + 14) r = vc v 2 r 0 ∧ hI h (M + 15) r = vc v 2 r 1 ∧ hI h (M + 16) r = vc v 2 r 2 ∧ hI h (M + 17) r = vc v 2 r 3 :=
  ⟨H.2.2.2.2.2.1 r hr 0 (by omega), H.2.2.2.2.2.1 r hr 1 (by omega), H.2.2.2.2.2.1 r hr 2 (by omega), H.2.2.2.2.2.1 r hr 3 (by omega)⟩
theorem MRep.bo {h : hp} {M : Nat} {v : vw} (H : MRep h M v) {r : Nat} (hr : r < vn v 0) : hI h (M + 1) r = vc v 0 r 0 ∧ hI h (M + 2) r = vc v 0 r 1 ∧ hI h (M + 3) r = vc v 0 r 2 ∧ hI h (M + 4) r = vc v 0 r 3 ∧ hI h (M + 5) r = vc v 0 r 4 :=
  ⟨H.2.2.2.1 r hr 0 (by omega), H.2.2.2.1 r hr 1 (by omega), H.2.2.2.1 r hr 2 (by omega), H.2.2.2.1 r hr 3 (by omega), H.2.2.2.1 r hr 4 (by omega)⟩
theorem MRep.pe {h : hp} {M : Nat} {v : vw} (H : MRep h M v) {r : Nat} (hr : r < vn v 1) : hI h (M + 8) r = vc v 1 r 0 ∧ hI h (M + 9) r = vc v 1 r 1 ∧ hI h (M + 10) r = vc v 1 r 2 ∧ hI h (M + 11) r = vc v 1 r 3 ∧ hI h (M + 12) r = vc v 1 r 4 ∧ hI h (M + 13) r = vc v 1 r 5 :=
  ⟨H.2.2.2.2.1 r hr 0 (by omega), H.2.2.2.2.1 r hr 1 (by omega), H.2.2.2.2.1 r hr 2 (by omega), H.2.2.2.2.1 r hr 3 (by omega), H.2.2.2.2.1 r hr 4 (by omega), H.2.2.2.2.1 r hr 5 (by omega)⟩
theorem MRep.pa {h : hp} {M : Nat} {v : vw} (H : MRep h M v) {r : Nat} (hr : r < vn v 3) : hI h (M + 18) r = vc v 3 r 0 ∧ hI h (M + 19) r = vc v 3 r 1 ∧ hI h (M + 20) r = vc v 3 r 2 ∧ hI h (M + 21) r = vc v 3 r 3 :=
  ⟨H.2.2.2.2.2.2.1 r hr 0 (by omega), H.2.2.2.2.2.2.1 r hr 1 (by omega), H.2.2.2.2.2.2.1 r hr 2 (by omega), H.2.2.2.2.2.2.1 r hr 3 (by omega)⟩
theorem MRep.me {h : hp} {M : Nat} {v : vw} (H : MRep h M v) {r : Nat} (hr : r < vn v 5) : hI h (M + 36) r = vc v 5 r 0 ∧ hI h (M + 37) r = vc v 5 r 1 ∧ hI h (M + 38) r = vc v 5 r 2 ∧ hI h (M + 39) r = vc v 5 r 3 :=
  ⟨H.2.2.2.2.2.2.2.1 r hr 0 (by omega), H.2.2.2.2.2.2.2.1 r hr 1 (by omega), H.2.2.2.2.2.2.2.1 r hr 2 (by omega), H.2.2.2.2.2.2.2.1 r hr 3 (by omega)⟩
theorem MRep.or {h : hp} {M : Nat} {v : vw} (H : MRep h M v) {r : Nat} (hr : r < vn v 6) : hI h (M + 41) r = vc v 6 r 0 ∧ hI h (M + 42) r = vc v 6 r 1 ∧ hI h (M + 43) r = vc v 6 r 2 ∧ hI h (M + 44) r = vc v 6 r 3 ∧ hI h (M + 45) r = vc v 6 r 4 ∧ hI h (M + 46) r = vc v 6 r 5 :=
  ⟨H.2.2.2.2.2.2.2.2 r hr 0 (by omega), H.2.2.2.2.2.2.2.2 r hr 1 (by omega), H.2.2.2.2.2.2.2.2 r hr 2 (by omega), H.2.2.2.2.2.2.2.2 r hr 3 (by omega), H.2.2.2.2.2.2.2.2 r hr 4 (by omega), H.2.2.2.2.2.2.2.2 r hr 5 (by omega)⟩

set_option maxRecDepth 100000 in
set_option maxHeartbeats 4000000 in
theorem l_X9_stepAt (g : gx) (n : Nat) {h : hp} {M : Nat} {v : vw} (H : MRep h M v) (p m : Int32) : ∀ (d k : Nat), k + d = vn v 2 → Wp g n 0 0 m_X9_stepAt h (fun rv h' => rv = some (.int (stA v p m (vn v 2))) ∧ h' = h) 0 0 5 [some (.ref M), some (.int p), some (.int m), some (.int (stA v p m k)), some (.int (nI k))] [] h := by
  have HM := H.lay
  have hs : hI h M 3 = nI (vn v 2) := H.2.1.2.2.1
  have hs2 : vn v 2 ≤ 200 := H.2.2.1.2.2.1
  intro d
  induction d with
  | zero =>
    intro k hk
    have ek : k = vn v 2 := by omega
    subst ek
    refine wp_run ctX9_ok ok_X9_stepAt (fun pc => pc == 5) 40 ?_
    simp (maxSteps := 10000000) only [↓wq, ↓oel_s, ↓nx_t, ↓nx_f, ↓lf_e, ↓sq_aconst_null, ↓sq_iconst, ↓sq_bipush, ↓sq_sipush, ↓sq_lconst, ↓sq_ldc, ↓sq_ldc_w, ↓sq_ldc2_w, ↓sq_iload_n, ↓sq_iload, ↓sq_lload_n, ↓sq_lload, ↓sq_aload_n, ↓sq_aload, ↓sq_istore_n, ↓sq_istore, ↓sq_lstore_n, ↓sq_lstore, ↓sq_astore_n, ↓sq_astore, ↓sq_iinc, ↓sq_iadd, ↓sq_isub, ↓sq_imul, ↓sq_iand, ↓sq_ior, ↓sq_ixor, ↓sq_ishl, ↓sq_ishr, ↓sq_iushr, ↓sq_ladd, ↓sq_lsub, ↓sq_lmul, ↓sq_land, ↓sq_lor, ↓sq_ldiv, ↓sq_lrem, ↓sq_lcmp, ↓sq_i2l, ↓sq_l2i, ↓sq_i2b, ↓sq_dup, ↓sq_pop, ↓sq_dup2, ↓sq_goto, ↓sq_ifCond_eq, ↓sq_ifCond_ne, ↓sq_ifCond_lt, ↓sq_ifCond_ge, ↓sq_ifCond_gt, ↓sq_ifCond_le, ↓sq_if_icmp_eq, ↓sq_if_icmp_ne, ↓sq_if_icmp_lt, ↓sq_if_icmp_ge, ↓sq_if_icmp_gt, ↓sq_if_icmp_le, ↓sq_ifnull, ↓sq_ifnonnull, ↓sq_tableswitch, ↓sq_lookupswitch, ↓sq_getfield, ↓sq_putfield, ↓sq_iaload, ↓sq_baload, ↓sq_laload, ↓sq_aaload, ↓sq_arraylength, ↓sq_iastore, ↓sq_bastore, ↓sq_lastore, ↓sq_aastore, ↓sq_new, ↓sq_newarray, ↓sq_anewarray, ↓sq_invokestatic, ↓sq_invokevirtual, ↓sq_invokespecial, ↓sq_ireturn, ↓sq_lreturn, ↓sq_areturn, ↓sq_return_, ↓pI_c, ↓pJ_c, ↓pA_c, ↓pN_c, ↓pN_n, ↓pV_c, ↓p1_i, ↓p1_r, ↓p1_n, ↓pE_c, ↓p0_c, ↓nl_n, ↓nl_r, ↓lI_0, ↓lI_s, ↓lJ_0, ↓lJ_s, ↓lA_0, ↓lA_n, ↓lA_s, ↓gtf_0, ↓gtf_1, ↓gtf_2, ↓rfc_s, ↓rfc_n, ↓swc_n, ↓swc_c, ↓rti_0, ↓rti_1, ↓rti_2, ↓rti_3, ↓scl_0, ↓scl_7, ↓scl_8, ↓scl_9, ↓icl_0, ↓icl_6, pI_c, pJ_c, pA_c, pN_c, pN_n, pV_c, p1_i, p1_r, p1_n, pE_c, p0_c, nl_n, nl_r, lI_0, lI_s, lJ_0, lJ_s, lA_0, lA_n, lA_s, gtf_0, gtf_1, gtf_2, rfc_s, rfc_n, swc_n, swc_c, rti_0, rti_1, rti_2, rti_3, scl_0, scl_7, scl_8, scl_9, icl_0, icl_6, setV_0, setV_1, setV_2, ptf_1, ptf_2, nb_1, nb_2, ldv_0, ldv_1, ls1_0, ls1_ni, ls1_nr, ls1_nn, ls1_nu, ls1_nl, ls1_s, ls2_0, ls2_ni, ls2_nr, ls2_nn, ls2_s, oel_s, Nat.reduceAdd, Nat.reduceSub, Nat.reduceLeDiff, Nat.reduceBEq, Bool.or_false, Bool.false_or, Bool.or_true, Bool.true_or, List.take_succ_cons, List.take_zero, List.drop_succ_cons, List.drop_zero, List.reverse_cons, List.reverse_nil, List.nil_append, List.cons_append, Option.toList_some, Option.toList_none, List.map_cons, List.map_nil, List.sum_cons, List.sum_nil, Value.category, List.length_cons, List.length_nil, Nat.le_refl, Nat.zero_le, Nat.add_zero, Nat.zero_add, Nat.add_one_sub_one, Nat.zero_lt_succ, true_and, and_true, ne_eq, not_false_eq_true, hK_setI, hN_setI, hR_setI, hr_setI, hZ_setI, hJ_setI, hK_setJ, hN_setJ, hR_setJ, hr_setJ, hZ_setJ, hI_setJ, reduceCtorEq, forall_const, and_self, eq_self, reduceIte, true_or, or_true, i_X9_stepAt_0, i_X9_stepAt_1, i_X9_stepAt_2, i_X9_stepAt_3, i_X9_stepAt_5, i_X9_stepAt_7, i_X9_stepAt_8, i_X9_stepAt_11, i_X9_stepAt_14, i_X9_stepAt_15, i_X9_stepAt_18, i_X9_stepAt_20, i_X9_stepAt_21, i_X9_stepAt_22, i_X9_stepAt_25, i_X9_stepAt_26, i_X9_stepAt_29, i_X9_stepAt_31, i_X9_stepAt_32, i_X9_stepAt_33, i_X9_stepAt_36, i_X9_stepAt_37, i_X9_stepAt_38, i_X9_stepAt_41, i_X9_stepAt_42, i_X9_stepAt_45, i_X9_stepAt_47, i_X9_stepAt_48, i_X9_stepAt_49, i_X9_stepAt_52, i_X9_stepAt_53, i_X9_stepAt_54, i_X9_stepAt_57, i_X9_stepAt_59, i_X9_stepAt_60, i_X9_stepAt_63, i_X9_stepAt_66, i_X9_stepAt_67, Option.some.injEq, Value.int.injEq, and_self, hs, HM.1, HM.r21, HM.q21, HM.k21, HM.n21, HM.r22, HM.q22, HM.k22, HM.n22]
    exact ⟨fun _ => trivial, fun q => absurd (nI_le (Nat.le_refl _) (by omega)) q⟩
  | succ d ih =>
    intro k hk
    have hkl : k < vn v 2 := by omega
    have htn := nI_tn (a := k) (by omega)
    have hin : vp_in (nI k) 200 := in_nI (by omega) (by omega)
    have hge : ¬ nI (vn v 2) ≤ nI k := nI_ge hkl (by omega)
    obtain ⟨e0, e1, e2, e3⟩ := H.st hkl
    have ihk := ih (k + 1) (by omega)
    have hb := stA_in v p m k (by omega)
    have hb2 : ¬ stA v p m k = -1 → vp_in (stA v p m k) 200 ∧ hI h (M + 15) (stA v p m k).toNatClampNeg = vc v 2 (stA v p m k).toNatClampNeg 1 := by
      intro q
      obtain ⟨j, hj, ej, hj2⟩ := inR_of (hb.resolve_left q)
      rw [ej, nI_tn hj2]
      exact ⟨in_nI (by omega) hj2, (H.st (by omega)).2.1⟩
    have hst : stA v p m (k + 1) = if vc v 2 k 0 = p ∧ vc v 2 k 1 ≤ m ∧ (stA v p m k = -1 ∨ vc v 2 (stA v p m k).toNatClampNeg 1 ≤ vc v 2 k 1) then nI k else stA v p m k := rfl
    generalize stA v p m k = b at *
    refine wp_run ctX9_ok ok_X9_stepAt (fun pc => pc == 5) 40 ?_
    simp (maxSteps := 10000000) only [↓wq, ↓oel_s, ↓nx_t, ↓nx_f, ↓lf_e, ↓sq_aconst_null, ↓sq_iconst, ↓sq_bipush, ↓sq_sipush, ↓sq_lconst, ↓sq_ldc, ↓sq_ldc_w, ↓sq_ldc2_w, ↓sq_iload_n, ↓sq_iload, ↓sq_lload_n, ↓sq_lload, ↓sq_aload_n, ↓sq_aload, ↓sq_istore_n, ↓sq_istore, ↓sq_lstore_n, ↓sq_lstore, ↓sq_astore_n, ↓sq_astore, ↓sq_iinc, ↓sq_iadd, ↓sq_isub, ↓sq_imul, ↓sq_iand, ↓sq_ior, ↓sq_ixor, ↓sq_ishl, ↓sq_ishr, ↓sq_iushr, ↓sq_ladd, ↓sq_lsub, ↓sq_lmul, ↓sq_land, ↓sq_lor, ↓sq_ldiv, ↓sq_lrem, ↓sq_lcmp, ↓sq_i2l, ↓sq_l2i, ↓sq_i2b, ↓sq_dup, ↓sq_pop, ↓sq_dup2, ↓sq_goto, ↓sq_ifCond_eq, ↓sq_ifCond_ne, ↓sq_ifCond_lt, ↓sq_ifCond_ge, ↓sq_ifCond_gt, ↓sq_ifCond_le, ↓sq_if_icmp_eq, ↓sq_if_icmp_ne, ↓sq_if_icmp_lt, ↓sq_if_icmp_ge, ↓sq_if_icmp_gt, ↓sq_if_icmp_le, ↓sq_ifnull, ↓sq_ifnonnull, ↓sq_tableswitch, ↓sq_lookupswitch, ↓sq_getfield, ↓sq_putfield, ↓sq_iaload, ↓sq_baload, ↓sq_laload, ↓sq_aaload, ↓sq_arraylength, ↓sq_iastore, ↓sq_bastore, ↓sq_lastore, ↓sq_aastore, ↓sq_new, ↓sq_newarray, ↓sq_anewarray, ↓sq_invokestatic, ↓sq_invokevirtual, ↓sq_invokespecial, ↓sq_ireturn, ↓sq_lreturn, ↓sq_areturn, ↓sq_return_, ↓pI_c, ↓pJ_c, ↓pA_c, ↓pN_c, ↓pN_n, ↓pV_c, ↓p1_i, ↓p1_r, ↓p1_n, ↓pE_c, ↓p0_c, ↓nl_n, ↓nl_r, ↓lI_0, ↓lI_s, ↓lJ_0, ↓lJ_s, ↓lA_0, ↓lA_n, ↓lA_s, ↓gtf_0, ↓gtf_1, ↓gtf_2, ↓rfc_s, ↓rfc_n, ↓swc_n, ↓swc_c, ↓rti_0, ↓rti_1, ↓rti_2, ↓rti_3, ↓scl_0, ↓scl_7, ↓scl_8, ↓scl_9, ↓icl_0, ↓icl_6, pI_c, pJ_c, pA_c, pN_c, pN_n, pV_c, p1_i, p1_r, p1_n, pE_c, p0_c, nl_n, nl_r, lI_0, lI_s, lJ_0, lJ_s, lA_0, lA_n, lA_s, gtf_0, gtf_1, gtf_2, rfc_s, rfc_n, swc_n, swc_c, rti_0, rti_1, rti_2, rti_3, scl_0, scl_7, scl_8, scl_9, icl_0, icl_6, setV_0, setV_1, setV_2, ptf_1, ptf_2, nb_1, nb_2, ldv_0, ldv_1, ls1_0, ls1_ni, ls1_nr, ls1_nn, ls1_nu, ls1_nl, ls1_s, ls2_0, ls2_ni, ls2_nr, ls2_nn, ls2_s, oel_s, Nat.reduceAdd, Nat.reduceSub, Nat.reduceLeDiff, Nat.reduceBEq, Bool.or_false, Bool.false_or, Bool.or_true, Bool.true_or, List.take_succ_cons, List.take_zero, List.drop_succ_cons, List.drop_zero, List.reverse_cons, List.reverse_nil, List.nil_append, List.cons_append, Option.toList_some, Option.toList_none, List.map_cons, List.map_nil, List.sum_cons, List.sum_nil, Value.category, List.length_cons, List.length_nil, Nat.le_refl, Nat.zero_le, Nat.add_zero, Nat.zero_add, Nat.add_one_sub_one, Nat.zero_lt_succ, true_and, and_true, ne_eq, not_false_eq_true, hK_setI, hN_setI, hR_setI, hr_setI, hZ_setI, hJ_setI, hK_setJ, hN_setJ, hR_setJ, hr_setJ, hZ_setJ, hI_setJ, reduceCtorEq, forall_const, and_self, eq_self, reduceIte, true_or, or_true, i_X9_stepAt_0, i_X9_stepAt_1, i_X9_stepAt_2, i_X9_stepAt_3, i_X9_stepAt_5, i_X9_stepAt_7, i_X9_stepAt_8, i_X9_stepAt_11, i_X9_stepAt_14, i_X9_stepAt_15, i_X9_stepAt_18, i_X9_stepAt_20, i_X9_stepAt_21, i_X9_stepAt_22, i_X9_stepAt_25, i_X9_stepAt_26, i_X9_stepAt_29, i_X9_stepAt_31, i_X9_stepAt_32, i_X9_stepAt_33, i_X9_stepAt_36, i_X9_stepAt_37, i_X9_stepAt_38, i_X9_stepAt_41, i_X9_stepAt_42, i_X9_stepAt_45, i_X9_stepAt_47, i_X9_stepAt_48, i_X9_stepAt_49, i_X9_stepAt_52, i_X9_stepAt_53, i_X9_stepAt_54, i_X9_stepAt_57, i_X9_stepAt_59, i_X9_stepAt_60, i_X9_stepAt_63, i_X9_stepAt_66, i_X9_stepAt_67, Option.some.injEq, Value.int.injEq, and_self, hs, htn, hin, hge, e0, e1, nI_1, HM.1, HM.r21, HM.q21, HM.k21, HM.n21, HM.r22, HM.q22, HM.k22, HM.n22]
    simp only [i_lt, i_le] at *
    grind

