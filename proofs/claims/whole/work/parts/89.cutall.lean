/-! 89: the class: LawReader.cutAll; the reader's state -/
def tq (R : Nat) : Nat → Prop := fun q => q = R ∨ q = R + 1 ∨ q = R + 2 ∨ q = R + 3
theorem addT_c {h : hp} {R z k p w : Nat} : Chg (tq R) h (addT h R z k p w) := (((Chg.sI (Or.inr (Or.inl rfl))).tr (Chg.sI (Or.inr (Or.inr (Or.inl rfl))))).tr (Chg.sI (Or.inr (Or.inr (Or.inr rfl))))).tr (Chg.sI (Or.inl rfl))
theorem addT_R {h : hp} {R z k p w : Nat} : hI (addT h R z k p w) R 3 = nI (z + 1) ∧ ∀ j, ¬ j = 3 → hI (addT h R z k p w) R j = hI h R j := by
  unfold addT
  refine ⟨by rw [hI_setI, if_pos ⟨rfl, rfl⟩], fun j hj => ?_⟩
  rw [hI_setI, if_neg (fun e => hj e.2), hI_setI, if_neg (by omega), hI_setI, if_neg (by omega), hI_setI, if_neg (by omega)]
theorem addT_t {h : hp} {R z k p w : Nat} (j : Nat) : hI (addT h R z k p w) (R + 1) j = (if j = z then nI k else hI h (R + 1) j) ∧ hI (addT h R z k p w) (R + 2) j = (if j = z then nI p else hI h (R + 2) j) ∧ hI (addT h R z k p w) (R + 3) j = (if j = z then nI w else hI h (R + 3) j) := by
  unfold addT
  refine ⟨?_, ?_, ?_⟩
  · rw [hI_setI, if_neg (by omega), hI_setI, if_neg (by omega), hI_setI, if_neg (by omega), hI_setI]
    by_cases e : j = z
    · rw [if_pos ⟨rfl, e⟩, if_pos e]
    · rw [if_neg (fun y => e y.2), if_neg e]
  · rw [hI_setI, if_neg (by omega), hI_setI, if_neg (by omega), hI_setI]
    by_cases e : j = z
    · rw [if_pos ⟨rfl, e⟩, if_pos e]
    · rw [if_neg (fun y => e y.2), if_neg e, hI_setI, if_neg (by omega)]
  · rw [hI_setI, if_neg (by omega), hI_setI]
    by_cases e : j = z
    · rw [if_pos ⟨rfl, e⟩, if_pos e]
    · rw [if_neg (fun y => e y.2), if_neg e, hI_setI, if_neg (by omega), hI_setI, if_neg (by omega)]
def Tk0 (h : hp) (R : Nat) (t : Nat → Nat) (m z : Nat) : Prop := ∀ j, j < z → hI h (R + 1) j = nI (kd t m (pl t m j)) ∧ hI h (R + 2) j = nI (pl t m j) ∧ hI h (R + 3) j = nI (nb t m (pl t m j))
theorem Tk0.add {h : hp} {R m z : Nat} {t : Nat → Nat} (H : Tk0 h R t m z) : Tk0 (addT h R z (kd t m (pl t m z)) (pl t m z) (nb t m (pl t m z))) R t m (z + 1) := by
  intro j hj
  obtain ⟨a1, a2, a3⟩ := addT_t (h := h) (R := R) (z := z) (k := kd t m (pl t m z)) (p := pl t m z) (w := nb t m (pl t m z)) j
  rw [a1, a2, a3]
  by_cases e : j = z
  · rw [if_pos e, if_pos e, if_pos e, e]
    exact ⟨rfl, rfl, rfl⟩
  · rw [if_neg e, if_neg e, if_neg e]
    exact H j (by omega)

set_option maxRecDepth 100000 in
set_option maxHeartbeats 1000000 in
theorem l_X3_cutAll (g : gx) (n : Nat) {h : hp} {R a m Z : Nat} {t : Nat → Nat} (SH0 : SHp g h Z) (H0 : RdAt h R) (TX0 : TxA h a m t) (hZ : Z ≤ R) (hna : ¬ tq R a) : ∀ (d f z : Nat) (h1 : hp), m - f ≤ d → f ≤ m → z ≤ f → Chg (tq R) h h1 → (∀ k, ¬ k = 3 → hI h1 R k = hI h R k) → hI h1 R 3 = nI z → Tk0 h1 R t m z → (∀ j, j < z → pl t m j < m) → sk t m f = pl t m z → Wp g (n + 6) 0 0 m_X3_cutAll h (fun rv h' => rv = none ∧ Chg (tq R) h h' ∧ (∀ k, ¬ k = 3 → hI h' R k = hI h R k) ∧ ∃ N, TkH h' R t m N) 0 0 7 [some (.ref R), some (.ref a), some (.int (nI m)), some (.int (nI f))] [] h1 := by
  intro d
  induction d with
  | zero =>
    intro f z h1 hd hf hz hc hk h3 ht hp2 hs
    have m400 := TX0.2.2.1
    have H := H0.kept hc
    have ef : f = m := by omega
    subst ef
    have es : pl t f z = f := by rw [← hs]; exact sk_e (by omega)
    have g1 : nI f ≤ nI f := nI_le (Nat.le_refl _) (by omega)
    refine wp_run ctX3_ok ok_X3_cutAll (fun pc => pc == 7) 27 ?_
    simp (maxSteps := 10000000) only [↓wq, ↓oel_s, ↓nx_t, ↓nx_f, ↓lf_e, ↓sq_aconst_null, ↓sq_iconst, ↓sq_bipush, ↓sq_sipush, ↓sq_lconst, ↓sq_ldc, ↓sq_ldc_w, ↓sq_ldc2_w, ↓sq_iload_n, ↓sq_iload, ↓sq_lload_n, ↓sq_lload, ↓sq_aload_n, ↓sq_aload, ↓sq_istore_n, ↓sq_istore, ↓sq_lstore_n, ↓sq_lstore, ↓sq_astore_n, ↓sq_astore, ↓sq_iinc, ↓sq_iadd, ↓sq_isub, ↓sq_imul, ↓sq_iand, ↓sq_ior, ↓sq_ixor, ↓sq_ishl, ↓sq_ishr, ↓sq_iushr, ↓sq_ladd, ↓sq_lsub, ↓sq_lmul, ↓sq_land, ↓sq_lor, ↓sq_ldiv, ↓sq_lrem, ↓sq_lcmp, ↓sq_i2l, ↓sq_l2i, ↓sq_i2b, ↓sq_dup, ↓sq_pop, ↓sq_dup2, ↓sq_goto, ↓sq_ifCond_eq, ↓sq_ifCond_ne, ↓sq_ifCond_lt, ↓sq_ifCond_ge, ↓sq_ifCond_gt, ↓sq_ifCond_le, ↓sq_if_icmp_eq, ↓sq_if_icmp_ne, ↓sq_if_icmp_lt, ↓sq_if_icmp_ge, ↓sq_if_icmp_gt, ↓sq_if_icmp_le, ↓sq_ifnull, ↓sq_ifnonnull, ↓sq_tableswitch, ↓sq_lookupswitch, ↓sq_getfield, ↓sq_putfield, ↓sq_iaload, ↓sq_baload, ↓sq_laload, ↓sq_aaload, ↓sq_arraylength, ↓sq_iastore, ↓sq_bastore, ↓sq_lastore, ↓sq_aastore, ↓sq_new, ↓sq_newarray, ↓sq_anewarray, ↓sq_invokestatic, ↓sq_invokevirtual, ↓sq_invokespecial, ↓sq_ireturn, ↓sq_lreturn, ↓sq_areturn, ↓sq_return_, ↓pI_c, ↓pJ_c, ↓pA_c, ↓pN_c, ↓pN_n, ↓pV_c, ↓p1_i, ↓p1_r, ↓p1_n, ↓pE_c, ↓p0_c, ↓nl_n, ↓nl_r, ↓lI_0, ↓lI_s, ↓lJ_0, ↓lJ_s, ↓lA_0, ↓lA_n, ↓lA_s, ↓gtf_0, ↓gtf_1, ↓gtf_2, ↓rfc_s, ↓rfc_n, ↓swc_n, ↓swc_c, ↓rti_0, ↓rti_1, ↓rti_2, ↓rti_3, ↓scl_0, ↓scl_7, ↓scl_8, ↓scl_9, ↓icl_0, ↓icl_6, pI_c, pJ_c, pA_c, pN_c, pN_n, pV_c, p1_i, p1_r, p1_n, pE_c, p0_c, nl_n, nl_r, lI_0, lI_s, lJ_0, lJ_s, lA_0, lA_n, lA_s, gtf_0, gtf_1, gtf_2, rfc_s, rfc_n, swc_n, swc_c, rti_0, rti_1, rti_2, rti_3, scl_0, scl_7, scl_8, scl_9, icl_0, icl_6, setV_0, setV_1, setV_2, ptf_1, ptf_2, nb_1, nb_2, ldv_0, ldv_1, ls1_0, ls1_ni, ls1_nr, ls1_nn, ls1_nu, ls1_nl, ls1_s, ls2_0, ls2_ni, ls2_nr, ls2_nn, ls2_s, oel_s, Nat.reduceAdd, Nat.reduceSub, Nat.reduceLeDiff, Nat.reduceBEq, Bool.or_false, Bool.false_or, Bool.or_true, Bool.true_or, List.take_succ_cons, List.take_zero, List.drop_succ_cons, List.drop_zero, List.reverse_cons, List.reverse_nil, List.nil_append, List.cons_append, Option.toList_some, Option.toList_none, List.map_cons, List.map_nil, List.sum_cons, List.sum_nil, Value.category, List.length_cons, List.length_nil, Nat.le_refl, Nat.zero_le, Nat.add_zero, Nat.zero_add, Nat.add_one_sub_one, Nat.zero_lt_succ, true_and, and_true, ne_eq, not_false_eq_true, hK_setI, hN_setI, hR_setI, hr_setI, hZ_setI, hJ_setI, hK_setJ, hN_setJ, hR_setJ, hr_setJ, hZ_setJ, hI_setJ, reduceCtorEq, forall_const, and_self, eq_self, reduceIte, true_or, or_true, i_X3_cutAll_0, i_X3_cutAll_1, i_X3_cutAll_2, i_X3_cutAll_5, i_X3_cutAll_6, i_X3_cutAll_7, i_X3_cutAll_8, i_X3_cutAll_9, i_X3_cutAll_12, i_X3_cutAll_13, i_X3_cutAll_14, i_X3_cutAll_15, i_X3_cutAll_16, i_X3_cutAll_17, i_X3_cutAll_18, i_X3_cutAll_19, i_X3_cutAll_22, i_X3_cutAll_25, i_X3_cutAll_26, i_X3_cutAll_29, i_X3_cutAll_30, i_X3_cutAll_32, i_X3_cutAll_33, i_X3_cutAll_34, i_X3_cutAll_37, mt_27, mt_28, ft_3_3, Option.some.injEq, Value.int.injEq, Value.long.injEq, and_self, not_true_eq_false, not_false_eq_true, false_implies, true_implies, g1, H.1, ]
    refine Call.ret (c_X3_addToken g (n + 5) H h3 (by omega) _ _ _) ?_
    have ek : kd t f (pl t f z) = 34 := by rw [es]; exact (kd_end (Nat.le_refl _)).mpr rfl
    have eb : nb t f (pl t f z) = 0 := by rw [es]; unfold nb; rw [tk_end (Nat.le_refl _)]
    have hT := ht.add
    rw [ek, eb, es] at hT
    have hcc : Chg (tq R) h (addT h1 R z 34 f 0) := hc.tr addT_c
    have hR2 := addT_R (h := h1) (R := R) (z := z) (k := 34) (p := f) (w := 0)
    have fin : Chg (tq R) h (addT h1 R z 34 f 0) ∧ (∀ k, ¬ k = 3 → hI (addT h1 R z 34 f 0) R k = hI h R k) ∧ ∃ N, TkH (addT h1 R z 34 f 0) R t f N := by
      refine ⟨hcc, fun k hk2 => (hR2.2 k hk2).trans (hk k hk2), z + 1, H0.kept hcc, hR2.1, ⟨by omega, by omega, m400⟩, hT, fun j hj => hp2 j (by omega), ?_⟩
      rw [show z + 1 - 1 = z by omega]
      exact es
    generalize hg : addT h1 R z 34 f 0 = hq at fin
    have hg2 : setI (setI (setI (setI h1 (R + 1) z 34) (R + 2) z (nI f)) (R + 3) z 0) R 3 (nI (z + 1)) = hq := hg
    rw [hg2]
    refine wp_run ctX3_ok ok_X3_cutAll (fun pc => pc == 7) 27 ?_
    simp (maxSteps := 10000000) only [↓wq, ↓oel_s, ↓nx_t, ↓nx_f, ↓lf_e, ↓sq_aconst_null, ↓sq_iconst, ↓sq_bipush, ↓sq_sipush, ↓sq_lconst, ↓sq_ldc, ↓sq_ldc_w, ↓sq_ldc2_w, ↓sq_iload_n, ↓sq_iload, ↓sq_lload_n, ↓sq_lload, ↓sq_aload_n, ↓sq_aload, ↓sq_istore_n, ↓sq_istore, ↓sq_lstore_n, ↓sq_lstore, ↓sq_astore_n, ↓sq_astore, ↓sq_iinc, ↓sq_iadd, ↓sq_isub, ↓sq_imul, ↓sq_iand, ↓sq_ior, ↓sq_ixor, ↓sq_ishl, ↓sq_ishr, ↓sq_iushr, ↓sq_ladd, ↓sq_lsub, ↓sq_lmul, ↓sq_land, ↓sq_lor, ↓sq_ldiv, ↓sq_lrem, ↓sq_lcmp, ↓sq_i2l, ↓sq_l2i, ↓sq_i2b, ↓sq_dup, ↓sq_pop, ↓sq_dup2, ↓sq_goto, ↓sq_ifCond_eq, ↓sq_ifCond_ne, ↓sq_ifCond_lt, ↓sq_ifCond_ge, ↓sq_ifCond_gt, ↓sq_ifCond_le, ↓sq_if_icmp_eq, ↓sq_if_icmp_ne, ↓sq_if_icmp_lt, ↓sq_if_icmp_ge, ↓sq_if_icmp_gt, ↓sq_if_icmp_le, ↓sq_ifnull, ↓sq_ifnonnull, ↓sq_tableswitch, ↓sq_lookupswitch, ↓sq_getfield, ↓sq_putfield, ↓sq_iaload, ↓sq_baload, ↓sq_laload, ↓sq_aaload, ↓sq_arraylength, ↓sq_iastore, ↓sq_bastore, ↓sq_lastore, ↓sq_aastore, ↓sq_new, ↓sq_newarray, ↓sq_anewarray, ↓sq_invokestatic, ↓sq_invokevirtual, ↓sq_invokespecial, ↓sq_ireturn, ↓sq_lreturn, ↓sq_areturn, ↓sq_return_, ↓pI_c, ↓pJ_c, ↓pA_c, ↓pN_c, ↓pN_n, ↓pV_c, ↓p1_i, ↓p1_r, ↓p1_n, ↓pE_c, ↓p0_c, ↓nl_n, ↓nl_r, ↓lI_0, ↓lI_s, ↓lJ_0, ↓lJ_s, ↓lA_0, ↓lA_n, ↓lA_s, ↓gtf_0, ↓gtf_1, ↓gtf_2, ↓rfc_s, ↓rfc_n, ↓swc_n, ↓swc_c, ↓rti_0, ↓rti_1, ↓rti_2, ↓rti_3, ↓scl_0, ↓scl_7, ↓scl_8, ↓scl_9, ↓icl_0, ↓icl_6, pI_c, pJ_c, pA_c, pN_c, pN_n, pV_c, p1_i, p1_r, p1_n, pE_c, p0_c, nl_n, nl_r, lI_0, lI_s, lJ_0, lJ_s, lA_0, lA_n, lA_s, gtf_0, gtf_1, gtf_2, rfc_s, rfc_n, swc_n, swc_c, rti_0, rti_1, rti_2, rti_3, scl_0, scl_7, scl_8, scl_9, icl_0, icl_6, setV_0, setV_1, setV_2, ptf_1, ptf_2, nb_1, nb_2, ldv_0, ldv_1, ls1_0, ls1_ni, ls1_nr, ls1_nn, ls1_nu, ls1_nl, ls1_s, ls2_0, ls2_ni, ls2_nr, ls2_nn, ls2_s, oel_s, Nat.reduceAdd, Nat.reduceSub, Nat.reduceLeDiff, Nat.reduceBEq, Bool.or_false, Bool.false_or, Bool.or_true, Bool.true_or, List.take_succ_cons, List.take_zero, List.drop_succ_cons, List.drop_zero, List.reverse_cons, List.reverse_nil, List.nil_append, List.cons_append, Option.toList_some, Option.toList_none, List.map_cons, List.map_nil, List.sum_cons, List.sum_nil, Value.category, List.length_cons, List.length_nil, Nat.le_refl, Nat.zero_le, Nat.add_zero, Nat.zero_add, Nat.add_one_sub_one, Nat.zero_lt_succ, true_and, and_true, ne_eq, not_false_eq_true, hK_setI, hN_setI, hR_setI, hr_setI, hZ_setI, hJ_setI, hK_setJ, hN_setJ, hR_setJ, hr_setJ, hZ_setJ, hI_setJ, reduceCtorEq, forall_const, and_self, eq_self, reduceIte, true_or, or_true, i_X3_cutAll_0, i_X3_cutAll_1, i_X3_cutAll_2, i_X3_cutAll_5, i_X3_cutAll_6, i_X3_cutAll_7, i_X3_cutAll_8, i_X3_cutAll_9, i_X3_cutAll_12, i_X3_cutAll_13, i_X3_cutAll_14, i_X3_cutAll_15, i_X3_cutAll_16, i_X3_cutAll_17, i_X3_cutAll_18, i_X3_cutAll_19, i_X3_cutAll_22, i_X3_cutAll_25, i_X3_cutAll_26, i_X3_cutAll_29, i_X3_cutAll_30, i_X3_cutAll_32, i_X3_cutAll_33, i_X3_cutAll_34, i_X3_cutAll_37, mt_27, mt_28, ft_3_3, Option.some.injEq, Value.int.injEq, Value.long.injEq, and_self, not_true_eq_false, not_false_eq_true, false_implies, true_implies]
    exact fin
  | succ d ih =>
    intro f z h1 hd hf hz hc hk h3 ht hp2 hs
    by_cases ef : f = m
    · exact ih f z h1 (by omega) hf hz hc hk h3 ht hp2 hs
    have m400 := TX0.2.2.1
    have H := H0.kept hc
    have hfm : f < m := by omega
    have g1 : ¬ nI m ≤ nI f := nI_ge hfm (by omega)
    have in1 : nI f + 1 = nI (f + 1) := nI_plus (b := 1)
    have SH := SH0.kept hc (fun b hb => by rcases hb with e | e | e | e <;> omega)
    have TX := TX0.kept hc hna
    refine wp_run ctX3_ok ok_X3_cutAll (fun pc => pc == 7) 27 ?_
    simp (maxSteps := 10000000) only [↓wq, ↓oel_s, ↓nx_t, ↓nx_f, ↓lf_e, ↓sq_aconst_null, ↓sq_iconst, ↓sq_bipush, ↓sq_sipush, ↓sq_lconst, ↓sq_ldc, ↓sq_ldc_w, ↓sq_ldc2_w, ↓sq_iload_n, ↓sq_iload, ↓sq_lload_n, ↓sq_lload, ↓sq_aload_n, ↓sq_aload, ↓sq_istore_n, ↓sq_istore, ↓sq_lstore_n, ↓sq_lstore, ↓sq_astore_n, ↓sq_astore, ↓sq_iinc, ↓sq_iadd, ↓sq_isub, ↓sq_imul, ↓sq_iand, ↓sq_ior, ↓sq_ixor, ↓sq_ishl, ↓sq_ishr, ↓sq_iushr, ↓sq_ladd, ↓sq_lsub, ↓sq_lmul, ↓sq_land, ↓sq_lor, ↓sq_ldiv, ↓sq_lrem, ↓sq_lcmp, ↓sq_i2l, ↓sq_l2i, ↓sq_i2b, ↓sq_dup, ↓sq_pop, ↓sq_dup2, ↓sq_goto, ↓sq_ifCond_eq, ↓sq_ifCond_ne, ↓sq_ifCond_lt, ↓sq_ifCond_ge, ↓sq_ifCond_gt, ↓sq_ifCond_le, ↓sq_if_icmp_eq, ↓sq_if_icmp_ne, ↓sq_if_icmp_lt, ↓sq_if_icmp_ge, ↓sq_if_icmp_gt, ↓sq_if_icmp_le, ↓sq_ifnull, ↓sq_ifnonnull, ↓sq_tableswitch, ↓sq_lookupswitch, ↓sq_getfield, ↓sq_putfield, ↓sq_iaload, ↓sq_baload, ↓sq_laload, ↓sq_aaload, ↓sq_arraylength, ↓sq_iastore, ↓sq_bastore, ↓sq_lastore, ↓sq_aastore, ↓sq_new, ↓sq_newarray, ↓sq_anewarray, ↓sq_invokestatic, ↓sq_invokevirtual, ↓sq_invokespecial, ↓sq_ireturn, ↓sq_lreturn, ↓sq_areturn, ↓sq_return_, ↓pI_c, ↓pJ_c, ↓pA_c, ↓pN_c, ↓pN_n, ↓pV_c, ↓p1_i, ↓p1_r, ↓p1_n, ↓pE_c, ↓p0_c, ↓nl_n, ↓nl_r, ↓lI_0, ↓lI_s, ↓lJ_0, ↓lJ_s, ↓lA_0, ↓lA_n, ↓lA_s, ↓gtf_0, ↓gtf_1, ↓gtf_2, ↓rfc_s, ↓rfc_n, ↓swc_n, ↓swc_c, ↓rti_0, ↓rti_1, ↓rti_2, ↓rti_3, ↓scl_0, ↓scl_7, ↓scl_8, ↓scl_9, ↓icl_0, ↓icl_6, pI_c, pJ_c, pA_c, pN_c, pN_n, pV_c, p1_i, p1_r, p1_n, pE_c, p0_c, nl_n, nl_r, lI_0, lI_s, lJ_0, lJ_s, lA_0, lA_n, lA_s, gtf_0, gtf_1, gtf_2, rfc_s, rfc_n, swc_n, swc_c, rti_0, rti_1, rti_2, rti_3, scl_0, scl_7, scl_8, scl_9, icl_0, icl_6, setV_0, setV_1, setV_2, ptf_1, ptf_2, nb_1, nb_2, ldv_0, ldv_1, ls1_0, ls1_ni, ls1_nr, ls1_nn, ls1_nu, ls1_nl, ls1_s, ls2_0, ls2_ni, ls2_nr, ls2_nn, ls2_s, oel_s, Nat.reduceAdd, Nat.reduceSub, Nat.reduceLeDiff, Nat.reduceBEq, Bool.or_false, Bool.false_or, Bool.or_true, Bool.true_or, List.take_succ_cons, List.take_zero, List.drop_succ_cons, List.drop_zero, List.reverse_cons, List.reverse_nil, List.nil_append, List.cons_append, Option.toList_some, Option.toList_none, List.map_cons, List.map_nil, List.sum_cons, List.sum_nil, Value.category, List.length_cons, List.length_nil, Nat.le_refl, Nat.zero_le, Nat.add_zero, Nat.zero_add, Nat.add_one_sub_one, Nat.zero_lt_succ, true_and, and_true, ne_eq, not_false_eq_true, hK_setI, hN_setI, hR_setI, hr_setI, hZ_setI, hJ_setI, hK_setJ, hN_setJ, hR_setJ, hr_setJ, hZ_setJ, hI_setJ, reduceCtorEq, forall_const, and_self, eq_self, reduceIte, true_or, or_true, i_X3_cutAll_0, i_X3_cutAll_1, i_X3_cutAll_2, i_X3_cutAll_5, i_X3_cutAll_6, i_X3_cutAll_7, i_X3_cutAll_8, i_X3_cutAll_9, i_X3_cutAll_12, i_X3_cutAll_13, i_X3_cutAll_14, i_X3_cutAll_15, i_X3_cutAll_16, i_X3_cutAll_17, i_X3_cutAll_18, i_X3_cutAll_19, i_X3_cutAll_22, i_X3_cutAll_25, i_X3_cutAll_26, i_X3_cutAll_29, i_X3_cutAll_30, i_X3_cutAll_32, i_X3_cutAll_33, i_X3_cutAll_34, i_X3_cutAll_37, mt_27, mt_28, ft_3_3, Option.some.injEq, Value.int.injEq, Value.long.injEq, and_self, not_true_eq_false, not_false_eq_true, false_implies, true_implies, g1, in1, H.1, ]
    refine Call.ret (c_X3_cut g n SH H TX hfm h3 (by omega)) ?_
    by_cases q : t f = 32
    · rw [if_pos q, if_pos q]
      have em : (if nI (f + 1) < nI (f + 1) then nI (f + 1) else nI (f + 1)) = nI (f + 1) := ite_self _
      refine wp_run ctX3_ok ok_X3_cutAll (fun pc => pc == 7) 27 ?_
      simp (maxSteps := 10000000) only [↓wq, ↓oel_s, ↓nx_t, ↓nx_f, ↓lf_e, ↓sq_aconst_null, ↓sq_iconst, ↓sq_bipush, ↓sq_sipush, ↓sq_lconst, ↓sq_ldc, ↓sq_ldc_w, ↓sq_ldc2_w, ↓sq_iload_n, ↓sq_iload, ↓sq_lload_n, ↓sq_lload, ↓sq_aload_n, ↓sq_aload, ↓sq_istore_n, ↓sq_istore, ↓sq_lstore_n, ↓sq_lstore, ↓sq_astore_n, ↓sq_astore, ↓sq_iinc, ↓sq_iadd, ↓sq_isub, ↓sq_imul, ↓sq_iand, ↓sq_ior, ↓sq_ixor, ↓sq_ishl, ↓sq_ishr, ↓sq_iushr, ↓sq_ladd, ↓sq_lsub, ↓sq_lmul, ↓sq_land, ↓sq_lor, ↓sq_ldiv, ↓sq_lrem, ↓sq_lcmp, ↓sq_i2l, ↓sq_l2i, ↓sq_i2b, ↓sq_dup, ↓sq_pop, ↓sq_dup2, ↓sq_goto, ↓sq_ifCond_eq, ↓sq_ifCond_ne, ↓sq_ifCond_lt, ↓sq_ifCond_ge, ↓sq_ifCond_gt, ↓sq_ifCond_le, ↓sq_if_icmp_eq, ↓sq_if_icmp_ne, ↓sq_if_icmp_lt, ↓sq_if_icmp_ge, ↓sq_if_icmp_gt, ↓sq_if_icmp_le, ↓sq_ifnull, ↓sq_ifnonnull, ↓sq_tableswitch, ↓sq_lookupswitch, ↓sq_getfield, ↓sq_putfield, ↓sq_iaload, ↓sq_baload, ↓sq_laload, ↓sq_aaload, ↓sq_arraylength, ↓sq_iastore, ↓sq_bastore, ↓sq_lastore, ↓sq_aastore, ↓sq_new, ↓sq_newarray, ↓sq_anewarray, ↓sq_invokestatic, ↓sq_invokevirtual, ↓sq_invokespecial, ↓sq_ireturn, ↓sq_lreturn, ↓sq_areturn, ↓sq_return_, ↓pI_c, ↓pJ_c, ↓pA_c, ↓pN_c, ↓pN_n, ↓pV_c, ↓p1_i, ↓p1_r, ↓p1_n, ↓pE_c, ↓p0_c, ↓nl_n, ↓nl_r, ↓lI_0, ↓lI_s, ↓lJ_0, ↓lJ_s, ↓lA_0, ↓lA_n, ↓lA_s, ↓gtf_0, ↓gtf_1, ↓gtf_2, ↓rfc_s, ↓rfc_n, ↓swc_n, ↓swc_c, ↓rti_0, ↓rti_1, ↓rti_2, ↓rti_3, ↓scl_0, ↓scl_7, ↓scl_8, ↓scl_9, ↓icl_0, ↓icl_6, pI_c, pJ_c, pA_c, pN_c, pN_n, pV_c, p1_i, p1_r, p1_n, pE_c, p0_c, nl_n, nl_r, lI_0, lI_s, lJ_0, lJ_s, lA_0, lA_n, lA_s, gtf_0, gtf_1, gtf_2, rfc_s, rfc_n, swc_n, swc_c, rti_0, rti_1, rti_2, rti_3, scl_0, scl_7, scl_8, scl_9, icl_0, icl_6, setV_0, setV_1, setV_2, ptf_1, ptf_2, nb_1, nb_2, ldv_0, ldv_1, ls1_0, ls1_ni, ls1_nr, ls1_nn, ls1_nu, ls1_nl, ls1_s, ls2_0, ls2_ni, ls2_nr, ls2_nn, ls2_s, oel_s, Nat.reduceAdd, Nat.reduceSub, Nat.reduceLeDiff, Nat.reduceBEq, Bool.or_false, Bool.false_or, Bool.or_true, Bool.true_or, List.take_succ_cons, List.take_zero, List.drop_succ_cons, List.drop_zero, List.reverse_cons, List.reverse_nil, List.nil_append, List.cons_append, Option.toList_some, Option.toList_none, List.map_cons, List.map_nil, List.sum_cons, List.sum_nil, Value.category, List.length_cons, List.length_nil, Nat.le_refl, Nat.zero_le, Nat.add_zero, Nat.zero_add, Nat.add_one_sub_one, Nat.zero_lt_succ, true_and, and_true, ne_eq, not_false_eq_true, hK_setI, hN_setI, hR_setI, hr_setI, hZ_setI, hJ_setI, hK_setJ, hN_setJ, hR_setJ, hr_setJ, hZ_setJ, hI_setJ, reduceCtorEq, forall_const, and_self, eq_self, reduceIte, true_or, or_true, i_X3_cutAll_0, i_X3_cutAll_1, i_X3_cutAll_2, i_X3_cutAll_5, i_X3_cutAll_6, i_X3_cutAll_7, i_X3_cutAll_8, i_X3_cutAll_9, i_X3_cutAll_12, i_X3_cutAll_13, i_X3_cutAll_14, i_X3_cutAll_15, i_X3_cutAll_16, i_X3_cutAll_17, i_X3_cutAll_18, i_X3_cutAll_19, i_X3_cutAll_22, i_X3_cutAll_25, i_X3_cutAll_26, i_X3_cutAll_29, i_X3_cutAll_30, i_X3_cutAll_32, i_X3_cutAll_33, i_X3_cutAll_34, i_X3_cutAll_37, mt_27, mt_28, ft_3_3, Option.some.injEq, Value.int.injEq, Value.long.injEq, and_self, not_true_eq_false, not_false_eq_true, false_implies, true_implies, ite_self, em]
      exact ih (f + 1) z h1 (by omega) (by omega) (by omega) hc hk h3 ht hp2 (by rw [← hs]; exact (sk_s hfm q).symm)
    · rw [if_neg q, if_neg q]
      have ep : pl t m z = f := by rw [← hs]; exact sk_e (fun y => q y.2)
      obtain ⟨te1, te2⟩ := te_gt (t := t) hfm
      have em : (if nI (f + 1) < nI (te t m f) then nI (te t m f) else nI (f + 1)) = nI (te t m f) := by
        by_cases e : f + 1 < te t m f
        · rw [if_pos (nI_lt e (by omega))]
        · rw [show te t m f = f + 1 by omega]
          exact ite_self _
      have hR2 := addT_R (h := h1) (R := R) (z := z) (k := kd t m f) (p := f) (w := nb t m f)
      have hT := ht.add
      rw [ep] at hT
      have ihh := ih (te t m f) (z + 1) (addT h1 R z (kd t m f) f (nb t m f)) (by omega) te2 (by omega) (hc.tr addT_c) (fun k hk2 => (hR2.2 k hk2).trans (hk k hk2)) hR2.1 hT (fun j hj => by
        by_cases e : j = z
        · rw [e, ep]; exact hfm
        · exact hp2 j (by omega)) (by show _ = nq t m (pl t m z); rw [ep]; rfl)
      generalize addT h1 R z (kd t m f) f (nb t m f) = h5 at ihh ⊢
      refine wp_run ctX3_ok ok_X3_cutAll (fun pc => pc == 7) 27 ?_
      simp (maxSteps := 10000000) only [↓wq, ↓oel_s, ↓nx_t, ↓nx_f, ↓lf_e, ↓sq_aconst_null, ↓sq_iconst, ↓sq_bipush, ↓sq_sipush, ↓sq_lconst, ↓sq_ldc, ↓sq_ldc_w, ↓sq_ldc2_w, ↓sq_iload_n, ↓sq_iload, ↓sq_lload_n, ↓sq_lload, ↓sq_aload_n, ↓sq_aload, ↓sq_istore_n, ↓sq_istore, ↓sq_lstore_n, ↓sq_lstore, ↓sq_astore_n, ↓sq_astore, ↓sq_iinc, ↓sq_iadd, ↓sq_isub, ↓sq_imul, ↓sq_iand, ↓sq_ior, ↓sq_ixor, ↓sq_ishl, ↓sq_ishr, ↓sq_iushr, ↓sq_ladd, ↓sq_lsub, ↓sq_lmul, ↓sq_land, ↓sq_lor, ↓sq_ldiv, ↓sq_lrem, ↓sq_lcmp, ↓sq_i2l, ↓sq_l2i, ↓sq_i2b, ↓sq_dup, ↓sq_pop, ↓sq_dup2, ↓sq_goto, ↓sq_ifCond_eq, ↓sq_ifCond_ne, ↓sq_ifCond_lt, ↓sq_ifCond_ge, ↓sq_ifCond_gt, ↓sq_ifCond_le, ↓sq_if_icmp_eq, ↓sq_if_icmp_ne, ↓sq_if_icmp_lt, ↓sq_if_icmp_ge, ↓sq_if_icmp_gt, ↓sq_if_icmp_le, ↓sq_ifnull, ↓sq_ifnonnull, ↓sq_tableswitch, ↓sq_lookupswitch, ↓sq_getfield, ↓sq_putfield, ↓sq_iaload, ↓sq_baload, ↓sq_laload, ↓sq_aaload, ↓sq_arraylength, ↓sq_iastore, ↓sq_bastore, ↓sq_lastore, ↓sq_aastore, ↓sq_new, ↓sq_newarray, ↓sq_anewarray, ↓sq_invokestatic, ↓sq_invokevirtual, ↓sq_invokespecial, ↓sq_ireturn, ↓sq_lreturn, ↓sq_areturn, ↓sq_return_, ↓pI_c, ↓pJ_c, ↓pA_c, ↓pN_c, ↓pN_n, ↓pV_c, ↓p1_i, ↓p1_r, ↓p1_n, ↓pE_c, ↓p0_c, ↓nl_n, ↓nl_r, ↓lI_0, ↓lI_s, ↓lJ_0, ↓lJ_s, ↓lA_0, ↓lA_n, ↓lA_s, ↓gtf_0, ↓gtf_1, ↓gtf_2, ↓rfc_s, ↓rfc_n, ↓swc_n, ↓swc_c, ↓rti_0, ↓rti_1, ↓rti_2, ↓rti_3, ↓scl_0, ↓scl_7, ↓scl_8, ↓scl_9, ↓icl_0, ↓icl_6, pI_c, pJ_c, pA_c, pN_c, pN_n, pV_c, p1_i, p1_r, p1_n, pE_c, p0_c, nl_n, nl_r, lI_0, lI_s, lJ_0, lJ_s, lA_0, lA_n, lA_s, gtf_0, gtf_1, gtf_2, rfc_s, rfc_n, swc_n, swc_c, rti_0, rti_1, rti_2, rti_3, scl_0, scl_7, scl_8, scl_9, icl_0, icl_6, setV_0, setV_1, setV_2, ptf_1, ptf_2, nb_1, nb_2, ldv_0, ldv_1, ls1_0, ls1_ni, ls1_nr, ls1_nn, ls1_nu, ls1_nl, ls1_s, ls2_0, ls2_ni, ls2_nr, ls2_nn, ls2_s, oel_s, Nat.reduceAdd, Nat.reduceSub, Nat.reduceLeDiff, Nat.reduceBEq, Bool.or_false, Bool.false_or, Bool.or_true, Bool.true_or, List.take_succ_cons, List.take_zero, List.drop_succ_cons, List.drop_zero, List.reverse_cons, List.reverse_nil, List.nil_append, List.cons_append, Option.toList_some, Option.toList_none, List.map_cons, List.map_nil, List.sum_cons, List.sum_nil, Value.category, List.length_cons, List.length_nil, Nat.le_refl, Nat.zero_le, Nat.add_zero, Nat.zero_add, Nat.add_one_sub_one, Nat.zero_lt_succ, true_and, and_true, ne_eq, not_false_eq_true, hK_setI, hN_setI, hR_setI, hr_setI, hZ_setI, hJ_setI, hK_setJ, hN_setJ, hR_setJ, hr_setJ, hZ_setJ, hI_setJ, reduceCtorEq, forall_const, and_self, eq_self, reduceIte, true_or, or_true, i_X3_cutAll_0, i_X3_cutAll_1, i_X3_cutAll_2, i_X3_cutAll_5, i_X3_cutAll_6, i_X3_cutAll_7, i_X3_cutAll_8, i_X3_cutAll_9, i_X3_cutAll_12, i_X3_cutAll_13, i_X3_cutAll_14, i_X3_cutAll_15, i_X3_cutAll_16, i_X3_cutAll_17, i_X3_cutAll_18, i_X3_cutAll_19, i_X3_cutAll_22, i_X3_cutAll_25, i_X3_cutAll_26, i_X3_cutAll_29, i_X3_cutAll_30, i_X3_cutAll_32, i_X3_cutAll_33, i_X3_cutAll_34, i_X3_cutAll_37, mt_27, mt_28, ft_3_3, Option.some.injEq, Value.int.injEq, Value.long.injEq, and_self, not_true_eq_false, not_false_eq_true, false_implies, true_implies, em]
      exact ihh

set_option maxRecDepth 100000 in
set_option maxHeartbeats 1000000 in
theorem c_X3_cutAll (g : gx) (n : Nat) {h : hp} {R a m Z : Nat} {t : Nat → Nat} (SH0 : SHp g h Z) (H0 : RdAt h R) (TX0 : TxA h a m t) (hZ : Z ≤ R) (hna : ¬ tq R a) : Call g (n + 6) 0 0 m_X3_cutAll [.ref R, .ref a, .int (nI m)] h (fun rv h' => rv = none ∧ Chg (tq R) h h' ∧ (∀ k, ¬ k = 3 → hI h' R k = hI h R k) ∧ ∃ N, TkH h' R t m N) := by
  refine Call.of rfl (Nat.le_of_ble_eq_true rfl) ?_
  show Wp g (n + 6) 0 0 m_X3_cutAll h _ 0 0 0 [some (.ref R), some (.ref a), some (.int (nI m)), none] [] h
  have kk := l_X3_cutAll g n SH0 H0 TX0 hZ hna m 0 0 (setI h R 3 (nI 0)) (by omega) (by omega) (by omega) (Chg.sI (Or.inl rfl)) (fun k hk => by rw [hI_setI, if_neg (fun e => hk e.2)]) (by rw [hI_setI, if_pos ⟨rfl, rfl⟩]) (fun j hj => by omega) (fun j hj => by omega) rfl
  refine wp_run ctX3_ok ok_X3_cutAll (fun pc => pc == 7) 27 ?_
  simp (maxSteps := 10000000) only [↓wq, ↓oel_s, ↓nx_t, ↓nx_f, ↓lf_e, ↓sq_aconst_null, ↓sq_iconst, ↓sq_bipush, ↓sq_sipush, ↓sq_lconst, ↓sq_ldc, ↓sq_ldc_w, ↓sq_ldc2_w, ↓sq_iload_n, ↓sq_iload, ↓sq_lload_n, ↓sq_lload, ↓sq_aload_n, ↓sq_aload, ↓sq_istore_n, ↓sq_istore, ↓sq_lstore_n, ↓sq_lstore, ↓sq_astore_n, ↓sq_astore, ↓sq_iinc, ↓sq_iadd, ↓sq_isub, ↓sq_imul, ↓sq_iand, ↓sq_ior, ↓sq_ixor, ↓sq_ishl, ↓sq_ishr, ↓sq_iushr, ↓sq_ladd, ↓sq_lsub, ↓sq_lmul, ↓sq_land, ↓sq_lor, ↓sq_ldiv, ↓sq_lrem, ↓sq_lcmp, ↓sq_i2l, ↓sq_l2i, ↓sq_i2b, ↓sq_dup, ↓sq_pop, ↓sq_dup2, ↓sq_goto, ↓sq_ifCond_eq, ↓sq_ifCond_ne, ↓sq_ifCond_lt, ↓sq_ifCond_ge, ↓sq_ifCond_gt, ↓sq_ifCond_le, ↓sq_if_icmp_eq, ↓sq_if_icmp_ne, ↓sq_if_icmp_lt, ↓sq_if_icmp_ge, ↓sq_if_icmp_gt, ↓sq_if_icmp_le, ↓sq_ifnull, ↓sq_ifnonnull, ↓sq_tableswitch, ↓sq_lookupswitch, ↓sq_getfield, ↓sq_putfield, ↓sq_iaload, ↓sq_baload, ↓sq_laload, ↓sq_aaload, ↓sq_arraylength, ↓sq_iastore, ↓sq_bastore, ↓sq_lastore, ↓sq_aastore, ↓sq_new, ↓sq_newarray, ↓sq_anewarray, ↓sq_invokestatic, ↓sq_invokevirtual, ↓sq_invokespecial, ↓sq_ireturn, ↓sq_lreturn, ↓sq_areturn, ↓sq_return_, ↓pI_c, ↓pJ_c, ↓pA_c, ↓pN_c, ↓pN_n, ↓pV_c, ↓p1_i, ↓p1_r, ↓p1_n, ↓pE_c, ↓p0_c, ↓nl_n, ↓nl_r, ↓lI_0, ↓lI_s, ↓lJ_0, ↓lJ_s, ↓lA_0, ↓lA_n, ↓lA_s, ↓gtf_0, ↓gtf_1, ↓gtf_2, ↓rfc_s, ↓rfc_n, ↓swc_n, ↓swc_c, ↓rti_0, ↓rti_1, ↓rti_2, ↓rti_3, ↓scl_0, ↓scl_7, ↓scl_8, ↓scl_9, ↓icl_0, ↓icl_6, pI_c, pJ_c, pA_c, pN_c, pN_n, pV_c, p1_i, p1_r, p1_n, pE_c, p0_c, nl_n, nl_r, lI_0, lI_s, lJ_0, lJ_s, lA_0, lA_n, lA_s, gtf_0, gtf_1, gtf_2, rfc_s, rfc_n, swc_n, swc_c, rti_0, rti_1, rti_2, rti_3, scl_0, scl_7, scl_8, scl_9, icl_0, icl_6, setV_0, setV_1, setV_2, ptf_1, ptf_2, nb_1, nb_2, ldv_0, ldv_1, ls1_0, ls1_ni, ls1_nr, ls1_nn, ls1_nu, ls1_nl, ls1_s, ls2_0, ls2_ni, ls2_nr, ls2_nn, ls2_s, oel_s, Nat.reduceAdd, Nat.reduceSub, Nat.reduceLeDiff, Nat.reduceBEq, Bool.or_false, Bool.false_or, Bool.or_true, Bool.true_or, List.take_succ_cons, List.take_zero, List.drop_succ_cons, List.drop_zero, List.reverse_cons, List.reverse_nil, List.nil_append, List.cons_append, Option.toList_some, Option.toList_none, List.map_cons, List.map_nil, List.sum_cons, List.sum_nil, Value.category, List.length_cons, List.length_nil, Nat.le_refl, Nat.zero_le, Nat.add_zero, Nat.zero_add, Nat.add_one_sub_one, Nat.zero_lt_succ, true_and, and_true, ne_eq, not_false_eq_true, hK_setI, hN_setI, hR_setI, hr_setI, hZ_setI, hJ_setI, hK_setJ, hN_setJ, hR_setJ, hr_setJ, hZ_setJ, hI_setJ, reduceCtorEq, forall_const, and_self, eq_self, reduceIte, true_or, or_true, i_X3_cutAll_0, i_X3_cutAll_1, i_X3_cutAll_2, i_X3_cutAll_5, i_X3_cutAll_6, i_X3_cutAll_7, i_X3_cutAll_8, i_X3_cutAll_9, i_X3_cutAll_12, i_X3_cutAll_13, i_X3_cutAll_14, i_X3_cutAll_15, i_X3_cutAll_16, i_X3_cutAll_17, i_X3_cutAll_18, i_X3_cutAll_19, i_X3_cutAll_22, i_X3_cutAll_25, i_X3_cutAll_26, i_X3_cutAll_29, i_X3_cutAll_30, i_X3_cutAll_32, i_X3_cutAll_33, i_X3_cutAll_34, i_X3_cutAll_37, mt_27, mt_28, ft_3_3, Option.some.injEq, Value.int.injEq, Value.long.injEq, and_self, not_true_eq_false, not_false_eq_true, false_implies, true_implies, H0.1, ]
  exact kk

/-- what reading below a CLAUSE changes -/
def Kr (R : Nat) (h h' : hp) : Prop := Chg (fun q => q = R ∨ q = R + 8) h h' ∧ ∀ k, ¬ (k = 4 ∨ k = 5 ∨ k = 6 ∨ k = 13) → hI h' R k = hI h R k
theorem Kr.rf {R : Nat} {h : hp} : Kr R h h := ⟨Chg.rf, fun _ _ => rfl⟩
theorem Kr.tr {R : Nat} {h h1 h2 : hp} (a : Kr R h h1) (b : Kr R h1 h2) : Kr R h h2 := ⟨a.1.tr b.1, fun k hk => (b.2 k hk).trans (a.2 k hk)⟩
theorem Kr.s {R k : Nat} {h : hp} {x : Int32} (hk : k = 4 ∨ k = 5 ∨ k = 6 ∨ k = 13) : Kr R h (setI h R k x) := ⟨Chg.sI (Or.inl rfl), fun j hj => by rw [hI_setI, if_neg (fun e => hj (by rw [e.2]; exact hk))]⟩
theorem Kr.e {R z : Nat} {h : hp} {x y : Int32} : Kr R h (setI (setI h (R + 8) z x) R 13 y) := ⟨(Chg.sI (Or.inr rfl)).tr (Chg.sI (Or.inl rfl)), fun j hj => by rw [hI_setI, if_neg (by omega), hI_setI, if_neg (by omega)]⟩
theorem TkH.kr {h h' : hp} {R m N : Nat} {t : Nat → Nat} (T : TkH h R t m N) (k : Kr R h h') : TkH h' R t m N := by
  obtain ⟨a1, a2, a3, a4, a5⟩ := T
  refine ⟨a1.kept k.1, by rw [k.2 3 (by omega)]; exact a2, a3, fun j hj => ?_, a5⟩
  rw [(k.1.2.2.2.2 (R + 1) (by omega)).1, (k.1.2.2.2.2 (R + 2) (by omega)).1, (k.1.2.2.2.2 (R + 3) (by omega)).1]
  exact a4 j hj
/-- reading goes on: the token i is next, c counted, entries o -/
def RdG (h : hp) (R N i c : Nat) (o : ot) : Prop := hI h R 4 = nI i ∧ i < N ∧ hI h R 5 = nI c ∧ hI h R 6 = 0 ∧ hI h R 13 = nI o.1 ∧ ∀ e, e < o.1 → hI h (R + 8) e = nI (enc (o.2 e))
/-- a fault is told -/
def RdF (h : hp) (R f B : Nat) : Prop := hI h R 6 = nI f ∧ (¬ f = 0 ∧ f < 2147483648) ∧ (∃ i, i ≤ B ∧ hI h R 4 = nI i) ∧ ∃ z, z ≤ 400 ∧ hI h R 13 = nI z
theorem RdG.adv {h : hp} {R N i c : Nat} {o : ot} (G : RdG h R N i c o) (hi : i + 1 < N) : RdG (setI h R 4 (nI (i + 1))) R N (i + 1) c o := by
  obtain ⟨a1, a2, a3, a4, a5, a6⟩ := G
  refine ⟨by rw [hI_setI, if_pos ⟨rfl, rfl⟩], hi, ?_, ?_, ?_, fun e he => ?_⟩
  · rw [hI_setI, if_neg (by omega)]; exact a3
  · rw [hI_setI, if_neg (by omega)]; exact a4
  · rw [hI_setI, if_neg (by omega)]; exact a5
  · rw [hI_setI, if_neg (by omega)]; exact a6 e he
theorem RdG.cnt {h : hp} {R N i c : Nat} {o : ot} (G : RdG h R N i c o) : RdG (setI h R 5 (nI (c + 1))) R N i (c + 1) o := by
  obtain ⟨a1, a2, a3, a4, a5, a6⟩ := G
  refine ⟨?_, a2, by rw [hI_setI, if_pos ⟨rfl, rfl⟩], ?_, ?_, fun e he => ?_⟩
  · rw [hI_setI, if_neg (by omega)]; exact a1
  · rw [hI_setI, if_neg (by omega)]; exact a4
  · rw [hI_setI, if_neg (by omega)]; exact a5
  · rw [hI_setI, if_neg (by omega)]; exact a6 e he
theorem RdG.emi {h : hp} {R N i c : Nat} {o : ot} (G : RdG h R N i c o) (x : Nat × Nat) : RdG (setI (setI h (R + 8) o.1 (nI (enc x))) R 13 (nI (o.1 + 1))) R N i c (psh o x) := by
  obtain ⟨a1, a2, a3, a4, a5, a6⟩ := G
  refine ⟨?_, a2, ?_, ?_, by rw [hI_setI, if_pos ⟨rfl, rfl⟩]; rfl, fun e he => ?_⟩
  · rw [hI_setI, if_neg (by omega), hI_setI, if_neg (by omega)]; exact a1
  · rw [hI_setI, if_neg (by omega), hI_setI, if_neg (by omega)]; exact a3
  · rw [hI_setI, if_neg (by omega), hI_setI, if_neg (by omega)]; exact a4
  · have he : e < o.1 + 1 := he
    rw [hI_setI, if_neg (by omega), hI_setI]
    by_cases q : e = o.1
    · rw [if_pos ⟨rfl, q⟩, q, psh_n]
    · rw [if_neg (fun y => q y.2), psh_o o x q]; exact a6 e (by omega)
theorem RdG.fai {h : hp} {R N i c : Nat} {o : ot} (G : RdG h R N i c o) (hN : N ≤ 401) (ho : o.1 ≤ 400) {f : Nat} (hf : ¬ f = 0 ∧ f < 2147483648) : RdF (setI h R 6 (nI f)) R f 400 := by
  obtain ⟨a1, a2, a3, a4, a5, a6⟩ := G
  refine ⟨by rw [hI_setI, if_pos ⟨rfl, rfl⟩], hf, ⟨i, by omega, ?_⟩, o.1, ho, ?_⟩
  · rw [hI_setI, if_neg (by omega)]; exact a1
  · rw [hI_setI, if_neg (by omega)]; exact a5
theorem RdF.mo {h : hp} {R f B B' : Nat} (F : RdF h R f B) (hB : B ≤ B') : RdF h R f B' := by
  obtain ⟨a1, a2, ⟨i, a3, a4⟩, a5⟩ := F
  exact ⟨a1, a2, ⟨i, by omega, a4⟩, a5⟩
theorem RdF.n0 {h : hp} {R f B : Nat} (F : RdF h R f B) : ¬ hI h R 6 = 0 := by
  rw [F.1]
  exact fun e => F.2.1.1 ((nI_inj (b := 0) F.2.1.2 (by omega)).mp e)

set_option maxRecDepth 100000 in
set_option maxHeartbeats 1000000 in
theorem e_X3_emit (g : gx) (n : Nat) {h : hp} {R N i c : Nat} {o : ot} (H : RdAt h R) (G : RdG h R N i c o) (ho : o.1 < 400) (x : Nat × Nat) (y : Int32) (hy : y = nI (enc x)) : Call g n 0 0 m_X3_emit [.ref R, .int y] h (fun rv h' => rv = none ∧ Kr R h h' ∧ RdG h' R N i c (psh o x)) := by
  refine (c_X3_emit g n H G.2.2.2.2.1 (by omega) y).mono ?_
  rintro rv h' ⟨rfl, rfl⟩
  rw [if_pos ho, hy]
  exact ⟨rfl, Kr.e, G.emi x⟩
theorem f_X3_emit (g : gx) (n : Nat) {h : hp} {R f B : Nat} (H : RdAt h R) (F : RdF h R f B) (y : Int32) : Call g n 0 0 m_X3_emit [.ref R, .int y] h (fun rv h' => rv = none ∧ Kr R h h' ∧ RdF h' R f B) := by
  obtain ⟨a1, a2, ⟨i, a3, a4⟩, z, a5, a6⟩ := F
  refine (c_X3_emit g n H a6 a5 y).mono ?_
  rintro rv h' ⟨rfl, rfl⟩
  by_cases q : z < 400
  · rw [if_pos q]
    refine ⟨rfl, Kr.e, ?_, a2, ⟨i, a3, ?_⟩, z + 1, by omega, by rw [hI_setI, if_pos ⟨rfl, rfl⟩]⟩
    · rw [hI_setI, if_neg (by omega), hI_setI, if_neg (by omega)]; exact a1
    · rw [hI_setI, if_neg (by omega), hI_setI, if_neg (by omega)]; exact a4
  · rw [if_neg q]
    exact ⟨rfl, Kr.rf, a1, a2, ⟨i, a3, a4⟩, z, a5, a6⟩

theorem e_X3_fail (g : gx) (n : Nat) {h : hp} {R m N i c : Nat} {t : Nat → Nat} {o : ot} (T : TkH h R t m N) (G : RdG h R N i c o) (ho : o.1 ≤ 400) (hpl : pl t m i ≤ m) {k : Nat} (hk : k ≤ 4) (y : Int32) (hy : y = nI k) : Call g n 0 0 m_X3_fail [.ref R, .int y] h (fun rv h' => rv = none ∧ Kr R h h' ∧ RdF h' R (1 + 8 * pl t m i + k) 400) := by
  have b := T.2.2.1
  have hi := G.2.1
  rw [hy]
  refine (c_X3_fail g n T G.1 (by omega)).mono ?_
  rintro rv h' ⟨rfl, rfl⟩
  rw [if_pos ⟨G.2.2.2.1, hi⟩]
  exact ⟨rfl, Kr.s (by omega), G.fai b.2.1 ho ⟨by omega, by omega⟩⟩
theorem f_X3_fail (g : gx) (n : Nat) {h : hp} {R m N f B : Nat} {t : Nat → Nat} (T : TkH h R t m N) (F : RdF h R f B) (hB : B ≤ 1000) {k : Nat} (y : Int32) (hy : y = nI k) : Call g n 0 0 m_X3_fail [.ref R, .int y] h (fun rv h' => rv = none ∧ h' = h) := by
  obtain ⟨i, a3, a4⟩ := F.2.2.1
  rw [hy]
  refine (c_X3_fail g n T a4 (by omega)).mono ?_
  rintro rv h' ⟨rfl, rfl⟩
  rw [if_neg (fun e => F.n0 e.1)]
  exact ⟨rfl, rfl⟩

theorem e_X3_kind (g : gx) (n : Nat) {h : hp} {R m N i c : Nat} {t : Nat → Nat} {o : ot} (T : TkH h R t m N) (G : RdG h R N i c o) : Call g n 0 0 m_X3_kind [.ref R] h (fun rv h' => rv = some (.int (nI (kd t m (pl t m i)))) ∧ h' = h) := by
  have b := T.2.2.1
  have hi := G.2.1
  have k := c_X3_kind g n T G.1 (by omega)
  rw [if_pos hi] at k
  exact k
theorem f_X3_kind (g : gx) (n : Nat) {h : hp} {R m N f B : Nat} {t : Nat → Nat} (T : TkH h R t m N) (F : RdF h R f B) (hB : B ≤ 1000) : Call g n 0 0 m_X3_kind [.ref R] h (fun rv h' => (∃ k, k ≤ 34 ∧ rv = some (.int (nI k))) ∧ h' = h) := by
  obtain ⟨i, a3, a4⟩ := F.2.2.1
  refine (c_X3_kind g n T a4 (by omega)).mono ?_
  rintro rv h' ⟨rfl, rfl⟩
  refine ⟨⟨_, ?_, rfl⟩, rfl⟩
  split
  · exact kd_34 _ _ _
  · omega

