/-! 30: sets as bits; parts, isAhead -/
def tb (x : Int32) (k : Nat) : Bool := x.toBitVec.getLsbD k
theorem tb_ext {x y : Int32} (h : ∀ k, k < 32 → tb x k = tb y k) : x = y := by
  apply Int32.toBitVec_inj.mp
  apply BitVec.eq_of_getLsbD_eq
  intro i hi
  exact h i hi
theorem tb_0 (k : Nat) : tb 0 k = false := by unfold tb; exact BitVec.getLsbD_zero
theorem tb_or (x y : Int32) (k : Nat) : tb (x ||| y) k = (tb x k || tb y k) := by unfold tb; rw [Int32.toBitVec_or, BitVec.getLsbD_or]
theorem tb_and (x y : Int32) (k : Nat) : tb (x &&& y) k = (tb x k && tb y k) := by unfold tb; rw [Int32.toBitVec_and, BitVec.getLsbD_and]
theorem tb_not (x : Int32) {k : Nat} (h : k < 32) : tb (~~~ x) k = !(tb x k) := by unfold tb; rw [Int32.toBitVec_not, BitVec.getLsbD_not, decide_eq_true h, Bool.true_and]
theorem tb_ge (x : Int32) {k : Nat} (h : 32 ≤ k) : tb x k = false := by unfold tb; exact BitVec.getLsbD_of_ge _ _ h
theorem and31F : ∀ k : Fin 32, nI k.val &&& 31 = nI k.val := by decide +kernel
theorem and31 {k : Nat} (h : k < 32) : nI k &&& 31 = nI k := and31F ⟨k, h⟩
theorem smodF : ∀ k : Fin 32, ((nI k.val).toBitVec.smod 32#32).toNat = k.val := by decide +kernel
theorem shlF : ∀ k j : Fin 32, tb ((1 : Int32) <<< nI k.val) j.val = decide (j.val = k.val) := by decide +kernel
theorem tb_shl {k j : Nat} (hk : k < 32) (hj : j < 32) : tb ((1 : Int32) <<< nI k) j = decide (j = k) := shlF ⟨k, hk⟩ ⟨j, hj⟩
theorem tb_1 {j : Nat} (hj : j < 32) : tb 1 j = decide (j = 0) := by
  have := tb_shl (k := 0) (by omega) hj
  exact this
theorem tb_shr {x : Int32} {k : Nat} (hk : k < 32) : tb (x >>> nI k) 0 = tb x k := by
  unfold tb
  rw [Int32.toBitVec_shiftRight, BitVec.sshiftRight', show ((nI k).toBitVec.smod 32).toNat = k from smodF ⟨k, hk⟩, BitVec.getLsbD_sshiftRight]
  simp [hk]
theorem bit_1 {x : Int32} {k : Nat} (hk : k < 32) : ((x >>> (nI k &&& 31)) &&& 1 = 1) = (tb x k = true) := by
  rw [and31 hk]
  apply propext
  constructor
  · intro h
    rw [← tb_shr hk]
    have : tb ((x >>> nI k) &&& 1) 0 = true := by rw [h]; decide
    rw [tb_and] at this
    exact (Bool.and_eq_true _ _ ▸ this).1
  · intro h
    rw [← tb_shr hk] at h
    apply tb_ext
    intro j hj
    rw [tb_and, tb_1 hj]
    by_cases e : j = 0
    · subst e; rw [h]; rfl
    · rw [decide_eq_false e, Bool.and_false]
theorem bit_0 {x : Int32} {k : Nat} (hk : k < 32) : ((x >>> (nI k &&& 31)) &&& 1 = 0) = (tb x k = false) := by
  rw [and31 hk]
  apply propext
  constructor
  · intro h
    rw [← tb_shr hk]
    have : tb ((x >>> nI k) &&& 1) 0 = false := by rw [h]; decide
    rw [tb_and] at this
    simpa [tb_1] using this
  · intro h
    rw [← tb_shr hk] at h
    apply tb_ext
    intro j hj
    rw [tb_and, tb_1 hj, tb_0]
    by_cases e : j = 0
    · subst e; rw [h]; rfl
    · rw [decide_eq_false e, Bool.and_false]
/-- the bits k below n of which B holds -/
def sb (B : Nat → Bool) : Nat → Int32
  | 0 => 0
  | n + 1 => sb B n ||| (if B n then 1 <<< nI n else 0)
theorem tb_sb (B : Nat → Bool) : ∀ (n j : Nat), n ≤ 32 → j < 32 → tb (sb B n) j = (decide (j < n) && B j)
  | 0, j, _, _ => by rw [sb, tb_0]; simp
  | n + 1, j, hn, hj => by
    rw [sb, tb_or, tb_sb B n j (by omega) hj]
    by_cases e : j = n
    · subst e
      have : decide (j < j) = false := decide_eq_false (by omega)
      rw [this, decide_eq_true (show j < j + 1 by omega)]
      cases hB : B j
      · simp [tb_0]
      · simp [tb_shl hj hj]
    · have e2 : tb (if B n then (1 : Int32) <<< nI n else 0) j = false := by
        split
        · rw [tb_shl (by omega) hj, decide_eq_false e]
        · exact tb_0 j
      rw [e2, Bool.or_false]
      have : decide (j < n) = decide (j < n + 1) := by
        by_cases h : j < n
        · rw [decide_eq_true h, decide_eq_true (by omega)]
        · rw [decide_eq_false h, decide_eq_false (by omega)]
      rw [this]
theorem sb_no {B : Nat → Bool} : ∀ n, (∀ k, k < n → B k = false) → sb B n = 0
  | 0, _ => rfl
  | n + 1, h => by rw [sb, sb_no n (fun k hk => h k (by omega)), h n (by omega), if_neg (by decide)]; decide
/-- the first place from c on, of d, where f and g are unlike -/
def prt (f g : Nat → Int) : Nat → Nat → Nat
  | 0, c => c
  | d + 1, c => if f c = g c then prt f g d (c + 1) else c
theorem prt_le (f g : Nat → Int) : ∀ d c, c ≤ prt f g d c ∧ prt f g d c ≤ c + d
  | 0, c => by rw [prt]; omega
  | d + 1, c => by
    rw [prt]
    split
    · have := prt_le f g d (c + 1); omega
    · omega
def ahB (f g : Nat → Int) (n a b : Nat) : Bool := if prt f g n 0 = n then decide (a < b) else decide (f (prt f g n 0) < g (prt f g n 0))

set_option maxRecDepth 100000 in
set_option maxHeartbeats 4000000 in
theorem l_X9_parts (g : gx) (n : Nat) {h : hp} {M a b r : Nat} {ln : lwt} (HM : MLay h M) (ha : a < 24) (hb : b < 24) (hr8 : r < 8) (h12 : ln.1 ≤ 12) (e1 : hI h (M + 25) r = nI ln.1) (f g2 : Nat → Int) (hf : ∀ c, c < ln.1 → (hJ h (M + 35) (12 * a + c)).toInt = f c) (hg : ∀ c, c < ln.1 → (hJ h (M + 35) (12 * b + c)).toInt = g2 c) (P : Nat) : ∀ (d c : Nat), c + d = ln.1 → prt f g2 d c = P → Wp g n 0 0 m_X9_parts h (fun rv h' => rv = some (.int (if P = ln.1 then -1 else nI P)) ∧ h' = h) 0 0 3 [some (.ref M), some (.int (nI a)), some (.int (nI b)), some (.int (nI r)), some (.int (nI c))] [] h := by
  have htr := nI_tn (a := r) (by omega)
  have hir : vp_in (nI r) 8 := in_nI (by omega) (by omega)
  intro d
  induction d with
  | zero =>
    intro c hk hP
    have ek : c = ln.1 := by omega
    subst ek
    have hge : nI ln.1 ≤ nI ln.1 := nI_le (Nat.le_refl _) (by omega)
    rw [prt] at hP
    subst hP
    refine wp_run ctX9_ok ok_X9_parts (fun _ => false) 40 ?_
    simp (maxSteps := 10000000) only [↓wq, ↓oel_s, ↓nx_t, ↓nx_f, ↓lf_e, ↓sq_aconst_null, ↓sq_iconst, ↓sq_bipush, ↓sq_sipush, ↓sq_lconst, ↓sq_ldc, ↓sq_ldc_w, ↓sq_ldc2_w, ↓sq_iload_n, ↓sq_iload, ↓sq_lload_n, ↓sq_lload, ↓sq_aload_n, ↓sq_aload, ↓sq_istore_n, ↓sq_istore, ↓sq_lstore_n, ↓sq_lstore, ↓sq_astore_n, ↓sq_astore, ↓sq_iinc, ↓sq_iadd, ↓sq_isub, ↓sq_imul, ↓sq_iand, ↓sq_ior, ↓sq_ixor, ↓sq_ishl, ↓sq_ishr, ↓sq_iushr, ↓sq_ladd, ↓sq_lsub, ↓sq_lmul, ↓sq_land, ↓sq_lor, ↓sq_ldiv, ↓sq_lrem, ↓sq_lcmp, ↓sq_i2l, ↓sq_l2i, ↓sq_i2b, ↓sq_dup, ↓sq_pop, ↓sq_dup2, ↓sq_goto, ↓sq_ifCond_eq, ↓sq_ifCond_ne, ↓sq_ifCond_lt, ↓sq_ifCond_ge, ↓sq_ifCond_gt, ↓sq_ifCond_le, ↓sq_if_icmp_eq, ↓sq_if_icmp_ne, ↓sq_if_icmp_lt, ↓sq_if_icmp_ge, ↓sq_if_icmp_gt, ↓sq_if_icmp_le, ↓sq_ifnull, ↓sq_ifnonnull, ↓sq_tableswitch, ↓sq_lookupswitch, ↓sq_getfield, ↓sq_putfield, ↓sq_iaload, ↓sq_baload, ↓sq_laload, ↓sq_aaload, ↓sq_arraylength, ↓sq_iastore, ↓sq_bastore, ↓sq_lastore, ↓sq_aastore, ↓sq_new, ↓sq_newarray, ↓sq_anewarray, ↓sq_invokestatic, ↓sq_invokevirtual, ↓sq_invokespecial, ↓sq_ireturn, ↓sq_lreturn, ↓sq_areturn, ↓sq_return_, ↓pI_c, ↓pJ_c, ↓pA_c, ↓pN_c, ↓pN_n, ↓pV_c, ↓p1_i, ↓p1_r, ↓p1_n, ↓pE_c, ↓p0_c, ↓nl_n, ↓nl_r, ↓lI_0, ↓lI_s, ↓lJ_0, ↓lJ_s, ↓lA_0, ↓lA_n, ↓lA_s, ↓gtf_0, ↓gtf_1, ↓gtf_2, ↓rfc_s, ↓rfc_n, ↓swc_n, ↓swc_c, ↓rti_0, ↓rti_1, ↓rti_2, ↓rti_3, ↓scl_0, ↓scl_7, ↓scl_8, ↓scl_9, ↓icl_0, ↓icl_6, pI_c, pJ_c, pA_c, pN_c, pN_n, pV_c, p1_i, p1_r, p1_n, pE_c, p0_c, nl_n, nl_r, lI_0, lI_s, lJ_0, lJ_s, lA_0, lA_n, lA_s, gtf_0, gtf_1, gtf_2, rfc_s, rfc_n, swc_n, swc_c, rti_0, rti_1, rti_2, rti_3, scl_0, scl_7, scl_8, scl_9, icl_0, icl_6, setV_0, setV_1, setV_2, ptf_1, ptf_2, nb_1, nb_2, ldv_0, ldv_1, ls1_0, ls1_ni, ls1_nr, ls1_nn, ls1_nu, ls1_nl, ls1_s, ls2_0, ls2_ni, ls2_nr, ls2_nn, ls2_s, oel_s, Nat.reduceAdd, Nat.reduceSub, Nat.reduceLeDiff, Nat.reduceBEq, Bool.or_false, Bool.false_or, Bool.or_true, Bool.true_or, List.take_succ_cons, List.take_zero, List.drop_succ_cons, List.drop_zero, List.reverse_cons, List.reverse_nil, List.nil_append, List.cons_append, Option.toList_some, Option.toList_none, List.map_cons, List.map_nil, List.sum_cons, List.sum_nil, Value.category, List.length_cons, List.length_nil, Nat.le_refl, Nat.zero_le, Nat.add_zero, Nat.zero_add, Nat.add_one_sub_one, Nat.zero_lt_succ, true_and, and_true, ne_eq, not_false_eq_true, hK_setI, hN_setI, hR_setI, hr_setI, hZ_setI, hJ_setI, hK_setJ, hN_setJ, hR_setJ, hr_setJ, hZ_setJ, hI_setJ, reduceCtorEq, forall_const, and_self, eq_self, reduceIte, true_or, or_true, i_X9_parts_0, i_X9_parts_1, i_X9_parts_3, i_X9_parts_5, i_X9_parts_6, i_X9_parts_9, i_X9_parts_10, i_X9_parts_11, i_X9_parts_14, i_X9_parts_15, i_X9_parts_18, i_X9_parts_20, i_X9_parts_21, i_X9_parts_22, i_X9_parts_24, i_X9_parts_25, i_X9_parts_26, i_X9_parts_27, i_X9_parts_30, i_X9_parts_32, i_X9_parts_33, i_X9_parts_34, i_X9_parts_36, i_X9_parts_37, i_X9_parts_38, i_X9_parts_39, i_X9_parts_42, i_X9_parts_45, i_X9_parts_48, i_X9_parts_50, i_X9_parts_51, i_X9_parts_54, i_X9_parts_55, i_X9_parts_56, i_X9_parts_59, i_X9_parts_60, i_X9_parts_63, i_X9_parts_65, Option.some.injEq, Value.int.injEq, Value.long.injEq, and_self, htr, hir, e1, hge, not_true_eq_false, not_false_eq_true, false_implies, true_implies, HM.1, HM.r40, HM.q40, HM.k40, HM.n40, HM.r50, HM.q50, HM.k50, HM.n50]

  | succ d ih =>
    intro c hk hP
    have hge : ¬ nI ln.1 ≤ nI c := nI_ge (by omega) (by omega)
    have hne : (nI c = nI ln.1) = False := by rw [nI_inj (by omega) (by omega)]; simp only [eq_iff_iff, iff_false]; omega
    have e12 : (12 : Int32) * nI a + nI c = nI (12 * a + c) := by rw [show (12 : Int32) = nI 12 from rfl, nI_mul, nI_plus]
    have e13 : (12 : Int32) * nI b + nI c = nI (12 * b + c) := by rw [show (12 : Int32) = nI 12 from rfl, nI_mul, nI_plus]
    have h1 := nI_tn (a := 12 * a + c) (by omega)
    have h2 : vp_in (nI (12 * a + c)) 288 := in_nI (by omega) (by omega)
    have h3 := nI_tn (a := 12 * b + c) (by omega)
    have h4 : vp_in (nI (12 * b + c)) 288 := in_nI (by omega) (by omega)
    have e1c : (lg_cmp (hJ h (M + 35) (12 * a + c)) (hJ h (M + 35) (12 * b + c)) = 0) = (f c = g2 c) := by rw [← hf c (by omega), ← hg c (by omega)]; exact propext lg_0
    rw [prt] at hP
    refine wp_run ctX9_ok ok_X9_parts (fun pc => pc == 3) 40 ?_
    simp (maxSteps := 10000000) only [↓wq, ↓oel_s, ↓nx_t, ↓nx_f, ↓lf_e, ↓sq_aconst_null, ↓sq_iconst, ↓sq_bipush, ↓sq_sipush, ↓sq_lconst, ↓sq_ldc, ↓sq_ldc_w, ↓sq_ldc2_w, ↓sq_iload_n, ↓sq_iload, ↓sq_lload_n, ↓sq_lload, ↓sq_aload_n, ↓sq_aload, ↓sq_istore_n, ↓sq_istore, ↓sq_lstore_n, ↓sq_lstore, ↓sq_astore_n, ↓sq_astore, ↓sq_iinc, ↓sq_iadd, ↓sq_isub, ↓sq_imul, ↓sq_iand, ↓sq_ior, ↓sq_ixor, ↓sq_ishl, ↓sq_ishr, ↓sq_iushr, ↓sq_ladd, ↓sq_lsub, ↓sq_lmul, ↓sq_land, ↓sq_lor, ↓sq_ldiv, ↓sq_lrem, ↓sq_lcmp, ↓sq_i2l, ↓sq_l2i, ↓sq_i2b, ↓sq_dup, ↓sq_pop, ↓sq_dup2, ↓sq_goto, ↓sq_ifCond_eq, ↓sq_ifCond_ne, ↓sq_ifCond_lt, ↓sq_ifCond_ge, ↓sq_ifCond_gt, ↓sq_ifCond_le, ↓sq_if_icmp_eq, ↓sq_if_icmp_ne, ↓sq_if_icmp_lt, ↓sq_if_icmp_ge, ↓sq_if_icmp_gt, ↓sq_if_icmp_le, ↓sq_ifnull, ↓sq_ifnonnull, ↓sq_tableswitch, ↓sq_lookupswitch, ↓sq_getfield, ↓sq_putfield, ↓sq_iaload, ↓sq_baload, ↓sq_laload, ↓sq_aaload, ↓sq_arraylength, ↓sq_iastore, ↓sq_bastore, ↓sq_lastore, ↓sq_aastore, ↓sq_new, ↓sq_newarray, ↓sq_anewarray, ↓sq_invokestatic, ↓sq_invokevirtual, ↓sq_invokespecial, ↓sq_ireturn, ↓sq_lreturn, ↓sq_areturn, ↓sq_return_, ↓pI_c, ↓pJ_c, ↓pA_c, ↓pN_c, ↓pN_n, ↓pV_c, ↓p1_i, ↓p1_r, ↓p1_n, ↓pE_c, ↓p0_c, ↓nl_n, ↓nl_r, ↓lI_0, ↓lI_s, ↓lJ_0, ↓lJ_s, ↓lA_0, ↓lA_n, ↓lA_s, ↓gtf_0, ↓gtf_1, ↓gtf_2, ↓rfc_s, ↓rfc_n, ↓swc_n, ↓swc_c, ↓rti_0, ↓rti_1, ↓rti_2, ↓rti_3, ↓scl_0, ↓scl_7, ↓scl_8, ↓scl_9, ↓icl_0, ↓icl_6, pI_c, pJ_c, pA_c, pN_c, pN_n, pV_c, p1_i, p1_r, p1_n, pE_c, p0_c, nl_n, nl_r, lI_0, lI_s, lJ_0, lJ_s, lA_0, lA_n, lA_s, gtf_0, gtf_1, gtf_2, rfc_s, rfc_n, swc_n, swc_c, rti_0, rti_1, rti_2, rti_3, scl_0, scl_7, scl_8, scl_9, icl_0, icl_6, setV_0, setV_1, setV_2, ptf_1, ptf_2, nb_1, nb_2, ldv_0, ldv_1, ls1_0, ls1_ni, ls1_nr, ls1_nn, ls1_nu, ls1_nl, ls1_s, ls2_0, ls2_ni, ls2_nr, ls2_nn, ls2_s, oel_s, Nat.reduceAdd, Nat.reduceSub, Nat.reduceLeDiff, Nat.reduceBEq, Bool.or_false, Bool.false_or, Bool.or_true, Bool.true_or, List.take_succ_cons, List.take_zero, List.drop_succ_cons, List.drop_zero, List.reverse_cons, List.reverse_nil, List.nil_append, List.cons_append, Option.toList_some, Option.toList_none, List.map_cons, List.map_nil, List.sum_cons, List.sum_nil, Value.category, List.length_cons, List.length_nil, Nat.le_refl, Nat.zero_le, Nat.add_zero, Nat.zero_add, Nat.add_one_sub_one, Nat.zero_lt_succ, true_and, and_true, ne_eq, not_false_eq_true, hK_setI, hN_setI, hR_setI, hr_setI, hZ_setI, hJ_setI, hK_setJ, hN_setJ, hR_setJ, hr_setJ, hZ_setJ, hI_setJ, reduceCtorEq, forall_const, and_self, eq_self, reduceIte, true_or, or_true, i_X9_parts_0, i_X9_parts_1, i_X9_parts_3, i_X9_parts_5, i_X9_parts_6, i_X9_parts_9, i_X9_parts_10, i_X9_parts_11, i_X9_parts_14, i_X9_parts_15, i_X9_parts_18, i_X9_parts_20, i_X9_parts_21, i_X9_parts_22, i_X9_parts_24, i_X9_parts_25, i_X9_parts_26, i_X9_parts_27, i_X9_parts_30, i_X9_parts_32, i_X9_parts_33, i_X9_parts_34, i_X9_parts_36, i_X9_parts_37, i_X9_parts_38, i_X9_parts_39, i_X9_parts_42, i_X9_parts_45, i_X9_parts_48, i_X9_parts_50, i_X9_parts_51, i_X9_parts_54, i_X9_parts_55, i_X9_parts_56, i_X9_parts_59, i_X9_parts_60, i_X9_parts_63, i_X9_parts_65, Option.some.injEq, Value.int.injEq, Value.long.injEq, and_self, htr, hir, e1, hge, hne, e12, e13, h1, h2, h3, h4, e1c, nI_1, not_true_eq_false, not_false_eq_true, false_implies, true_implies, HM.1, HM.r40, HM.q40, HM.k40, HM.n40, HM.r50, HM.q50, HM.k50, HM.n50]
    refine ⟨fun q => ?_, fun q => ?_⟩
    · rw [if_neg q] at hP
      subst hP
      rw [if_neg (by omega)]
    · rw [if_pos q] at hP
      exact ih (c + 1) (by omega) hP

set_option maxRecDepth 100000 in
set_option maxHeartbeats 4000000 in
theorem c_X9_parts (g : gx) (n : Nat) {h : hp} {M a b r : Nat} {ln : lwt} (HM : MLay h M) (ha : a < 24) (hb : b < 24) (hr8 : r < 8) (h12 : ln.1 ≤ 12) (e1 : hI h (M + 25) r = nI ln.1) (f g2 : Nat → Int) (hf : ∀ c, c < ln.1 → (hJ h (M + 35) (12 * a + c)).toInt = f c) (hg : ∀ c, c < ln.1 → (hJ h (M + 35) (12 * b + c)).toInt = g2 c) : Call g n 0 0 m_X9_parts [.ref M, .int (nI a), .int (nI b), .int (nI r)] h (fun rv h' => rv = some (.int (if prt f g2 ln.1 0 = ln.1 then -1 else nI (prt f g2 ln.1 0))) ∧ h' = h) := by
  refine Call.of rfl (Nat.le_of_ble_eq_true rfl) ?_
  show Wp g n 0 0 m_X9_parts h _ 0 0 0 [some (.ref M), some (.int (nI a)), some (.int (nI b)), some (.int (nI r)), none] [] h
  refine wp_run ctX9_ok ok_X9_parts (fun pc => pc == 3) 40 ?_
  simp (maxSteps := 10000000) only [↓wq, ↓oel_s, ↓nx_t, ↓nx_f, ↓lf_e, ↓sq_aconst_null, ↓sq_iconst, ↓sq_bipush, ↓sq_sipush, ↓sq_lconst, ↓sq_ldc, ↓sq_ldc_w, ↓sq_ldc2_w, ↓sq_iload_n, ↓sq_iload, ↓sq_lload_n, ↓sq_lload, ↓sq_aload_n, ↓sq_aload, ↓sq_istore_n, ↓sq_istore, ↓sq_lstore_n, ↓sq_lstore, ↓sq_astore_n, ↓sq_astore, ↓sq_iinc, ↓sq_iadd, ↓sq_isub, ↓sq_imul, ↓sq_iand, ↓sq_ior, ↓sq_ixor, ↓sq_ishl, ↓sq_ishr, ↓sq_iushr, ↓sq_ladd, ↓sq_lsub, ↓sq_lmul, ↓sq_land, ↓sq_lor, ↓sq_ldiv, ↓sq_lrem, ↓sq_lcmp, ↓sq_i2l, ↓sq_l2i, ↓sq_i2b, ↓sq_dup, ↓sq_pop, ↓sq_dup2, ↓sq_goto, ↓sq_ifCond_eq, ↓sq_ifCond_ne, ↓sq_ifCond_lt, ↓sq_ifCond_ge, ↓sq_ifCond_gt, ↓sq_ifCond_le, ↓sq_if_icmp_eq, ↓sq_if_icmp_ne, ↓sq_if_icmp_lt, ↓sq_if_icmp_ge, ↓sq_if_icmp_gt, ↓sq_if_icmp_le, ↓sq_ifnull, ↓sq_ifnonnull, ↓sq_tableswitch, ↓sq_lookupswitch, ↓sq_getfield, ↓sq_putfield, ↓sq_iaload, ↓sq_baload, ↓sq_laload, ↓sq_aaload, ↓sq_arraylength, ↓sq_iastore, ↓sq_bastore, ↓sq_lastore, ↓sq_aastore, ↓sq_new, ↓sq_newarray, ↓sq_anewarray, ↓sq_invokestatic, ↓sq_invokevirtual, ↓sq_invokespecial, ↓sq_ireturn, ↓sq_lreturn, ↓sq_areturn, ↓sq_return_, ↓pI_c, ↓pJ_c, ↓pA_c, ↓pN_c, ↓pN_n, ↓pV_c, ↓p1_i, ↓p1_r, ↓p1_n, ↓pE_c, ↓p0_c, ↓nl_n, ↓nl_r, ↓lI_0, ↓lI_s, ↓lJ_0, ↓lJ_s, ↓lA_0, ↓lA_n, ↓lA_s, ↓gtf_0, ↓gtf_1, ↓gtf_2, ↓rfc_s, ↓rfc_n, ↓swc_n, ↓swc_c, ↓rti_0, ↓rti_1, ↓rti_2, ↓rti_3, ↓scl_0, ↓scl_7, ↓scl_8, ↓scl_9, ↓icl_0, ↓icl_6, pI_c, pJ_c, pA_c, pN_c, pN_n, pV_c, p1_i, p1_r, p1_n, pE_c, p0_c, nl_n, nl_r, lI_0, lI_s, lJ_0, lJ_s, lA_0, lA_n, lA_s, gtf_0, gtf_1, gtf_2, rfc_s, rfc_n, swc_n, swc_c, rti_0, rti_1, rti_2, rti_3, scl_0, scl_7, scl_8, scl_9, icl_0, icl_6, setV_0, setV_1, setV_2, ptf_1, ptf_2, nb_1, nb_2, ldv_0, ldv_1, ls1_0, ls1_ni, ls1_nr, ls1_nn, ls1_nu, ls1_nl, ls1_s, ls2_0, ls2_ni, ls2_nr, ls2_nn, ls2_s, oel_s, Nat.reduceAdd, Nat.reduceSub, Nat.reduceLeDiff, Nat.reduceBEq, Bool.or_false, Bool.false_or, Bool.or_true, Bool.true_or, List.take_succ_cons, List.take_zero, List.drop_succ_cons, List.drop_zero, List.reverse_cons, List.reverse_nil, List.nil_append, List.cons_append, Option.toList_some, Option.toList_none, List.map_cons, List.map_nil, List.sum_cons, List.sum_nil, Value.category, List.length_cons, List.length_nil, Nat.le_refl, Nat.zero_le, Nat.add_zero, Nat.zero_add, Nat.add_one_sub_one, Nat.zero_lt_succ, true_and, and_true, ne_eq, not_false_eq_true, hK_setI, hN_setI, hR_setI, hr_setI, hZ_setI, hJ_setI, hK_setJ, hN_setJ, hR_setJ, hr_setJ, hZ_setJ, hI_setJ, reduceCtorEq, forall_const, and_self, eq_self, reduceIte, true_or, or_true, i_X9_parts_0, i_X9_parts_1, i_X9_parts_3, i_X9_parts_5, i_X9_parts_6, i_X9_parts_9, i_X9_parts_10, i_X9_parts_11, i_X9_parts_14, i_X9_parts_15, i_X9_parts_18, i_X9_parts_20, i_X9_parts_21, i_X9_parts_22, i_X9_parts_24, i_X9_parts_25, i_X9_parts_26, i_X9_parts_27, i_X9_parts_30, i_X9_parts_32, i_X9_parts_33, i_X9_parts_34, i_X9_parts_36, i_X9_parts_37, i_X9_parts_38, i_X9_parts_39, i_X9_parts_42, i_X9_parts_45, i_X9_parts_48, i_X9_parts_50, i_X9_parts_51, i_X9_parts_54, i_X9_parts_55, i_X9_parts_56, i_X9_parts_59, i_X9_parts_60, i_X9_parts_63, i_X9_parts_65, Option.some.injEq, Value.int.injEq, and_self]
  have q := l_X9_parts g n HM ha hb hr8 h12 e1 f g2 hf hg _ ln.1 0 (by omega) rfl
  rw [nI_0] at q
  exact q

set_option maxRecDepth 100000 in
set_option maxHeartbeats 4000000 in
theorem c_X9_isAhead (g : gx) (n : Nat) {h : hp} {M a b r : Nat} {ln : lwt} (HM : MLay h M) (ha : a < 24) (hb : b < 24) (hr8 : r < 8) (h12 : ln.1 ≤ 12) (e1 : hI h (M + 25) r = nI ln.1) (f g2 : Nat → Int) (hf : ∀ c, c < ln.1 → (hJ h (M + 35) (12 * a + c)).toInt = f c) (hg : ∀ c, c < ln.1 → (hJ h (M + 35) (12 * b + c)).toInt = g2 c) : Call g (n + 1) 0 0 m_X9_isAhead [.ref M, .int (nI a), .int (nI b), .int (nI r)] h (fun rv h' => rv = some (.int (bi (ahB f g2 ln.1 a b))) ∧ h' = h) := by
  refine Call.of rfl (Nat.le_of_ble_eq_true rfl) ?_
  show Wp g (n + 1) 0 0 m_X9_isAhead h _ 0 0 0 [some (.ref M), some (.int (nI a)), some (.int (nI b)), some (.int (nI r)), none] [] h
  refine wp_run ctX9_ok ok_X9_isAhead (fun _ => false) 40 ?_
  simp (maxSteps := 10000000) only [↓wq, ↓oel_s, ↓nx_t, ↓nx_f, ↓lf_e, ↓sq_aconst_null, ↓sq_iconst, ↓sq_bipush, ↓sq_sipush, ↓sq_lconst, ↓sq_ldc, ↓sq_ldc_w, ↓sq_ldc2_w, ↓sq_iload_n, ↓sq_iload, ↓sq_lload_n, ↓sq_lload, ↓sq_aload_n, ↓sq_aload, ↓sq_istore_n, ↓sq_istore, ↓sq_lstore_n, ↓sq_lstore, ↓sq_astore_n, ↓sq_astore, ↓sq_iinc, ↓sq_iadd, ↓sq_isub, ↓sq_imul, ↓sq_iand, ↓sq_ior, ↓sq_ixor, ↓sq_ishl, ↓sq_ishr, ↓sq_iushr, ↓sq_ladd, ↓sq_lsub, ↓sq_lmul, ↓sq_land, ↓sq_lor, ↓sq_ldiv, ↓sq_lrem, ↓sq_lcmp, ↓sq_i2l, ↓sq_l2i, ↓sq_i2b, ↓sq_dup, ↓sq_pop, ↓sq_dup2, ↓sq_goto, ↓sq_ifCond_eq, ↓sq_ifCond_ne, ↓sq_ifCond_lt, ↓sq_ifCond_ge, ↓sq_ifCond_gt, ↓sq_ifCond_le, ↓sq_if_icmp_eq, ↓sq_if_icmp_ne, ↓sq_if_icmp_lt, ↓sq_if_icmp_ge, ↓sq_if_icmp_gt, ↓sq_if_icmp_le, ↓sq_ifnull, ↓sq_ifnonnull, ↓sq_tableswitch, ↓sq_lookupswitch, ↓sq_getfield, ↓sq_putfield, ↓sq_iaload, ↓sq_baload, ↓sq_laload, ↓sq_aaload, ↓sq_arraylength, ↓sq_iastore, ↓sq_bastore, ↓sq_lastore, ↓sq_aastore, ↓sq_new, ↓sq_newarray, ↓sq_anewarray, ↓sq_invokestatic, ↓sq_invokevirtual, ↓sq_invokespecial, ↓sq_ireturn, ↓sq_lreturn, ↓sq_areturn, ↓sq_return_, ↓pI_c, ↓pJ_c, ↓pA_c, ↓pN_c, ↓pN_n, ↓pV_c, ↓p1_i, ↓p1_r, ↓p1_n, ↓pE_c, ↓p0_c, ↓nl_n, ↓nl_r, ↓lI_0, ↓lI_s, ↓lJ_0, ↓lJ_s, ↓lA_0, ↓lA_n, ↓lA_s, ↓gtf_0, ↓gtf_1, ↓gtf_2, ↓rfc_s, ↓rfc_n, ↓swc_n, ↓swc_c, ↓rti_0, ↓rti_1, ↓rti_2, ↓rti_3, ↓scl_0, ↓scl_7, ↓scl_8, ↓scl_9, ↓icl_0, ↓icl_6, pI_c, pJ_c, pA_c, pN_c, pN_n, pV_c, p1_i, p1_r, p1_n, pE_c, p0_c, nl_n, nl_r, lI_0, lI_s, lJ_0, lJ_s, lA_0, lA_n, lA_s, gtf_0, gtf_1, gtf_2, rfc_s, rfc_n, swc_n, swc_c, rti_0, rti_1, rti_2, rti_3, scl_0, scl_7, scl_8, scl_9, icl_0, icl_6, setV_0, setV_1, setV_2, ptf_1, ptf_2, nb_1, nb_2, ldv_0, ldv_1, ls1_0, ls1_ni, ls1_nr, ls1_nn, ls1_nu, ls1_nl, ls1_s, ls2_0, ls2_ni, ls2_nr, ls2_nn, ls2_s, oel_s, Nat.reduceAdd, Nat.reduceSub, Nat.reduceLeDiff, Nat.reduceBEq, Bool.or_false, Bool.false_or, Bool.or_true, Bool.true_or, List.take_succ_cons, List.take_zero, List.drop_succ_cons, List.drop_zero, List.reverse_cons, List.reverse_nil, List.nil_append, List.cons_append, Option.toList_some, Option.toList_none, List.map_cons, List.map_nil, List.sum_cons, List.sum_nil, Value.category, List.length_cons, List.length_nil, Nat.le_refl, Nat.zero_le, Nat.add_zero, Nat.zero_add, Nat.add_one_sub_one, Nat.zero_lt_succ, true_and, and_true, ne_eq, not_false_eq_true, hK_setI, hN_setI, hR_setI, hr_setI, hZ_setI, hJ_setI, hK_setJ, hN_setJ, hR_setJ, hr_setJ, hZ_setJ, hI_setJ, reduceCtorEq, forall_const, and_self, eq_self, reduceIte, true_or, or_true, i_X9_isAhead_0, i_X9_isAhead_1, i_X9_isAhead_2, i_X9_isAhead_3, i_X9_isAhead_4, i_X9_isAhead_7, i_X9_isAhead_9, i_X9_isAhead_11, i_X9_isAhead_12, i_X9_isAhead_15, i_X9_isAhead_16, i_X9_isAhead_17, i_X9_isAhead_20, i_X9_isAhead_21, i_X9_isAhead_24, i_X9_isAhead_25, i_X9_isAhead_28, i_X9_isAhead_29, i_X9_isAhead_32, i_X9_isAhead_34, i_X9_isAhead_35, i_X9_isAhead_36, i_X9_isAhead_38, i_X9_isAhead_39, i_X9_isAhead_40, i_X9_isAhead_41, i_X9_isAhead_44, i_X9_isAhead_46, i_X9_isAhead_47, i_X9_isAhead_48, i_X9_isAhead_50, i_X9_isAhead_51, i_X9_isAhead_52, i_X9_isAhead_53, i_X9_isAhead_56, i_X9_isAhead_57, i_X9_isAhead_60, i_X9_isAhead_61, mt_178, Option.some.injEq, Value.int.injEq, and_self, HM.1]
  refine Call.ret (c_X9_parts g n HM ha hb hr8 h12 e1 f g2 hf hg) ?_
  have hle := prt_le f g2 ln.1 0
  by_cases hP : prt f g2 ln.1 0 = ln.1
  · rw [if_pos hP]
    have hab : (nI b ≤ nI a) = (b ≤ a) := propext (nI_le_ (by omega) (by omega))
    unfold ahB
    rw [if_pos hP]
    refine wp_run ctX9_ok ok_X9_isAhead (fun _ => false) 40 ?_
    simp (maxSteps := 10000000) only [↓wq, ↓oel_s, ↓nx_t, ↓nx_f, ↓lf_e, ↓sq_aconst_null, ↓sq_iconst, ↓sq_bipush, ↓sq_sipush, ↓sq_lconst, ↓sq_ldc, ↓sq_ldc_w, ↓sq_ldc2_w, ↓sq_iload_n, ↓sq_iload, ↓sq_lload_n, ↓sq_lload, ↓sq_aload_n, ↓sq_aload, ↓sq_istore_n, ↓sq_istore, ↓sq_lstore_n, ↓sq_lstore, ↓sq_astore_n, ↓sq_astore, ↓sq_iinc, ↓sq_iadd, ↓sq_isub, ↓sq_imul, ↓sq_iand, ↓sq_ior, ↓sq_ixor, ↓sq_ishl, ↓sq_ishr, ↓sq_iushr, ↓sq_ladd, ↓sq_lsub, ↓sq_lmul, ↓sq_land, ↓sq_lor, ↓sq_ldiv, ↓sq_lrem, ↓sq_lcmp, ↓sq_i2l, ↓sq_l2i, ↓sq_i2b, ↓sq_dup, ↓sq_pop, ↓sq_dup2, ↓sq_goto, ↓sq_ifCond_eq, ↓sq_ifCond_ne, ↓sq_ifCond_lt, ↓sq_ifCond_ge, ↓sq_ifCond_gt, ↓sq_ifCond_le, ↓sq_if_icmp_eq, ↓sq_if_icmp_ne, ↓sq_if_icmp_lt, ↓sq_if_icmp_ge, ↓sq_if_icmp_gt, ↓sq_if_icmp_le, ↓sq_ifnull, ↓sq_ifnonnull, ↓sq_tableswitch, ↓sq_lookupswitch, ↓sq_getfield, ↓sq_putfield, ↓sq_iaload, ↓sq_baload, ↓sq_laload, ↓sq_aaload, ↓sq_arraylength, ↓sq_iastore, ↓sq_bastore, ↓sq_lastore, ↓sq_aastore, ↓sq_new, ↓sq_newarray, ↓sq_anewarray, ↓sq_invokestatic, ↓sq_invokevirtual, ↓sq_invokespecial, ↓sq_ireturn, ↓sq_lreturn, ↓sq_areturn, ↓sq_return_, ↓pI_c, ↓pJ_c, ↓pA_c, ↓pN_c, ↓pN_n, ↓pV_c, ↓p1_i, ↓p1_r, ↓p1_n, ↓pE_c, ↓p0_c, ↓nl_n, ↓nl_r, ↓lI_0, ↓lI_s, ↓lJ_0, ↓lJ_s, ↓lA_0, ↓lA_n, ↓lA_s, ↓gtf_0, ↓gtf_1, ↓gtf_2, ↓rfc_s, ↓rfc_n, ↓swc_n, ↓swc_c, ↓rti_0, ↓rti_1, ↓rti_2, ↓rti_3, ↓scl_0, ↓scl_7, ↓scl_8, ↓scl_9, ↓icl_0, ↓icl_6, pI_c, pJ_c, pA_c, pN_c, pN_n, pV_c, p1_i, p1_r, p1_n, pE_c, p0_c, nl_n, nl_r, lI_0, lI_s, lJ_0, lJ_s, lA_0, lA_n, lA_s, gtf_0, gtf_1, gtf_2, rfc_s, rfc_n, swc_n, swc_c, rti_0, rti_1, rti_2, rti_3, scl_0, scl_7, scl_8, scl_9, icl_0, icl_6, setV_0, setV_1, setV_2, ptf_1, ptf_2, nb_1, nb_2, ldv_0, ldv_1, ls1_0, ls1_ni, ls1_nr, ls1_nn, ls1_nu, ls1_nl, ls1_s, ls2_0, ls2_ni, ls2_nr, ls2_nn, ls2_s, oel_s, Nat.reduceAdd, Nat.reduceSub, Nat.reduceLeDiff, Nat.reduceBEq, Bool.or_false, Bool.false_or, Bool.or_true, Bool.true_or, List.take_succ_cons, List.take_zero, List.drop_succ_cons, List.drop_zero, List.reverse_cons, List.reverse_nil, List.nil_append, List.cons_append, Option.toList_some, Option.toList_none, List.map_cons, List.map_nil, List.sum_cons, List.sum_nil, Value.category, List.length_cons, List.length_nil, Nat.le_refl, Nat.zero_le, Nat.add_zero, Nat.zero_add, Nat.add_one_sub_one, Nat.zero_lt_succ, true_and, and_true, ne_eq, not_false_eq_true, hK_setI, hN_setI, hR_setI, hr_setI, hZ_setI, hJ_setI, hK_setJ, hN_setJ, hR_setJ, hr_setJ, hZ_setJ, hI_setJ, reduceCtorEq, forall_const, and_self, eq_self, reduceIte, true_or, or_true, i_X9_isAhead_0, i_X9_isAhead_1, i_X9_isAhead_2, i_X9_isAhead_3, i_X9_isAhead_4, i_X9_isAhead_7, i_X9_isAhead_9, i_X9_isAhead_11, i_X9_isAhead_12, i_X9_isAhead_15, i_X9_isAhead_16, i_X9_isAhead_17, i_X9_isAhead_20, i_X9_isAhead_21, i_X9_isAhead_24, i_X9_isAhead_25, i_X9_isAhead_28, i_X9_isAhead_29, i_X9_isAhead_32, i_X9_isAhead_34, i_X9_isAhead_35, i_X9_isAhead_36, i_X9_isAhead_38, i_X9_isAhead_39, i_X9_isAhead_40, i_X9_isAhead_41, i_X9_isAhead_44, i_X9_isAhead_46, i_X9_isAhead_47, i_X9_isAhead_48, i_X9_isAhead_50, i_X9_isAhead_51, i_X9_isAhead_52, i_X9_isAhead_53, i_X9_isAhead_56, i_X9_isAhead_57, i_X9_isAhead_60, i_X9_isAhead_61, mt_178, Option.some.injEq, Value.int.injEq, Value.long.injEq, and_self, hab, not_true_eq_false, not_false_eq_true, false_implies, true_implies, HM.1, HM.r50, HM.q50, HM.k50, HM.n50]
    refine ⟨fun q => ?_, fun q => ?_⟩
    · rw [decide_eq_false (by omega)]; rfl
    · rw [decide_eq_true (by omega)]; rfl
  · rw [if_neg hP]
    unfold ahB
    rw [if_neg hP]
    generalize prt f g2 ln.1 0 = c at *
    have hne : (nI c = -1) = False := by rw [i_eq, nI_toInt (by omega), i_m1]; simp only [eq_iff_iff, iff_false]; omega
    have e12 : (12 : Int32) * nI a + nI c = nI (12 * a + c) := by rw [show (12 : Int32) = nI 12 from rfl, nI_mul, nI_plus]
    have e13 : (12 : Int32) * nI b + nI c = nI (12 * b + c) := by rw [show (12 : Int32) = nI 12 from rfl, nI_mul, nI_plus]
    have h1 := nI_tn (a := 12 * a + c) (by omega)
    have h2 : vp_in (nI (12 * a + c)) 288 := in_nI (by omega) (by omega)
    have h3 := nI_tn (a := 12 * b + c) (by omega)
    have h4 : vp_in (nI (12 * b + c)) 288 := in_nI (by omega) (by omega)
    have e1c : (0 ≤ lg_cmp (hJ h (M + 35) (12 * a + c)) (hJ h (M + 35) (12 * b + c))) = (g2 c ≤ f c) := by rw [← hf c (by omega), ← hg c (by omega)]; exact propext lg_ge
    refine wp_run ctX9_ok ok_X9_isAhead (fun _ => false) 40 ?_
    simp (maxSteps := 10000000) only [↓wq, ↓oel_s, ↓nx_t, ↓nx_f, ↓lf_e, ↓sq_aconst_null, ↓sq_iconst, ↓sq_bipush, ↓sq_sipush, ↓sq_lconst, ↓sq_ldc, ↓sq_ldc_w, ↓sq_ldc2_w, ↓sq_iload_n, ↓sq_iload, ↓sq_lload_n, ↓sq_lload, ↓sq_aload_n, ↓sq_aload, ↓sq_istore_n, ↓sq_istore, ↓sq_lstore_n, ↓sq_lstore, ↓sq_astore_n, ↓sq_astore, ↓sq_iinc, ↓sq_iadd, ↓sq_isub, ↓sq_imul, ↓sq_iand, ↓sq_ior, ↓sq_ixor, ↓sq_ishl, ↓sq_ishr, ↓sq_iushr, ↓sq_ladd, ↓sq_lsub, ↓sq_lmul, ↓sq_land, ↓sq_lor, ↓sq_ldiv, ↓sq_lrem, ↓sq_lcmp, ↓sq_i2l, ↓sq_l2i, ↓sq_i2b, ↓sq_dup, ↓sq_pop, ↓sq_dup2, ↓sq_goto, ↓sq_ifCond_eq, ↓sq_ifCond_ne, ↓sq_ifCond_lt, ↓sq_ifCond_ge, ↓sq_ifCond_gt, ↓sq_ifCond_le, ↓sq_if_icmp_eq, ↓sq_if_icmp_ne, ↓sq_if_icmp_lt, ↓sq_if_icmp_ge, ↓sq_if_icmp_gt, ↓sq_if_icmp_le, ↓sq_ifnull, ↓sq_ifnonnull, ↓sq_tableswitch, ↓sq_lookupswitch, ↓sq_getfield, ↓sq_putfield, ↓sq_iaload, ↓sq_baload, ↓sq_laload, ↓sq_aaload, ↓sq_arraylength, ↓sq_iastore, ↓sq_bastore, ↓sq_lastore, ↓sq_aastore, ↓sq_new, ↓sq_newarray, ↓sq_anewarray, ↓sq_invokestatic, ↓sq_invokevirtual, ↓sq_invokespecial, ↓sq_ireturn, ↓sq_lreturn, ↓sq_areturn, ↓sq_return_, ↓pI_c, ↓pJ_c, ↓pA_c, ↓pN_c, ↓pN_n, ↓pV_c, ↓p1_i, ↓p1_r, ↓p1_n, ↓pE_c, ↓p0_c, ↓nl_n, ↓nl_r, ↓lI_0, ↓lI_s, ↓lJ_0, ↓lJ_s, ↓lA_0, ↓lA_n, ↓lA_s, ↓gtf_0, ↓gtf_1, ↓gtf_2, ↓rfc_s, ↓rfc_n, ↓swc_n, ↓swc_c, ↓rti_0, ↓rti_1, ↓rti_2, ↓rti_3, ↓scl_0, ↓scl_7, ↓scl_8, ↓scl_9, ↓icl_0, ↓icl_6, pI_c, pJ_c, pA_c, pN_c, pN_n, pV_c, p1_i, p1_r, p1_n, pE_c, p0_c, nl_n, nl_r, lI_0, lI_s, lJ_0, lJ_s, lA_0, lA_n, lA_s, gtf_0, gtf_1, gtf_2, rfc_s, rfc_n, swc_n, swc_c, rti_0, rti_1, rti_2, rti_3, scl_0, scl_7, scl_8, scl_9, icl_0, icl_6, setV_0, setV_1, setV_2, ptf_1, ptf_2, nb_1, nb_2, ldv_0, ldv_1, ls1_0, ls1_ni, ls1_nr, ls1_nn, ls1_nu, ls1_nl, ls1_s, ls2_0, ls2_ni, ls2_nr, ls2_nn, ls2_s, oel_s, Nat.reduceAdd, Nat.reduceSub, Nat.reduceLeDiff, Nat.reduceBEq, Bool.or_false, Bool.false_or, Bool.or_true, Bool.true_or, List.take_succ_cons, List.take_zero, List.drop_succ_cons, List.drop_zero, List.reverse_cons, List.reverse_nil, List.nil_append, List.cons_append, Option.toList_some, Option.toList_none, List.map_cons, List.map_nil, List.sum_cons, List.sum_nil, Value.category, List.length_cons, List.length_nil, Nat.le_refl, Nat.zero_le, Nat.add_zero, Nat.zero_add, Nat.add_one_sub_one, Nat.zero_lt_succ, true_and, and_true, ne_eq, not_false_eq_true, hK_setI, hN_setI, hR_setI, hr_setI, hZ_setI, hJ_setI, hK_setJ, hN_setJ, hR_setJ, hr_setJ, hZ_setJ, hI_setJ, reduceCtorEq, forall_const, and_self, eq_self, reduceIte, true_or, or_true, i_X9_isAhead_0, i_X9_isAhead_1, i_X9_isAhead_2, i_X9_isAhead_3, i_X9_isAhead_4, i_X9_isAhead_7, i_X9_isAhead_9, i_X9_isAhead_11, i_X9_isAhead_12, i_X9_isAhead_15, i_X9_isAhead_16, i_X9_isAhead_17, i_X9_isAhead_20, i_X9_isAhead_21, i_X9_isAhead_24, i_X9_isAhead_25, i_X9_isAhead_28, i_X9_isAhead_29, i_X9_isAhead_32, i_X9_isAhead_34, i_X9_isAhead_35, i_X9_isAhead_36, i_X9_isAhead_38, i_X9_isAhead_39, i_X9_isAhead_40, i_X9_isAhead_41, i_X9_isAhead_44, i_X9_isAhead_46, i_X9_isAhead_47, i_X9_isAhead_48, i_X9_isAhead_50, i_X9_isAhead_51, i_X9_isAhead_52, i_X9_isAhead_53, i_X9_isAhead_56, i_X9_isAhead_57, i_X9_isAhead_60, i_X9_isAhead_61, mt_178, Option.some.injEq, Value.int.injEq, Value.long.injEq, and_self, hne, e12, e13, h1, h2, h3, h4, e1c, not_true_eq_false, not_false_eq_true, false_implies, true_implies, HM.1, HM.r50, HM.q50, HM.k50, HM.n50]
    refine ⟨fun q => ?_, fun q => ?_⟩
    · rw [decide_eq_false (by omega)]; rfl
    · rw [decide_eq_true (by omega)]; rfl

