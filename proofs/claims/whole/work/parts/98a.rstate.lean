/-! 98a: the reference: the reader's state; digits, value -/
def CX (g : gx) (h : hp) (M L m Z : Nat) (t : Nat → Nat) : Prop := MLay h M ∧ TpM h M m t ∧ (hI h M 32 = nI L ∧ L < 8) ∧ SHp g h Z ∧ Z ≤ M
def Kv (M L : Nat) (h h' : hp) : Prop := Chg (fun q => q = M ∨ q = M + 23 ∨ q = M + 24) h h' ∧ (∀ k, ¬ (k = 30 ∨ k = 31 ∨ k = 33 ∨ k = 35) → hI h' M k = hI h M k) ∧ ∀ j, j < 300 * L → hI h' (M + 23) j = hI h (M + 23) j ∧ hI h' (M + 24) j = hI h (M + 24) j
theorem Kv.rf {M L : Nat} {h : hp} : Kv M L h h := ⟨Chg.rf, fun _ _ => rfl, fun _ _ => ⟨rfl, rfl⟩⟩
theorem Kv.tr {M L : Nat} {h h1 h2 : hp} (a : Kv M L h h1) (b : Kv M L h1 h2) : Kv M L h h2 := ⟨a.1.tr b.1, fun k hk => (b.2.1 k hk).trans (a.2.1 k hk), fun j hj => ⟨(b.2.2 j hj).1.trans (a.2.2 j hj).1, (b.2.2 j hj).2.trans (a.2.2 j hj).2⟩⟩
theorem Kv.s {M L k : Nat} {h : hp} {x : Int32} (hk : k = 30 ∨ k = 31 ∨ k = 33 ∨ k = 35) : Kv M L h (setI h M k x) := ⟨Chg.sI (Or.inl rfl), fun j hj => by rw [hI_setI, if_neg (fun e => hj (by rw [e.2]; exact hk))], fun j _ => ⟨by rw [hI_setI, if_neg (by omega)], by rw [hI_setI, if_neg (by omega)]⟩⟩
theorem Kv.e {M L e : Nat} {h : hp} {x y z : Int32} : Kv M L h (setI (setI (setI h (M + 23) (300 * L + e) x) (M + 24) (300 * L + e) y) M 33 z) := by
  refine ⟨((Chg.sI (Or.inr (Or.inl rfl))).tr (Chg.sI (Or.inr (Or.inr rfl)))).tr (Chg.sI (Or.inl rfl)), fun j hj => ?_, fun j hj => ⟨?_, ?_⟩⟩
  · rw [hI_setI, if_neg (by omega), hI_setI, if_neg (by omega), hI_setI, if_neg (by omega)]
  · rw [hI_setI, if_neg (by omega), hI_setI, if_neg (by omega), hI_setI, if_neg (by omega)]
  · rw [hI_setI, if_neg (by omega), hI_setI, if_neg (by omega), hI_setI, if_neg (by omega)]
theorem CX.kv {g : gx} {h h' : hp} {M L L' m Z : Nat} {t : Nat → Nat} (X : CX g h M L m Z t) (k : Kv M L' h h') : CX g h' M L m Z t := by
  obtain ⟨a1, a2, a3, a4, a5⟩ := X
  refine ⟨a1.kept k.1, ⟨by rw [k.2.1 29 (by omega)]; exact a2.1, a2.2.1, fun j hj => by rw [(k.1.2.2.2.2 (M + 22) (by omega)).1]; exact a2.2.2 j hj⟩, ⟨by rw [k.2.1 32 (by omega)]; exact a3.1, a3.2⟩, a4.kept k.1 (fun b hb => by omega), a5⟩
def PsE (h : hp) (M L : Nat) (o : ot) : Prop := hI h M 33 = nI o.1 ∧ ∀ e, e < o.1 → hI h (M + 23) (300 * L + e) = nI (o.2 e).1 ∧ hI h (M + 24) (300 * L + e) = nI (o.2 e).2
/-- reading goes on at p, c counted, entries o -/
def PsG (h : hp) (M L m p c : Nat) (o : ot) : Prop := hI h M 30 = nI p ∧ p ≤ m ∧ hI h M 31 = 0 ∧ hI h M 35 = nI c ∧ PsE h M L o
/-- a fault is told -/
def PsF (h : hp) (M f B : Nat) : Prop := hI h M 31 = nI f ∧ (¬ f = 0 ∧ f < 2147483648) ∧ ∃ p, p ≤ B ∧ hI h M 30 = nI p
theorem PsF.n0 {h : hp} {M f B : Nat} (F : PsF h M f B) : ¬ hI h M 31 = 0 := by
  rw [F.1]
  exact fun e => F.2.1.1 ((nI_inj (b := 0) F.2.1.2 (by omega)).mp e)
theorem PsF.mo {h : hp} {M f B B' : Nat} (F : PsF h M f B) (hB : B ≤ B') : PsF h M f B' := by
  obtain ⟨a1, a2, p, a3, a4⟩ := F
  exact ⟨a1, a2, p, by omega, a4⟩
theorem PsF.p {h : hp} {M f B p : Nat} (F : PsF h M f B) (hp0 : p ≤ B) : PsF (setI h M 30 (nI p)) M f B := by
  obtain ⟨a1, a2, a3⟩ := F
  exact ⟨by rw [hI_setI, if_neg (by omega)]; exact a1, a2, p, hp0, by rw [hI_setI, if_pos ⟨rfl, rfl⟩]⟩
theorem PsF.o {h : hp} {M f B a k : Nat} {x : Int32} (F : PsF h M f B) (ha : ¬ (a = M ∧ (k = 30 ∨ k = 31))) : PsF (setI h a k x) M f B := by
  obtain ⟨a1, a2, p, a3, a4⟩ := F
  exact ⟨by rw [hI_setI, if_neg (by omega)]; exact a1, a2, p, a3, by rw [hI_setI, if_neg (by omega)]; exact a4⟩
theorem PsG.p {h : hp} {M L m p p' c : Nat} {o : ot} (G : PsG h M L m p c o) (hp0 : p' ≤ m) : PsG (setI h M 30 (nI p')) M L m p' c o := by
  obtain ⟨a1, a2, a3, a4, a5, a6⟩ := G
  refine ⟨by rw [hI_setI, if_pos ⟨rfl, rfl⟩], hp0, ?_, ?_, ?_, fun e he => ?_⟩
  · rw [hI_setI, if_neg (by omega)]; exact a3
  · rw [hI_setI, if_neg (by omega)]; exact a4
  · rw [hI_setI, if_neg (by omega)]; exact a5
  · rw [hI_setI, if_neg (by omega), hI_setI, if_neg (by omega)]; exact a6 e he
theorem PsG.c1 {h : hp} {M L m p c : Nat} {o : ot} (G : PsG h M L m p c o) : PsG (setI h M 35 (nI (c + 1))) M L m p (c + 1) o := by
  obtain ⟨a1, a2, a3, a4, a5, a6⟩ := G
  refine ⟨?_, a2, ?_, by rw [hI_setI, if_pos ⟨rfl, rfl⟩], ?_, fun e he => ?_⟩
  · rw [hI_setI, if_neg (by omega)]; exact a1
  · rw [hI_setI, if_neg (by omega)]; exact a3
  · rw [hI_setI, if_neg (by omega)]; exact a5
  · rw [hI_setI, if_neg (by omega), hI_setI, if_neg (by omega)]; exact a6 e he
theorem PsG.f {h : hp} {M L m p c f : Nat} {o : ot} (G : PsG h M L m p c o) (hf : ¬ f = 0 ∧ f < 2147483648) (hm : m ≤ 400) : PsF (setI h M 31 (nI f)) M f 400 := by
  obtain ⟨a1, a2, -⟩ := G
  exact ⟨by rw [hI_setI, if_pos ⟨rfl, rfl⟩], hf, p, by omega, by rw [hI_setI, if_neg (by omega)]; exact a1⟩
theorem PsG.en {h : hp} {M L m p c : Nat} {o : ot} (G : PsG h M L m p c o) (x : Nat × Nat) : PsG (setI (setI (setI h (M + 23) (300 * L + o.1) (nI x.1)) (M + 24) (300 * L + o.1) (nI x.2)) M 33 (nI (o.1 + 1))) M L m p c (psh o x) := by
  obtain ⟨a1, a2, a3, a4, a5, a6⟩ := G
  refine ⟨?_, a2, ?_, ?_, by rw [hI_setI, if_pos ⟨rfl, rfl⟩]; rfl, fun e he => ?_⟩
  · rw [hI_setI, if_neg (by omega), hI_setI, if_neg (by omega), hI_setI, if_neg (by omega)]; exact a1
  · rw [hI_setI, if_neg (by omega), hI_setI, if_neg (by omega), hI_setI, if_neg (by omega)]; exact a3
  · rw [hI_setI, if_neg (by omega), hI_setI, if_neg (by omega), hI_setI, if_neg (by omega)]; exact a4
  · have he : e < o.1 + 1 := he
    by_cases q : e = o.1
    · rw [q, psh_n, hI_setI, if_neg (by omega), hI_setI, if_neg (by omega), hI_setI, if_pos ⟨rfl, rfl⟩, hI_setI, if_neg (by omega), hI_setI, if_pos ⟨rfl, rfl⟩]
      exact ⟨rfl, rfl⟩
    · rw [psh_o o x q, hI_setI, if_neg (by omega), hI_setI, if_neg (by omega), hI_setI, if_neg (by omega), hI_setI, if_neg (by omega), hI_setI, if_neg (by omega), hI_setI, if_neg (by omega)]
      exact a6 e (by omega)
theorem e_X9_entry (g : gx) (n : Nat) {h : hp} {M L m Z p c : Nat} {t : Nat → Nat} {o : ot} (X : CX g h M L m Z t) (G : PsG h M L m p c o) (ho : o.1 < 300) (x : Nat × Nat) (y w : Int32) (hy : y = nI x.1) (hw : w = nI x.2) : Call g n 0 0 m_X9_entry [.ref M, .int y, .int w] h (fun rv h' => rv = none ∧ Kv M L h h' ∧ PsG h' M L m p c (psh o x)) := by
  refine (c_X9_entry g n X.1 X.2.2.1.1 X.2.2.1.2 G.2.2.2.2.1 ho y w).mono ?_
  rintro rv h' ⟨rfl, rfl⟩
  rw [if_pos G.2.2.1, hy, hw]
  exact ⟨rfl, Kv.e, G.en x⟩

set_option maxRecDepth 100000 in
set_option maxHeartbeats 1000000 in
theorem f_X9_entry (g : gx) (n : Nat) {h : hp} {M : Nat} (HM : MLay h M) (hf : ¬ hI h M 31 = 0) (y w : Int32) : Call g n 0 0 m_X9_entry [.ref M, .int y, .int w] h (fun rv h' => rv = none ∧ h' = h) := by
  have q := eq_false hf
  refine Call.of rfl (Nat.le_of_ble_eq_true rfl) ?_
  show Wp g n 0 0 m_X9_entry h _ 0 0 0 [some (.ref M), some (.int y), some (.int w)] [] h
  refine wp_run ctX9_ok ok_X9_entry (fun _ => false) 34 ?_
  simp (maxSteps := 10000000) only [↓wq, ↓oel_s, ↓nx_t, ↓nx_f, ↓lf_e, ↓sq_aconst_null, ↓sq_iconst, ↓sq_bipush, ↓sq_sipush, ↓sq_lconst, ↓sq_ldc, ↓sq_ldc_w, ↓sq_ldc2_w, ↓sq_iload_n, ↓sq_iload, ↓sq_lload_n, ↓sq_lload, ↓sq_aload_n, ↓sq_aload, ↓sq_istore_n, ↓sq_istore, ↓sq_lstore_n, ↓sq_lstore, ↓sq_astore_n, ↓sq_astore, ↓sq_iinc, ↓sq_iadd, ↓sq_isub, ↓sq_imul, ↓sq_iand, ↓sq_ior, ↓sq_ixor, ↓sq_ishl, ↓sq_ishr, ↓sq_iushr, ↓sq_ladd, ↓sq_lsub, ↓sq_lmul, ↓sq_land, ↓sq_lor, ↓sq_ldiv, ↓sq_lrem, ↓sq_lcmp, ↓sq_i2l, ↓sq_l2i, ↓sq_i2b, ↓sq_dup, ↓sq_pop, ↓sq_dup2, ↓sq_goto, ↓sq_ifCond_eq, ↓sq_ifCond_ne, ↓sq_ifCond_lt, ↓sq_ifCond_ge, ↓sq_ifCond_gt, ↓sq_ifCond_le, ↓sq_if_icmp_eq, ↓sq_if_icmp_ne, ↓sq_if_icmp_lt, ↓sq_if_icmp_ge, ↓sq_if_icmp_gt, ↓sq_if_icmp_le, ↓sq_ifnull, ↓sq_ifnonnull, ↓sq_tableswitch, ↓sq_lookupswitch, ↓sq_getfield, ↓sq_putfield, ↓sq_iaload, ↓sq_baload, ↓sq_laload, ↓sq_aaload, ↓sq_arraylength, ↓sq_iastore, ↓sq_bastore, ↓sq_lastore, ↓sq_aastore, ↓sq_new, ↓sq_newarray, ↓sq_anewarray, ↓sq_invokestatic, ↓sq_invokevirtual, ↓sq_invokespecial, ↓sq_ireturn, ↓sq_lreturn, ↓sq_areturn, ↓sq_return_, ↓pI_c, ↓pJ_c, ↓pA_c, ↓pN_c, ↓pN_n, ↓pV_c, ↓p1_i, ↓p1_r, ↓p1_n, ↓pE_c, ↓p0_c, ↓nl_n, ↓nl_r, ↓lI_0, ↓lI_s, ↓lJ_0, ↓lJ_s, ↓lA_0, ↓lA_n, ↓lA_s, ↓gtf_0, ↓gtf_1, ↓gtf_2, ↓rfc_s, ↓rfc_n, ↓swc_n, ↓swc_c, ↓rti_0, ↓rti_1, ↓rti_2, ↓rti_3, ↓scl_0, ↓scl_7, ↓scl_8, ↓scl_9, ↓icl_0, ↓icl_6, pI_c, pJ_c, pA_c, pN_c, pN_n, pV_c, p1_i, p1_r, p1_n, pE_c, p0_c, nl_n, nl_r, lI_0, lI_s, lJ_0, lJ_s, lA_0, lA_n, lA_s, gtf_0, gtf_1, gtf_2, rfc_s, rfc_n, swc_n, swc_c, rti_0, rti_1, rti_2, rti_3, scl_0, scl_7, scl_8, scl_9, icl_0, icl_6, setV_0, setV_1, setV_2, ptf_1, ptf_2, nb_1, nb_2, ldv_0, ldv_1, ls1_0, ls1_ni, ls1_nr, ls1_nn, ls1_nu, ls1_nl, ls1_s, ls2_0, ls2_ni, ls2_nr, ls2_nn, ls2_s, oel_s, Nat.reduceAdd, Nat.reduceSub, Nat.reduceLeDiff, Nat.reduceBEq, Bool.or_false, Bool.false_or, Bool.or_true, Bool.true_or, List.take_succ_cons, List.take_zero, List.drop_succ_cons, List.drop_zero, List.reverse_cons, List.reverse_nil, List.nil_append, List.cons_append, Option.toList_some, Option.toList_none, List.map_cons, List.map_nil, List.sum_cons, List.sum_nil, Value.category, List.length_cons, List.length_nil, Nat.le_refl, Nat.zero_le, Nat.add_zero, Nat.zero_add, Nat.add_one_sub_one, Nat.zero_lt_succ, true_and, and_true, ne_eq, not_false_eq_true, hK_setI, hN_setI, hR_setI, hr_setI, hZ_setI, hJ_setI, hK_setJ, hN_setJ, hR_setJ, hr_setJ, hZ_setJ, hI_setJ, reduceCtorEq, forall_const, and_self, eq_self, reduceIte, true_or, or_true, i_X9_entry_0, i_X9_entry_1, i_X9_entry_4, i_X9_entry_7, i_X9_entry_8, i_X9_entry_11, i_X9_entry_14, i_X9_entry_15, i_X9_entry_18, i_X9_entry_19, i_X9_entry_20, i_X9_entry_23, i_X9_entry_24, i_X9_entry_25, i_X9_entry_26, i_X9_entry_27, i_X9_entry_30, i_X9_entry_33, i_X9_entry_34, i_X9_entry_37, i_X9_entry_38, i_X9_entry_39, i_X9_entry_42, i_X9_entry_43, i_X9_entry_44, i_X9_entry_45, i_X9_entry_46, i_X9_entry_47, i_X9_entry_50, i_X9_entry_51, i_X9_entry_52, i_X9_entry_55, ft_9_33, Option.some.injEq, Value.int.injEq, Value.long.injEq, and_self, not_true_eq_false, not_false_eq_true, false_implies, true_implies, q, HM.1]
  try first | rfl | trivial

theorem f_X9_fails (g : gx) (n : Nat) {h : hp} {M k p f B : Nat} (HM : MLay h M) (F : PsF h M f B) (L : Nat) (y w : Int32) (hy : y = nI k) (hw : w = nI p) : Call g n 0 0 m_X9_fails [.ref M, .int y, .int w] h (fun rv h' => rv = none ∧ Kv M L h h' ∧ PsF h' M f B) := by
  refine (c_X9_fails g n HM y w hy hw).mono ?_
  rintro rv h' ⟨rfl, rfl⟩
  rw [if_neg F.n0]
  obtain ⟨a1, a2, p, a3, a4⟩ := F
  exact ⟨rfl, Kv.s (by omega), by rw [hI_setI, if_pos ⟨rfl, rfl⟩]; exact a1, a2, p, a3, by rw [hI_setI, if_neg (by omega)]; exact a4⟩
theorem e_X9_fails (g : gx) (n : Nat) {h : hp} {M L m p0 c k p : Nat} {o : ot} (HM : MLay h M) (G : PsG h M L m p0 c o) (hm : m ≤ 400) (hk : k ≤ 4) (hp0 : p ≤ 1000) (y w : Int32) (hy : y = nI k) (hw : w = nI p) : Call g n 0 0 m_X9_fails [.ref M, .int y, .int w] h (fun rv h' => rv = none ∧ Kv M L h h' ∧ PsF h' M (1 + 8 * p + k) 400) := by
  refine (c_X9_fails g n HM y w hy hw).mono ?_
  rintro rv h' ⟨rfl, rfl⟩
  rw [if_pos G.2.2.1]
  exact ⟨rfl, Kv.s (by omega), G.f ⟨by omega, by omega⟩ hm⟩
theorem e_X9_isCounted (g : gx) (n : Nat) {h : hp} {M L m p0 c p : Nat} {o : ot} (HM : MLay h M) (G : PsG h M L m p0 c o) (hm : m ≤ 400) (hc : c ≤ 60) (hp0 : p ≤ 1000) (w : Int32) (hw : w = nI p) : Call g (n + 1) 0 0 m_X9_isCounted [.ref M, .int w] h (fun rv h' => rv = none ∧ hI h' M 30 = hI h M 30 ∧ Kv M L h h' ∧ ((c = 60 ∧ PsF h' M (1 + 8 * p + 3) 400) ∨ (c < 60 ∧ PsG h' M L m p0 (c + 1) o))) := by
  refine (c_X9_isCounted g n HM w hw).mono ?_
  rintro rv h' ⟨rfl, rfl⟩
  have f35 := G.2.2.2.1
  have n1 : nI c + 1 = nI (c + 1) := nI_plus (b := 1)
  rw [f35, n1]
  by_cases q : c = 60
  · rw [if_pos (show nI c = 60 by rw [q]; rfl), if_pos G.2.2.1]
    exact ⟨rfl, by rw [hI_setI, if_neg (by omega), hI_setI, if_neg (by omega)], (Kv.s (by omega)).tr (Kv.s (by omega)), Or.inl ⟨q, (G.f ⟨by omega, by omega⟩ hm).o (by omega)⟩⟩
  · have n60 : ¬ nI c = 60 := fun e => q ((nI_inj (b := 60) (by omega) (by omega)).mp e)
    rw [if_neg n60]
    exact ⟨rfl, by rw [hI_setI, if_neg (by omega)], Kv.s (by omega), Or.inr ⟨by omega, G.c1⟩⟩
theorem f_X9_isCounted (g : gx) (n : Nat) {h : hp} {M p f B : Nat} (HM : MLay h M) (F : PsF h M f B) (L : Nat) (w : Int32) (hw : w = nI p) : Call g (n + 1) 0 0 m_X9_isCounted [.ref M, .int w] h (fun rv h' => rv = none ∧ hI h' M 30 = hI h M 30 ∧ Kv M L h h' ∧ PsF h' M f B) := by
  refine (c_X9_isCounted g n HM w hw).mono ?_
  rintro rv h' ⟨rfl, rfl⟩
  by_cases q : hI h M 35 = 60
  · rw [if_pos q, if_neg F.n0]
    have F2 : PsF (setI h M 31 (hI h M 31)) M f B := by
      obtain ⟨a1, a2, p, a3, a4⟩ := F
      exact ⟨by rw [hI_setI, if_pos ⟨rfl, rfl⟩]; exact a1, a2, p, a3, by rw [hI_setI, if_neg (by omega)]; exact a4⟩
    exact ⟨rfl, by rw [hI_setI, if_neg (by omega), hI_setI, if_neg (by omega)], (Kv.s (by omega)).tr (Kv.s (by omega)), F2.o (by omega)⟩
  · rw [if_neg q]
    exact ⟨rfl, by rw [hI_setI, if_neg (by omega)], Kv.s (by omega), F.o (by omega)⟩
theorem e_X9_blanks (g : gx) (n : Nat) {h : hp} {M L m Z p c : Nat} {t : Nat → Nat} {o : ot} (X : CX g h M L m Z t) (G : PsG h M L m p c o) : Call g (n + 1) 0 0 m_X9_blanks [.ref M] h (fun rv h' => rv = none ∧ Kv M L h h' ∧ PsG h' M L m (sk t m p) c o) := by
  have m4 := X.2.1.2.1
  have pm := G.2.1
  refine (c_X9_blanks g n X.1 X.2.1 ⟨G.1, by omega⟩).mono ?_
  rintro rv h' ⟨rfl, rfl | ⟨rfl, e1, e2⟩⟩
  · exact ⟨rfl, Kv.s (by omega), G.p (sk_le pm)⟩
  · rw [e2]
    exact ⟨rfl, Kv.rf, G⟩
theorem f_X9_blanks (g : gx) (n : Nat) {h : hp} {M L m Z f B : Nat} {t : Nat → Nat} (X : CX g h M L m Z t) (F : PsF h M f B) (hB : 400 ≤ B) (hB2 : B < 1000) : Call g (n + 1) 0 0 m_X9_blanks [.ref M] h (fun rv h' => rv = none ∧ Kv M L h h' ∧ PsF h' M f B) := by
  have m4 := X.2.1.2.1
  obtain ⟨a1, a2, p, a3, a4⟩ := F
  refine (c_X9_blanks g n X.1 X.2.1 ⟨a4, by omega⟩).mono ?_
  rintro rv h' ⟨rfl, rfl | ⟨rfl, e1, e2⟩⟩
  · refine ⟨rfl, Kv.s (by omega), PsF.p ⟨a1, a2, p, a3, a4⟩ ?_⟩
    by_cases pm : p ≤ m
    · have := sk_le (t := t) pm
      omega
    · rw [sk_e (by omega)]
      exact a3
  · exact ⟨rfl, Kv.rf, a1, a2, p, a3, a4⟩

