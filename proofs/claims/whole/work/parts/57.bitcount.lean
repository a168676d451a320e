/-! 57: Integer.bitCount -/
def un (x : Int32) : Nat := x.toBitVec.toNat
theorem un_lt (x : Int32) : un x < 4294967296 := x.toBitVec.isLt
theorem un_eq {x y : Int32} (h : un x = un y) : x = y := Int32.toBitVec_inj.mp (BitVec.eq_of_toNat_eq h)
theorem un_and (x y : Int32) : un (x &&& y) = un x &&& un y := by unfold un; rw [Int32.toBitVec_and, BitVec.toNat_and]
theorem un_add (x y : Int32) : un (x + y) = (un x + un y) % 4294967296 := by unfold un; rw [Int32.toBitVec_add, BitVec.toNat_add]
theorem un_sub (x y : Int32) : un (x - y) = (4294967296 - un y + un x) % 4294967296 := by unfold un; rw [Int32.toBitVec_sub, BitVec.toNat_sub]
theorem un_nI {k : Nat} (h : k < 4294967296) : un (nI k) = k := by
  show (BitVec.ofNat 32 k).toNat = k
  rw [BitVec.toNat_ofNat]; exact Nat.mod_eq_of_lt h
/-- a byte and the bytes behind it, moved and masked -/
theorem by_and {b Y m M s : Nat} (hb : b < 256) (hm : m < 2 ^ (8 - s)) (hs : s ≤ 7) : ((b + 256 * Y) / 2 ^ s) &&& (m + 256 * M) = ((b / 2 ^ s) &&& m) + 256 * ((Y / 2 ^ s) &&& M) := by
  have hm8 : m < 256 := Nat.lt_of_lt_of_le hm (by rw [show 256 = 2 ^ 8 from rfl]; exact Nat.pow_le_pow_right (by omega) (by omega))
  have hand : ((b / 2 ^ s) &&& m) < 256 := Nat.lt_of_le_of_lt Nat.and_le_right hm8
  rw [show b + 256 * Y = 2 ^ 8 * Y + b by omega, show m + 256 * M = 2 ^ 8 * M + m by omega, show ((b / 2 ^ s) &&& m) + 256 * ((Y / 2 ^ s) &&& M) = 2 ^ 8 * ((Y / 2 ^ s) &&& M) + ((b / 2 ^ s) &&& m) by omega]
  apply Nat.eq_of_testBit_eq
  intro j
  rw [Nat.testBit_and, Nat.testBit_div_two_pow, Nat.testBit_two_pow_mul_add _ (by omega), Nat.testBit_two_pow_mul_add _ (by omega), Nat.testBit_two_pow_mul_add _ (by omega), Nat.testBit_and, Nat.testBit_and, Nat.testBit_div_two_pow, Nat.testBit_div_two_pow]
  by_cases h8 : j < 8
  · rw [if_pos h8, if_pos h8]
    by_cases h9 : j + s < 8
    · rw [if_pos h9]
    · have hz : m.testBit j = false := Nat.testBit_lt_two_pow (Nat.lt_of_lt_of_le hm (Nat.pow_le_pow_right (by omega) (by omega)))
      rw [hz, Bool.and_false, Bool.and_false]
  · rw [if_neg h8, if_neg h8, if_neg (by omega), show j + s - 8 = j - 8 + s by omega]
/-- four bytes -/
def b4f (a b c d : Nat) : Nat := a + 256 * (b + 256 * (c + 256 * d))
theorem b4_of (n : Nat) (h : n < 4294967296) : ∃ a b c d, a < 256 ∧ b < 256 ∧ c < 256 ∧ d < 256 ∧ n = b4f a b c d := ⟨n % 256, n / 256 % 256, n / 65536 % 256, n / 16777216, by omega, by omega, by omega, by omega, by unfold b4f; omega⟩
theorem b4_and {a b c d m s : Nat} (ha : a < 256) (hb : b < 256) (hc : c < 256) (hd : d < 256) (hm : m < 2 ^ (8 - s)) (hs : s ≤ 7) : (b4f a b c d / 2 ^ s) &&& b4f m m m m = b4f ((a / 2 ^ s) &&& m) ((b / 2 ^ s) &&& m) ((c / 2 ^ s) &&& m) ((d / 2 ^ s) &&& m) := by
  unfold b4f
  rw [by_and ha hm hs, by_and hb hm hs, by_and hc hm hs]
def zp1 (a : Nat) : Nat := a - ((a / 2 ^ 1) &&& 85)
def zp2 (a : Nat) : Nat := (a &&& 51) + ((a / 2 ^ 2) &&& 51)
def zp3 (a : Nat) : Nat := (a + a / 2 ^ 4) &&& 15
def pc8 (a : Nat) : Nat := ncb a 8
theorem pF : ∀ a : Fin 256, ((a.val / 2 ^ 1) &&& 85) ≤ a.val ∧ zp1 a.val < 256 ∧ zp2 (zp1 a.val) < 256 ∧ (zp2 (zp1 a.val) &&& 15) + (zp2 (zp1 a.val) / 2 ^ 4 &&& 15) = pc8 a.val ∧ (zp2 (zp1 a.val) &&& 15) ≤ 4 ∧ (zp2 (zp1 a.val) / 2 ^ 4) ≤ 4 ∧ (zp1 a.val &&& 51) < 128 ∧ ((zp1 a.val / 2 ^ 2) &&& 51) < 128 ∧ pc8 a.val ≤ 8 := by decide +kernel
theorem ncb_8 {b Y : Nat} (hb : b < 256) : ∀ k, ncb (b + 256 * Y) (8 + k) = ncb b 8 + ncb Y k := by
  have e : b + 256 * Y = 2 ^ 8 * Y + b := by omega
  have h8 : ∀ j, j ≤ 8 → ncb (b + 256 * Y) j = ncb b j := fun j => by
    induction j with
    | zero => intro _; rfl
    | succ j ih =>
      intro hj
      rw [ncb, ncb, ih (by omega), show (b + 256 * Y).testBit j = b.testBit j from by rw [e, Nat.testBit_two_pow_mul_add _ (by omega), if_pos (by omega)]]
  intro k
  induction k with
  | zero => rw [Nat.add_zero, h8 8 (by omega)]; rfl
  | succ k ih =>
    rw [show 8 + (k + 1) = 8 + k + 1 by omega, ncb, ih, show ncb Y (k + 1) = ncb Y k + (if Y.testBit k then 1 else 0) from rfl, show (b + 256 * Y).testBit (8 + k) = Y.testBit k from by rw [e, Nat.testBit_two_pow_mul_add _ (by omega), if_neg (by omega), show 8 + k - 8 = k by omega]]
    omega
theorem ncb_b4 {a b c d : Nat} (ha : a < 256) (hb : b < 256) (hc : c < 256) : ncb (b4f a b c d) 32 = pc8 a + pc8 b + pc8 c + pc8 d := by
  unfold b4f pc8
  rw [show 32 = 8 + 24 from rfl, ncb_8 ha, show 24 = 8 + 16 from rfl, ncb_8 hb, show 16 = 8 + 8 from rfl, ncb_8 hc]
  omega

theorem un_sh (x : Int32) (b : UInt32) (k : Nat) (hb : (b.toBitVec % 32).toNat = k) : un ((x.toUInt32 >>> b).toInt32) = un x / 2 ^ k := by
  show ((x.toUInt32 >>> b).toBitVec).toNat = x.toBitVec.toNat / 2 ^ k
  rw [UInt32.toBitVec_shiftRight, BitVec.ushiftRight_eq', hb, BitVec.toNat_ushiftRight, Nat.shiftRight_eq_div_pow]
  rfl
def ush (x s : Int32) : Int32 := (x.toUInt32 >>> (s.toUInt32 &&& Int32.toUInt32 31)).toInt32
def by1 (x : Int32) : Int32 := x - (ush x 1 &&& 1431655765)
def by2 (x : Int32) : Int32 := (by1 x &&& 858993459) + (ush (by1 x) 2 &&& 858993459)
def by3 (x : Int32) : Int32 := (by2 x + ush (by2 x) 4) &&& 252645135
def by4 (x : Int32) : Int32 := by3 x + ush (by3 x) 8
def by5 (x : Int32) : Int32 := by4 x + ush (by4 x) 16
theorem un_l {k : Nat} (x : Int32) (e : x = nI k) (h : k < 4294967296) : un x = k := by rw [e]; exact un_nI h
theorem an15 {u v : Nat} (hu : u ≤ 4) (hv : v ≤ 4) : (u + v) &&& 15 = u + v := by
  have := Nat.and_two_pow_sub_one_eq_mod (u + v) 4
  rw [show 2 ^ 4 - 1 = 15 from rfl] at this
  rw [this]; omega
theorem bc_ok (x : Int32) : by5 x &&& 63 = nI (pcn x 32) := by
  obtain ⟨a, b, c, d, ha, hb, hc, hd, hx⟩ := b4_of (un x) (un_lt x)
  obtain ⟨a1, a2, a3, a4, a5, a6, a7, a8, a9⟩ := pF ⟨a, ha⟩
  obtain ⟨b1, b2, b3, b4, b5, b6, b7, b8, b9⟩ := pF ⟨b, hb⟩
  obtain ⟨c1, c2, c3, c4, c5, c6, c7, c8, c9⟩ := pF ⟨c, hc⟩
  obtain ⟨d1, d2, d3, d4, d5, d6, d7, d8, d9⟩ := pF ⟨d, hd⟩
  dsimp only at *
  have hm1 : un 1431655765 = b4f 85 85 85 85 := by decide
  have hm2 : un 858993459 = b4f 51 51 51 51 := by decide
  have hm3 : un 252645135 = b4f 15 15 15 15 := by decide
  have e1 : un (by1 x) = b4f (zp1 a) (zp1 b) (zp1 c) (zp1 d) := by
    have z : un (ush x 1 &&& 1431655765) = b4f ((a / 2 ^ 1) &&& 85) ((b / 2 ^ 1) &&& 85) ((c / 2 ^ 1) &&& 85) ((d / 2 ^ 1) &&& 85) := by
      rw [un_and, show un (ush x 1) = un x / 2 ^ 1 from un_sh x _ 1 (by decide), hm1, hx, b4_and ha hb hc hd (by decide) (by decide)]
    unfold by1
    rw [un_sub, z, hx]
    unfold b4f zp1
    omega
  have e2 : un (by2 x) = b4f (zp2 (zp1 a)) (zp2 (zp1 b)) (zp2 (zp1 c)) (zp2 (zp1 d)) := by
    have z1 : un (by1 x &&& 858993459) = b4f (zp1 a &&& 51) (zp1 b &&& 51) (zp1 c &&& 51) (zp1 d &&& 51) := by
      have := b4_and (s := 0) (m := 51) a2 b2 c2 d2 (by decide) (by decide)
      simp only [Nat.pow_zero, Nat.div_one] at this
      rw [un_and, hm2, e1, this]
    have z2 : un (ush (by1 x) 2 &&& 858993459) = b4f ((zp1 a / 2 ^ 2) &&& 51) ((zp1 b / 2 ^ 2) &&& 51) ((zp1 c / 2 ^ 2) &&& 51) ((zp1 d / 2 ^ 2) &&& 51) := by
      rw [un_and, show un (ush (by1 x) 2) = un (by1 x) / 2 ^ 2 from un_sh _ _ 2 (by decide), hm2, e1, b4_and a2 b2 c2 d2 (by decide) (by decide)]
    unfold by2
    rw [un_add, z1, z2]
    unfold b4f zp2
    omega
  have e3 : un (by3 x) = b4f (pc8 a) (pc8 b) (pc8 c) (pc8 d) := by
    have hl : ∀ y, y < 256 → (y &&& 15) = y % 16 := fun y _ => by
      have := Nat.and_two_pow_sub_one_eq_mod y 4
      exact this
    have hsum : un (by2 x + ush (by2 x) 4) = (un (by2 x) + un (by2 x) / 2 ^ 4) % 4294967296 := by rw [un_add, show un (ush (by2 x) 4) = un (by2 x) / 2 ^ 4 from un_sh _ _ 4 (by decide)]
    unfold by3
    rw [un_and, hsum, hm3, e2]
    generalize zp2 (zp1 a) = A at *
    generalize zp2 (zp1 b) = B at *
    generalize zp2 (zp1 c) = C at *
    generalize zp2 (zp1 d) = D at *
    rw [hl A a3] at a4 a5
    rw [hl B b3] at b4 b5
    rw [hl C c3] at c4 c5
    rw [hl D d3] at d4 d5
    have hA : A / 2 ^ 4 &&& 15 = A / 16 := by rw [hl _ (by omega)]; omega
    have hB : B / 2 ^ 4 &&& 15 = B / 16 := by rw [hl _ (by omega)]; omega
    have hC : C / 2 ^ 4 &&& 15 = C / 16 := by rw [hl _ (by omega)]; omega
    have hD : D / 2 ^ 4 &&& 15 = D / 16 := by rw [hl _ (by omega)]; omega
    rw [hA] at a4
    rw [hB] at b4
    rw [hC] at c4
    rw [hD] at d4
    have k1 : (b4f A B C D + b4f A B C D / 2 ^ 4) % 4294967296 = b4f (pc8 a + 16 * (A / 16 + B % 16)) (pc8 b + 16 * (B / 16 + C % 16)) (pc8 c + 16 * (C / 16 + D % 16)) (pc8 d + 16 * (D / 16)) := by
      unfold b4f
      omega
    have := b4_and (s := 0) (m := 15) (a := pc8 a + 16 * (A / 16 + B % 16)) (b := pc8 b + 16 * (B / 16 + C % 16)) (c := pc8 c + 16 * (C / 16 + D % 16)) (d := pc8 d + 16 * (D / 16)) (by omega) (by omega) (by omega) (by omega) (by decide) (by decide)
    simp only [Nat.pow_zero, Nat.div_one] at this
    rw [k1, this, hl _ (by omega), hl _ (by omega), hl _ (by omega), hl _ (by omega)]
    congr 1 <;> omega
  have e4 : un (by4 x) = (un (by3 x) + un (by3 x) / 2 ^ 8) % 4294967296 := by
    unfold by4
    rw [un_add, show un (ush (by3 x) 8) = un (by3 x) / 2 ^ 8 from un_sh _ _ 8 (by decide)]
  have e5 : un (by5 x) = (un (by4 x) + un (by4 x) / 2 ^ 16) % 4294967296 := by
    unfold by5
    rw [un_add, show un (ush (by4 x) 16) = un (by4 x) / 2 ^ 16 from un_sh _ _ 16 (by decide)]
  have hp : pcn x 32 = pc8 a + pc8 b + pc8 c + pc8 d := by
    rw [pcn_ncb]
    change ncb (un x) 32 = _
    rw [hx]
    exact ncb_b4 ha hb hc
  apply un_eq
  have h63 : un 63 = 63 := by decide
  have := Nat.and_two_pow_sub_one_eq_mod (un (by5 x)) 6
  rw [show 2 ^ 6 - 1 = 63 from rfl] at this
  rw [un_and, h63, this, hp, un_nI (by omega), e5, e4, e3]
  clear this h63 hp e5 e4 e3 e2 e1 hm1 hm2 hm3
  unfold b4f
  generalize pc8 a = A at *
  generalize pc8 b = B at *
  generalize pc8 c = C at *
  generalize pc8 d = D at *
  have g1 : (A + 256 * (B + 256 * (C + 256 * D))) / 2 ^ 8 = B + 256 * (C + 256 * D) := by omega
  have g2 : (A + 256 * (B + 256 * (C + 256 * D)) + (B + 256 * (C + 256 * D))) % 4294967296 = (A + B) + 256 * (B + C) + 65536 * (C + D) + 16777216 * D := by omega
  have g3 : ((A + B) + 256 * (B + C) + 65536 * (C + D) + 16777216 * D) / 2 ^ 16 = (C + D) + 256 * D := by omega
  rw [g1, g2, g3]
  omega

set_option maxRecDepth 100000 in
set_option maxHeartbeats 1000000 in
theorem c_J6_bitCount_0f7a4 (g : gx) (n : Nat) {h : hp} (x : Int32) : Call g n 0 0 m_J6_bitCount_0f7a4 [.int x] h (fun rv h' => rv = some (.int (nI (pcn x 32))) ∧ h' = h) := by
  refine Call.of rfl (Nat.le_of_ble_eq_true rfl) ?_
  show Wp g n 0 0 m_J6_bitCount_0f7a4 h _ 0 0 0 [some (.int x)] [] h
  refine wp_run ctJ6_ok ok_J6_bitCount_0f7a4 (fun _ => false) 44 ?_
  simp (maxSteps := 10000000) only [↓wq, ↓oel_s, ↓nx_t, ↓nx_f, ↓lf_e, ↓sq_aconst_null, ↓sq_iconst, ↓sq_bipush, ↓sq_sipush, ↓sq_lconst, ↓sq_ldc, ↓sq_ldc_w, ↓sq_ldc2_w, ↓sq_iload_n, ↓sq_iload, ↓sq_lload_n, ↓sq_lload, ↓sq_aload_n, ↓sq_aload, ↓sq_istore_n, ↓sq_istore, ↓sq_lstore_n, ↓sq_lstore, ↓sq_astore_n, ↓sq_astore, ↓sq_iinc, ↓sq_iadd, ↓sq_isub, ↓sq_imul, ↓sq_iand, ↓sq_ior, ↓sq_ixor, ↓sq_ishl, ↓sq_ishr, ↓sq_iushr, ↓sq_ladd, ↓sq_lsub, ↓sq_lmul, ↓sq_land, ↓sq_lor, ↓sq_ldiv, ↓sq_lrem, ↓sq_lcmp, ↓sq_i2l, ↓sq_l2i, ↓sq_i2b, ↓sq_dup, ↓sq_pop, ↓sq_dup2, ↓sq_goto, ↓sq_ifCond_eq, ↓sq_ifCond_ne, ↓sq_ifCond_lt, ↓sq_ifCond_ge, ↓sq_ifCond_gt, ↓sq_ifCond_le, ↓sq_if_icmp_eq, ↓sq_if_icmp_ne, ↓sq_if_icmp_lt, ↓sq_if_icmp_ge, ↓sq_if_icmp_gt, ↓sq_if_icmp_le, ↓sq_ifnull, ↓sq_ifnonnull, ↓sq_tableswitch, ↓sq_lookupswitch, ↓sq_getfield, ↓sq_putfield, ↓sq_iaload, ↓sq_baload, ↓sq_laload, ↓sq_aaload, ↓sq_arraylength, ↓sq_iastore, ↓sq_bastore, ↓sq_lastore, ↓sq_aastore, ↓sq_new, ↓sq_newarray, ↓sq_anewarray, ↓sq_invokestatic, ↓sq_invokevirtual, ↓sq_invokespecial, ↓sq_ireturn, ↓sq_lreturn, ↓sq_areturn, ↓sq_return_, ↓pI_c, ↓pJ_c, ↓pA_c, ↓pN_c, ↓pN_n, ↓pV_c, ↓p1_i, ↓p1_r, ↓p1_n, ↓pE_c, ↓p0_c, ↓nl_n, ↓nl_r, ↓lI_0, ↓lI_s, ↓lJ_0, ↓lJ_s, ↓lA_0, ↓lA_n, ↓lA_s, ↓gtf_0, ↓gtf_1, ↓gtf_2, ↓rfc_s, ↓rfc_n, ↓swc_n, ↓swc_c, ↓rti_0, ↓rti_1, ↓rti_2, ↓rti_3, ↓scl_0, ↓scl_7, ↓scl_8, ↓scl_9, ↓icl_0, ↓icl_6, pI_c, pJ_c, pA_c, pN_c, pN_n, pV_c, p1_i, p1_r, p1_n, pE_c, p0_c, nl_n, nl_r, lI_0, lI_s, lJ_0, lJ_s, lA_0, lA_n, lA_s, gtf_0, gtf_1, gtf_2, rfc_s, rfc_n, swc_n, swc_c, rti_0, rti_1, rti_2, rti_3, scl_0, scl_7, scl_8, scl_9, icl_0, icl_6, setV_0, setV_1, setV_2, ptf_1, ptf_2, nb_1, nb_2, ldv_0, ldv_1, ls1_0, ls1_ni, ls1_nr, ls1_nn, ls1_nu, ls1_nl, ls1_s, ls2_0, ls2_ni, ls2_nr, ls2_nn, ls2_s, oel_s, Nat.reduceAdd, Nat.reduceSub, Nat.reduceLeDiff, Nat.reduceBEq, Bool.or_false, Bool.false_or, Bool.or_true, Bool.true_or, List.take_succ_cons, List.take_zero, List.drop_succ_cons, List.drop_zero, List.reverse_cons, List.reverse_nil, List.nil_append, List.cons_append, Option.toList_some, Option.toList_none, List.map_cons, List.map_nil, List.sum_cons, List.sum_nil, Value.category, List.length_cons, List.length_nil, Nat.le_refl, Nat.zero_le, Nat.add_zero, Nat.zero_add, Nat.add_one_sub_one, Nat.zero_lt_succ, true_and, and_true, ne_eq, not_false_eq_true, hK_setI, hN_setI, hR_setI, hr_setI, hZ_setI, hJ_setI, hK_setJ, hN_setJ, hR_setJ, hr_setJ, hZ_setJ, hI_setJ, reduceCtorEq, forall_const, and_self, eq_self, reduceIte, true_or, or_true, i_J6_bitCount_0f7a4_0, i_J6_bitCount_0f7a4_1, i_J6_bitCount_0f7a4_2, i_J6_bitCount_0f7a4_3, i_J6_bitCount_0f7a4_4, i_J6_bitCount_0f7a4_7, i_J6_bitCount_0f7a4_8, i_J6_bitCount_0f7a4_9, i_J6_bitCount_0f7a4_10, i_J6_bitCount_0f7a4_11, i_J6_bitCount_0f7a4_14, i_J6_bitCount_0f7a4_15, i_J6_bitCount_0f7a4_16, i_J6_bitCount_0f7a4_17, i_J6_bitCount_0f7a4_18, i_J6_bitCount_0f7a4_21, i_J6_bitCount_0f7a4_22, i_J6_bitCount_0f7a4_23, i_J6_bitCount_0f7a4_24, i_J6_bitCount_0f7a4_25, i_J6_bitCount_0f7a4_26, i_J6_bitCount_0f7a4_27, i_J6_bitCount_0f7a4_28, i_J6_bitCount_0f7a4_29, i_J6_bitCount_0f7a4_32, i_J6_bitCount_0f7a4_33, i_J6_bitCount_0f7a4_34, i_J6_bitCount_0f7a4_35, i_J6_bitCount_0f7a4_36, i_J6_bitCount_0f7a4_38, i_J6_bitCount_0f7a4_39, i_J6_bitCount_0f7a4_40, i_J6_bitCount_0f7a4_41, i_J6_bitCount_0f7a4_42, i_J6_bitCount_0f7a4_43, i_J6_bitCount_0f7a4_45, i_J6_bitCount_0f7a4_46, i_J6_bitCount_0f7a4_47, i_J6_bitCount_0f7a4_48, i_J6_bitCount_0f7a4_49, i_J6_bitCount_0f7a4_51, i_J6_bitCount_0f7a4_52, Option.some.injEq, Value.int.injEq, Value.long.injEq, and_self, not_true_eq_false, not_false_eq_true, false_implies, true_implies]
  exact bc_ok x

