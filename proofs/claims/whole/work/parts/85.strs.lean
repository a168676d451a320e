/-! 85: the JDK: length and charAt of a String constant -/
set_option maxRecDepth 100000 in
theorem c_J0_coder_7d493 (g : gx) (n : Nat) {h : hp} {a : Nat} (hk : hK h a = 40) : Call g n 0 0 m_J0_coder_7d493 [.ref a] h (fun rv h' => rv = some (.int 0) ∧ h' = h) := by
  refine Call.of rfl (Nat.le_of_ble_eq_true rfl) ?_
  show Wp g n 0 0 m_J0_coder_7d493 h _ 0 0 0 [some (.ref a)] [] h
  refine wr_cmps (i := 38) (by decide +kernel) (lg_in (i := 452) rfl rfl) ?_
  refine wr_if_eq (off := 10) (t := 13) (by decide +kernel) rfl ⟨fun e => absurd e (by decide), fun _ => ?_⟩
  refine wr_aload_n (j := 0) (i := 0) (by decide +kernel) rfl rfl ?_
  refine wr_scod (i := 15) (by decide +kernel) hk (lg_in (i := 1532) rfl rfl) ?_
  refine wr_goto (off := 4) (t := 14) (by decide +kernel) rfl ?_
  exact wr_ireturn (by decide +kernel) rfl rfl (Nat.le_refl _) (Nat.le_refl _) ⟨rfl, rfl⟩
set_option maxRecDepth 100000 in
theorem c_J0_isLatin1_aae02 (g : gx) (n : Nat) {h : hp} {a : Nat} (hk : hK h a = 40) : Call g n 0 0 m_J0_isLatin1_aae02 [.ref a] h (fun rv h' => rv = some (.int 1) ∧ h' = h) := by
  refine Call.of rfl (Nat.le_of_ble_eq_true rfl) ?_
  show Wp g n 0 0 m_J0_isLatin1_aae02 h _ 0 0 0 [some (.ref a)] [] h
  refine wr_cmps (i := 38) (by decide +kernel) (lg_in (i := 452) rfl rfl) ?_
  refine wr_if_eq (off := 14) (t := 17) (by decide +kernel) rfl ⟨fun e => absurd e (by decide), fun _ => ?_⟩
  refine wr_aload_n (j := 0) (i := 0) (by decide +kernel) rfl rfl ?_
  refine wr_scod (i := 15) (by decide +kernel) hk (lg_in (i := 1532) rfl rfl) ?_
  refine wr_if_ne (off := 7) (t := 17) (by decide +kernel) rfl ⟨fun e => absurd rfl e, fun _ => ?_⟩
  refine wr_iconst (i := 1) (v := 1) (by decide +kernel) rfl ?_
  refine wr_goto (off := 4) (t := 18) (by decide +kernel) rfl ?_
  exact wr_ireturn (by decide +kernel) rfl rfl (Nat.le_refl _) (Nat.le_refl _) ⟨rfl, rfl⟩
theorem sh_0 (x : Int32) : x >>> ((0 : Int32) &&& 31) = x := by
  have e : ((0 : Int32) &&& 31) = 0 := by decide
  rw [e]
  apply Int32.toBitVec_inj.mp
  show x.toBitVec.sshiftRight' (BitVec.smod 0#32 32) = x.toBitVec
  have e2 : (BitVec.smod 0#32 32) = 0#32 := by decide
  rw [e2]
  simp [BitVec.sshiftRight']
set_option maxRecDepth 100000 in
theorem c_J0_length_8abf5 (g : gx) (n : Nat) {h : hp} {a : Nat} (hk : hK h a = 40) : Call g (n + 1) 0 0 m_J0_length_8abf5 [.ref a] h (fun rv h' => rv = some (.int (nI (hN h a))) ∧ h' = h) := by
  refine Call.of rfl (Nat.le_of_ble_eq_true rfl) ?_
  show Wp g (n + 1) 0 0 m_J0_length_8abf5 h _ 0 0 0 [some (.ref a)] [] h
  refine wr_aload_n (j := 0) (i := 0) (by decide +kernel) rfl rfl ?_
  refine wr_sval (i := 9) (by decide +kernel) hk (lg_in (i := 1531) rfl rfl) (fun v e1 => ?_)
  refine wr_slen (by decide +kernel) hk e1 ?_
  refine wr_aload_n (j := 0) (i := 0) (by decide +kernel) rfl rfl ?_
  refine wr_callV (i := 335) (mc' := 0) (ms' := 0) (M' := m_J0_coder_7d493) (As := []) (rest := [.int (nI (hN h a))]) (by decide +kernel) (Or.inl (lg_in (i := 448) rfl rfl)) cw_J0_coder_7d493 im_J0_coder_7d493 se_J0_coder_7d493 ar_J0_coder_7d493 (Nat.le_of_ble_eq_true rfl) (Nat.le_refl _) (Nat.le_refl _) (Or.inr ⟨hk, rfl⟩) ?_
  refine Call.ret (c_J0_coder_7d493 g n hk) ?_
  refine wr_ishr (by decide +kernel) ?_
  rw [sh_0]
  exact wr_ireturn (by decide +kernel) rfl rfl (Nat.le_refl _) (Nat.le_refl _) ⟨rfl, rfl⟩
set_option maxRecDepth 100000 in
theorem c_J3_checkIndex_8e157 (g : gx) (n : Nat) {h : hp} {j m : Nat} {v : Value} (hj : j < m) (hm : m < 2147483648) (hv : v = .null ∨ ∃ t, v = .ref t) : Call g n 0 0 m_J3_checkIndex_8e157 [.int (nI j), .int (nI m), v] h (fun rv h' => rv = some (.int (nI j)) ∧ h' = h) := by
  have key : (lc_args [.int (nI j), .int (nI m), v]).length ≤ m_J3_checkIndex_8e157.2.2.1 ∧ lc_entry m_J3_checkIndex_8e157.2.2.1 [.int (nI j), .int (nI m), v] = [some (.int (nI j)), some (.int (nI m)), some v] := by
    rcases hv with rfl | ⟨t, rfl⟩ <;> exact ⟨Nat.le_of_ble_eq_true rfl, rfl⟩
  refine Call.of rfl key.1 ?_
  rw [key.2]
  refine wr_iload_n (j := 0) (i := 0) (by decide +kernel) rfl rfl ?_
  refine wr_if_lt (off := 8) (t := 9) (by decide +kernel) rfl ⟨fun e => absurd e (nI_nn (by omega)), fun _ => ?_⟩
  refine wr_iload_n (j := 0) (i := 0) (by decide +kernel) rfl rfl ?_
  refine wr_iload_n (j := 1) (i := 1) (by decide +kernel) rfl rfl ?_
  refine wr_icmp_lt (off := 10) (t := 16) (by decide +kernel) rfl ⟨fun _ => ?_, fun e => absurd ((nI_lt_ (by omega) (by omega)).mpr hj) e⟩
  refine wr_iload_n (j := 0) (i := 0) (by decide +kernel) rfl rfl ?_
  exact wr_ireturn (by decide +kernel) rfl rfl (Nat.le_refl _) (Nat.le_refl _) ⟨rfl, rfl⟩
set_option maxRecDepth 100000 in
theorem c_J0_checkIndex_df160 (g : gx) (n : Nat) {h : hp} {j m : Nat} (hj : j < m) (hm : m < 2147483648) : Call g (n + 1) 0 0 m_J0_checkIndex_df160 [.int (nI j), .int (nI m)] h (fun rv h' => rv = none ∧ h' = h) := by
  refine Call.of rfl (Nat.le_of_ble_eq_true rfl) ?_
  show Wp g (n + 1) 0 0 m_J0_checkIndex_df160 h _ 0 0 0 [some (.int (nI j)), some (.int (nI m))] [] h
  refine wr_iload_n (j := 0) (i := 0) (by decide +kernel) rfl rfl ?_
  refine wr_iload_n (j := 1) (i := 1) (by decide +kernel) rfl rfl ?_
  refine wr_fmt (i := 1053) (by decide +kernel) (lg_in (i := 468) rfl rfl) (fun v hv => ?_)
  refine wr_callS (i := 1059) (mc' := 0) (ms' := 0) (M' := m_J3_checkIndex_8e157) (As := [.int (nI j), .int (nI m), v]) (rest := []) (by decide +kernel) (Or.inl (lg_in (i := 470) rfl rfl)) cw_J3_checkIndex_8e157 st_J3_checkIndex_8e157 ar_J3_checkIndex_8e157 (Nat.le_of_ble_eq_true rfl) (Nat.le_refl _) (Nat.le_refl _) ?_
  refine Call.ret (c_J3_checkIndex_8e157 g n hj hm hv) ?_
  refine wr_pop (by decide +kernel) rfl ?_
  exact wr_return (by decide +kernel) rfl (Nat.le_refl _) (Nat.le_refl _) ⟨rfl, rfl⟩
theorem ch_255 : ∀ c : Fin 128, nI c.val &&& 255 = nI c.val ∧ ((nI c.val).toUInt32 % 65536).toInt32 = nI c.val := by decide +kernel
theorem ch_nar : ∀ c : Fin 128, narrow .char (.int (nI c.val)) = .int (nI c.val) := by decide +kernel
set_option maxRecDepth 100000 in
theorem c_J1_charAt_3b067 (g : gx) (n : Nat) {h : hp} {o a j k : Nat} (hk : hK h o = 40) (ho : hR h o 0 = some a) (hj : j < hN h o) (hm : hN h o < 2147483648) (hv : hI h a j = nI k) (h128 : k < 128) : Call g (n + 2) 0 0 m_J1_charAt_3b067 [.ref a, .int (nI j)] h (fun rv h' => rv = some (.int (nI k)) ∧ h' = h) := by
  refine Call.of rfl (Nat.le_of_ble_eq_true rfl) ?_
  show Wp g (n + 2) 0 0 m_J1_charAt_3b067 h _ 0 0 0 [some (.ref a), some (.int (nI j))] [] h
  refine wr_iload_n (j := 1) (i := 1) (by decide +kernel) rfl rfl ?_
  refine wr_aload_n (j := 0) (i := 0) (by decide +kernel) rfl rfl ?_
  refine wr_slen (by decide +kernel) hk ho ?_
  refine wr_callS (i := 9) (mc' := 0) (ms' := 0) (M' := m_J0_checkIndex_df160) (As := [.int (nI j), .int (nI (hN h o))]) (rest := []) (by decide +kernel) (Or.inl (lg_in (i := 465) rfl rfl)) cw_J0_checkIndex_df160 st_J0_checkIndex_df160 ar_J0_checkIndex_df160 (Nat.le_of_ble_eq_true rfl) (Nat.le_refl _) (Nat.le_refl _) ?_
  refine Call.ret (c_J0_checkIndex_df160 g n hj hm) ?_
  refine wr_aload_n (j := 0) (i := 0) (by decide +kernel) rfl rfl ?_
  refine wr_iload_n (j := 1) (i := 1) (by decide +kernel) rfl rfl ?_
  refine wr_sbal (by decide +kernel) hk ho (in_nI hj (by omega)) ?_
  rw [nI_tn (by omega), hv]
  refine wr_sipush (i := 255) (v := 255) (by decide +kernel) rfl ?_
  refine wr_iand (by decide +kernel) ?_
  rw [(ch_255 ⟨k, h128⟩).1]
  refine wr_i2c (by decide +kernel) (ch_255 ⟨k, h128⟩).2 ?_
  exact wr_ireturn (by decide +kernel) rfl (ch_nar ⟨k, h128⟩) (Nat.le_refl _) (Nat.le_refl _) ⟨rfl, rfl⟩
set_option maxRecDepth 100000 in
theorem c_J0_charAt_5068e (g : gx) (n : Nat) {h : hp} {a b j k : Nat} (hk : hK h a = 40) (hb : hR h a 0 = some b) (hj : j < hN h a) (hm : hN h a < 2147483648) (hv : hI h b j = nI k) (h128 : k < 128) : Call g (n + 3) 0 0 m_J0_charAt_5068e [.ref a, .int (nI j)] h (fun rv h' => rv = some (.int (nI k)) ∧ h' = h) := by
  refine Call.of rfl (Nat.le_of_ble_eq_true rfl) ?_
  show Wp g (n + 3) 0 0 m_J0_charAt_5068e h _ 0 0 0 [some (.ref a), some (.int (nI j))] [] h
  refine wr_aload_n (j := 0) (i := 0) (by decide +kernel) rfl rfl ?_
  refine wr_callV (i := 492) (mc' := 0) (ms' := 0) (M' := m_J0_isLatin1_aae02) (As := []) (rest := []) (by decide +kernel) (Or.inl (lg_in (i := 458) rfl rfl)) cw_J0_isLatin1_aae02 im_J0_isLatin1_aae02 se_J0_isLatin1_aae02 ar_J0_isLatin1_aae02 (Nat.le_of_ble_eq_true rfl) (Nat.le_refl _) (Nat.le_refl _) (Or.inr ⟨hk, rfl⟩) ?_
  refine Call.ret (c_J0_isLatin1_aae02 g (n + 2) hk) ?_
  refine wr_if_eq (off := 12) (t := 16) (by decide +kernel) rfl ⟨fun e => absurd e (by decide), fun _ => ?_⟩
  refine wr_aload_n (j := 0) (i := 0) (by decide +kernel) rfl rfl ?_
  refine wr_sval (i := 9) (by decide +kernel) hk (lg_in (i := 1531) rfl rfl) (fun v e1 => ?_)
  cases hb.symm.trans e1
  refine wr_iload_n (j := 1) (i := 1) (by decide +kernel) rfl rfl ?_
  refine wr_callS (i := 495) (mc' := 0) (ms' := 0) (M' := m_J1_charAt_3b067) (As := [.ref b, .int (nI j)]) (rest := []) (by decide +kernel) (Or.inl (lg_in (i := 462) rfl rfl)) cw_J1_charAt_3b067 st_J1_charAt_3b067 ar_J1_charAt_3b067 (Nat.le_of_ble_eq_true rfl) (Nat.le_refl _) (Nat.le_refl _) ?_
  refine Call.ret (c_J1_charAt_3b067 g n hk e1 hj hm hv h128) ?_
  exact wr_ireturn (by decide +kernel) rfl (ch_nar ⟨k, h128⟩) (Nat.le_refl _) (Nat.le_refl _) ⟨rfl, rfl⟩
/-- the texts of the String constants, by number -/
def stx (k : Nat) : List Nat := match k with
  | 0 => [109, 105, 110, 117, 116, 101, 32, 114, 97, 110, 107, 32, 100, 97, 121, 32, 115, 101, 114, 118, 105, 99, 101, 32, 112, 111, 115, 116, 32, 110, 101, 97, 114, 32, 112, 97, 112, 101, 114, 32, 108, 105, 115, 116, 101, 100, 32, 111, 119, 110, 32, 100, 101, 112, 116, 104, 32, 102, 97, 108, 108, 101, 110, 32, 115, 105, 110, 99, 101, 32, 100, 111, 105, 110, 103, 32, 108, 105, 115, 116, 32, 102, 105, 114, 115, 116, 32, 98, 97, 114, 32, 108, 97, 112, 115, 101, 32, 105, 102, 32, 97, 110, 100, 32, 111, 114, 32, 110, 111, 116, 32]
  | 14 => wd 14 | 15 => wd 15 | 16 => wd 16 | 17 => wd 13 | 18 => wd 20 | 19 => wd 18 | 20 => wd 19 | 21 => wd 17
  | k + 1 => wd k
/-- the String constants, all below Z -/
def SHp (g : gx) (h : hp) (Z : Nat) : Prop := ∀ k, k < 22 → hK h (g.2.2 k) = 40 ∧ hN h (g.2.2 k) = (stx k).length ∧ ∃ b, hR h (g.2.2 k) 0 = some b ∧ b < Z ∧ ∀ j, j < (stx k).length → hI h b j = nI ((stx k).getD j 0)
theorem SHp.kept {g : gx} {h h' : hp} {Z : Nat} {P : Nat → Prop} (H : SHp g h Z) (k : Chg P h h') (hP : ∀ b, P b → Z ≤ b) : SHp g h' Z := fun i hi => by
  obtain ⟨a1, a2, b, a3, a4, a5⟩ := H i hi
  refine ⟨by rw [k.2.1]; exact a1, by rw [k.2.2.1]; exact a2, b, by rw [k.2.2.2.1]; exact a3, a4, fun j hj => ?_⟩
  rw [(k.2.2.2.2 b (fun q => by have := hP b q; omega)).1]
  exact a5 j hj
theorem stx_128 : ∀ k : Fin 22, (stx k.val).length < 200 ∧ ∀ j : Fin 200, (stx k.val).getD j.val 0 < 128 := by decide +kernel
theorem SHp.len {g : gx} {h : hp} {Z : Nat} (H : SHp g h Z) (n : Nat) {k : Nat} (hk : k < 22) : Call g (n + 1) 0 0 m_J0_length_8abf5 [.ref (g.2.2 k)] h (fun rv h' => rv = some (.int (nI (stx k).length)) ∧ h' = h) := by
  have := c_J0_length_8abf5 g n (H k hk).1
  rw [(H k hk).2.1] at this
  exact this
theorem SHp.chr {g : gx} {h : hp} {Z : Nat} (H : SHp g h Z) (n : Nat) {k j : Nat} (hk : k < 22) (hj : j < (stx k).length) : Call g (n + 3) 0 0 m_J0_charAt_5068e [.ref (g.2.2 k), .int (nI j)] h (fun rv h' => rv = some (.int (nI ((stx k).getD j 0))) ∧ h' = h) := by
  obtain ⟨a1, a2, b, a3, a4, a5⟩ := H k hk
  have l := (stx_128 ⟨k, hk⟩).1
  exact c_J0_charAt_5068e g n a1 a3 (by rw [a2]; exact hj) (by rw [a2]; simp only at l; omega) (a5 j hj) ((stx_128 ⟨k, hk⟩).2 ⟨j, by simp only at l; omega⟩)

