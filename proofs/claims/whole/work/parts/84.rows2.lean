/-! 84: statics, Strings, copies of arrays, over Wp -/
section WD
variable {g : gx} {n mc ms : Nat} {M : md_} {h0 : hp} {Q : Option Value → hp → Prop} {cs sl pc : Nat} {ls : List (Option Value)} {st : List Value} {h : hp}

theorem wr_cmps {i : Nat} (hd : decode M.2.1 pc = .ok (.getstatic i, 3)) (hw : Cond.fieldLink M.1.cls i "java/lang/String" "COMPACT_STRINGS" "Z" ∈ lw_good) (kk : Wp g n mc ms M h0 Q cs sl (pc + 3) ls (.int 1 :: st) h) : Wp g n mc ms M h0 Q cs sl pc ls st h := by
  intro p e s m args below meth c H locs lsA hX hE hz hre hS hA hl
  obtain ⟨cf, kf, fi, f, a, cell, h1, h2, h3, h4, h5, h6, h7, h8⟩ := hre.2.2.2.1
  exact W.gets hX.1 hX.2.1 hX.2.2.2.2.1 (hX.2.2.2.2.2.1 _ (List.mem_cons_of_mem _ hw)) h1 h2 h3 h4 h5 (fun e => by rw [e] at h6; cases h6) h7 rfl hd (kk p e s m args below meth c H locs lsA hX hE hz hre hS hA hl)
theorem wr_fmt {i : Nat} (hd : decode M.2.1 pc = .ok (.getstatic i, 3)) (hw : Cond.fieldLink M.1.cls i "jdk/internal/util/Preconditions" "SIOOBE_FORMATTER" "Ljava/util/function/BiFunction;" ∈ lw_good) (kk : ∀ v, (v = .null ∨ ∃ t, v = .ref t) → Wp g n mc ms M h0 Q cs sl (pc + 3) ls (v :: st) h) : Wp g n mc ms M h0 Q cs sl pc ls st h := by
  intro p e s m args below meth c H locs lsA hX hE hz hre hS hA hl
  rcases hre.2.2.2.2 with ⟨cf, kf, fi, f, a, cell, h1, h2, h3, h4, h5, h6, h7, h8⟩ | ⟨t, cf, kf, fi, f, a, cell, h1, h2, h3, h4, h5, h6, h7, h8⟩
  · exact W.gets hX.1 hX.2.1 hX.2.2.2.2.1 (hX.2.2.2.2.2.1 _ (List.mem_cons_of_mem _ hw)) h1 h2 h3 h4 h5 (fun e => by rw [e] at h6; cases h6) h7 rfl hd (kk _ (Or.inl rfl) p e s m args below meth c H locs lsA hX hE hz hre hS hA hl)
  · exact W.gets hX.1 hX.2.1 hX.2.2.2.2.1 (hX.2.2.2.2.2.1 _ (List.mem_cons_of_mem _ hw)) h1 h2 h3 h4 h5 (fun e => by rw [e] at h6; cases h6) h7 rfl hd (kk _ (Or.inr ⟨t, rfl⟩) p e s m args below meth c H locs lsA hX hE hz hre hS hA hl)
theorem wr_sval {i a : Nat} (hd : decode M.2.1 pc = .ok (.getfield i, 3)) (hk : hK h a = 40) (hw : Cond.fieldLink M.1.cls i "java/lang/String" "value" "[B" ∈ lw_good) (kk : ∀ v, hR h a 0 = some v → Wp g n mc ms M h0 Q cs sl (pc + 3) ls (.ref v :: st) h) : Wp g n mc ms M h0 Q cs sl pc ls (.ref a :: st) h := by
  intro p e s m args below meth c H locs lsA hX hE hz hre hS hA hl
  obtain ⟨-, -, v, ev, kv, ⟨cf, k, fi, f, cell, h1, h2, h3, h4, h5, h6⟩, -⟩ := (hre.2.2.1 a).2.2.1 hk
  exact W.getf hX.1 hX.2.1 hX.2.2.2.2.1 (hX.2.2.2.2.2.1 _ (List.mem_cons_of_mem _ hw)) h1 h2 h3 h4 (v := .ref v) h5 rfl rfl hd (kk v ev p e s m args below meth c H locs lsA hX hE hz hre hS hA hl)
theorem wr_scod {i a : Nat} (hd : decode M.2.1 pc = .ok (.getfield i, 3)) (hk : hK h a = 40) (hw : Cond.fieldLink M.1.cls i "java/lang/String" "coder" "B" ∈ lw_good) (kk : Wp g n mc ms M h0 Q cs sl (pc + 3) ls (.int 0 :: st) h) : Wp g n mc ms M h0 Q cs sl pc ls (.ref a :: st) h := by
  intro p e s m args below meth c H locs lsA hX hE hz hre hS hA hl
  obtain ⟨-, ⟨cf, k, fi, f, cell, h1, h2, h3, h4, h5, h6⟩, -⟩ := (hre.2.2.1 a).2.2.1 hk
  exact W.getf hX.1 hX.2.1 hX.2.2.2.2.1 (hX.2.2.2.2.2.1 _ (List.mem_cons_of_mem _ hw)) h1 h2 h3 h4 (v := .int 0) h5 rfl rfl hd (kk p e s m args below meth c H locs lsA hX hE hz hre hS hA hl)
theorem wr_slen {o a : Nat} (hd : decode M.2.1 pc = .ok (.arraylength, 1)) (hk : hK h o = 40) (ho : hR h o 0 = some a) (kk : Wp g n mc ms M h0 Q cs sl (pc + 1) ls (.int (nI (hN h o)) :: st) h) : Wp g n mc ms M h0 Q cs sl pc ls (.ref a :: st) h := by
  intro p e s m args below meth c H locs lsA hX hE hz hre hS hA hl
  obtain ⟨-, -, v, ev, -, -, hT⟩ := (hre.2.2.1 o).2.2.1 hk
  cases ho.symm.trans ev
  obtain ⟨cell, h1, h2, h3, h4, h5, h6, h7⟩ := hT
  exact W.alen (n := nI (hN h o)) hX.1 hX.2.1 h1 h2 h5 rfl rfl hd (kk p e s m args below meth c H locs lsA hX hE hz hre hS hA hl)
theorem wr_sbal {o a : Nat} {i : Int32} (hd : decode M.2.1 pc = .ok (.baload, 1)) (hk : hK h o = 40) (ho : hR h o 0 = some a) (hi : vp_in i (hN h o)) (kk : Wp g n mc ms M h0 Q cs sl (pc + 1) ls (.int (hI h a i.toNatClampNeg) :: st) h) : Wp g n mc ms M h0 Q cs sl pc ls (.int i :: .ref a :: st) h := by
  intro p e s m args below meth c H locs lsA hX hE hz hre hS hA hl
  obtain ⟨-, -, v, ev, -, -, hT⟩ := (hre.2.2.1 o).2.2.1 hk
  cases ho.symm.trans ev
  obtain ⟨cell, h1, h2, h3, h4, h5, h6, h7⟩ := hT
  have hlt : i.toNatClampNeg < hN h o := Nat.not_le.mp fun q => hi (Or.inr q)
  have hin' : ¬ (i < 0 ∨ cell.slots.size ≤ i.toNatClampNeg) := by
    intro q
    rcases q with q | q
    · exact hi (Or.inl q)
    · omega
  exact W.bald (v := .int (hI h a i.toNatClampNeg)) hX.1 hX.2.1 h1 h2 h3 hin' (h6 _ hlt) rfl rfl hd (kk p e s m args below meth c H locs lsA hX hE hz hre hS hA hl)
theorem wr_i2c {x v : Int32} (hd : decode M.2.1 pc = .ok (.i2c, 1)) (hv : (x.toUInt32 % 65536).toInt32 = v) (k : Wp g n mc ms M h0 Q cs sl (pc + 1) ls (.int v :: st) h) : Wp g n mc ms M h0 Q cs sl pc ls (.int x :: st) h :=
  fun p e s m args below meth c H locs lsA hX hE hz hre hS hA hl => lv_i2c hX.1 hX.2.1 hd hv (k p e s m args below meth c H locs lsA hX hE hz hre hS hA hl)
theorem wr_ldcwS {i j : Nat} {tx : String} (hd : decode M.2.1 pc = .ok (.ldc_w i, 3)) (hw : (M.1.cls, i, tx, j) ∈ strTab) (k : Wp g n mc ms M h0 Q cs sl (pc + 3) ls (.ref (g.2.2 j) :: st) h) : Wp g n mc ms M h0 Q cs sl pc ls st h := by
  intro p e s m args below meth c H locs lsA hX hE hz hre hS hA hl T hT X
  have hZ := hE.2.1 _ hw
  obtain ⟨t, a1, b1⟩ := k p e s m args below meth c H locs lsA hX hE hz hre hS hA hl T hT X
  obtain ⟨kc, cf, ii, a', hk, hcf, hcp, -, hrs, hev'⟩ := Cond.stringRef_spec hX.2.2.2.2.1 hZ.1
  cases hZ.2.symm.trans hev'
  obtain ⟨k', hk', he⟩ := X.warmed.alike.2.2 _ _ hk
  have hr' : k'.resolved[i]? = some (some (.string (g.2.2 j))) := by
    rcases X.warmed.entry hk hk' i with h | ⟨h, -⟩
    · rw [h]; exact hrs
    · rw [hrs] at h; cases h
  have hdg : decode c.code (F0 m pc lsA st).pc = .ok (.ldc_w i, 3) := by rw [hX.2.1]; exact hd
  have go : ∀ target, Steps p.tables e below (T.setTop { (F0 m pc lsA st) with pc := (F0 m pc lsA st).pc + 3, stack := .ref (g.2.2 j) :: (F0 m pc lsA st).stack }) target → Steps p.tables e below (T.setTop (F0 m pc lsA st)) target := by
    intro target hrest
    jvm_step X.here [hX.1, hdg, ldc_w.wp_string (e := e) (s := T) (f := F0 m pc lsA st) X.here.top hk' (by rw [he]; exact hcf) hcp hr']
    exact hrest
  exact ⟨t, go t a1, b1⟩
/-- ints of one row copied to another -/
def cpI (h : hp) (a sp b dp k : Nat) : hp := (h.1, h.2.1, h.2.2.1, (fun q j => if q = b then va_cpy (h.2.2.2.1 a) (h.2.2.2.1 b) sp dp k j else h.2.2.2.1 q j), h.2.2.2.2.1, h.2.2.2.2.2)
theorem hI_cpI (h : hp) (a sp b dp k q j : Nat) : hI (cpI h a sp b dp k) q j = if q = b then (if dp ≤ j ∧ j < dp + k then hI h a (sp + (j - dp)) else hI h b j) else hI h q j := by
  show (if q = b then va_cpy (h.2.2.2.1 a) (h.2.2.2.1 b) sp dp k j else h.2.2.2.1 q j) = _
  split
  · rfl
  · rfl
theorem hp_eq_cpI {h : hp} {a sp b dp k q : Nat} (e : q ≠ b) : hp_eq h (cpI h a sp b dp k) q := ⟨rfl, rfl, fun j => by rw [hI_cpI, if_neg e], fun _ => rfl, fun _ => rfl⟩
theorem wr_acp {i a b : Nat} {sp dp k : Int32} (hd : decode M.2.1 pc = .ok (.invokestatic i, 3)) (hlink : Cond.methodLink M.1.cls i arraycopyName ∈ lw_good) (hnat : Cond.native arraycopyName ∈ lw_good) (hstat : Cond.static arraycopyName ∈ lw_good) (hini : Cond.initialized "java/lang/System" ∈ lw_good)
    (ha : hK h a = 20) (hb : hK h b = 20) (h1 : ¬ sp < 0) (h2 : ¬ dp < 0) (h3 : ¬ k < 0) (h4 : sp.toNatClampNeg + k.toNatClampNeg ≤ hN h a) (h5 : dp.toNatClampNeg + k.toNatClampNeg ≤ hN h b) (h8 : (st.map fun v => v.category).sum ≤ 8)
    (kk : Wp g n mc ms M h0 Q cs sl (pc + 3) ls st (cpI h a sp.toNatClampNeg b dp.toNatClampNeg k.toNatClampNeg)) : Wp g n mc ms M h0 Q cs sl pc ls (.int k :: .int dp :: .ref b :: .int sp :: .ref a :: st) h := by
  intro p e s m args below meth c H locs lsA hX hE hz hre hS hA hl
  have ok : ∀ w ∈ lw_good, w.before args s = true := fun w hw => hX.2.2.2.2.2.1 w (List.mem_cons_of_mem _ hw)
  have nn : ∀ z : Int32, ¬ z < 0 → z.toInt = (z.toNatClampNeg : Int) := by
    intro z hz
    have hz0 : (0 : Int) ≤ z.toInt := by
      have := Int32.not_lt.mp hz
      simpa using Int32.le_iff_toInt_le.mp this
    show z.toInt = ((z.toInt.toNat : Nat) : Int)
    omega
  intro T hT X
  obtain ⟨c0, q0, r0, hc0⟩ := (hre.2.2.1 a).2.1 0 (by omega) ha
  obtain ⟨c1, q1, r1, hc1⟩ := (hre.2.2.1 b).2.1 0 (by omega) hb
  have hc0 : H[a]? = some (vp_cell c0 (hN h a, .inl (hI h a))) := hc0
  have hc1 : H[b]? = some (vp_cell c1 (hN h b, .inl (hI h b))) := hc1
  obtain ⟨-, k0, hk0, cm0, hkk0⟩ := q0 (hN h a) (fun j => .int (hI h a j))
  obtain ⟨-, k1, hk1, cm1, hkk1⟩ := q1 (hN h b) (fun j => .int (hI h b j))
  obtain ⟨vm', X', step⟩ := X.arraycopy hX.1 hX.2.2.2.2.1 (ok _ hlink) (ok _ hnat) (ok _ hstat) (ok _ hini) (src := a) (dst := b) (cs := vp_cell c0 (hN h a, .inl (hI h a))) (cd := vp_cell c1 (hN h b, .inl (hI h b))) (srcPos := sp) (destPos := dp) (n := k) (by rw [hT]; exact hc0) (by rw [hT]; exact hc1)
    (fun _ h => by cases h) (fun _ h => by cases h) (fun h => by cases h) (fun h => by cases h) hk0 hk1 hkk0 hkk1 (by simp [aty, refKind]) h1 h2 h3
    (by rw [nn sp h1, nn k h3]; show ¬ _ > ((arrV c0 (hN h a) (fun j => .int (hI h a j))).slots.size : Int); rw [arrV_size]; omega)
    (by rw [nn dp h2, nn k h3]; show ¬ _ > ((arrV c1 (hN h b) (fun j => .int (hI h b j))).slots.size : Int); rw [arrV_size]; omega)
    (fun vm₁ _ i hi => by
      have e : (vp_cell c0 (hN h a, .inl (hI h a))).slots.getD (sp.toNatClampNeg + i) .null = .int (hI h a (sp.toNatClampNeg + i)) := by
        show (arrV c0 (hN h a) (fun j => .int (hI h a j))).slots.getD _ _ = _
        rw [Array.getD_eq_getD_getElem?, arrV_read _ _ (by omega)]
        rfl
      refine ⟨?_, ?_⟩
      · rw [e]
        rfl
      · rw [e]
        exact trivial)
    (g := F0 m pc lsA (.int k :: .int dp :: .ref b :: .int sp :: .ref a :: st)) rfl (by rw [hX.2.2.2.1]; exact hl.1) (rest := st) rfl (by rw [hX.2.1]; exact hd) (by simp [md_R]) (by
      show 2 * 0 + _ + _ ≤ _
      have : nativeFrameWords "java/lang/System" "arraycopy" 5 = 7 := by decide
      simp only [md_R]
      omega)
  have e1 : copied (vp_cell c0 (hN h a, .inl (hI h a))) (vp_cell c1 (hN h b, .inl (hI h b))) sp dp k = vp_cell c1 (hN h b, .inl (va_cpy (hI h a) (hI h b) sp.toNatClampNeg dp.toNatClampNeg k.toNatClampNeg)) := va_copied (fun z => .int z) c0 c1 (hI h a) (hI h b) h4
  rw [e1] at X' step
  have hlb : b < H.size := (Array.getElem?_eq_some_iff.mp hc1).1
  have hheap : ((T.setVm vm').setCell b (vp_cell c1 (hN h b, .inl (va_cpy (hI h a) (hI h b) sp.toNatClampNeg dp.toNatClampNeg k.toNatClampNeg)))).heap = H.setIfInBounds b (vp_cell c1 (hN h b, .inl (va_cpy (hI h a) (hI h b) sp.toNatClampNeg dp.toNatClampNeg k.toNatClampNeg))) := by rw [← hT]; rfl
  have oq : ∀ q : Nat, q ≠ b → (H.setIfInBounds b (vp_cell c1 (hN h b, .inl (va_cpy (hI h a) (hI h b) sp.toNatClampNeg dp.toNatClampNeg k.toNatClampNeg))))[q]? = H[q]? := fun q hq => by simp [Array.getElem?_setIfInBounds, Ne.symm hq]
  have hrel : hp_Rel g.2.1 s (cpI h a sp.toNatClampNeg b dp.toNatClampNeg k.toNatClampNeg) (H.setIfInBounds b (vp_cell c1 (hN h b, .inl (va_cpy (hI h a) (hI h b) sp.toNatClampNeg dp.toNatClampNeg k.toNatClampNeg)))) := by
    refine hre.put rfl (fun q hq => hp_eq_cpI hq) rfl (by omega) (by simp) oq (hp_at.arr (t := 0) (by omega) hb q1 r1 ?_)
    have ef : act 0 (cpI h a sp.toNatClampNeg b dp.toNatClampNeg k.toNatClampNeg) b = .inl (va_cpy (hI h a) (hI h b) sp.toNatClampNeg dp.toNatClampNeg k.toNatClampNeg) := by
      show Sum.inl _ = Sum.inl _
      congr 1
      funext j
      show (if b = b then _ else _) = _
      rw [if_pos rfl]
      rfl
    rw [ef]
    simp [Array.getElem?_setIfInBounds, hlb]
    rfl
  have hAb : fr_ h0 b := hA b (by omega)
  obtain ⟨t, a1, b1⟩ := kk p e s m args below meth c _ _ lsA hX hE hz hrel ⟨by simp; exact hS.1, fun q g1 g2 => by
      rw [oq q (fun e => g2 (by rw [e]; exact hAb))]
      exact hS.2.1 q g1 g2, fun q hq => by
      rcases List.mem_append.mp hq with h | h
      · exact hS.2.2 q h
      · obtain ⟨z, -, hz⟩ := List.mem_map.mp h
        rw [← hz]
        exact hAb⟩ hA hl _ hheap X'
  exact ⟨t, step t a1, b1⟩
/-- a row of ints copied into a new one of the same length -/
def clI (h : hp) (a : Nat) : hp := (h.1 + 1, up1 h.2.1 h.1 20, up1 h.2.2.1 h.1 (h.2.2.1 a), up1 h.2.2.2.1 h.1 (h.2.2.2.1 a), up1 h.2.2.2.2.1 h.1 (fun _ => 0), up1 h.2.2.2.2.2 h.1 (fun _ => none))
theorem hZ_clI (h : hp) (a : Nat) : hZ (clI h a) = hZ h + 1 := rfl
theorem hK_clI (h : hp) (a b : Nat) : hK (clI h a) b = if b = hZ h then 20 else hK h b := rfl
theorem hN_clI (h : hp) (a b : Nat) : hN (clI h a) b = if b = hZ h then hN h a else hN h b := rfl
theorem hI_clI (h : hp) (a b : Nat) : hI (clI h a) b = if b = hZ h then hI h a else hI h b := rfl
theorem hp_eq_clI {h : hp} {a b : Nat} (e : b ≠ hZ h) : hp_eq h (clI h a) b := ⟨if_neg e, if_neg e, fun j => by rw [hI_clI, if_neg e], fun j => congrFun (show up1 h.2.2.2.2.1 h.1 (fun _ => 0) b = h.2.2.2.2.1 b from if_neg e) j, fun j => congrFun (show up1 h.2.2.2.2.2 h.1 (fun _ => none) b = h.2.2.2.2.2 b from if_neg e) j⟩
theorem hp_Rel.cl {D : va_G} {s : State} {h : hp} {H H1 : Heap} {a : Nat} (hre : hp_Rel D s h H) (z : H1.size = H.size + 1) (oq : ∀ b : Nat, b < H.size → H1[b]? = H[b]?) (ha : hp_at D s (clI h a) H1 (hZ h)) : hp_Rel D s (clI h a) H1 := by
  refine ⟨by rw [z, hZ_clI, hre.1], fun b hb => ?_, fun b => ?_, hre.2.2.2.mv fun w hw _ => ⟨oq w hw, by rw [hK_clI, if_neg (by rw [← hre.1]; omega)]⟩⟩
  · rw [hZ_clI]
    by_cases e : b = hZ h
    · omega
    · rw [hK_clI, if_neg e] at hb
      have := hre.2.1 b hb
      omega
  · by_cases e : b = hZ h
    · rw [e]; exact ha
    · by_cases hk : hK h b = 0
      · exact hp_at.none (by rw [hK_clI, if_neg e]; exact hk)
      · have hlt := hre.2.1 b hk
        exact (hre.2.2.1 b).kept (hp_eq_clI e) (fun v hv => ⟨hp_eq_clI (fun q => by have := hre.2.1 v (by omega); omega), oq v (by rw [hre.1]; exact hre.2.1 v (by omega))⟩) (oq b (by rw [hre.1]; exact hlt))
theorem wr_cln {i a : Nat} (hd : decode M.2.1 pc = .ok (.invokevirtual i, 3)) (hlink : Cond.methodLink M.1.cls i ⟨"[I", "clone", "()Ljava/lang/Object;"⟩ ∈ lw_good) (hsame : Cond.sameMethod "[I" "java/lang/Object" "clone" "()Ljava/lang/Object;" ∈ lw_good) (hnat : Cond.native ⟨"java/lang/Object", "clone", "()Ljava/lang/Object;"⟩ ∈ lw_good) (hinst : Cond.instanceMethod ⟨"java/lang/Object", "clone", "()Ljava/lang/Object;"⟩ ∈ lw_good) (hsel : Cond.selects "[I" ⟨"[I", "clone", "()Ljava/lang/Object;"⟩ ⟨"java/lang/Object", "clone", "()Ljava/lang/Object;"⟩ ∈ lw_good) (hcl : Cond.castable "[I" "java/lang/Cloneable" ∈ nestW)
    (ha : hK h a = 20) (h8 : (st.map fun v => v.category).sum ≤ 8) (hcs : cs + 1 ≤ mc) (hsl : sl + hN h a ≤ ms)
    (kk : Wp g n mc ms M h0 Q (cs + 1) (sl + hN h a) (pc + 3) ls (.ref (hZ h) :: st) (clI h a)) : Wp g n mc ms M h0 Q cs sl pc ls (.ref a :: st) h := by
  intro p e s m args below meth c H locs lsA hX hE hz hre hS hA hl
  have ok : ∀ w ∈ lw_good, w.before args s = true := fun w hw => hX.2.2.2.2.2.1 w (List.mem_cons_of_mem _ hw)
  obtain ⟨cA, q0, r0, hc0⟩ := (hre.2.2.1 a).2.1 0 (by omega) ha
  have hc0 : H[a]? = some (vp_cell cA (hN h a, .inl (hI h a))) := hc0
  have hnm : s.vm.findClass "[I" = some cA := r0
  have hsz : (vp_cell cA (hN h a, .inl (hI h a))).slots.size = hN h a := arrV_size _ _ _
  obtain ⟨cc0, t0', f1, f2, f3⟩ := Cond.castable_spec (va_Nw.use (A := args) rfl (hE.2.2.1 _ hcl))
  cases hnm.symm.trans f1
  intro T hT X
  have hcellT : T.heap[a]? = some (vp_cell cA (hN h a, .inl (hI h a))) := by rw [hT]; exact hc0
  obtain ⟨-, kA, hkA, comp, hkind⟩ := State.isArrayOf_alike X.warmed.alike (q0 0 (fun _ => .null))
  obtain ⟨-, kS, hkS, compS, hkindS⟩ := q0 0 (fun _ => .null)
  obtain ⟨vm', X', stp⟩ := X.cloneArray hX.1 hX.2.2.2.2.1 (ok _ hlink) (ok _ hsame) (ok _ hnat) (ok _ hinst) (ok _ hsel) (a := a) (cell := vp_cell cA (hN h a, .inl (hI h a))) hcellT (fun k h => by cases h) (fun h => by cases h) hnm f2 f3
    (fun i v hv => by
      have hk' : T.vm.classes[cA]? = some kA := hkA
      have hv' : (arrV cA (hN h a) (fun j => .int (hI h a j))).slots[i]? = some v := hv
      have hfit : fits .int v = true := by
        by_cases hi : i < hN h a
        · rw [arrV_read _ _ hi] at hv'
          cases hv'
          rfl
        · rw [Array.getElem?_eq_none (by rw [arrV_size]; omega)] at hv'
          cases hv'
      rw [show (vp_cell cA (hN h a, .inl (hI h a))).cls = cA from rfl]
      simpa [State.fitsSlot, State.slotType?, hk', hkind, aty] using hfit)
    (g := F0 m pc lsA (.ref a :: st)) rfl (by rw [hX.2.2.2.1]; exact hl.1) rfl (by rw [hX.2.1]; exact hd) (by simp [md_R]) (by show 2 * 0 + _ + 14 ≤ _; simp only [md_R]; omega) hcs (by rw [hsz]; exact hsl) (hloader := Vm.clonesLoader_of_array hkS hkindS)
  have hcellE : ({ cls := (vp_cell cA (hN h a, .inl (hI h a))).cls, slots := (vp_cell cA (hN h a, .inl (hI h a))).slots } : Cell) = vp_cell cA (hN h a, .inl (hI h a)) := rfl
  rw [hcellE, hsz] at X'
  obtain ⟨p1, p2, p3⟩ := push_get H (vp_cell cA (hN h a, .inl (hI h a)))
  have hat : hp_at g.2.1 s (clI h a) (H.push (vp_cell cA (hN h a, .inl (hI h a)))) (hZ h) := by
    refine hp_at.arr (t := 0) (by omega) (by rw [hK_clI, if_pos rfl]) q0 r0 ?_
    rw [hN_clI, if_pos rfl]
    have ef : act 0 (clI h a) (hZ h) = .inl (hI h a) := by
      show Sum.inl (hI (clI h a) (hZ h)) = _
      rw [hI_clI, if_pos rfl]
    rw [ef, ← hre.1]
    exact p2
  have hfr : ∀ b, (hK (clI h a) b ≠ 0 ∧ hK (clI h a) b < 40) → fr_ h0 b := by
    intro b hb
    by_cases e : b = hZ h
    · right
      have := hS.1
      have := hre.1
      omega
    · rw [hK_clI, if_neg e] at hb
      exact hA b hb
  obtain ⟨t, b1, b2⟩ := kk p e s m args below meth c (H.push (vp_cell cA (hN h a, .inl (hI h a)))) locs lsA hX hE hz (hre.cl p3 p1 hat) (vS_mk hS p3 p1) hfr hl ((T.setVm vm').pushCell (vp_cell cA (hN h a, .inl (hI h a)))) (by rw [← hT]; rfl) X'
  refine ⟨t, stp t ?_, b2⟩
  rw [hcellE, hT, hre.1]
  exact b1
theorem wr_castI {i a : Nat} (hd : decode M.2.1 pc = .ok (.checkcast i, 3)) (hlink : Cond.classLink M.1.cls i "[I" ∈ lw_good) (ha : hK h a = 20) (kk : Wp g n mc ms M h0 Q cs sl (pc + 3) ls (.ref a :: st) h) : Wp g n mc ms M h0 Q cs sl pc ls (.ref a :: st) h := by
  intro p e s m args below meth c H locs lsA hX hE hz hre hS hA hl
  obtain ⟨cA, q0, r0, hc0⟩ := (hre.2.2.1 a).2.1 0 (by omega) ha
  have hc0 : H[a]? = some (vp_cell cA (hN h a, .inl (hI h a))) := hc0
  have hnm : s.vm.findClass "[I" = some cA := r0
  intro T hT X
  obtain ⟨vm', X', stp⟩ := X.checkcastYes hX.1 hX.2.2.2.2.1 (hX.2.2.2.2.2.1 _ (List.mem_cons_of_mem _ hlink)) (by rw [hT]; exact hc0) rfl hnm (va_asg _ _) (g := F0 m pc lsA (.ref a :: st)) rfl rfl (by rw [hX.2.1]; exact hd)
  obtain ⟨t, a1, b1⟩ := kk p e s m args below meth c H locs lsA hX hE hz hre hS hA hl (T.setVm vm') hT X'
  exact ⟨t, stp t a1, b1⟩
end WD

