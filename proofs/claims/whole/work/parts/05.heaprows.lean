/-! 05: fields, arrays, new, over Wp -/
/-- what the tables say of the classes 0 to 9 -/
def clX_ok (ci : Nat) (r : vw_C) : Prop := (∀ w ∈ u_ws r.1 r.2.1 r.2.2, w ∈ lw_good) ∧ (∀ k, k < r.2.2 → parseFieldDescriptor (r.2.1 k).2.2.1 = some (ftX ci k)) ∧ (∀ a, a < r.2.2 → ∀ b, b < r.2.2 → a ≠ b → (r.2.1 a).2.1 ≠ (r.2.1 b).2.1) ∧ ∀ k, k < r.2.2 → ftX ci k ≠ .float ∧ ftX ci k ≠ .double
section WH
variable {g : gx} {n mc ms : Nat} {M : md_} {h0 : hp} {Q : Option Value → hp → Prop} {cs sl pc : Nat} {ls : List (Option Value)} {st : List Value} {h : hp}
/-- the link of a field: plain, or by the nest -/
def fl_ok (own : String) (i : Nat) (r : vw_C) (k : Nat) : Prop := Cond.fieldLink own i r.1 (r.2.1 k).2.1 (r.2.1 k).2.2.1 ∈ lw_good ∨ ∃ host, Cond.fieldLinkNest own i r.1 (r.2.1 k).2.1 (r.2.1 k).2.2.1 host ∈ nestW
theorem wr_getfield {i ci k o : Nat} {r : vw_C} (hd : decode M.2.1 pc = .ok (.getfield i, 3)) (hc : vwCl[ci]? = some r) (hk : k < r.2.2) (hT1 : (r.2.1 k).1 = r.1) (hok : clX_ok ci r) (hf : fl_ok M.1.cls i r k) (ho : hK h o = ci + 1)
    (kk : Wp g n mc ms M h0 Q cs sl (pc + 3) ls (hV ci h o k :: st) h) : Wp g n mc ms M h0 Q cs sl pc ls (.ref o :: st) h := by
  intro p e s m args below meth c H locs lsA hX hE hz hr hS hA hl
  obtain ⟨cell, q1, q2, q3, q4⟩ := (hr.2.2.1 o).1 ci r ho hc
  obtain ⟨hSl, hfc, kC, hkC, hkind⟩ := hE.1.1 ci _ hc
  obtain ⟨cf, kf, fi, f, hi, hsl⟩ := hSl k hk
  have hts := hX.2.2.2.2.2.1
  have hin : ∀ w ∈ u_ws r.1 r.2.1 r.2.2, w ∈ md_ws M := fun w hw => List.mem_cons_of_mem _ (hok.1 w hw)
  have hv : cell.slots[f.slot]? = some (hV ci h o k) := by rw [hsl]; exact q4 k hk
  rw [hT1] at hi
  rcases hf with hf | ⟨host, hf⟩
  · exact W.getf hX.1 hX.2.1 hX.2.2.2.2.1 (hts _ (List.mem_cons_of_mem _ hf)) hi (u_facts hfc hkC (by have := u_lays hts hin hk; rw [hT1] at this; exact this) hi).1 q1 (by rw [q3]; exact fun h => by cases h) hv rfl rfl hd (kk p e s m args below meth c H locs lsA hX hE hz hr hS hA hl)
  · exact va_Wgetf hX.1 hX.2.1 hX.2.2.2.2.1 (va_Nw.use rfl (hE.2.2.1 _ hf)) hi (u_facts hfc hkC (by have := u_lays hts hin hk; rw [hT1] at this; exact this) hi).1 q1 (by rw [q3]; exact fun h => by cases h) hv rfl rfl hd (kk p e s m args below meth c H locs lsA hX hE hz hr hS hA hl)
/-- the abstract heap, with a value put into a field -/
def setV (c : Nat) (h : hp) (a k : Nat) (v : Value) : hp := match c, v with
  | 0, .int x => setI h a k x
  | 1, .long x => setJ h a k x
  | 2, .ref b => setR h a k (some b)
  | 2, .null => setR h a k none
  | _, _ => h
def okV (c : Nat) (v : Value) : Prop := match c, v with
  | 0, .int _ => True
  | 1, .long _ => True
  | 2, .ref _ => True
  | 2, .null => True
  | _, _ => False
theorem setV_facts {c : Nat} {v : Value} (hv : okV c v) (h : hp) (a k : Nat) : hZ (setV c h a k v) = hZ h ∧ (∀ b, b ≠ a → hp_eq h (setV c h a k v) b) ∧ hK (setV c h a k v) = hK h ∧ ∀ c', (c' = c → vcode c' (setV c h a k v) a k = v) ∧ ∀ j, j ≠ k → vcode c' (setV c h a k v) a j = vcode c' h a j := by
  unfold okV at hv
  split at hv
  · refine ⟨rfl, fun b hb => hp_eq_setI hb, rfl, fun c' => ⟨fun e => ?_, fun j hj => ?_⟩⟩
    · subst e
      simp [setV, vcode, hI_setI]
    · unfold setV vcode
      split
      · simp only [hI_setI]; rw [if_neg (fun q => hj q.2)]
      · rfl
      · rfl
  · refine ⟨rfl, fun b hb => hp_eq_setJ hb, rfl, fun c' => ⟨fun e => ?_, fun j hj => ?_⟩⟩
    · subst e
      simp [setV, vcode, hJ_setJ]
    · unfold setV vcode
      split
      · rfl
      · simp only [hJ_setJ]; rw [if_neg (fun q => hj q.2)]
      · rfl
  · refine ⟨rfl, fun b hb => hp_eq_setR hb, rfl, fun c' => ⟨fun e => ?_, fun j hj => ?_⟩⟩
    · subst e
      simp [setV, vcode, hR_setR, va_rf]
    · unfold setV vcode
      split
      · rfl
      · rfl
      · simp only [hR_setR]; rw [if_neg (fun q => hj q.2)]
  · refine ⟨rfl, fun b hb => hp_eq_setR hb, rfl, fun c' => ⟨fun e => ?_, fun j hj => ?_⟩⟩
    · subst e
      simp [setV, vcode, hR_setR, va_rf]
    · unfold setV vcode
      split
      · rfl
      · rfl
      · simp only [hR_setR]; rw [if_neg (fun q => hj q.2)]
  · exact hv.elim
/-- behind a write to a field: the abstract heap moves with the machine's -/
theorem put_rel {D : va_G} {s : State} {H H1 : Heap} {ci k o c : Nat} {r : vw_C} {v : Value} {cell : Cell} (hr : hp_Rel D s h H) (hc : vwCl[ci]? = some r) (hk : k < r.2.2) (ho : hK h o = ci + 1) (hcc : fcode (ftX ci k) = c) (hv : okV c v) (q2 : cell.cls = D.1 ci) (q3 : cell.vm = .none) (q4 : ∀ j, j < r.2.2 → cell.slots[D.2 ci j]? = some (hV ci h o j))
    (hap : ∀ x y, x < r.2.2 → y < r.2.2 → x ≠ y → D.2 ci x ≠ D.2 ci y) (e1 : H1[o]? = some (cell.setSlot (D.2 ci k) v)) (e2 : H1.size = H.size) (e3 : ∀ q, q ≠ o → H1[q]? = H[q]?) : hp_Rel D s (setV c h o k v) H1 := by
  obtain ⟨f1, f2, f3, f4⟩ := setV_facts hv h o k
  have hlt := vwCl_lt hc
  refine hr.put f1 f2 (by rw [f3]) (by have := vwCl_lt hc; omega) e2 e3 (hp_at.obj (ci := ci) (r := r) (by rw [f3]; exact ho) hc ?_)
  refine t_OB.to (V := updV (hV ci h o) k v) ⟨_, e1, q2, q3, t_set q4 hap hk v⟩ (fun j _ => ?_)
  unfold updV hV
  split
  · next e => subst e; exact ((f4 _).1 hcc).symm
  · next e => exact ((f4 _).2 j e).symm
theorem wr_putfield {i ci k o c : Nat} {r : vw_C} {v : Value} (hd : decode M.2.1 pc = .ok (.putfield i, 3)) (hc : vwCl[ci]? = some r) (hk : k < r.2.2) (hT1 : (r.2.1 k).1 = r.1) (hok : clX_ok ci r) (hf : fl_ok M.1.cls i r k) (hfin : (r.2.1 k).2.2.2 = false) (hcc : fcode (ftX ci k) = c) (hv : okV c v) (hn : narrow (ftX ci k) v = v) (hft : fits (ftX ci k) v = true) (ho : hK h o = ci + 1)
    (kk : Wp g n mc ms M h0 Q cs sl (pc + 3) ls st (setV c h o k v)) : Wp g n mc ms M h0 Q cs sl pc ls (v :: .ref o :: st) h := by
  intro p e s m args below meth c0 H locs lsA hX hE hz hr hS hA hl
  obtain ⟨cell, q1, q2, q3, q4⟩ := (hr.2.2.1 o).1 ci r ho hc
  obtain ⟨hSl, hfc, kC, hkC, hkind⟩ := hE.1.1 ci _ hc
  obtain ⟨cf, kf, fi, f, hi, hsl⟩ := hSl k hk
  have hts := hX.2.2.2.2.2.1
  have hin : ∀ w ∈ u_ws r.1 r.2.1 r.2.2, w ∈ md_ws M := fun w hw => List.mem_cons_of_mem _ (hok.1 w hw)
  have hap := va_apart (D := g.2.1) (own := M.1.cls) hts hin (ftX ci) hok.2.1 hok.2.2.1 hE.1 hc
  have hlay := hts _ (hin _ (u_in_lay hk))
  unfold u_lay at hlay
  rw [if_neg (by rw [hfin]; decide)] at hlay
  have hst := (u_facts hfc hkC (u_lays hts hin hk) hi).1
  have h6 := u_store hfc hkC hkind hlay hi (hok.2.1 k hk) hn hft
  rw [hT1] at hi
  have hao : fr_ h0 o := hA o (by have := vwCl_lt hc; omega)
  obtain ⟨f1, f2, f3, f4⟩ := setV_facts hv h o k
  rcases hf with hf | ⟨host, hf⟩
  · refine W.putK hX.1 hX.2.1 (f := f) ⟨hX.2.2.2.2.1, hts _ (List.mem_cons_of_mem _ hf), ⟨_, _, _, hi⟩, hst⟩ (by rw [q2]; exact h6) q1 q3 (by rw [hsl]; exact k2_hasslot (q4 k hk)) rfl rfl hd fun H' e1 e2 e3 => ?_
    rw [hsl] at e1 ⊢
    exact kk p e s m args below meth c0 H' _ lsA hX hE hz (put_rel hr hc hk ho hcc hv q2 q3 q4 hap e1 e2 e3) (hS.put e2 e3 hao) (fun q hq => hA q (by rw [← f3]; exact hq)) hl
  · refine va_WputK hX.1 hX.2.1 (f := f) hX.2.2.2.2.1 (va_Nw.use rfl (hE.2.2.1 _ hf)) hi hst (by rw [q2]; exact h6) q1 q3 (by rw [hsl]; exact k2_hasslot (q4 k hk)) rfl rfl hd fun H' e1 e2 e3 => ?_
    rw [hsl] at e1 ⊢
    exact kk p e s m args below meth c0 H' _ lsA hX hE hz (put_rel hr hc hk ho hcc hv q2 q3 q4 hap e1 e2 e3) (hS.put e2 e3 hao) (fun q hq => hA q (by rw [← f3]; exact hq)) hl
theorem wr_putfinal {i ci k o c : Nat} {r : vw_C} {v : Value} (hd : decode M.2.1 pc = .ok (.putfield i, 3)) (hc : vwCl[ci]? = some r) (hk : k < r.2.2) (hT1 : (r.2.1 k).1 = r.1) (hok : clX_ok ci r) (hf : Cond.fieldLink M.1.cls i r.1 (r.2.1 k).2.1 (r.2.1 k).2.2.1 ∈ lw_good) (hfin : (r.2.1 k).2.2.2 = true) (hini : M.1.name = "<init>") (hown : r.1 = M.1.cls) (hcc : fcode (ftX ci k) = c) (hv : okV c v) (hn : narrow (ftX ci k) v = v) (hft : fits (ftX ci k) v = true) (ho : hK h o = ci + 1)
    (kk : Wp g n mc ms M h0 Q cs sl (pc + 3) ls st (setV c h o k v)) : Wp g n mc ms M h0 Q cs sl pc ls (v :: .ref o :: st) h := by
  intro p e s m args below meth c0 H locs lsA hX hE hz hr hS hA hl
  obtain ⟨cell, q1, q2, q3, q4⟩ := (hr.2.2.1 o).1 ci r ho hc
  obtain ⟨hSl, hfc, kC, hkC, hkind⟩ := hE.1.1 ci _ hc
  obtain ⟨cf, kf, fi, f, hi, hsl⟩ := hSl k hk
  have hts := hX.2.2.2.2.2.1
  have hin : ∀ w ∈ u_ws r.1 r.2.1 r.2.2, w ∈ md_ws M := fun w hw => List.mem_cons_of_mem _ (hok.1 w hw)
  have hap := va_apart (D := g.2.1) (own := M.1.cls) hts hin (ftX ci) hok.2.1 hok.2.2.1 hE.1 hc
  have hlay := hts _ (hin _ (u_in_lay hk))
  unfold u_lay at hlay
  rw [if_pos hfin] at hlay
  have hst := (u_facts hfc hkC (u_lays hts hin hk) hi).1
  have hcf : m.cls = cf := by
    obtain ⟨_, _, c', _, _, _, -, -, hf', -, -, -, hown2, -⟩ := Cond.laysFinal_spec hlay
    have e1 : c' = cf := by have := hi.symm.trans hf'; simp at this; exact this.1.symm
    rw [hT1, hown] at hown2
    rw [← e1]; exact Option.some.inj (hX.2.2.2.2.1.symm.trans hown2)
  have h6 := u_fits hfc hkC hkind (Or.inr hlay) hi (hok.2.1 k hk) hn hft
  rw [hT1] at hi
  have hao : fr_ h0 o := hA o (by have := vwCl_lt hc; omega)
  obtain ⟨f1, f2, f3, f4⟩ := setV_facts hv h o k
  refine W.putFinK hX.1 hX.2.1 hX.2.2.2.2.1 (hts _ (List.mem_cons_of_mem _ hf)) hi hst hcf (hX.2.2.2.2.2.2.2.trans hini) (by rw [q2]; exact h6) q1 q3 (by rw [hsl]; exact k2_hasslot (q4 k hk)) rfl rfl hd fun H' e1 e2 e3 => ?_
  rw [hsl] at e1 ⊢
  exact kk p e s m args below meth c0 H' _ lsA hX hE hz (put_rel hr hc hk ho hcc hv q2 q3 q4 hap e1 e2 e3) (hS.put e2 e3 hao) (fun q hq => hA q (by rw [← f3]; exact hq)) hl
end WH
