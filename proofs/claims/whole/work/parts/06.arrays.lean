/-! 06: arrays, new objects, calls, over Wp -/
section WA
variable {g : gx} {n mc ms : Nat} {M : md_} {h0 : hp} {Q : Option Value → hp → Prop} {cs sl pc : Nat} {ls : List (Option Value)} {st : List Value} {h : hp}
theorem ar_in {cA : ClassId} {N : Nat} {f : Nat → Value} {i : Int32} (hi : vp_in i N) : ¬ (i < 0 ∨ (arrV cA N f).slots.size ≤ i.toNatClampNeg) := by rw [arrV_size]; exact hi
theorem ar_lt {N : Nat} {i : Int32} (hi : vp_in i N) : i.toNatClampNeg < N := Nat.not_le.mp fun q => hi (Or.inr q)
theorem wr_iaload {a : Nat} {i : Int32} (hd : decode M.2.1 pc = .ok (.iaload, 1)) (hk : hK h a = 20) (hi : vp_in i (hN h a)) (kk : Wp g n mc ms M h0 Q cs sl (pc + 1) ls (.int (hI h a i.toNatClampNeg) :: st) h) : Wp g n mc ms M h0 Q cs sl pc ls (.int i :: .ref a :: st) h := by
  intro p e s m args below meth c H locs lsA hX hE hz hr hS hA hl
  obtain ⟨cA, q1, q2, q3⟩ := (hr.2.2.1 a).2.1 0 (by omega) hk
  exact W.iald (v := .int (hI h a i.toNatClampNeg)) hX.1 hX.2.1 q3 (q1 _ (fun j => .int (hI h a j))) (fun q => by cases q) (ar_in hi) (arrV_read _ _ (ar_lt hi)) rfl rfl hd (kk p e s m args below meth c H locs lsA hX hE hz hr hS hA hl)
theorem wr_baload {a : Nat} {i : Int32} (hd : decode M.2.1 pc = .ok (.baload, 1)) (hk : hK h a = 21 ∨ hK h a = 22) (hi : vp_in i (hN h a)) (kk : Wp g n mc ms M h0 Q cs sl (pc + 1) ls (.int (hI h a i.toNatClampNeg) :: st) h) : Wp g n mc ms M h0 Q cs sl pc ls (.int i :: .ref a :: st) h := by
  intro p e s m args below meth c H locs lsA hX hE hz hr hS hA hl
  rcases hk with hk | hk
  · obtain ⟨cA, q1, q2, q3⟩ := (hr.2.2.1 a).2.1 1 (by omega) hk
    exact W.bald (v := .int (hI h a i.toNatClampNeg)) hX.1 hX.2.1 q3 (q1 _ (fun j => .int (hI h a j))) (fun q => by cases q) (ar_in hi) (arrV_read _ _ (ar_lt hi)) rfl rfl hd (kk p e s m args below meth c H locs lsA hX hE hz hr hS hA hl)
  · obtain ⟨cA, q1, q2, q3⟩ := (hr.2.2.1 a).2.1 2 (by omega) hk
    exact W.zald (v := .int (hI h a i.toNatClampNeg)) hX.1 hX.2.1 q3 (q1 _ (fun j => .int (hI h a j))) (fun q => by cases q) (ar_in hi) (arrV_read _ _ (ar_lt hi)) rfl rfl hd (kk p e s m args below meth c H locs lsA hX hE hz hr hS hA hl)
theorem wr_laload {a : Nat} {i : Int32} (hd : decode M.2.1 pc = .ok (.laload, 1)) (hk : hK h a = 23) (hi : vp_in i (hN h a)) (kk : Wp g n mc ms M h0 Q cs sl (pc + 1) ls (.long (hJ h a i.toNatClampNeg) :: st) h) : Wp g n mc ms M h0 Q cs sl pc ls (.int i :: .ref a :: st) h := by
  intro p e s m args below meth c H locs lsA hX hE hz hr hS hA hl
  obtain ⟨cA, q1, q2, q3⟩ := (hr.2.2.1 a).2.1 3 (by omega) hk
  exact W.lald (v := .long (hJ h a i.toNatClampNeg)) hX.1 hX.2.1 q3 (q1 _ (fun j => .long (hJ h a j))) (fun q => by cases q) (ar_in hi) (arrV_read _ _ (ar_lt hi)) rfl rfl hd (kk p e s m args below meth c H locs lsA hX hE hz hr hS hA hl)
theorem wr_aaload {a : Nat} {i : Int32} (hd : decode M.2.1 pc = .ok (.aaload, 1)) (hk : hK h a = 24 ∨ hK h a = 25) (hi : vp_in i (hN h a)) (kk : Wp g n mc ms M h0 Q cs sl (pc + 1) ls (va_rf (hR h a i.toNatClampNeg) :: st) h) : Wp g n mc ms M h0 Q cs sl pc ls (.int i :: .ref a :: st) h := by
  intro p e s m args below meth c H locs lsA hX hE hz hr hS hA hl
  rcases hk with hk | hk
  · obtain ⟨cA, q1, q2, q3⟩ := (hr.2.2.1 a).2.1 4 (by omega) hk
    exact W.aald (v := va_rf (hR h a i.toNatClampNeg)) (ty := .object RX7) hX.1 hX.2.1 q3 (q1 _ (fun j => va_rf (hR h a j))) rfl (fun q => by cases q) (ar_in hi) (arrV_read _ _ (ar_lt hi)) rfl rfl hd (kk p e s m args below meth c H locs lsA hX hE hz hr hS hA hl)
  · obtain ⟨cA, q1, q2, q3⟩ := (hr.2.2.1 a).2.1 5 (by omega) hk
    exact W.aald (v := va_rf (hR h a i.toNatClampNeg)) (ty := .object RX2) hX.1 hX.2.1 q3 (q1 _ (fun j => va_rf (hR h a j))) rfl (fun q => by cases q) (ar_in hi) (arrV_read _ _ (ar_lt hi)) rfl rfl hd (kk p e s m args below meth c H locs lsA hX hE hz hr hS hA hl)
theorem wr_alen {a t : Nat} (hd : decode M.2.1 pc = .ok (.arraylength, 1)) (ht : t < 6) (hk : hK h a = 20 + t) (kk : Wp g n mc ms M h0 Q cs sl (pc + 1) ls (.int (Int32.ofNat (hN h a)) :: st) h) : Wp g n mc ms M h0 Q cs sl pc ls (.ref a :: st) h := by
  intro p e s m args below meth c H locs lsA hX hE hz hr hS hA hl
  obtain ⟨cA, q1, q2, q3⟩ := (hr.2.2.1 a).2.1 t ht hk
  have key : ∃ f, vp_cell cA (hN h a, act t h a) = arrV cA (hN h a) f := by
    unfold act
    split
    · exact ⟨_, vp_cell_i _ _ _⟩
    · exact ⟨_, vp_cell_i _ _ _⟩
    · exact ⟨_, vp_cell_i _ _ _⟩
    · exact ⟨_, vp_cell_l _ _ _⟩
    · exact ⟨_, vp_cell_q _ _ _⟩
  obtain ⟨f, ef⟩ := key
  rw [ef] at q3
  exact W.alen hX.1 hX.2.1 q3 (q1 _ f) (by rw [arrV_size]) rfl rfl hd (kk p e s m args below meth c H locs lsA hX hE hz hr hS hA hl)
/-- behind a write to an array -/
theorem ast_rel {D : va_G} {s : State} {h' : hp} {H H1 : Heap} {a t k : Nat} {cA : ClassId} {f : Nat → Value} {v : Value} (hr : hp_Rel D s h H) (ht : t < 6) (hk : hK h a = 20 + t) (q1 : ArrOfT s cA (aty t)) (q2 : va_RA s cA (aty t)) (hz : hZ h' = hZ h) (hne : ∀ b, b ≠ a → hp_eq h h' b) (hK' : hK h' a = hK h a) (hN' : hN h' a = hN h a) (e1 : H1[a]? = some ((arrV cA (hN h a) f).setSlot k v)) (ef : vp_cell cA (hN h' a, act t h' a) = arrV cA (hN h a) (updV f k v)) (e2 : H1.size = H.size) (e3 : ∀ q, q ≠ a → H1[q]? = H[q]?) : hp_Rel D s h' H1 :=
  hr.put hz hne hK' (by omega) e2 e3 (hp_at.arr ht (by rw [hK']; exact hk) q1 q2 (by rw [e1, ef, arrV_store]))
theorem ast_upd {α : Type} (w : α → Value) (f f' : Nat → α) (k : Nat) (x : α) (hf : ∀ j, f' j = if j = k then x else f j) : (fun j => w (f' j)) = updV (fun j => w (f j)) k (w x) := by
  funext j
  show w (f' j) = updV _ _ _ _
  unfold updV
  rw [hf j]
  split <;> rfl
theorem setI_at (h : hp) (a k : Nat) (v : Int32) (j : Nat) : hI (setI h a k v) a j = if j = k then v else hI h a j := by simp [hI_setI]
theorem setJ_at (h : hp) (a k : Nat) (v : Int64) (j : Nat) : hJ (setJ h a k v) a j = if j = k then v else hJ h a j := by simp [hJ_setJ]
theorem setR_at (h : hp) (a k : Nat) (v : Option Nat) (j : Nat) : hR (setR h a k v) a j = if j = k then v else hR h a j := by simp [hR_setR]
theorem wr_iastore {a : Nat} {i x : Int32} (hd : decode M.2.1 pc = .ok (.iastore, 1)) (hk : hK h a = 20) (hi : vp_in i (hN h a)) (kk : Wp g n mc ms M h0 Q cs sl (pc + 1) ls st (setI h a i.toNatClampNeg x)) : Wp g n mc ms M h0 Q cs sl pc ls (.int x :: .int i :: .ref a :: st) h := by
  intro p e s m args below meth c H locs lsA hX hE hz hr hS hA hl
  obtain ⟨cA, q1, q2, q3⟩ := (hr.2.2.1 a).2.1 0 (by omega) hk
  refine W.iast hX.1 hX.2.1 q3 (q1 _ (fun j => .int (hI h a j))) (fun q => by cases q) (ar_in hi) rfl rfl hd fun H1 e1 e2 e3 => ?_
  exact kk p e s m args below meth c H1 _ lsA hX hE hz (ast_rel hr (t := 0) (by omega) hk q1 q2 rfl (fun b hb => hp_eq_setI hb) rfl rfl e1 (congrArg (arrV cA (hN h a)) (ast_upd Value.int _ _ _ _ (setI_at h a _ x))) e2 e3) (hS.put e2 e3 (hA a (by omega))) hA hl
theorem nar_int (ty : FieldType) (hty : ty = .byte ∨ ty = .boolean) (x : Int32) : narrow ty (.int x) = .int (vp_nar ty x) := by
  rcases hty with rfl | rfl <;> simp [vp_nar, narrow]
theorem wr_bastore {a : Nat} {i x : Int32} (hd : decode M.2.1 pc = .ok (.bastore, 1)) (hk : hK h a = 21) (hi : vp_in i (hN h a)) (kk : Wp g n mc ms M h0 Q cs sl (pc + 1) ls st (setI h a i.toNatClampNeg (vp_nar .byte x))) : Wp g n mc ms M h0 Q cs sl pc ls (.int x :: .int i :: .ref a :: st) h := by
  intro p e s m args below meth c H locs lsA hX hE hz hr hS hA hl
  obtain ⟨cA, q1, q2, q3⟩ := (hr.2.2.1 a).2.1 1 (by omega) hk
  refine W.bast hX.1 hX.2.1 q3 (q1 _ (fun j => .int (hI h a j))) (fun q => by cases q) (ar_in hi) rfl rfl hd fun H1 e1 e2 e3 => ?_
  rw [nar_int .byte (Or.inl rfl)] at e1
  exact kk p e s m args below meth c H1 _ lsA hX hE hz (ast_rel hr (t := 1) (by omega) hk q1 q2 rfl (fun b hb => hp_eq_setI hb) rfl rfl e1 (congrArg (arrV cA (hN h a)) (ast_upd Value.int _ _ _ _ (setI_at h a _ _))) e2 e3) (hS.put e2 e3 (hA a (by omega))) hA hl
theorem wr_zastore {a : Nat} {i x : Int32} (hd : decode M.2.1 pc = .ok (.bastore, 1)) (hk : hK h a = 22) (hi : vp_in i (hN h a)) (kk : Wp g n mc ms M h0 Q cs sl (pc + 1) ls st (setI h a i.toNatClampNeg (vp_nar .boolean x))) : Wp g n mc ms M h0 Q cs sl pc ls (.int x :: .int i :: .ref a :: st) h := by
  intro p e s m args below meth c H locs lsA hX hE hz hr hS hA hl
  obtain ⟨cA, q1, q2, q3⟩ := (hr.2.2.1 a).2.1 2 (by omega) hk
  refine W.zast hX.1 hX.2.1 q3 (q1 _ (fun j => .int (hI h a j))) (fun q => by cases q) (ar_in hi) rfl rfl hd fun H1 e1 e2 e3 => ?_
  rw [nar_int .boolean (Or.inr rfl)] at e1
  exact kk p e s m args below meth c H1 _ lsA hX hE hz (ast_rel hr (t := 2) (by omega) hk q1 q2 rfl (fun b hb => hp_eq_setI hb) rfl rfl e1 (congrArg (arrV cA (hN h a)) (ast_upd Value.int _ _ _ _ (setI_at h a _ _))) e2 e3) (hS.put e2 e3 (hA a (by omega))) hA hl
theorem wr_lastore {a : Nat} {i : Int32} {x : Int64} (hd : decode M.2.1 pc = .ok (.lastore, 1)) (hk : hK h a = 23) (hi : vp_in i (hN h a)) (kk : Wp g n mc ms M h0 Q cs sl (pc + 1) ls st (setJ h a i.toNatClampNeg x)) : Wp g n mc ms M h0 Q cs sl pc ls (.long x :: .int i :: .ref a :: st) h := by
  intro p e s m args below meth c H locs lsA hX hE hz hr hS hA hl
  obtain ⟨cA, q1, q2, q3⟩ := (hr.2.2.1 a).2.1 3 (by omega) hk
  refine W.last hX.1 hX.2.1 q3 (q1 _ (fun j => .long (hJ h a j))) (fun q => by cases q) (ar_in hi) rfl rfl hd fun H1 e1 e2 e3 => ?_
  exact kk p e s m args below meth c H1 _ lsA hX hE hz (ast_rel hr (t := 3) (by omega) hk q1 q2 rfl (fun b hb => hp_eq_setJ hb) rfl rfl e1 (congrArg (arrV cA (hN h a)) (ast_upd Value.long _ _ _ _ (setJ_at h a _ _))) e2 e3) (hS.put e2 e3 (hA a (by omega))) hA hl
/-- a World into an array of Worlds (t 4), a Law into an array of Laws (t 5) -/
theorem wr_aastore {a v t ci : Nat} {i : Int32} {r : vw_C} (hd : decode M.2.1 pc = .ok (.aastore, 1)) (hk : hK h a = 20 + t) (ht : t < 6) (hct : (t = 4 ∧ ci = 7) ∨ (t = 5 ∧ ci = 2)) (hc : vwCl[ci]? = some r) (hv : hK h v = ci + 1) (hi : vp_in i (hN h a)) (kk : Wp g n mc ms M h0 Q cs sl (pc + 1) ls st (setR h a i.toNatClampNeg (some v))) : Wp g n mc ms M h0 Q cs sl pc ls (.ref v :: .int i :: .ref a :: st) h := by
  intro p e s m args below meth c H locs lsA hX hE hz hr hS hA hl
  obtain ⟨cA, q1, q2, q3⟩ := (hr.2.2.1 a).2.1 t ht hk
  obtain ⟨cellV, g1, g2, g3, -⟩ := (hr.2.2.1 v).1 ci r hv hc
  have hcls := (hE.1.1 ci r hc).2
  have hty : aty t = .object r.1 := by
    rcases hct with ⟨rfl, rfl⟩ | ⟨rfl, rfl⟩
    · cases hc; rfl
    · cases hc; rfl
  have hact : ∀ hh : hp, act t hh a = .inr (.inr (.inr (.inr (hR hh a)))) := by
    rcases hct with ⟨rfl, rfl⟩ | ⟨rfl, rfl⟩ <;> exact fun _ => rfl
  have q2' := q2
  rw [hty] at q2'
  obtain ⟨kA, comp, k1, k2, k3, -⟩ := q2'
  have hcomp : comp = g.2.1.1 ci := Option.some.inj (k3.symm.trans hcls.1)
  subst hcomp
  obtain ⟨kC, hkC, -⟩ := hcls.2
  have q3' := q3
  rw [hact] at q3'
  have h00 : ¬ i < 0 := fun q => hi (Or.inl q)
  refine W.aast hX.1 hX.2.1 q3' (fun q h => by cases h) (fun h => by cases h) k1 k2 rfl hkC ⟨h00, by show _ < (arrV _ _ _).slots.size; rw [arrV_size]; exact ar_lt hi⟩ g1 (fun q h => by rw [g3] at h; cases h) (by rw [g2]; exact hkC) (by rw [g2]; exact va_assign hcls) rfl rfl hd fun H1 e1 e2 e3 => ?_
  exact kk p e s m args below meth c H1 _ lsA hX hE hz (ast_rel hr ht hk q1 q2 rfl (fun b hb => hp_eq_setR hb) rfl rfl e1 (by rw [hact]; exact congrArg (arrV cA (hN h a)) (ast_upd va_rf _ _ _ (some v) (setR_at h a _ _))) e2 e3) (hS.put e2 e3 (hA a (by omega))) hA hl
theorem fr_mk {h' : hp} {q N : Nat} {s : State} {H : Heap} {locs : List Loc} (hz : s.heap.size = hZ h0) (hr : H.size = hZ h') (hS : va_S (fr_ h0) s.heap H locs) (hA : ∀ q, (hK h' q ≠ 0 ∧ hK h' q < 40) → fr_ h0 q) : ∀ b, (hK (mkC h' q N) b ≠ 0 ∧ hK (mkC h' q N) b < 40) → fr_ h0 b := by
  intro b hb
  by_cases e : b = hZ h'
  · right
    have := hS.1
    omega
  · rw [hK_mkC, if_neg e] at hb
    exact hA b hb
theorem vS_mk {s : State} {H H1 : Heap} {locs : List Loc} (hS : va_S (fr_ h0) s.heap H locs) (z : H1.size = H.size + 1) (oq : ∀ b : Nat, b < H.size → H1[b]? = H[b]?) : va_S (fr_ h0) s.heap H1 locs :=
  ⟨by rw [z]; exact Nat.le_succ_of_le hS.1, fun q hq hn => (oq q (Nat.lt_of_lt_of_le hq hS.1)).trans (hS.2.1 q hq hn), hS.2.2⟩
theorem push_get (H : Heap) (x : Cell) : (∀ b : Nat, b < H.size → (H.push x)[b]? = H[b]?) ∧ (H.push x)[H.size]? = some x ∧ (H.push x).size = H.size + 1 := by
  refine ⟨fun b hb => ?_, ?_, ?_⟩
  · rw [Array.getElem?_push, if_neg (by omega)]
  · rw [Array.getElem?_push, if_pos rfl]
  · exact Array.size_push _
theorem wr_new {i ci : Nat} {r : vw_C} (hd : decode M.2.1 pc = .ok (.new i, 3)) (hc : vwCl[ci]? = some r) (hok : clX_ok ci r) (hw1 : Cond.classLink M.1.cls i r.1 ∈ lw_good) (hw2 : Cond.instantiable r.1 r.2.2 ∈ lw_good) (hw3 : Cond.initialized r.1 ∈ lw_good) (hcs : cs + 1 ≤ mc) (hsl : sl + r.2.2 ≤ ms)
    (kk : Wp g n mc ms M h0 Q (cs + 1) (sl + r.2.2) (pc + 3) ls (.ref (hZ h) :: st) (mkC h (ci + 1) 0)) : Wp g n mc ms M h0 Q cs sl pc ls st h := by
  intro p e s m args below meth c H locs lsA hX hE hz hr hS hA hl
  have hts := hX.2.2.2.2.2.1
  have hin : ∀ w ∈ u_ws r.1 r.2.1 r.2.2, w ∈ md_ws M := fun w hw => List.mem_cons_of_mem _ (hok.1 w hw)
  obtain ⟨hSl, hfc, kC0, hkC0, hkind0⟩ := hE.1.1 ci _ hc
  refine W.newc hX.1 hX.2.1 hX.2.2.2.2.1 (hts _ (List.mem_cons_of_mem _ hw1)) (hts _ (List.mem_cons_of_mem _ hw2)) (hts _ (List.mem_cons_of_mem _ hw3)) rfl hd hcs hsl fun cC kC e1 e2 e3 e4 => ?_
  have ecC : cC = g.2.1.1 ci := Option.some.inj (e1.symm.trans hfc)
  subst ecC
  obtain ⟨p1, p2, p3⟩ := push_get H (blank (g.2.1.1 ci) kC)
  have hcell : (H.push (blank (g.2.1.1 ci) kC))[hZ h]? = some (blank (g.2.1.1 ci) kC) := by rw [← hr.1]; exact p2
  have hb := u_born (ftX ci) hts hin (hE.1.1 ci _ hc) e2 hcell hok.2.1
  have hat : hp_at g.2.1 s (mkC h (ci + 1) 0) (H.push (blank (g.2.1.1 ci) kC)) (hZ h) := by
    refine hp_at.obj (ci := ci) (r := r) (by rw [hK_mkC, if_pos rfl]) hc (hb.to fun k hk => ?_)
    show defaultValue (ftX ci k) = vcode (fcode (ftX ci k)) _ _ _
    have hfd := hok.2.2.2 k hk
    revert hfd
    cases ftX ci k <;> simp [defaultValue, fcode, vcode, hI_mkC, hJ_mkC, hR_mkC, va_rf]
  have := kk p e s m args below meth c (H.push (blank (g.2.1.1 ci) kC)) locs lsA hX hE hz (hr.mk p3 p1 hat) (vS_mk hS p3 p1) (fr_mk hz hr.1 hS hA) hl
  rw [← hr.1] at this
  exact this
end WA
