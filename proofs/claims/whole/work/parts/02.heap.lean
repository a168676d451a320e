/-! 02: an abstract heap (size, kinds, lengths, ints, longs, references) and what it says of the machine's -/
abbrev hp : Type := Nat × (Nat → Nat) × (Nat → Nat) × (Nat → Nat → Int32) × (Nat → Nat → Int64) × (Nat → Nat → Option Nat)
def hZ (h : hp) : Nat := h.1
def hK (h : hp) (a : Nat) : Nat := h.2.1 a
def hN (h : hp) (a : Nat) : Nat := h.2.2.1 a
def hI (h : hp) (a k : Nat) : Int32 := h.2.2.2.1 a k
def hJ (h : hp) (a k : Nat) : Int64 := h.2.2.2.2.1 a k
def hR (h : hp) (a k : Nat) : Option Nat := h.2.2.2.2.2 a k
/-- the reference in a slot that is not null -/
def hr (h : hp) (a k : Nat) : Nat := (hR h a k).getD 0
def up1 {α : Type} (f : Nat → α) (a : Nat) (v : α) : Nat → α := fun b => if b = a then v else f b
def up2 {α : Type} (f : Nat → Nat → α) (a k : Nat) (v : α) : Nat → Nat → α := fun b j => if b = a ∧ j = k then v else f b j
def setI (h : hp) (a k : Nat) (v : Int32) : hp := (h.1, h.2.1, h.2.2.1, up2 h.2.2.2.1 a k v, h.2.2.2.2.1, h.2.2.2.2.2)
def setJ (h : hp) (a k : Nat) (v : Int64) : hp := (h.1, h.2.1, h.2.2.1, h.2.2.2.1, up2 h.2.2.2.2.1 a k v, h.2.2.2.2.2)
def setR (h : hp) (a k : Nat) (v : Option Nat) : hp := (h.1, h.2.1, h.2.2.1, h.2.2.2.1, h.2.2.2.2.1, up2 h.2.2.2.2.2 a k v)
/-- a new cell, of a kind and a length: zeros -/
def mkC (h : hp) (q n : Nat) : hp := (h.1 + 1, up1 h.2.1 h.1 q, up1 h.2.2.1 h.1 n, up1 h.2.2.2.1 h.1 (fun _ => 0), up1 h.2.2.2.2.1 h.1 (fun _ => 0), up1 h.2.2.2.2.2 h.1 (fun _ => none))
theorem hZ_setI (h : hp) (a k : Nat) (v : Int32) : hZ (setI h a k v) = hZ h := rfl
theorem hK_setI (h : hp) (a k : Nat) (v : Int32) : hK (setI h a k v) = hK h := rfl
theorem hN_setI (h : hp) (a k : Nat) (v : Int32) : hN (setI h a k v) = hN h := rfl
theorem hJ_setI (h : hp) (a k : Nat) (v : Int32) : hJ (setI h a k v) = hJ h := rfl
theorem hR_setI (h : hp) (a k : Nat) (v : Int32) : hR (setI h a k v) = hR h := rfl
theorem hr_setI (h : hp) (a k : Nat) (v : Int32) : hr (setI h a k v) = hr h := rfl
theorem hI_setI (h : hp) (a k : Nat) (v : Int32) (b j : Nat) : hI (setI h a k v) b j = if b = a ∧ j = k then v else hI h b j := rfl
theorem hZ_setJ (h : hp) (a k : Nat) (v : Int64) : hZ (setJ h a k v) = hZ h := rfl
theorem hK_setJ (h : hp) (a k : Nat) (v : Int64) : hK (setJ h a k v) = hK h := rfl
theorem hN_setJ (h : hp) (a k : Nat) (v : Int64) : hN (setJ h a k v) = hN h := rfl
theorem hI_setJ (h : hp) (a k : Nat) (v : Int64) : hI (setJ h a k v) = hI h := rfl
theorem hR_setJ (h : hp) (a k : Nat) (v : Int64) : hR (setJ h a k v) = hR h := rfl
theorem hr_setJ (h : hp) (a k : Nat) (v : Int64) : hr (setJ h a k v) = hr h := rfl
theorem hJ_setJ (h : hp) (a k : Nat) (v : Int64) (b j : Nat) : hJ (setJ h a k v) b j = if b = a ∧ j = k then v else hJ h b j := rfl
theorem hZ_setR (h : hp) (a k : Nat) (v : Option Nat) : hZ (setR h a k v) = hZ h := rfl
theorem hK_setR (h : hp) (a k : Nat) (v : Option Nat) : hK (setR h a k v) = hK h := rfl
theorem hN_setR (h : hp) (a k : Nat) (v : Option Nat) : hN (setR h a k v) = hN h := rfl
theorem hI_setR (h : hp) (a k : Nat) (v : Option Nat) : hI (setR h a k v) = hI h := rfl
theorem hJ_setR (h : hp) (a k : Nat) (v : Option Nat) : hJ (setR h a k v) = hJ h := rfl
theorem hR_setR (h : hp) (a k : Nat) (v : Option Nat) (b j : Nat) : hR (setR h a k v) b j = if b = a ∧ j = k then v else hR h b j := rfl
theorem hZ_mkC (h : hp) (q n : Nat) : hZ (mkC h q n) = hZ h + 1 := rfl
theorem hK_mkC (h : hp) (q n b : Nat) : hK (mkC h q n) b = if b = hZ h then q else hK h b := rfl
theorem hN_mkC (h : hp) (q n b : Nat) : hN (mkC h q n) b = if b = hZ h then n else hN h b := rfl
theorem hI_mkC (h : hp) (q n b j : Nat) : hI (mkC h q n) b j = if b = hZ h then 0 else hI h b j := by
  show (up1 h.2.2.2.1 h.1 (fun _ => 0) b) j = _
  unfold up1
  show (if b = h.1 then (fun _ => 0) else h.2.2.2.1 b) j = if b = h.1 then _ else _
  split <;> rfl
theorem hJ_mkC (h : hp) (q n b j : Nat) : hJ (mkC h q n) b j = if b = hZ h then 0 else hJ h b j := by
  show (up1 h.2.2.2.2.1 h.1 (fun _ => 0) b) j = _
  unfold up1
  show (if b = h.1 then (fun _ => 0) else h.2.2.2.2.1 b) j = if b = h.1 then _ else _
  split <;> rfl
theorem hR_mkC (h : hp) (q n b j : Nat) : hR (mkC h q n) b j = if b = hZ h then none else hR h b j := by
  show (up1 h.2.2.2.2.2 h.1 (fun _ => none) b) j = _
  unfold up1
  show (if b = h.1 then (fun _ => none) else h.2.2.2.2.2 b) j = if b = h.1 then _ else _
  split <;> rfl
/-- the types of the fields of the classes 0 to 9 -/
def ftX (ci k : Nat) : FieldType := match ci with
  | 0 => tyX0 k | 1 => tyX1 k | 2 => tyX2 k | 3 => tyX3 k | 4 => tyX4 k | 5 => tyX5 k | 6 => tyX6 k | 7 => tyX7 k | 8 => tyX8 k | _ => tyX9 k
def fcode (t : FieldType) : Nat := match t with
  | .long => 1
  | .object _ => 2
  | .array _ => 2
  | _ => 0
def vcode (c : Nat) (h : hp) (a k : Nat) : Value := match c with
  | 0 => .int (hI h a k)
  | 1 => .long (hJ h a k)
  | _ => va_rf (hR h a k)
def hV (ci : Nat) (h : hp) (a k : Nat) : Value := vcode (fcode (ftX ci k)) h a k
def aty (t : Nat) : FieldType := match t with
  | 0 => .int | 1 => .byte | 2 => .boolean | 3 => .long | 4 => .object RX7 | _ => .object RX2
def act (t : Nat) (h : hp) (a : Nat) : (Nat → Int32) ⊕ (Nat → Int64) ⊕ (Nat → UInt32) ⊕ (Nat → UInt64) ⊕ (Nat → Option Nat) := match t with
  | 0 => .inl (hI h a) | 1 => .inl (hI h a) | 2 => .inl (hI h a) | 3 => .inr (.inl (hJ h a)) | _ => .inr (.inr (.inr (.inr (hR h a))))
/-- what the abstract heap says of one cell -/
def hp_at (D : va_G) (s : State) (h : hp) (H : Heap) (a : Nat) : Prop :=
  (∀ (ci : Nat) (r : vw_C), hK h a = ci + 1 → vwCl[ci]? = some r → t_OB a (D.1 ci) r.2.2 (D.2 ci) H (hV ci h a)) ∧
  (∀ t : Nat, t < 6 → hK h a = 20 + t → ∃ cA : ClassId, ArrOfT s cA (aty t) ∧ va_RA s cA (aty t) ∧ H[a]? = some (vp_cell cA (hN h a, act t h a))) ∧
  (hK h a = 40 → va_O "java/lang/String" a (fun _ => False) s H ∧ va_OF "java/lang/String" "coder" "B" (.int 0) a (fun _ => False) s H ∧ ∃ v : Nat, hR h a 0 = some v ∧ (hK h v = 40 ∨ hK h v = 41) ∧ va_OF "java/lang/String" "value" "[B" (.ref v) a (fun _ => False) s H ∧ va_T .byte v (hN h a) (fun j => .int (hI h v j)) (fun _ => False) s H) ∧
  (hK h a = 41 → True)
/-- the two statics of the JDK's that its Strings ask: in no cell that is written -/
def hp_Zs (s : State) (h : hp) (H : Heap) : Prop := va_Z "java/lang/String" "COMPACT_STRINGS" "Z" (.int 1) (fun q => hK h q ≠ 0 ∧ hK h q < 40) s H ∧ va_Zq "jdk/internal/util/Preconditions" "SIOOBE_FORMATTER" "Ljava/util/function/BiFunction;" (fun q => hK h q ≠ 0 ∧ hK h q < 40) s H
theorem vz_mv {C n d : String} {v : Value} {A A' : Nat → Prop} {U : State} {H H1 : Heap} (h : va_Z C n d v A U H) (hq : ∀ a : Nat, a < H.size → ¬ A a → H1[a]? = H[a]? ∧ ¬ A' a) : va_Z C n d v A' U H1 := by
  obtain ⟨cf, kf, fi, f, a, cell, h1, h2, h3, h4, h5, h6, h7, h8⟩ := h
  obtain ⟨e1, e2⟩ := hq a (Array.getElem?_eq_some_iff.mp h5).1 h8
  exact ⟨cf, kf, fi, f, a, cell, h1, h2, h3, h4, by rw [e1]; exact h5, h6, h7, e2⟩
theorem hp_Zs.mv {s : State} {h h' : hp} {H H1 : Heap} (Z : hp_Zs s h H) (hq : ∀ q : Nat, q < H.size → ¬ (hK h q ≠ 0 ∧ hK h q < 40) → H1[q]? = H[q]? ∧ hK h' q = hK h q) : hp_Zs s h' H1 := by
  have key : ∀ a : Nat, a < H.size → ¬ (hK h a ≠ 0 ∧ hK h a < 40) → H1[a]? = H[a]? ∧ ¬ (hK h' a ≠ 0 ∧ hK h' a < 40) := fun a ha hn => by
    obtain ⟨e1, e2⟩ := hq a ha hn
    exact ⟨e1, by rw [e2]; exact hn⟩
  refine ⟨vz_mv Z.1 key, ?_⟩
  rcases Z.2 with z | ⟨t, z⟩
  · exact Or.inl (vz_mv z key)
  · exact Or.inr ⟨t, vz_mv z key⟩
theorem hp_Zs.moved {s U : State} {h : hp} {H : Heap} (hvm : s.vm.Alike U.vm) (Z : hp_Zs s h H) : hp_Zs U h H := ⟨va_Z.moved hvm Z.1, va_Zq.moved hvm Z.2⟩
def hp_Rel (D : va_G) (s : State) (h : hp) (H : Heap) : Prop := H.size = hZ h ∧ (∀ a : Nat, hK h a ≠ 0 → a < hZ h) ∧ (∀ a : Nat, hp_at D s h H a) ∧ hp_Zs s h H
/-- two abstract heaps are alike at a cell -/
def hp_eq (h h' : hp) (b : Nat) : Prop := hK h' b = hK h b ∧ hN h' b = hN h b ∧ (∀ k, hI h' b k = hI h b k) ∧ (∀ k, hJ h' b k = hJ h b k) ∧ ∀ k, hR h' b k = hR h b k
theorem vcode_eq {h h' : hp} {b : Nat} (e : hp_eq h h' b) (c k : Nat) : vcode c h' b k = vcode c h b k := by
  unfold vcode
  split
  · rw [e.2.2.1]
  · rw [e.2.2.2.1]
  · rw [e.2.2.2.2]
theorem hV_eq {h h' : hp} {b : Nat} (e : hp_eq h h' b) (ci : Nat) : hV ci h' b = hV ci h b := funext fun k => vcode_eq e _ k
theorem act_eq {h h' : hp} {b : Nat} (e : hp_eq h h' b) (t : Nat) : act t h' b = act t h b := by
  have e1 : hI h' b = hI h b := funext e.2.2.1
  have e2 : hJ h' b = hJ h b := funext e.2.2.2.1
  have e3 : hR h' b = hR h b := funext e.2.2.2.2
  unfold act
  rw [e1, e2, e3]
theorem hp_at.kept {D : va_G} {s : State} {h h' : hp} {H H1 : Heap} {b : Nat} (hb : hp_at D s h H b) (e : hp_eq h h' b) (e41 : ∀ v, hK h v = 40 ∨ hK h v = 41 → hp_eq h h' v ∧ H1[v]? = H[v]?) (hq : H1[b]? = H[b]?) : hp_at D s h' H1 b := by
  obtain ⟨h1, h2, h3, h4⟩ := hb
  refine ⟨fun ci r hk hr => ?_, fun t ht hk => ?_, fun hk => ?_, fun hk => ?_⟩
  · rw [hV_eq e]
    exact (h1 ci r (by rw [← e.1]; exact hk) hr).kept hq
  · obtain ⟨cA, q1, q2, q3⟩ := h2 t ht (by rw [← e.1]; exact hk)
    exact ⟨cA, q1, q2, by rw [hq, act_eq e, e.2.1]; exact q3⟩
  · obtain ⟨⟨c1, g1, g2⟩, ⟨cf, kk, i, f, c2, g3, g4, g5, g6⟩, v, ev, kv, ⟨cf', kk', i', f', c3, g7, g8, g9, g10⟩, ⟨c4, t1, t2⟩⟩ := h3 (by rw [← e.1]; exact hk)
    obtain ⟨ee, eq⟩ := e41 v kv
    refine ⟨⟨c1, by rw [hq]; exact g1, g2⟩, ⟨cf, kk, i, f, c2, g3, g4, by rw [hq]; exact g5, g6⟩, v, by rw [e.2.2.2.2]; exact ev, by rw [ee.1]; exact kv, ⟨cf', kk', i', f', c3, g7, g8, by rw [hq]; exact g9, g10⟩, ⟨c4, by rw [eq]; exact t1, ?_⟩⟩
    rw [e.2.1, show hI h' v = hI h v from funext ee.2.2.1]
    exact t2
  · trivial
theorem hp_at.moved {D : va_G} {s U : State} {h : hp} {H : Heap} {b : Nat} (hvm : s.vm.Alike U.vm) (hb : hp_at D s h H b) : hp_at D U h H b := by
  obtain ⟨h1, h2, h3, h4⟩ := hb
  refine ⟨h1, fun t ht hk => ?_, fun hk => ?_, h4⟩
  · obtain ⟨cA, q1, q2, q3⟩ := h2 t ht hk
    exact ⟨cA, arrOfT_moved hvm q1, q2.moved hvm, q3⟩
  · obtain ⟨g1, g2, v, ev, kv, g3, g4⟩ := h3 hk
    exact ⟨g1.moved hvm, g2.moved hvm, v, ev, kv, g3.moved hvm, g4.moved hvm⟩
theorem hp_Rel.moved {D : va_G} {s U : State} {h : hp} {H : Heap} (hvm : s.vm.Alike U.vm) (hr : hp_Rel D s h H) : hp_Rel D U h H := ⟨hr.1, hr.2.1, fun a => (hr.2.2.1 a).moved hvm, hr.2.2.2.moved hvm⟩
/-- one cell is written -/
theorem hp_Rel.put {D : va_G} {s : State} {h h' : hp} {H H1 : Heap} {a : Nat} (hr : hp_Rel D s h H) (hz : hZ h' = hZ h) (hne : ∀ b, b ≠ a → hp_eq h h' b) (hka : hK h' a = hK h a) (hk41 : hK h a ≠ 0 ∧ hK h a < 40) (z : H1.size = H.size) (oq : ∀ q : Nat, q ≠ a → H1[q]? = H[q]?) (ha : hp_at D s h' H1 a) : hp_Rel D s h' H1 := by
  refine ⟨by rw [z, hz]; exact hr.1, fun b hb => ?_, fun b => ?_, hr.2.2.2.mv fun q hq hn => ⟨oq q (fun e => hn (by rw [e]; exact hk41)), (hne q (fun e => hn (by rw [e]; exact hk41))).1⟩⟩
  · rw [hz]
    refine hr.2.1 b ?_
    by_cases e : b = a
    · rw [e, ← hka, ← e]; exact hb
    · rw [← (hne b e).1]; exact hb
  · by_cases e : b = a
    · rw [e]; exact ha
    · exact (hr.2.2.1 b).kept (hne b e) (fun v hv => ⟨hne v (fun q => by rw [q] at hv; omega), oq v (fun q => by rw [q] at hv; omega)⟩) (oq b e)
theorem hp_eq_setI {h : hp} {a k : Nat} {v : Int32} {b : Nat} (e : b ≠ a) : hp_eq h (setI h a k v) b := ⟨rfl, rfl, fun j => by rw [hI_setI, if_neg (fun q => e q.1)], fun _ => rfl, fun _ => rfl⟩
theorem hp_eq_setJ {h : hp} {a k : Nat} {v : Int64} {b : Nat} (e : b ≠ a) : hp_eq h (setJ h a k v) b := ⟨rfl, rfl, fun _ => rfl, fun j => by rw [hJ_setJ, if_neg (fun q => e q.1)], fun _ => rfl⟩
theorem hp_eq_setR {h : hp} {a k : Nat} {v : Option Nat} {b : Nat} (e : b ≠ a) : hp_eq h (setR h a k v) b := ⟨rfl, rfl, fun _ => rfl, fun _ => rfl, fun j => by rw [hR_setR, if_neg (fun q => e q.1)]⟩
theorem hp_eq_mkC {h : hp} {q n b : Nat} (e : b ≠ hZ h) : hp_eq h (mkC h q n) b := ⟨by rw [hK_mkC, if_neg e], by rw [hN_mkC, if_neg e], fun j => by rw [hI_mkC, if_neg e], fun j => by rw [hJ_mkC, if_neg e], fun j => by rw [hR_mkC, if_neg e]⟩
theorem vwCl_lt {ci : Nat} {r : vw_C} (h : vwCl[ci]? = some r) : ci < 10 := (List.getElem?_eq_some_iff.mp h).1
/-- an object's cell is written -/
theorem hp_at.obj {D : va_G} {s : State} {h : hp} {H : Heap} {a ci : Nat} {r : vw_C} (hk : hK h a = ci + 1) (hc : vwCl[ci]? = some r) (ho : t_OB a (D.1 ci) r.2.2 (D.2 ci) H (hV ci h a)) : hp_at D s h H a := by
  have hlt := vwCl_lt hc
  refine ⟨fun cj r' hk' hr' => ?_, fun t ht hk' => by omega, fun hk' => by omega, fun hk' => by omega⟩
  have e : cj = ci := by omega
  subst e
  cases hr'.symm.trans hc
  exact ho
theorem hp_at.arr {D : va_G} {s : State} {h : hp} {H : Heap} {a t : Nat} {cA : ClassId} (ht : t < 6) (hk : hK h a = 20 + t) (q1 : ArrOfT s cA (aty t)) (q2 : va_RA s cA (aty t)) (q3 : H[a]? = some (vp_cell cA (hN h a, act t h a))) : hp_at D s h H a := by
  refine ⟨fun cj r' hk' hr' => ?_, fun t' ht' hk' => ?_, fun hk' => by omega, fun hk' => by omega⟩
  · have := vwCl_lt hr'
    omega
  · have e : t' = t := by omega
    subst e
    exact ⟨cA, q1, q2, q3⟩
theorem hp_at.none {D : va_G} {s : State} {h : hp} {H : Heap} {a : Nat} (hk : hK h a = 0) : hp_at D s h H a := ⟨fun ci r h1 _ => by omega, fun t _ h1 => by omega, fun h1 => by omega, fun h1 => by omega⟩
/-- a cell is made -/
theorem hp_Rel.mk {D : va_G} {s : State} {h : hp} {H H1 : Heap} {q n : Nat} (hr : hp_Rel D s h H) (z : H1.size = H.size + 1) (oq : ∀ b : Nat, b < H.size → H1[b]? = H[b]?) (ha : hp_at D s (mkC h q n) H1 (hZ h)) : hp_Rel D s (mkC h q n) H1 := by
  refine ⟨by rw [z, hZ_mkC, hr.1], fun b hb => ?_, fun b => ?_, hr.2.2.2.mv fun w hw _ => ⟨oq w hw, by rw [hK_mkC, if_neg (by rw [← hr.1]; omega)]⟩⟩
  · rw [hZ_mkC]
    by_cases e : b = hZ h
    · omega
    · rw [hK_mkC, if_neg e] at hb
      have := hr.2.1 b hb
      omega
  · by_cases e : b = hZ h
    · rw [e]; exact ha
    · by_cases hk : hK h b = 0
      · exact hp_at.none (by rw [hK_mkC, if_neg e]; exact hk)
      · have hlt := hr.2.1 b hk
        exact (hr.2.2.1 b).kept (hp_eq_mkC e) (fun v hv => ⟨hp_eq_mkC (fun q => by have := hr.2.1 v (by omega); omega), oq v (by rw [hr.1]; exact hr.2.1 v (by omega))⟩) (oq b (by rw [hr.1]; exact hlt))
