/-! 03: the judgement Wp over the abstract heap; contracts as Call -/
abbrev md_ : Type := MethodName × ByteArray × Nat × Option FieldType
abbrev gx : Type := Launch × va_G × (Nat → Nat)
def md_ws (M : md_) : List Cond := Cond.code M.1 M.2.1 M.2.2.1 M.2.2.2 :: lw_good
def md_R (n mc ms : Nat) : Room := { frames := n + 1, cells := mc, slots := ms, locals := 100 * (n + 1) }
/-- the String constants: class, entry, text, number -/
def hp_E (D : va_G) (sa : Nat → Nat) (s : State) : Prop := va_K D vwCl [] s ∧ (∀ q ∈ strTab, vk_R q.1 q.2.1 q.2.2.1 (sa q.2.2.2) s) ∧ (∀ w ∈ nestW, va_Nw w s) ∧ va_AO RX7 s ∧ va_AO RX2 s
theorem hp_E.warm {D : va_G} {sa : Nat → Nat} {s U : State} (hW : s.WarmedH U.vm) (h : hp_E D sa s) : hp_E D sa U := ⟨va_K.moved hW.alike h.1, fun q hq => (h.2.1 q hq).warm hW, fun w hw => nw_warm hw hW (h.2.2.1 w hw), va_AO.moved hW.alike h.2.2.2.1, va_AO.moved hW.alike h.2.2.2.2⟩
theorem hp_E.same {D : va_G} {sa : Nat → Nat} {s U : State} (hv : U.vm = s.vm) (h : hp_E D sa s) : hp_E D sa U := ⟨va_K.moved (by rw [hv]; exact Vm.Alike.refl _) h.1, fun q hq => (h.2.1 q hq).same hv, fun w hw => va_Nw.same (nw_on hw) hv.symm (h.2.2.1 w hw), va_AO.moved (by rw [hv]; exact Vm.Alike.refl _) h.2.2.2.1, va_AO.moved (by rw [hv]; exact Vm.Alike.refl _) h.2.2.2.2⟩
def fr_ (h0 : hp) : Nat → Prop := fun q => (hK h0 q ≠ 0 ∧ hK h0 q < 40) ∨ hZ h0 ≤ q
def wpQ (g : gx) (h0 : hp) (Q : Option Value → hp → Prop) : Array Value → State → Outcome → State → Prop := fun _ st o t => (∃ (r : Option Value) (h' : hp), o = .returned r ∧ Q r h' ∧ hp_Rel g.2.1 t h' t.heap ∧ ∀ q, (hK h' q ≠ 0 ∧ hK h' q < 40) → fr_ h0 q) ∧ va_F (fr_ h0) st t
/-- M's contract: called with av in h it returns, and Q holds of its answer and the heap then -/
def Call (g : gx) (n mc ms : Nat) (M : md_) (av : List Value) (h : hp) (Q : Option Value → hp → Prop) : Prop :=
  Met g.1 M.1 (md_ws M) (md_R n mc ms) (fun a U => a = av.toArray ∧ hp_E g.2.1 g.2.2 U ∧ hp_Rel g.2.1 U h U.heap) (wpQ g h Q) mc ms (fr_ h)
/-- locals, as the abstract machine has them -/
def lc_l : Nat → List (Option Value) → List (Nat × Value)
  | _, [] => []
  | i, none :: r => lc_l (i + 1) r
  | i, some v :: r => (i, v) :: lc_l (i + 1) r
theorem lc_mem : ∀ (ls : List (Option Value)) (i k : Nat) (v : Value), (k, v) ∈ lc_l i ls ↔ ∃ j, k = i + j ∧ ls[j]? = some (some v)
  | [], i, k, v => by simp [lc_l]
  | none :: r, i, k, v => by
    rw [lc_l, lc_mem r (i + 1) k v]
    constructor
    · rintro ⟨j, e, h⟩
      exact ⟨j + 1, by omega, by simpa using h⟩
    · rintro ⟨j, e, h⟩
      cases j with
      | zero => simp at h
      | succ j => exact ⟨j, by omega, by simpa using h⟩
  | some w :: r, i, k, v => by
    rw [lc_l, List.mem_cons, lc_mem r (i + 1) k v]
    constructor
    · rintro (h | ⟨j, e, h⟩)
      · cases h
        exact ⟨0, by omega, by simp⟩
      · exact ⟨j + 1, by omega, by simpa using h⟩
    · rintro ⟨j, e, h⟩
      cases j with
      | zero =>
        simp at h
        left
        rw [e, h]
        rfl
      | succ j => exact Or.inr ⟨j, by omega, by simpa using h⟩
theorem lc_mem0 {ls : List (Option Value)} {k : Nat} {v : Value} : (k, v) ∈ lc_l 0 ls ↔ ls[k]? = some (some v) := by
  rw [lc_mem]
  constructor
  · rintro ⟨j, e, h⟩
    rw [show k = j by omega]; exact h
  · intro h
    exact ⟨k, by omega, h⟩
def lc_has (lsA : Array Slot) (nL : Nat) (ls : List (Option Value)) : Prop := lv_has lsA nL (lc_l 0 ls)
theorem lc_has.at {lsA : Array Slot} {nL k : Nat} {ls : List (Option Value)} {v : Value} (h : lc_has lsA nL ls) (hk : ls[k]? = some (some v)) : lsA[k]? = some (.val v) := h.2.2 (k, v) (lc_mem0.mpr hk)
theorem lc_has.sub {lsA : Array Slot} {nL : Nat} {l : List (Nat × Value)} {ls : List (Option Value)} (h : lv_has lsA nL l) (hs : ∀ k v, ls[k]? = some (some v) → (k, v) ∈ l) : lc_has lsA nL ls := ⟨h.1, h.2.1, fun q hq => h.2.2 q (hs q.1 q.2 (lc_mem0.mp hq))⟩
/-- the entry before i, if it is a long's first half, is gone -/
def lc_kill (ls : List (Option Value)) (i : Nat) : List (Option Value) := match i with
  | 0 => ls
  | j + 1 => match ls[j]? with
    | some (some (.long _)) => ls.set j none
    | some (some (.double _)) => ls.set j none
    | _ => ls
def lc_set1 (ls : List (Option Value)) (i : Nat) (v : Value) : List (Option Value) := (lc_kill ls i).set i (some v)
def lc_set2 (ls : List (Option Value)) (i : Nat) (v : Value) : List (Option Value) := ((lc_kill ls i).set i (some v)).set (i + 1) none
theorem lc_kill_spec {ls : List (Option Value)} {i k : Nat} {v : Value} (h : (lc_kill ls i)[k]? = some (some v)) : ls[k]? = some (some v) ∧ ¬ (k + 1 = i ∧ v.category = 2) := by
  unfold lc_kill at h
  cases i with
  | zero => exact ⟨h, fun q => by omega⟩
  | succ j =>
    have key : ∀ w, ls[j]? = some (some w) → w.category = 2 → (ls.set j none)[k]? = some (some v) → ls[k]? = some (some v) ∧ ¬ (k + 1 = j + 1 ∧ v.category = 2) := by
      intro w hw hc hh
      rw [List.getElem?_set] at hh
      split at hh
      · split at hh <;> simp at hh
      · exact ⟨hh, fun q => by omega⟩
    dsimp only at h
    split at h
    · next w hw => exact key _ hw rfl h
    · next w hw => exact key _ hw rfl h
    · next n1 n2 =>
      refine ⟨h, fun q => ?_⟩
      have e : k = j := by omega
      subst e
      cases v with
      | long w => exact n1 w h
      | double w => exact n2 w h
      | _ => simp [Value.category] at q
theorem lc_has.set1 {lsA ls' : Array Slot} {nL i : Nat} {ls : List (Option Value)} {v : Value} (h : lv_has ls' nL ((i, v) :: (lc_l 0 ls).filter (fun q => !(q.1 == i) && !(q.1 + 1 == i && q.2.category == 2)))) : lc_has ls' nL (lc_set1 ls i v) := by
  refine lc_has.sub h fun k w hk => ?_
  unfold lc_set1 at hk
  rw [List.getElem?_set] at hk
  split at hk
  · next e =>
    split at hk
    · simp at hk
      rw [← e, ← hk]
      exact List.mem_cons_self
    · simp at hk
  · next e =>
    obtain ⟨h1, h2⟩ := lc_kill_spec hk
    refine List.mem_cons_of_mem _ (List.mem_filter.mpr ⟨lc_mem0.mpr h1, ?_⟩)
    have e1 : (k == i) = false := by simp; omega
    have e2 : (k + 1 == i && w.category == 2) = false := by
      simp
      intro q1 q2
      exact h2 ⟨q1, q2⟩
    simp [e1, e2]
theorem lc_has.set2 {lsA ls' : Array Slot} {nL i : Nat} {ls : List (Option Value)} {v : Value} (h : lv_has ls' nL ((i, v) :: (lc_l 0 ls).filter (fun q => !(q.1 == i) && (!(q.1 == i + 1) && !(q.1 + 1 == i && q.2.category == 2))))) : lc_has ls' nL (lc_set2 ls i v) := by
  refine lc_has.sub h fun k w hk => ?_
  unfold lc_set2 at hk
  rw [List.getElem?_set] at hk
  split at hk
  · split at hk <;> simp at hk
  · next e0 =>
    rw [List.getElem?_set] at hk
    split at hk
    · next e =>
      split at hk
      · simp at hk
        rw [← e, ← hk]
        exact List.mem_cons_self
      · simp at hk
    · next e =>
      obtain ⟨h1, h2⟩ := lc_kill_spec hk
      refine List.mem_cons_of_mem _ (List.mem_filter.mpr ⟨lc_mem0.mpr h1, ?_⟩)
      have e1 : (k == i) = false := by simp; omega
      have e3 : (k == i + 1) = false := by simp; omega
      have e2 : (k + 1 == i && w.category == 2) = false := by
        simp
        intro q1 q2
        exact h2 ⟨q1, q2⟩
      simp [e1, e2, e3]
/-- the locals at a method's entry -/
def lc_args : List Value → List (Option Value)
  | [] => []
  | .long v :: r => some (.long v) :: none :: lc_args r
  | .double v :: r => some (.double v) :: none :: lc_args r
  | v :: r => some v :: lc_args r
def lc_entry (n : Nat) (vs : List Value) : List (Option Value) := lc_args vs ++ List.replicate (n - (lc_args vs).length) none
theorem lc_args_mem : ∀ (vs : List Value) (i j : Nat) (w : Value), (lc_args vs)[j]? = some (some w) → (i + j, w) ∈ lv_args i vs := by
  intro vs
  induction vs with
  | nil => intro i j w h; simp [lc_args] at h
  | cons v r ih =>
    intro i j w h
    have key1 : v.category = 1 → lc_args (v :: r) = some v :: lc_args r → (i + j, w) ∈ lv_args i (v :: r) := by
      intro hc he
      rw [he] at h
      rw [lv_args]
      cases j with
      | zero =>
        simp at h
        subst h
        exact List.mem_cons_self
      | succ j =>
        simp at h
        have := ih (i + v.category) j w h
        rw [hc] at this ⊢
        exact List.mem_cons_of_mem _ (by rw [show i + (j + 1) = i + 1 + j by omega]; exact this)
    have key2 : v.category = 2 → lc_args (v :: r) = some v :: none :: lc_args r → (i + j, w) ∈ lv_args i (v :: r) := by
      intro hc he
      rw [he] at h
      rw [lv_args]
      cases j with
      | zero =>
        simp at h
        subst h
        exact List.mem_cons_self
      | succ j =>
        cases j with
        | zero => simp at h
        | succ j =>
          simp at h
          have := ih (i + v.category) j w h
          rw [hc] at this ⊢
          exact List.mem_cons_of_mem _ (by rw [show i + (j + 1 + 1) = i + 2 + j by omega]; exact this)
    cases v with
    | long x => exact key2 rfl rfl
    | double x => exact key2 rfl rfl
    | _ => exact key1 rfl rfl
theorem lc_entry_has {lsA : Array Slot} {n : Nat} {vs : List Value} (h : lv_has lsA n (lv_args 0 vs)) : lc_has lsA n (lc_entry n vs) := by
  refine lc_has.sub h fun k v hk => ?_
  unfold lc_entry at hk
  rw [List.getElem?_append] at hk
  split at hk
  · have := lc_args_mem vs 0 k v hk
    rw [Nat.zero_add] at this
    exact this
  · rw [List.getElem?_replicate] at hk
    split at hk <;> simp at hk
/-- the machine in M's body -/
def wp_X (M : md_) (p : Program) (s : State) (m : MethodId) (args : Array Value) (meth : Method) (c : Code) : Prop :=
  p.tables.exec = Jvm.exec ∧ c.code = M.2.1 ∧ meth.sig.returnType = M.2.2.2 ∧ c.maxLocals = M.2.2.1 ∧ s.vm.findClass M.1.cls = some m.cls ∧ (∀ w ∈ md_ws M, w.before args s = true) ∧ meth.locks = false ∧ meth.name = M.1.name
/-- the machine at pc of M (entered with the heap h0, Q owed at its end), with locals ls, stack st, heap h, comes to its end; cs cells of sl slots are made already -/
def Wp (g : gx) (n mc ms : Nat) (M : md_) (h0 : hp) (Q : Option Value → hp → Prop) (cs sl pc : Nat) (ls : List (Option Value)) (st : List Value) (h : hp) : Prop :=
  ∀ (p : Program) (e : Env) (s : State) (m : MethodId) (args : Array Value) (below : List Frame) (meth : Method) (c : Code) (H : Heap) (locs : List Loc) (lsA : Array Slot),
    wp_X M p s m args meth c → hp_E g.2.1 g.2.2 s → s.heap.size = hZ h0 → hp_Rel g.2.1 s h H → va_S (fr_ h0) s.heap H locs → (∀ q, (hK h q ≠ 0 ∧ hK h q < 40) → fr_ h0 q) → lc_has lsA M.2.2.1 ls →
    W p g.1 e (md_R n mc ms) s m args below meth c H locs cs sl (MQ below (wpQ g h0 Q) args s mc ms (fr_ h0)) (F0 m pc lsA st)
theorem lc_len : ∀ vs : List Value, (lg_sl vs).length = (lc_args vs).length := by
  intro vs
  induction vs with
  | nil => rfl
  | cons v r ih =>
    have h1 : lg_sl (v :: r) = (if v.category = 2 then [Slot.val v, Slot.second] else [Slot.val v]) ++ lg_sl r := rfl
    rw [h1, List.length_append, ih]
    cases v <;> simp [lc_args, Value.category] <;> omega
/-- a contract, by its body -/
theorem Call.of {g : gx} {n mc ms : Nat} {M : md_} {av : List Value} {h : hp} {Q : Option Value → hp → Prop} (hy : plainName M.1.cls = true) (hl : (lc_args av).length ≤ M.2.2.1)
    (k : Wp g n mc ms M h Q 0 0 0 (lc_entry M.2.2.1 av) [] h) : Call g n mc ms M av h Q := by
  refine Met.ofW (cc := M.2.1) (maxL := M.2.2.1) (ret := M.2.2.2) (ws' := lw_good) hy rfl ?_
  intro p e s m args below meth c s₁ B hml hv
  obtain ⟨rfl, hE, hr⟩ := hv
  rw [lg_entry_eq]
  have hl2 := lv_entry av (n := M.2.2.1) (by rw [lc_len]; exact hl)
  refine k p e s m _ below meth c s.heap [] _ ⟨B.exec, B.bytes, B.returns, hml, findClass_of_methodNamed B.named, atoms_spec (ws := md_ws M) B.pre, B.notSynchronized, (name_of_methodNamed B.named B.method).1⟩ hE hr.1 hr va_S.rf (fun q hq => Or.inl hq) (lc_entry_has hl2)
theorem Wp.mono {g : gx} {n mc ms : Nat} {M : md_} {h0 : hp} {Q Q' : Option Value → hp → Prop} {cs sl pc : Nat} {ls : List (Option Value)} {st : List Value} {h : hp} (k : Wp g n mc ms M h0 Q cs sl pc ls st h) (hQ : ∀ r h', Q r h' → Q' r h') : Wp g n mc ms M h0 Q' cs sl pc ls st h := by
  intro p e s m args below meth c H locs lsA hX hE hz hr hS hA hl T hT X
  obtain ⟨t, h1, o, q1, q2, ⟨⟨r, h', e1, e2, e3⟩, q3⟩, q4⟩ := k p e s m args below meth c H locs lsA hX hE hz hr hS hA hl T hT X
  exact ⟨t, h1, o, q1, q2, ⟨⟨r, h', e1, hQ r h' e2, e3⟩, q3⟩, q4⟩
