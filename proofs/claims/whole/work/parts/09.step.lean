theorem Call.mono {g : gx} {n mc ms : Nat} {M : md_} {av : List Value} {h : hp} {Q Q' : Option Value → hp → Prop} (k : Call g n mc ms M av h Q) (hQ : ∀ r h', Q r h' → Q' r h') : Call g n mc ms M av h Q' := by
  intro p e ha hc hk s m args below hf hap hP hT
  obtain ⟨t, o, h1, h2, h3, ⟨⟨r, h', e1, e2, e3⟩, q3⟩, q4⟩ := k p e ha hc hk s m args below hf hap hP hT
  exact ⟨t, o, h1, h2, h3, ⟨⟨r, h', e1, hQ r h' e2, e3⟩, q3⟩, q4⟩
/-! 08: the abstract machine: a step of it, many steps; what it says holds -/
/-- a row of a method's table: instruction, length, target or place, int, long, three numbers, the callee's room, a switch's rows -/
abbrev rw_ : Type := Instr × Nat × Nat × Int32 × Int64 × Nat × Nat × Nat × Nat × Nat × List (Int32 × Nat)
/-- a class's links: fields, final fields, methods, new, new arrays, ints, longs, Math, Object.<init> -/
abbrev ct_ : Type := List (Nat × Nat × Nat) × List (Nat × Nat × Nat) × List (Nat × Nat) × List (Nat × Nat × Nat) × List (Nat × Nat) × List (Nat × Int32) × List (Nat × Int64) × List (Nat × Nat) × List Nat
def mth_ (a : Nat) : md_ := match a with
  | 7 => (Lib.Math.max.name, Lib.Math.max.code, 2, some .int)
  | 8 => (Lib.Math.min.name, Lib.Math.min.code, 2, some .int)
  | _ => (Lib.Math.abs.name, Lib.Math.abs.code, 1, some .int)
def fd_ok (own : String) (q : Nat × Nat × Nat) : Prop := ∃ r, vwCl[q.2.1]? = some r ∧ q.2.2 < r.2.2 ∧ (r.2.1 q.2.2).1 = r.1 ∧ clX_ok q.2.1 r ∧ fl_ok own q.1 r q.2.2
def ff_ok (own : String) (q : Nat × Nat × Nat) : Prop := ∃ r, vwCl[q.2.1]? = some r ∧ q.2.2 < r.2.2 ∧ (r.2.1 q.2.2).1 = r.1 ∧ clX_ok q.2.1 r ∧ Cond.fieldLink own q.1 r.1 (r.2.1 q.2.2).2.1 (r.2.1 q.2.2).2.2.1 ∈ lw_good ∧ r.1 = own
def nw_ok (own : String) (q : Nat × Nat × Nat) : Prop := ∃ r, vwCl[q.2.1]? = some r ∧ clX_ok q.2.1 r ∧ Cond.classLink own q.1 r.1 ∈ lw_good ∧ Cond.instantiable r.1 r.2.2 ∈ lw_good ∧ Cond.initialized r.1 ∈ lw_good ∧ q.2.2 = r.2.2
def an_ok (own : String) (q : Nat × Nat) : Prop := ∃ (ci : Nat) (r : vw_C), ((q.2 = 4 ∧ ci = 7) ∨ (q.2 = 5 ∧ ci = 2)) ∧ vwCl[ci]? = some r ∧ Cond.classLink own q.1 r.1 ∈ lw_good
def ct_ok (own : String) (C : ct_) : Prop :=
  (∀ q ∈ C.1, fd_ok own q) ∧ (∀ q ∈ C.2.1, ff_ok own q) ∧ (∀ q ∈ C.2.2.1, ml_ok own q.1 (mtab q.2)) ∧ (∀ q ∈ C.2.2.2.1, nw_ok own q) ∧ (∀ q ∈ C.2.2.2.2.1, an_ok own q) ∧
  (∀ q ∈ C.2.2.2.2.2.1, Cond.constant own q.1 q.2 ∈ lw_good) ∧ (∀ q ∈ C.2.2.2.2.2.2.1, Cond.constantLong own q.1 q.2 ∈ lw_good) ∧ (∀ q ∈ C.2.2.2.2.2.2.2.1, Cond.methodLink own q.1 (mth_ q.2).1 ∈ lw_good) ∧ (∀ q ∈ C.2.2.2.2.2.2.2.2, Cond.methodLink own q Lib.objectInit ∈ lw_good)
def fin_ (a b : Nat) : Bool := match vwCl[a]? with
  | some r => (r.2.1 b).2.2.2
  | none => false
-- the stack, the locals
def pI (st : List Value) (k : Int32 → List Value → Prop) : Prop := match st with
  | .int x :: r => k x r
  | _ => False
def pJ (st : List Value) (k : Int64 → List Value → Prop) : Prop := match st with
  | .long x :: r => k x r
  | _ => False
def pA (st : List Value) (k : Nat → List Value → Prop) : Prop := match st with
  | .ref x :: r => k x r
  | _ => False
def pN (st : List Value) (k : Value → List Value → Prop) : Prop := match st with
  | .ref x :: r => k (.ref x) r
  | .null :: r => k .null r
  | _ => False
def pV (st : List Value) (k : Value → List Value → Prop) : Prop := match st with
  | v :: r => k v r
  | _ => False
def p1 (st : List Value) (k : Value → List Value → Prop) : Prop := match st with
  | .int x :: r => k (.int x) r
  | .ref x :: r => k (.ref x) r
  | .null :: r => k .null r
  | _ => False
def pE (st : List Value) (k : Value → Prop) : Prop := match st with
  | [v] => k v
  | _ => False
def p0 (st : List Value) (k : Prop) : Prop := match st with
  | [] => k
  | _ => False
def lI (ls : List (Option Value)) (t : Nat) (k : Int32 → Prop) : Prop := match ls[t]? with
  | some (some (.int x)) => k x
  | _ => False
def lJ (ls : List (Option Value)) (t : Nat) (k : Int64 → Prop) : Prop := match ls[t]? with
  | some (some (.long x)) => k x
  | _ => False
def lA (ls : List (Option Value)) (t : Nat) (k : Value → Prop) : Prop := match ls[t]? with
  | some (some (.ref x)) => k (.ref x)
  | some (some .null) => k .null
  | _ => False
def nl_ (v : Value) (kn kr : Prop) : Prop := match v with
  | .null => kn
  | _ => kr
def gtf (t : Nat) (h : hp) (o b : Nat) (k : Value → Prop) : Prop := match t with
  | 0 => k (.int (hI h o b))
  | 1 => k (.long (hJ h o b))
  | _ => hR h o b ≠ none ∧ k (.ref (hr h o b))
def rfc (x : Option Nat) (k : Value → Prop) : Prop := (x = none → k .null) ∧ (x ≠ none → k (.ref (x.getD 0)))
def ptf (t a b : Nat) (y : Value) : Prop := match t, y with
  | 0, .int x => match ftX a b with
    | .int => True
    | .boolean => x = 0 ∨ x = 1
    | _ => False
  | 1, .long _ => True
  | 2, .ref _ => True
  | 2, .null => True
  | _, _ => False
def nb_ (a : Nat) (x : Int32) : Int32 := match a with
  | 1 => vp_nar .byte x
  | _ => vp_nar .boolean x
def swc (x : Int32) (sw : List (Int32 × Nat)) (k : Nat → Prop) (d : Prop) : Prop := match sw with
  | [] => d
  | q :: r => (x = q.1 → k q.2) ∧ (¬ x = q.1 → swc x r k d)
def tsw_ (pc : Nat) (lo hi : Int) (offs : List Int) (sw : List (Int32 × Nat)) : Bool :=
  decide (sw.length = offs.length) && decide (hi - lo + 1 = offs.length) && decide (-2147483648 ≤ lo ∧ hi < 2147483648) && (List.range offs.length).all (fun j => match offs[j]?, sw[j]? with
    | some o, some q => decide ((pc : Int) + o = (q.2 : Int)) && decide (q.1.toInt = lo + j)
    | _, _ => false)
def lsw_ (pc : Nat) : List (Int × Int) → List (Int32 × Nat) → Bool
  | [], [] => true
  | a :: r, q :: s => decide ((pc : Int) + a.2 = (q.2 : Int)) && decide (q.1.toInt = a.1) && lsw_ pc r s
  | _, _ => false
def rt_ (a : Nat) (ret : Option FieldType) : Bool := match a, ret with
  | 0, some .int => true
  | 1, some .boolean => true
  | 2, some .byte => true
  | 3, some .char => true
  | _, _ => false
def rti (a : Nat) (y : Value) (k : Int32 → Prop) : Prop := match y with
  | .int x => (match a with
    | 0 => True
    | 1 => x = 0 ∨ x = 1
    | 2 => narrow .byte (.int x) = .int x
    | _ => narrow .char (.int x) = .int x) ∧ k x
  | _ => False
def rta_ (ret : Option FieldType) : Bool := match ret with
  | some (.object _) => true
  | some (.array _) => true
  | _ => false
def scl (a : Nat) (st : List Value) (kc : Prop) (km : Value → List Value → Prop) : Prop := match a with
  | 0 => kc
  | 7 => pI st fun y s => pI s fun x s => km (.int (if x < y then y else x)) s
  | 8 => pI st fun y s => pI s fun x s => km (.int (if y < x then y else x)) s
  | _ => pI st fun x s => km (.int (if 0 ≤ x then x else 0 - x)) s
def ldv (a : Nat) (v : Int32) (q : Nat) : Value := match a with
  | 0 => .int v
  | _ => .ref q
def icl (a : Nat) (_st : List Value) (ko kc : Prop) : Prop := match a with
  | 6 => ko
  | _ => kc
theorem pI_inv {st : List Value} {k : Int32 → List Value → Prop} (h : pI st k) : ∃ x r, st = .int x :: r ∧ k x r := by
  unfold pI at h; split at h
  · exact ⟨_, _, rfl, h⟩
  · exact h.elim
theorem pJ_inv {st : List Value} {k : Int64 → List Value → Prop} (h : pJ st k) : ∃ x r, st = .long x :: r ∧ k x r := by
  unfold pJ at h; split at h
  · exact ⟨_, _, rfl, h⟩
  · exact h.elim
theorem pA_inv {st : List Value} {k : Nat → List Value → Prop} (h : pA st k) : ∃ x r, st = .ref x :: r ∧ k x r := by
  unfold pA at h; split at h
  · exact ⟨_, _, rfl, h⟩
  · exact h.elim
theorem pN_inv {st : List Value} {k : Value → List Value → Prop} (h : pN st k) : ∃ v r, st = v :: r ∧ ((∃ z, v = .ref z) ∨ v = .null) ∧ k v r := by
  unfold pN at h; split at h
  · exact ⟨_, _, rfl, Or.inl ⟨_, rfl⟩, h⟩
  · exact ⟨_, _, rfl, Or.inr rfl, h⟩
  · exact h.elim
theorem pV_inv {st : List Value} {k : Value → List Value → Prop} (h : pV st k) : ∃ v r, st = v :: r ∧ k v r := by
  unfold pV at h; split at h
  · exact ⟨_, _, rfl, h⟩
  · exact h.elim
theorem p1_inv {st : List Value} {k : Value → List Value → Prop} (h : p1 st k) : ∃ v r, st = v :: r ∧ v.category = 1 ∧ k v r := by
  unfold p1 at h; split at h
  · exact ⟨_, _, rfl, rfl, h⟩
  · exact ⟨_, _, rfl, rfl, h⟩
  · exact ⟨_, _, rfl, rfl, h⟩
  · exact h.elim
theorem pE_inv {st : List Value} {k : Value → Prop} (h : pE st k) : ∃ v, st = [v] ∧ k v := by
  unfold pE at h; split at h
  · exact ⟨_, rfl, h⟩
  · exact h.elim
theorem p0_inv {st : List Value} {k : Prop} (h : p0 st k) : st = [] ∧ k := by
  unfold p0 at h; split at h
  · exact ⟨rfl, h⟩
  · exact h.elim
theorem lI_inv {ls : List (Option Value)} {t : Nat} {k : Int32 → Prop} (h : lI ls t k) : ∃ x, ls[t]? = some (some (.int x)) ∧ k x := by
  unfold lI at h; split at h
  · next e => exact ⟨_, e, h⟩
  · exact h.elim
theorem lJ_inv {ls : List (Option Value)} {t : Nat} {k : Int64 → Prop} (h : lJ ls t k) : ∃ x, ls[t]? = some (some (.long x)) ∧ k x := by
  unfold lJ at h; split at h
  · next e => exact ⟨_, e, h⟩
  · exact h.elim
theorem lA_inv {ls : List (Option Value)} {t : Nat} {k : Value → Prop} (h : lA ls t k) : ∃ v, ((∃ z, v = .ref z ∧ ls[t]? = some (some (.ref z))) ∨ (v = .null ∧ ls[t]? = some (some .null))) ∧ k v := by
  unfold lA at h; split at h
  · next e => exact ⟨_, Or.inl ⟨_, rfl, e⟩, h⟩
  · next e => exact ⟨_, Or.inr ⟨rfl, e⟩, h⟩
  · exact h.elim
theorem gtf_inv {t : Nat} {h : hp} {o b : Nat} {k : Value → Prop} (q : gtf t h o b k) : k (vcode t h o b) := by
  unfold gtf at q; unfold vcode; split at q
  · exact q
  · exact q
  · next n1 n2 =>
    have e : va_rf (hR h o b) = .ref (hr h o b) := by
      cases hh : hR h o b with
      | none => exact absurd hh q.1
      | some z => simp [va_rf, hr, hh]
    split
    · exact absurd rfl n1
    · exact absurd rfl n2
    · rw [e]; exact q.2
theorem rfc_inv {x : Option Nat} {k : Value → Prop} (q : rfc x k) : k (va_rf x) := by
  cases x with
  | none => exact q.1 rfl
  | some z => exact q.2 (by simp)
section SS
variable {g : gx} {n mc ms : Nat} {M : md_} {h0 : hp} {Q : Option Value → hp → Prop} {cs sl pc : Nat} {ls : List (Option Value)} {st : List Value} {h : hp} {C : ct_} {K L : Nat → Nat → Nat → List (Option Value) → List Value → hp → Prop}
theorem swc_ok {x : Int32} {k : Nat → Prop} {d : Prop} : ∀ {sw : List (Int32 × Nat)}, swc x sw k d → (∃ q ∈ sw, x = q.1 ∧ k q.2 ∧ ∀ q' ∈ sw, x = q'.1 → True) ∨ ((∀ q ∈ sw, ¬ x = q.1) ∧ d)
  | [], h => Or.inr ⟨(fun q hq => absurd hq List.not_mem_nil), h⟩
  | a :: r, h => by
    by_cases e : x = a.1
    · exact Or.inl ⟨a, List.mem_cons_self, e, h.1 e, fun _ _ _ => trivial⟩
    · rcases swc_ok (h.2 e) with ⟨q, q1, q2, q3, q4⟩ | ⟨q1, q2⟩
      · exact Or.inl ⟨q, List.mem_cons_of_mem _ q1, q2, q3, fun _ _ _ => trivial⟩
      · refine Or.inr ⟨fun q hq => ?_, q2⟩
        rcases List.mem_cons.mp hq with rfl | hq
        · exact e
        · exact q1 q hq
theorem tsw_ok {d lo hi : Int} {offs : Array Int} {ln : Nat} {x : Int32} {t : Nat} {sw : List (Int32 × Nat)} (hd : decode M.2.1 pc = .ok (.tableswitch d lo hi offs, ln)) (ht : (pc : Int) + d = (t : Int)) (hw : tsw_ pc lo hi offs.toList sw = true) (kK : ∀ cs sl pc ls st h, K cs sl pc ls st h → Wp g n mc ms M h0 Q cs sl pc ls st h)
    (hs : swc x sw (fun t => K cs sl t ls st h) (K cs sl t ls st h)) : Wp g n mc ms M h0 Q cs sl pc ls (.int x :: st) h := by
  unfold tsw_ at hw
  simp only [Bool.and_eq_true, decide_eq_true_eq, List.all_eq_true, List.mem_range] at hw
  obtain ⟨⟨⟨w1, w2⟩, w3⟩, w4⟩ := hw
  by_cases ho : x.toInt < lo ∨ hi < x.toInt
  · refine wr_tableOut hd ho ht (kK _ _ _ _ _ _ ?_)
    rcases swc_ok hs with ⟨q, q1, q2, q3, q4⟩ | ⟨q1, q2⟩
    · obtain ⟨j, hj⟩ := List.getElem?_of_mem q1
      have hjl : j < offs.toList.length := by rw [← w1]; exact (List.getElem?_eq_some_iff.mp hj).1
      have := w4 j hjl
      rw [hj, List.getElem?_eq_getElem hjl] at this
      simp only [Bool.and_eq_true, decide_eq_true_eq] at this
      have e := this.2
      rw [← q2] at e
      omega
    · exact q2
  · have h1 : ¬ x.toInt < lo := fun q => ho (Or.inl q)
    have h2 : ¬ hi < x.toInt := fun q => ho (Or.inr q)
    have hjl : (x.toInt - lo).toNat < offs.toList.length := by omega
    have h5 := w4 _ hjl
    have hjs : (x.toInt - lo).toNat < sw.length := by rw [w1]; exact hjl
    rw [List.getElem?_eq_getElem hjl, List.getElem?_eq_getElem hjs] at h5
    simp only [Bool.and_eq_true, decide_eq_true_eq] at h5
    have hx : x = (sw[(x.toInt - lo).toNat]).1 := by
      apply Int32.toInt_inj.mp
      rw [h5.2]
      omega
    refine wr_tableIn (off := offs.toList[(x.toInt - lo).toNat]) (t := (sw[(x.toInt - lo).toNat]).2) hd h1 h2 (by rw [← Array.getElem?_toList, List.getElem?_eq_getElem hjl]) h5.1 (kK _ _ _ _ _ _ ?_)
    rcases swc_ok hs with ⟨q, q1, q2, q3, q4⟩ | ⟨q1, q2⟩
    · obtain ⟨j, hj⟩ := List.getElem?_of_mem q1
      have hjl2 : j < offs.toList.length := by rw [← w1]; exact (List.getElem?_eq_some_iff.mp hj).1
      have h6 := w4 j hjl2
      rw [hj, List.getElem?_eq_getElem hjl2] at h6
      simp only [Bool.and_eq_true, decide_eq_true_eq] at h6
      have e : j = (x.toInt - lo).toNat := by
        have := h6.2
        rw [← q2] at this
        omega
      subst e
      have e2 : sw[(x.toInt - lo).toNat] = q := by
        have := hj
        rw [List.getElem?_eq_getElem hjs] at this
        exact Option.some.inj this
      rw [e2]; exact q3
    · exact absurd hx (q1 _ (List.getElem_mem hjs))
theorem lsw_at {pc : Nat} {x : Int32} {d : Int} {t : Nat} (ht : (pc : Int) + d = (t : Int)) : ∀ (ps : List (Int × Int)) (sw : List (Int32 × Nat)), lsw_ pc ps sw = true → ∀ {k : Nat → Prop} {dd : Prop}, swc x sw k dd → (dd → k t) → ∃ t' : Nat, (pc : Int) + Op.lookupswitch.offset ps d x.toInt = (t' : Int) ∧ k t'
  | [], [], _, k, dd, hs, hk => ⟨t, by simpa [Op.lookupswitch.offset] using ht, hk hs⟩
  | a :: r, q :: s, hw, k, dd, hs, hk => by
    simp only [lsw_, Bool.and_eq_true, decide_eq_true_eq] at hw
    obtain ⟨⟨w1, w2⟩, w3⟩ := hw
    by_cases e : x = q.1
    · refine ⟨q.2, ?_, hs.1 e⟩
      have e2 : x.toInt = a.1 := by rw [e]; exact w2
      simp [Op.lookupswitch.offset, e2, w1]
    · obtain ⟨t', h1, h2⟩ := lsw_at ht r s w3 (hs.2 e) hk
      refine ⟨t', ?_, h2⟩
      have e2 : ¬ x.toInt = a.1 := fun hh => e (Int32.toInt_inj.mp (by rw [hh, w2]))
      rw [← h1]
      have e3 : ¬ a.1 = x.toInt := fun hh => e2 hh.symm
      simp [Op.lookupswitch.offset, e2, e3]
  | [], _ :: _, hw, _, _, _, _ => by simp [lsw_] at hw
  | _ :: _, [], hw, _, _, _, _ => by simp [lsw_] at hw
theorem lsw_ok {d : Int} {ps : Array (Int × Int)} {ln : Nat} {x : Int32} {t : Nat} {sw : List (Int32 × Nat)} (hd : decode M.2.1 pc = .ok (.lookupswitch d ps, ln)) (ht : (pc : Int) + d = (t : Int)) (hp : (ps.toList.zip (ps.toList.drop 1)).all (fun (a, next) => a.1 < next.1) = true) (hw : lsw_ pc ps.toList sw = true) (kK : ∀ cs sl pc ls st h, K cs sl pc ls st h → Wp g n mc ms M h0 Q cs sl pc ls st h)
    (hs : swc x sw (fun t => K cs sl t ls st h) (K cs sl t ls st h)) : Wp g n mc ms M h0 Q cs sl pc ls (.int x :: st) h := by
  obtain ⟨t', h1, h2⟩ := lsw_at (x := x) ht ps.toList sw hw hs id
  exact wr_lookup hd hp rfl h1 (kK _ _ _ _ _ _ h2)
theorem fin_of {a b : Nat} {r : vw_C} (h : vwCl[a]? = some r) : fin_ a b = (r.2.1 b).2.2.2 := by unfold fin_; rw [h]
theorem ptf_ok {x a b c t o : Nat} {y : Value} (hC : ct_ok M.1.cls C) (hd : decode M.2.1 pc = .ok (.putfield x, 3)) (he : (c = 0 ∧ (x, a, b) ∈ C.1 ∧ fin_ a b = false) ∨ (c = 1 ∧ (x, a, b) ∈ C.2.1 ∧ fin_ a b = true ∧ M.1.name = "<init>")) (ht : t = fcode (ftX a b)) (ho : hK h o = a + 1) (hp : ptf t a b y)
    (k : Wp g n mc ms M h0 Q cs sl (pc + 3) ls st (setV t h o b y)) : Wp g n mc ms M h0 Q cs sl pc ls (y :: .ref o :: st) h := by
  have hv : okV t y := by
    unfold ptf at hp; unfold okV
    split at hp <;> first | trivial | exact hp.elim
  have hnf : narrow (ftX a b) y = y ∧ fits (ftX a b) y = true := by
    unfold ptf at hp
    split at hp
    · next z =>
      split at hp
      · next e => rw [e]; exact ⟨rfl, rfl⟩
      · next e =>
        rw [e]
        rcases hp with rfl | rfl
        · exact ⟨by decide, by decide⟩
        · exact ⟨by decide, by decide⟩
      · exact hp.elim
    · next z =>
      cases hf : ftX a b <;> rw [hf] at ht <;> simp [fcode] at ht
      exact ⟨rfl, rfl⟩
    · next z =>
      cases hf : ftX a b <;> rw [hf] at ht <;> simp [fcode] at ht
      · exact ⟨rfl, rfl⟩
      · exact ⟨rfl, rfl⟩
    · cases hf : ftX a b <;> rw [hf] at ht <;> simp [fcode] at ht
      · exact ⟨rfl, rfl⟩
      · exact ⟨rfl, rfl⟩
    · exact hp.elim
  rcases he with ⟨-, h1, h2⟩ | ⟨-, h1, h2, h3⟩
  · obtain ⟨r, q1, q2, q3, q4, q5⟩ := hC.1 _ h1
    exact wr_putfield hd q1 q2 q3 q4 q5 (by rw [← fin_of q1]; exact h2) ht.symm hv hnf.1 hnf.2 ho k
  · obtain ⟨r, q1, q2, q3, q4, q5, q6⟩ := hC.2.1 _ h1
    exact wr_putfinal hd q1 q2 q3 q4 q5 (by rw [← fin_of q1]; exact h2) h3 q6 ht.symm hv hnf.1 hnf.2 ho k
theorem scl_ok {x a b t mc2 ms2 : Nat} (hC : ct_ok M.1.cls C) (hd : decode M.2.1 pc = .ok (.invokestatic x, 3)) (he : (a = 0 ∧ (x, b) ∈ C.2.2.1 ∧ (b, t) ∈ mS_) ∨ ((a = 7 ∨ a = 8 ∨ a = 9) ∧ (x, a) ∈ C.2.2.2.2.2.2.2.1)) (kK : ∀ cs sl pc ls st h, K cs sl pc ls st h → Wp g n mc ms M h0 Q cs sl pc ls st h) (kL : ∀ cs sl pc ls st h, L cs sl pc ls st h → Wp g n mc ms M h0 Q cs sl pc ls st h)
    (hs : scl a st (0 < n ∧ ((st.drop t).map fun v => v.category).sum ≤ 8 ∧ cs + mc2 ≤ mc ∧ sl + ms2 ≤ ms ∧ t ≤ st.length ∧ Call g (n - 1) mc2 ms2 (mtab b) (st.take t).reverse h (fun rv h2 => L (cs + mc2) (sl + ms2) (pc + 3) ls (rv.toList ++ st.drop t) h2)) (fun y s => (s.map fun v => v.category).sum ≤ 8 ∧ cs ≤ mc ∧ sl ≤ ms ∧ K cs sl (pc + 3) ls (y :: s) h)) : Wp g n mc ms M h0 Q cs sl pc ls st h := by
  rcases he with ⟨rfl, h1, h2⟩ | ⟨h1, h2⟩
  · obtain ⟨hn, h8, hc, hsl, hle, k⟩ := hs
    obtain ⟨q1, q2, q3⟩ := mS_ok _ h2
    obtain ⟨n, rfl⟩ : ∃ m, n = m + 1 := ⟨n - 1, by omega⟩
    have e : st = ((st.take t).reverse).reverse ++ st.drop t := by rw [List.reverse_reverse, List.take_append_drop]
    rw [e]
    refine wr_callS hd (hC.2.2.1 _ h1) q1 q2 (by rw [List.length_reverse, List.length_take, Nat.min_eq_left hle]; exact q3) h8 hc hsl ?_
    exact Call.mono k (fun rv h2 q => kL _ _ _ _ _ _ q)
  · rcases h1 with rfl | rfl | rfl
    · obtain ⟨y, s, rfl, hs⟩ := pI_inv hs
      obtain ⟨z, s, rfl, hs⟩ := pI_inv hs
      exact wr_mmax hd (hC.2.2.2.2.2.2.2.1 _ h2) mx_ok.2.1 mx_ok.2.2.2.2.1 mx_ok.1 hs.1 hs.2.1 hs.2.2.1 (kK _ _ _ _ _ _ hs.2.2.2)
    · obtain ⟨y, s, rfl, hs⟩ := pI_inv hs
      obtain ⟨z, s, rfl, hs⟩ := pI_inv hs
      exact wr_mmin hd (hC.2.2.2.2.2.2.2.1 _ h2) mx_ok.2.2.2.1 mx_ok.2.2.2.2.1 mx_ok.2.2.1 hs.1 hs.2.1 hs.2.2.1 (kK _ _ _ _ _ _ hs.2.2.2)
    · obtain ⟨y, s, rfl, hs⟩ := pI_inv hs
      exact wr_mabs hd (hC.2.2.2.2.2.2.2.1 _ h2) mx_ok.2.2.2.2.2.2 mx_ok.2.2.2.2.1 mx_ok.2.2.2.2.2.1 hs.1 hs.2.1 hs.2.2.1 (kK _ _ _ _ _ _ hs.2.2.2)
theorem vcl_ok {x b c t mc2 ms2 : Nat} (hC : ct_ok M.1.cls C) (hd : decode M.2.1 pc = .ok (.invokevirtual x, 3)) (he : (x, b) ∈ C.2.2.1 ∧ (b, t, c) ∈ mV_) (kL : ∀ cs sl pc ls st h, L cs sl pc ls st h → Wp g n mc ms M h0 Q cs sl pc ls st h)
    (hs : 0 < n ∧ pA (st.drop t) fun o s => hK h o = c ∧ (s.map fun v => v.category).sum ≤ 8 ∧ cs + mc2 ≤ mc ∧ sl + ms2 ≤ ms ∧ t ≤ st.length ∧ Call g (n - 1) mc2 ms2 (mtab b) (.ref o :: (st.take t).reverse) h (fun rv h2 => L (cs + mc2) (sl + ms2) (pc + 3) ls (rv.toList ++ s) h2)) : Wp g n mc ms M h0 Q cs sl pc ls st h := by
  obtain ⟨hn, hs⟩ := hs
  obtain ⟨o, s, e0, ho, h8, hc, hsl, hle, k⟩ := pA_inv hs
  obtain ⟨q1, q2, q3, q4, q5⟩ := mV_ok _ he.2
  obtain ⟨n, rfl⟩ : ∃ m, n = m + 1 := ⟨n - 1, by omega⟩
  have e : st = ((st.take t).reverse).reverse ++ .ref o :: s := by rw [List.reverse_reverse, ← e0, List.take_append_drop]
  rw [e]
  refine wr_callV hd (hC.2.2.1 _ he.1) q1 q2 q3 (by rw [List.length_reverse, List.length_take, Nat.min_eq_left hle]; exact q4) h8 hc hsl ?_ ?_
  · rcases q5 with ⟨ci, r, a1, a2, a3⟩ | ⟨a1, a2⟩
    · exact Or.inl ⟨ci, r, a1, ho.trans a2, a3⟩
    · exact Or.inr ⟨ho.trans a1, a2⟩
  · exact Call.mono k (fun rv h2 q => kL _ _ _ _ _ _ q)
theorem icl_ok {x a b t mc2 ms2 : Nat} (hC : ct_ok M.1.cls C) (hd : decode M.2.1 pc = .ok (.invokespecial x, 3)) (he : (a = 6 ∧ x ∈ C.2.2.2.2.2.2.2.2) ∨ (a = 0 ∧ (x, b) ∈ C.2.2.1 ∧ (b, t) ∈ mI_)) (kK : ∀ cs sl pc ls st h, K cs sl pc ls st h → Wp g n mc ms M h0 Q cs sl pc ls st h) (kL : ∀ cs sl pc ls st h, L cs sl pc ls st h → Wp g n mc ms M h0 Q cs sl pc ls st h)
    (hs : icl a st ((st.map fun v => v.category).sum ≤ 8 ∧ pA st fun _ s => K cs sl (pc + 3) ls s h) (0 < n ∧ pA (st.drop t) fun o s => (s.map fun v => v.category).sum ≤ 8 ∧ cs + mc2 ≤ mc ∧ sl + ms2 ≤ ms ∧ t ≤ st.length ∧ Call g (n - 1) mc2 ms2 (mtab b) (.ref o :: (st.take t).reverse) h (fun rv h2 => L (cs + mc2) (sl + ms2) (pc + 3) ls (rv.toList ++ s) h2))) : Wp g n mc ms M h0 Q cs sl pc ls st h := by
  rcases he with ⟨rfl, h1⟩ | ⟨rfl, h1, h2⟩
  · obtain ⟨h8, hs⟩ := hs
    obtain ⟨o, s, rfl, hs⟩ := pA_inv hs
    refine wr_objInit hd (hC.2.2.2.2.2.2.2.2 _ h1) oi_ok.1 oi_ok.2 ?_ (kK _ _ _ _ _ _ hs)
    simp only [List.map_cons, List.sum_cons] at h8
    omega
  · obtain ⟨hn, hs⟩ := hs
    obtain ⟨o, s, e0, h8, hc, hsl, hle, k⟩ := pA_inv hs
    obtain ⟨q1, q2, q3, q4, q5⟩ := mI_ok _ h2
    obtain ⟨n, rfl⟩ : ∃ m, n = m + 1 := ⟨n - 1, by omega⟩
    have e : st = ((st.take t).reverse).reverse ++ .ref o :: s := by rw [List.reverse_reverse, ← e0, List.take_append_drop]
    rw [e]
    refine wr_callI hd (hC.2.2.1 _ h1) q1 q2 q4 q5 (by rw [List.length_reverse, List.length_take, Nat.min_eq_left hle]; exact q3) h8 hc hsl ?_
    exact Call.mono k (fun rv h2 q => kL _ _ _ _ _ _ q)
theorem rti_ok {a : Nat} {y : Value} (hd : decode M.2.1 pc = .ok (.ireturn, 1)) (hok : rt_ a M.2.2.2 = true) (hc : cs ≤ mc) (hs : sl ≤ ms) (q : rti a y (fun x => Q (some (.int x)) h)) : Wp g n mc ms M h0 Q cs sl pc ls [y] h := by
  unfold rti at q
  split at q
  · next x =>
    unfold rt_ at hok
    split at hok
    · next e => exact wr_ireturn hd e rfl hc hs q.2
    · next e =>
      refine wr_ireturn hd e ?_ hc hs q.2
      rcases q.1 with rfl | rfl <;> decide
    · next e => exact wr_ireturn hd e q.1 hc hs q.2
    · next e => exact wr_ireturn hd e q.1 hc hs q.2
    · cases hok
  · exact q.elim
theorem wr_ldcS {i j : Nat} {tx : String} (hd : decode M.2.1 pc = .ok (.ldc i, 2)) (hw : (M.1.cls, i, tx, j) ∈ strTab) (k : Wp g n mc ms M h0 Q cs sl (pc + 2) ls (.ref (g.2.2 j) :: st) h) : Wp g n mc ms M h0 Q cs sl pc ls st h :=
  fun p e s m args below meth c H locs lsA hX hE hz hr hS hA hl => va_ldcS hX.1 hX.2.1 hX.2.2.2.2.1 (hE.2.1 _ hw) hd (k p e s m args below meth c H locs lsA hX hE hz hr hS hA hl)
theorem ldc_ok {x a b : Nat} {v : Int32} (hC : ct_ok M.1.cls C) (hd : decode M.2.1 pc = .ok (.ldc x, 2)) (hok : ((a == 0 && decide ((x, v) ∈ C.2.2.2.2.2.1)) || (a == 1 && strTab.any (fun q => q.1 == M.1.cls && q.2.1 == x && q.2.2.2 == b))) = true) (k : Wp g n mc ms M h0 Q cs sl (pc + 2) ls (ldv a v (g.2.2 b) :: st) h) : Wp g n mc ms M h0 Q cs sl pc ls st h := by
  rcases Bool.or_eq_true_iff.mp hok with h1 | h1
  · obtain ⟨h2, h3⟩ := Bool.and_eq_true_iff.mp h1
    have e := eq_of_beq h2
    subst e
    exact wr_ldc hd (hC.2.2.2.2.2.1 _ (of_decide_eq_true h3)) k
  · obtain ⟨h2, h3⟩ := Bool.and_eq_true_iff.mp h1
    have e := eq_of_beq h2
    subst e
    obtain ⟨q, hq, h4⟩ := List.any_eq_true.mp h3
    obtain ⟨h5, h6⟩ := Bool.and_eq_true_iff.mp h4
    obtain ⟨h7, h8⟩ := Bool.and_eq_true_iff.mp h5
    obtain ⟨q1, q2, q3, q4⟩ := q
    have e1 := eq_of_beq h7
    have e2 := eq_of_beq h8
    have e3 := eq_of_beq h6
    dsimp only at e1 e2 e3
    subst e1 e2 e3
    exact wr_ldcS hd hq k
theorem rta_ok {z : Value} (hd : decode M.2.1 pc = .ok (.areturn, 1)) (hok : rta_ M.2.2.2 = true) (hz : (∃ a, z = .ref a) ∨ z = .null) (hc : cs ≤ mc) (hs : sl ≤ ms) (q : Q (some z) h) : Wp g n mc ms M h0 Q cs sl pc ls [z] h := by
  unfold rta_ at hok
  split at hok
  · next e => exact wr_areturn hd e (Or.inl ⟨_, rfl⟩) hz.symm hc hs q
  · next e => exact wr_areturn hd e (Or.inr ⟨_, rfl⟩) hz.symm hc hs q
  · cases hok

/-- a step: K goes on, L behind a call -/
def stp (g : gx) (n mc ms : Nat) (Q : Option Value → hp → Prop) (K L : Nat → Nat → Nat → List (Option Value) → List Value → hp → Prop) (r : rw_) (cs sl pc : Nat) (ls : List (Option Value)) (st : List Value) (h : hp) : Prop := match r with
  | (i, _, t, v, w, a, b, c, mc2, ms2, sw) => match i with
    | .aconst_null => K cs sl (pc + 1) ls (.null :: st) h
    | .iconst x => K cs sl (pc + 1) ls (.int v :: st) h
    | .bipush x => K cs sl (pc + 2) ls (.int v :: st) h
    | .sipush x => K cs sl (pc + 3) ls (.int v :: st) h
    | .lconst x => K cs sl (pc + 1) ls (.long w :: st) h
    | .ldc x => K cs sl (pc + 2) ls (ldv a v (g.2.2 b) :: st) h
    | .ldc_w x => K cs sl (pc + 3) ls (.int v :: st) h
    | .ldc2_w x => K cs sl (pc + 3) ls (.long w :: st) h
    | .iload_n x => lI ls t fun y => K cs sl (pc + 1) ls (.int y :: st) h
    | .iload x => lI ls t fun y => K cs sl (pc + 2) ls (.int y :: st) h
    | .lload_n x => lJ ls t fun y => K cs sl (pc + 1) ls (.long y :: st) h
    | .lload x => lJ ls t fun y => K cs sl (pc + 2) ls (.long y :: st) h
    | .aload_n x => lA ls t fun y => K cs sl (pc + 1) ls (y :: st) h
    | .aload x => lA ls t fun y => K cs sl (pc + 2) ls (y :: st) h
    | .istore_n x => pI st fun y s => K cs sl (pc + 1) (lc_set1 ls t (.int y)) s h
    | .istore x => pI st fun y s => K cs sl (pc + 2) (lc_set1 ls t (.int y)) s h
    | .lstore_n x => pJ st fun y s => K cs sl (pc + 1) (lc_set2 ls t (.long y)) s h
    | .lstore x => pJ st fun y s => K cs sl (pc + 2) (lc_set2 ls t (.long y)) s h
    | .astore_n x => pN st fun y s => K cs sl (pc + 1) (lc_set1 ls t y) s h
    | .astore x => pN st fun y s => K cs sl (pc + 2) (lc_set1 ls t y) s h
    | .iinc x z => lI ls t fun y => K cs sl (pc + 3) (lc_set1 ls t (.int (y + v))) st h
    | .iadd => pI st fun y s0 => pI s0 fun x s1 => K cs sl (pc + 1) ls (.int (x + y) :: s1) h
    | .isub => pI st fun y s0 => pI s0 fun x s1 => K cs sl (pc + 1) ls (.int (x - y) :: s1) h
    | .imul => pI st fun y s0 => pI s0 fun x s1 => K cs sl (pc + 1) ls (.int (x * y) :: s1) h
    | .iand => pI st fun y s0 => pI s0 fun x s1 => K cs sl (pc + 1) ls (.int (x &&& y) :: s1) h
    | .ior => pI st fun y s0 => pI s0 fun x s1 => K cs sl (pc + 1) ls (.int (x ||| y) :: s1) h
    | .ixor => pI st fun y s0 => pI s0 fun x s1 => K cs sl (pc + 1) ls (.int (x ^^^ y) :: s1) h
    | .ishl => pI st fun y s0 => pI s0 fun x s1 => K cs sl (pc + 1) ls (.int (x <<< (y &&& 31)) :: s1) h
    | .ishr => pI st fun y s0 => pI s0 fun x s1 => K cs sl (pc + 1) ls (.int (x >>> (y &&& 31)) :: s1) h
    | .iushr => pI st fun y s0 => pI s0 fun x s1 => K cs sl (pc + 1) ls (.int ((x.toUInt32 >>> (y.toUInt32 &&& Int32.toUInt32 31)).toInt32) :: s1) h
    | .ladd => pJ st fun y s0 => pJ s0 fun x s1 => K cs sl (pc + 1) ls (.long (x + y) :: s1) h
    | .lsub => pJ st fun y s0 => pJ s0 fun x s1 => K cs sl (pc + 1) ls (.long (x - y) :: s1) h
    | .lmul => pJ st fun y s0 => pJ s0 fun x s1 => K cs sl (pc + 1) ls (.long (x * y) :: s1) h
    | .land => pJ st fun y s0 => pJ s0 fun x s1 => K cs sl (pc + 1) ls (.long (x &&& y) :: s1) h
    | .lor => pJ st fun y s0 => pJ s0 fun x s1 => K cs sl (pc + 1) ls (.long (x ||| y) :: s1) h
    | .ldiv => pJ st fun y s0 => pJ s0 fun x s1 => (¬ y = 0) ∧ K cs sl (pc + 1) ls (.long (x / y) :: s1) h
    | .lrem => pJ st fun y s0 => pJ s0 fun x s1 => (¬ y = 0) ∧ K cs sl (pc + 1) ls (.long (x - x / y * y) :: s1) h
    | .lcmp => pJ st fun y s0 => pJ s0 fun x s1 => K cs sl (pc + 1) ls (.int (lg_cmp x y) :: s1) h
    | .i2l => pI st fun x s0 => K cs sl (pc + 1) ls (.long x.toInt64 :: s0) h
    | .l2i => pJ st fun x s0 => K cs sl (pc + 1) ls (.int x.toInt32 :: s0) h
    | .i2b => pI st fun x s0 => K cs sl (pc + 1) ls (.int x.toInt8.toInt32 :: s0) h
    | .dup => p1 st fun y s => K cs sl (pc + 1) ls (y :: y :: s) h
    | .pop => p1 st fun y s => K cs sl (pc + 1) ls s h
    | .dup2 => p1 st fun y s0 => p1 s0 fun x s => K cs sl (pc + 1) ls (y :: x :: y :: x :: s) h
    | .goto off => K cs sl t ls st h
    | .ifCond .eq off => pI st fun x s => (x = 0 → K cs sl t ls s h) ∧ (¬ x = 0 → K cs sl (pc + 3) ls s h)
    | .ifCond .ne off => pI st fun x s => (¬ x = 0 → K cs sl t ls s h) ∧ (x = 0 → K cs sl (pc + 3) ls s h)
    | .ifCond .lt off => pI st fun x s => (x < 0 → K cs sl t ls s h) ∧ (¬ x < 0 → K cs sl (pc + 3) ls s h)
    | .ifCond .ge off => pI st fun x s => (0 ≤ x → K cs sl t ls s h) ∧ (¬ 0 ≤ x → K cs sl (pc + 3) ls s h)
    | .ifCond .gt off => pI st fun x s => (0 < x → K cs sl t ls s h) ∧ (¬ 0 < x → K cs sl (pc + 3) ls s h)
    | .ifCond .le off => pI st fun x s => (x ≤ 0 → K cs sl t ls s h) ∧ (¬ x ≤ 0 → K cs sl (pc + 3) ls s h)
    | .if_icmp .eq off => pI st fun y s0 => pI s0 fun x s => (x = y → K cs sl t ls s h) ∧ (¬ x = y → K cs sl (pc + 3) ls s h)
    | .if_icmp .ne off => pI st fun y s0 => pI s0 fun x s => (¬ x = y → K cs sl t ls s h) ∧ (x = y → K cs sl (pc + 3) ls s h)
    | .if_icmp .lt off => pI st fun y s0 => pI s0 fun x s => (x < y → K cs sl t ls s h) ∧ (¬ x < y → K cs sl (pc + 3) ls s h)
    | .if_icmp .ge off => pI st fun y s0 => pI s0 fun x s => (y ≤ x → K cs sl t ls s h) ∧ (¬ y ≤ x → K cs sl (pc + 3) ls s h)
    | .if_icmp .gt off => pI st fun y s0 => pI s0 fun x s => (y < x → K cs sl t ls s h) ∧ (¬ y < x → K cs sl (pc + 3) ls s h)
    | .if_icmp .le off => pI st fun y s0 => pI s0 fun x s => (x ≤ y → K cs sl t ls s h) ∧ (¬ x ≤ y → K cs sl (pc + 3) ls s h)
    | .ifnull off => pN st fun y s => nl_ y (K cs sl t ls s h) (K cs sl (pc + 3) ls s h)
    | .ifnonnull off => pN st fun y s => nl_ y (K cs sl (pc + 3) ls s h) (K cs sl t ls s h)
    | .tableswitch d lo hi offs => pI st fun x s => swc x sw (fun t => K cs sl t ls s h) (K cs sl t ls s h)
    | .lookupswitch d ps => pI st fun x s => swc x sw (fun t => K cs sl t ls s h) (K cs sl t ls s h)
    | .getfield x => pA st fun o s => hK h o = a + 1 ∧ gtf t h o b (fun y => K cs sl (pc + 3) ls (y :: s) h)
    | .putfield x => pV st fun y s0 => pA s0 fun o s => hK h o = a + 1 ∧ ptf t a b y ∧ K cs sl (pc + 3) ls s (setV t h o b y)
    | .iaload => pI st fun i s0 => pA s0 fun o s => hK h o = 20 ∧ vp_in i (hN h o) ∧ K cs sl (pc + 1) ls (.int (hI h o i.toNatClampNeg) :: s) h
    | .baload => pI st fun i s0 => pA s0 fun o s => (hK h o = 21 ∨ hK h o = 22) ∧ vp_in i (hN h o) ∧ K cs sl (pc + 1) ls (.int (hI h o i.toNatClampNeg) :: s) h
    | .laload => pI st fun i s0 => pA s0 fun o s => hK h o = 23 ∧ vp_in i (hN h o) ∧ K cs sl (pc + 1) ls (.long (hJ h o i.toNatClampNeg) :: s) h
    | .aaload => pI st fun i s0 => pA s0 fun o s => (hK h o = 24 ∨ hK h o = 25) ∧ vp_in i (hN h o) ∧ rfc (hR h o i.toNatClampNeg) (fun y => K cs sl (pc + 1) ls (y :: s) h)
    | .arraylength => pA st fun o s => (20 ≤ hK h o ∧ hK h o < 26) ∧ K cs sl (pc + 1) ls (.int (Int32.ofNat (hN h o)) :: s) h
    | .iastore => pI st fun x s0 => pI s0 fun i s1 => pA s1 fun o s => hK h o = 20 ∧ vp_in i (hN h o) ∧ K cs sl (pc + 1) ls s (setI h o i.toNatClampNeg x)
    | .bastore => pI st fun x s0 => pI s0 fun i s1 => pA s1 fun o s => ((a = 1 ∧ hK h o = 21) ∨ (a = 2 ∧ hK h o = 22)) ∧ vp_in i (hN h o) ∧ K cs sl (pc + 1) ls s (setI h o i.toNatClampNeg (nb_ a x))
    | .lastore => pJ st fun x s0 => pI s0 fun i s1 => pA s1 fun o s => hK h o = 23 ∧ vp_in i (hN h o) ∧ K cs sl (pc + 1) ls s (setJ h o i.toNatClampNeg x)
    | .aastore => pA st fun y s0 => pI s0 fun i s1 => pA s1 fun o s => ((hK h o = 24 ∧ hK h y = 8) ∨ (hK h o = 25 ∧ hK h y = 3)) ∧ vp_in i (hN h o) ∧ K cs sl (pc + 1) ls s (setR h o i.toNatClampNeg (some y))
    | .new x => cs + 1 ≤ mc ∧ sl + b ≤ ms ∧ K (cs + 1) (sl + b) (pc + 3) ls (.ref (hZ h) :: st) (mkC h (a + 1) 0)
    | .newarray x => pI st fun y s => (¬ y < 0) ∧ y.toNatClampNeg ≤ 67108864 ∧ cs + 1 ≤ mc ∧ sl + y.toNatClampNeg ≤ ms ∧ K (cs + 1) (sl + y.toNatClampNeg) (pc + 2) ls (.ref (hZ h) :: s) (mkC h (20 + a) y.toNatClampNeg)
    | .anewarray x => pI st fun y s => (¬ y < 0) ∧ y.toNatClampNeg ≤ 67108864 ∧ cs + 1 ≤ mc ∧ sl + y.toNatClampNeg ≤ ms ∧ K (cs + 1) (sl + y.toNatClampNeg) (pc + 3) ls (.ref (hZ h) :: s) (mkC h (20 + a) y.toNatClampNeg)
    | .invokestatic x => scl a st (0 < n ∧ ((st.drop t).map fun v => v.category).sum ≤ 8 ∧ cs + mc2 ≤ mc ∧ sl + ms2 ≤ ms ∧ t ≤ st.length ∧ Call g (n - 1) mc2 ms2 (mtab b) (st.take t).reverse h (fun rv h2 => L (cs + mc2) (sl + ms2) (pc + 3) ls (rv.toList ++ st.drop t) h2)) (fun y s => (s.map fun v => v.category).sum ≤ 8 ∧ cs ≤ mc ∧ sl ≤ ms ∧ K cs sl (pc + 3) ls (y :: s) h)
    | .invokevirtual x => 0 < n ∧ pA (st.drop t) fun o s => hK h o = c ∧ (s.map fun v => v.category).sum ≤ 8 ∧ cs + mc2 ≤ mc ∧ sl + ms2 ≤ ms ∧ t ≤ st.length ∧ Call g (n - 1) mc2 ms2 (mtab b) (.ref o :: (st.take t).reverse) h (fun rv h2 => L (cs + mc2) (sl + ms2) (pc + 3) ls (rv.toList ++ s) h2)
    | .invokespecial x => icl a st ((st.map fun v => v.category).sum ≤ 8 ∧ pA st fun _ s => K cs sl (pc + 3) ls s h) (0 < n ∧ pA (st.drop t) fun o s => (s.map fun v => v.category).sum ≤ 8 ∧ cs + mc2 ≤ mc ∧ sl + ms2 ≤ ms ∧ t ≤ st.length ∧ Call g (n - 1) mc2 ms2 (mtab b) (.ref o :: (st.take t).reverse) h (fun rv h2 => L (cs + mc2) (sl + ms2) (pc + 3) ls (rv.toList ++ s) h2))
    | .ireturn => pE st fun y => cs ≤ mc ∧ sl ≤ ms ∧ rti a y (fun x => Q (some (.int x)) h)
    | .lreturn => pE st fun y => cs ≤ mc ∧ sl ≤ ms ∧ pJ [y] fun x _ => Q (some (.long x)) h
    | .areturn => pE st fun y => cs ≤ mc ∧ sl ≤ ms ∧ pN [y] fun z _ => Q (some z) h
    | .return_ => p0 st (cs ≤ mc ∧ sl ≤ ms ∧ Q none h)
    | _ => False
/-- what a row must be, to be believed -/
def okB (C : ct_) (M : md_) (pc : Nat) (r : rw_) : Bool := match r with
  | (i, len, t, v, w, a, b, c, _, _, sw) => match i with
    | .aconst_null => len == 1
    | .iconst x => len == 1 && decide (Int32.ofInt x = v)
    | .bipush x => len == 2 && decide ((Int8.ofInt x).toInt32 = v)
    | .sipush x => len == 3 && decide ((Int16.ofInt x).toInt32 = v)
    | .lconst x => len == 1 && decide (Int64.ofNat (x : Nat) = w)
    | .ldc x => len == 2 && ((a == 0 && decide ((x, v) ∈ C.2.2.2.2.2.1)) || (a == 1 && strTab.any (fun q => q.1 == M.1.cls && q.2.1 == x && q.2.2.2 == b)))
    | .ldc_w x => len == 3 && decide ((x, v) ∈ C.2.2.2.2.2.1)
    | .ldc2_w x => len == 3 && decide ((x, w) ∈ C.2.2.2.2.2.2.1)
    | .iload_n x => len == 1 && decide ((x : Nat) = t)
    | .iload x => len == 2 && decide (x = t)
    | .lload_n x => len == 1 && decide ((x : Nat) = t)
    | .lload x => len == 2 && decide (x = t)
    | .aload_n x => len == 1 && decide ((x : Nat) = t)
    | .aload x => len == 2 && decide (x = t)
    | .istore_n x => len == 1 && decide ((x : Nat) = t ∧ t < M.2.2.1)
    | .istore x => len == 2 && decide (x = t ∧ t < M.2.2.1)
    | .lstore_n x => len == 1 && decide ((x : Nat) = t ∧ t + 1 < M.2.2.1)
    | .lstore x => len == 2 && decide (x = t ∧ t + 1 < M.2.2.1)
    | .astore_n x => len == 1 && decide ((x : Nat) = t ∧ t < M.2.2.1)
    | .astore x => len == 2 && decide (x = t ∧ t < M.2.2.1)
    | .iinc x z => len == 3 && decide (x = t ∧ Int32.ofInt z = v ∧ t < M.2.2.1)
    | .iadd => len == 1
    | .isub => len == 1
    | .imul => len == 1
    | .iand => len == 1
    | .ior => len == 1
    | .ixor => len == 1
    | .ishl => len == 1
    | .ishr => len == 1
    | .iushr => len == 1
    | .ladd => len == 1
    | .lsub => len == 1
    | .lmul => len == 1
    | .land => len == 1
    | .lor => len == 1
    | .ldiv => len == 1
    | .lrem => len == 1
    | .lcmp => len == 1
    | .i2l => len == 1
    | .l2i => len == 1
    | .i2b => len == 1
    | .dup => len == 1
    | .pop => len == 1
    | .dup2 => len == 1
    | .goto off => len == 3 && decide ((pc : Int) + off = (t : Int))
    | .ifCond .eq off => len == 3 && decide ((pc : Int) + off = (t : Int))
    | .ifCond .ne off => len == 3 && decide ((pc : Int) + off = (t : Int))
    | .ifCond .lt off => len == 3 && decide ((pc : Int) + off = (t : Int))
    | .ifCond .ge off => len == 3 && decide ((pc : Int) + off = (t : Int))
    | .ifCond .gt off => len == 3 && decide ((pc : Int) + off = (t : Int))
    | .ifCond .le off => len == 3 && decide ((pc : Int) + off = (t : Int))
    | .if_icmp .eq off => len == 3 && decide ((pc : Int) + off = (t : Int))
    | .if_icmp .ne off => len == 3 && decide ((pc : Int) + off = (t : Int))
    | .if_icmp .lt off => len == 3 && decide ((pc : Int) + off = (t : Int))
    | .if_icmp .ge off => len == 3 && decide ((pc : Int) + off = (t : Int))
    | .if_icmp .gt off => len == 3 && decide ((pc : Int) + off = (t : Int))
    | .if_icmp .le off => len == 3 && decide ((pc : Int) + off = (t : Int))
    | .ifnull off => len == 3 && decide ((pc : Int) + off = (t : Int))
    | .ifnonnull off => len == 3 && decide ((pc : Int) + off = (t : Int))
    | .tableswitch d lo hi offs => decide ((pc : Int) + d = (t : Int)) && tsw_ pc lo hi offs.toList sw
    | .lookupswitch d ps => decide ((pc : Int) + d = (t : Int)) && (decide ((ps.toList.zip (ps.toList.drop 1)).all (fun (a, next) => a.1 < next.1) = true) && lsw_ pc ps.toList sw)
    | .getfield x => len == 3 && decide ((x, a, b) ∈ C.1 ∧ t = fcode (ftX a b))
    | .putfield x => len == 3 && decide (((c = 0 ∧ (x, a, b) ∈ C.1 ∧ fin_ a b = false) ∨ (c = 1 ∧ (x, a, b) ∈ C.2.1 ∧ fin_ a b = true ∧ M.1.name = "<init>")) ∧ t = fcode (ftX a b))
    | .iaload => len == 1
    | .baload => len == 1
    | .laload => len == 1
    | .aaload => len == 1
    | .arraylength => len == 1
    | .iastore => len == 1
    | .bastore => len == 1
    | .lastore => len == 1
    | .aastore => len == 1
    | .new x => len == 3 && decide ((x, a, b) ∈ C.2.2.2.1)
    | .newarray x => len == 2 && decide (a < 4 ∧ nat_ a = x)
    | .anewarray x => len == 3 && decide ((x, a) ∈ C.2.2.2.2.1)
    | .invokestatic x => len == 3 && decide ((a = 0 ∧ (x, b) ∈ C.2.2.1 ∧ (b, t) ∈ mS_) ∨ ((a = 7 ∨ a = 8 ∨ a = 9) ∧ (x, a) ∈ C.2.2.2.2.2.2.2.1))
    | .invokevirtual x => len == 3 && decide ((x, b) ∈ C.2.2.1 ∧ (b, t, c) ∈ mV_)
    | .invokespecial x => len == 3 && decide ((a = 6 ∧ x ∈ C.2.2.2.2.2.2.2.2) ∨ (a = 0 ∧ (x, b) ∈ C.2.2.1 ∧ (b, t) ∈ mI_))
    | .ireturn => len == 1 && rt_ a M.2.2.2
    | .lreturn => len == 1 && decide (M.2.2.2 = some .long)
    | .areturn => len == 1 && rta_ M.2.2.2
    | .return_ => len == 1 && decide (M.2.2.2 = none)
    | _ => false
set_option maxHeartbeats 4000000 in
theorem stp_ok {r : rw_} (hC : ct_ok M.1.cls C) (hd : decode M.2.1 pc = .ok (r.1, r.2.1)) (hok : okB C M pc r = true) (kK : ∀ cs sl pc ls st h, K cs sl pc ls st h → Wp g n mc ms M h0 Q cs sl pc ls st h) (kL : ∀ cs sl pc ls st h, L cs sl pc ls st h → Wp g n mc ms M h0 Q cs sl pc ls st h)
    (hs : stp g n mc ms Q K L r cs sl pc ls st h) : Wp g n mc ms M h0 Q cs sl pc ls st h := by
  obtain ⟨i, len, t, v, w, a, b, c, mc2, ms2, sw⟩ := r
  cases i with
  | aconst_null  => have hln := eq_of_beq hok; subst hln; replace hs : K cs sl (pc + 1) ls (.null :: st) h := hs; exact wr_null hd  (kK _ _ _ _ _ _ hs)
  | iconst x => obtain ⟨hln, hok⟩ := Bool.and_eq_true_iff.mp hok; have hln := eq_of_beq hln; subst hln; replace hs : K cs sl (pc + 1) ls (.int v :: st) h := hs; exact wr_iconst hd (of_decide_eq_true hok) (kK _ _ _ _ _ _ hs)
  | bipush x => obtain ⟨hln, hok⟩ := Bool.and_eq_true_iff.mp hok; have hln := eq_of_beq hln; subst hln; replace hs : K cs sl (pc + 2) ls (.int v :: st) h := hs; exact wr_bipush hd (of_decide_eq_true hok) (kK _ _ _ _ _ _ hs)
  | sipush x => obtain ⟨hln, hok⟩ := Bool.and_eq_true_iff.mp hok; have hln := eq_of_beq hln; subst hln; replace hs : K cs sl (pc + 3) ls (.int v :: st) h := hs; exact wr_sipush hd (of_decide_eq_true hok) (kK _ _ _ _ _ _ hs)
  | lconst x => obtain ⟨hln, hok⟩ := Bool.and_eq_true_iff.mp hok; have hln := eq_of_beq hln; subst hln; replace hs : K cs sl (pc + 1) ls (.long w :: st) h := hs; exact wr_lconst hd (of_decide_eq_true hok) (kK _ _ _ _ _ _ hs)
  | ldc x => obtain ⟨hln, hok⟩ := Bool.and_eq_true_iff.mp hok; have hln := eq_of_beq hln; subst hln; replace hs : K cs sl (pc + 2) ls (ldv a v (g.2.2 b) :: st) h := hs; exact ldc_ok hC hd hok (kK _ _ _ _ _ _ hs)
  | ldc_w x => obtain ⟨hln, hok⟩ := Bool.and_eq_true_iff.mp hok; have hln := eq_of_beq hln; subst hln; replace hs : K cs sl (pc + 3) ls (.int v :: st) h := hs; exact wr_ldcw hd (hC.2.2.2.2.2.1 _ (of_decide_eq_true hok)) (kK _ _ _ _ _ _ hs)
  | ldc2_w x => obtain ⟨hln, hok⟩ := Bool.and_eq_true_iff.mp hok; have hln := eq_of_beq hln; subst hln; replace hs : K cs sl (pc + 3) ls (.long w :: st) h := hs; exact wr_ldc2 hd (hC.2.2.2.2.2.2.1 _ (of_decide_eq_true hok)) (kK _ _ _ _ _ _ hs)
  | iload_n x => obtain ⟨hln, hok⟩ := Bool.and_eq_true_iff.mp hok; have hln := eq_of_beq hln; subst hln; replace hs : lI ls t fun y => K cs sl (pc + 1) ls (.int y :: st) h := hs; obtain ⟨y, hy, hs1⟩ := lI_inv hs; exact wr_iload_n hd (of_decide_eq_true hok) hy (kK _ _ _ _ _ _ hs1)
  | iload x => obtain ⟨hln, hok⟩ := Bool.and_eq_true_iff.mp hok; have hln := eq_of_beq hln; subst hln; replace hs : lI ls t fun y => K cs sl (pc + 2) ls (.int y :: st) h := hs; have e := of_decide_eq_true hok; subst e; obtain ⟨y, hy, hs1⟩ := lI_inv hs; exact wr_iload hd hy (kK _ _ _ _ _ _ hs1)
  | lload_n x => obtain ⟨hln, hok⟩ := Bool.and_eq_true_iff.mp hok; have hln := eq_of_beq hln; subst hln; replace hs : lJ ls t fun y => K cs sl (pc + 1) ls (.long y :: st) h := hs; obtain ⟨y, hy, hs1⟩ := lJ_inv hs; exact wr_lload_n hd (of_decide_eq_true hok) hy (kK _ _ _ _ _ _ hs1)
  | lload x => obtain ⟨hln, hok⟩ := Bool.and_eq_true_iff.mp hok; have hln := eq_of_beq hln; subst hln; replace hs : lJ ls t fun y => K cs sl (pc + 2) ls (.long y :: st) h := hs; have e := of_decide_eq_true hok; subst e; obtain ⟨y, hy, hs1⟩ := lJ_inv hs; exact wr_lload hd hy (kK _ _ _ _ _ _ hs1)
  | aload_n x => obtain ⟨hln, hok⟩ := Bool.and_eq_true_iff.mp hok; have hln := eq_of_beq hln; subst hln; replace hs : lA ls t fun y => K cs sl (pc + 1) ls (y :: st) h := hs; obtain ⟨y, hy, hs1⟩ := lA_inv hs; rcases hy with ⟨z, rfl, hy⟩ | ⟨rfl, hy⟩; exact wr_aload_n hd (of_decide_eq_true hok) hy (kK _ _ _ _ _ _ hs1); exact wr_aload_nN hd (of_decide_eq_true hok) hy (kK _ _ _ _ _ _ hs1)
  | aload x => obtain ⟨hln, hok⟩ := Bool.and_eq_true_iff.mp hok; have hln := eq_of_beq hln; subst hln; replace hs : lA ls t fun y => K cs sl (pc + 2) ls (y :: st) h := hs; have e := of_decide_eq_true hok; subst e; obtain ⟨y, hy, hs1⟩ := lA_inv hs; rcases hy with ⟨z, rfl, hy⟩ | ⟨rfl, hy⟩; exact wr_aload hd hy (kK _ _ _ _ _ _ hs1); exact wr_aloadN hd hy (kK _ _ _ _ _ _ hs1)
  | istore_n x => obtain ⟨hln, hok⟩ := Bool.and_eq_true_iff.mp hok; have hln := eq_of_beq hln; subst hln; replace hs : pI st fun y s => K cs sl (pc + 1) (lc_set1 ls t (.int y)) s h := hs; have e := of_decide_eq_true hok; obtain ⟨y, s, rfl, hs1⟩ := pI_inv hs; exact wr_istore_n hd e.1 e.2 (kK _ _ _ _ _ _ hs1)
  | istore x => obtain ⟨hln, hok⟩ := Bool.and_eq_true_iff.mp hok; have hln := eq_of_beq hln; subst hln; replace hs : pI st fun y s => K cs sl (pc + 2) (lc_set1 ls t (.int y)) s h := hs; have e := of_decide_eq_true hok; obtain ⟨y, s, rfl, hs1⟩ := pI_inv hs; obtain ⟨rfl, e⟩ := e; exact wr_istore hd e (kK _ _ _ _ _ _ hs1)
  | lstore_n x => obtain ⟨hln, hok⟩ := Bool.and_eq_true_iff.mp hok; have hln := eq_of_beq hln; subst hln; replace hs : pJ st fun y s => K cs sl (pc + 1) (lc_set2 ls t (.long y)) s h := hs; have e := of_decide_eq_true hok; obtain ⟨y, s, rfl, hs1⟩ := pJ_inv hs; exact wr_lstore_n hd e.1 e.2 (kK _ _ _ _ _ _ hs1)
  | lstore x => obtain ⟨hln, hok⟩ := Bool.and_eq_true_iff.mp hok; have hln := eq_of_beq hln; subst hln; replace hs : pJ st fun y s => K cs sl (pc + 2) (lc_set2 ls t (.long y)) s h := hs; have e := of_decide_eq_true hok; obtain ⟨y, s, rfl, hs1⟩ := pJ_inv hs; obtain ⟨rfl, e⟩ := e; exact wr_lstore hd e (kK _ _ _ _ _ _ hs1)
  | astore_n x => obtain ⟨hln, hok⟩ := Bool.and_eq_true_iff.mp hok; have hln := eq_of_beq hln; subst hln; replace hs : pN st fun y s => K cs sl (pc + 1) (lc_set1 ls t y) s h := hs; have e := of_decide_eq_true hok; obtain ⟨y, s, rfl, hy, hs1⟩ := pN_inv hs; rcases hy with ⟨z, rfl⟩ | rfl; exact wr_astore_n hd e.1 e.2 (kK _ _ _ _ _ _ hs1); exact wr_astore_nN hd e.1 e.2 (kK _ _ _ _ _ _ hs1)
  | astore x => obtain ⟨hln, hok⟩ := Bool.and_eq_true_iff.mp hok; have hln := eq_of_beq hln; subst hln; replace hs : pN st fun y s => K cs sl (pc + 2) (lc_set1 ls t y) s h := hs; have e := of_decide_eq_true hok; obtain ⟨y, s, rfl, hy, hs1⟩ := pN_inv hs; obtain ⟨rfl, e⟩ := e; rcases hy with ⟨z, rfl⟩ | rfl; exact wr_astore hd e (kK _ _ _ _ _ _ hs1); exact wr_astoreN hd e (kK _ _ _ _ _ _ hs1)
  | iinc x z => obtain ⟨hln, hok⟩ := Bool.and_eq_true_iff.mp hok; have hln := eq_of_beq hln; subst hln; replace hs : lI ls t fun y => K cs sl (pc + 3) (lc_set1 ls t (.int (y + v))) st h := hs; have e := of_decide_eq_true hok; obtain ⟨y, hy, hs1⟩ := lI_inv hs; obtain ⟨rfl, e1, e2⟩ := e; exact wr_iinc hd hy e1 e2 (kK _ _ _ _ _ _ hs1)
  | iadd  => have hln := eq_of_beq hok; subst hln; replace hs : pI st fun y s0 => pI s0 fun x s1 => K cs sl (pc + 1) ls (.int (x + y) :: s1) h := hs; obtain ⟨y, s0, rfl, hs1⟩ := pI_inv hs; obtain ⟨x, s1, rfl, hs2⟩ := pI_inv hs1; exact wr_iadd hd  (kK _ _ _ _ _ _ hs2)
  | isub  => have hln := eq_of_beq hok; subst hln; replace hs : pI st fun y s0 => pI s0 fun x s1 => K cs sl (pc + 1) ls (.int (x - y) :: s1) h := hs; obtain ⟨y, s0, rfl, hs1⟩ := pI_inv hs; obtain ⟨x, s1, rfl, hs2⟩ := pI_inv hs1; exact wr_isub hd  (kK _ _ _ _ _ _ hs2)
  | imul  => have hln := eq_of_beq hok; subst hln; replace hs : pI st fun y s0 => pI s0 fun x s1 => K cs sl (pc + 1) ls (.int (x * y) :: s1) h := hs; obtain ⟨y, s0, rfl, hs1⟩ := pI_inv hs; obtain ⟨x, s1, rfl, hs2⟩ := pI_inv hs1; exact wr_imul hd  (kK _ _ _ _ _ _ hs2)
  | iand  => have hln := eq_of_beq hok; subst hln; replace hs : pI st fun y s0 => pI s0 fun x s1 => K cs sl (pc + 1) ls (.int (x &&& y) :: s1) h := hs; obtain ⟨y, s0, rfl, hs1⟩ := pI_inv hs; obtain ⟨x, s1, rfl, hs2⟩ := pI_inv hs1; exact wr_iand hd  (kK _ _ _ _ _ _ hs2)
  | ior  => have hln := eq_of_beq hok; subst hln; replace hs : pI st fun y s0 => pI s0 fun x s1 => K cs sl (pc + 1) ls (.int (x ||| y) :: s1) h := hs; obtain ⟨y, s0, rfl, hs1⟩ := pI_inv hs; obtain ⟨x, s1, rfl, hs2⟩ := pI_inv hs1; exact wr_ior hd  (kK _ _ _ _ _ _ hs2)
  | ixor  => have hln := eq_of_beq hok; subst hln; replace hs : pI st fun y s0 => pI s0 fun x s1 => K cs sl (pc + 1) ls (.int (x ^^^ y) :: s1) h := hs; obtain ⟨y, s0, rfl, hs1⟩ := pI_inv hs; obtain ⟨x, s1, rfl, hs2⟩ := pI_inv hs1; exact wr_ixor hd  (kK _ _ _ _ _ _ hs2)
  | ishl  => have hln := eq_of_beq hok; subst hln; replace hs : pI st fun y s0 => pI s0 fun x s1 => K cs sl (pc + 1) ls (.int (x <<< (y &&& 31)) :: s1) h := hs; obtain ⟨y, s0, rfl, hs1⟩ := pI_inv hs; obtain ⟨x, s1, rfl, hs2⟩ := pI_inv hs1; exact wr_ishl hd  (kK _ _ _ _ _ _ hs2)
  | ishr  => have hln := eq_of_beq hok; subst hln; replace hs : pI st fun y s0 => pI s0 fun x s1 => K cs sl (pc + 1) ls (.int (x >>> (y &&& 31)) :: s1) h := hs; obtain ⟨y, s0, rfl, hs1⟩ := pI_inv hs; obtain ⟨x, s1, rfl, hs2⟩ := pI_inv hs1; exact wr_ishr hd  (kK _ _ _ _ _ _ hs2)
  | iushr  => have hln := eq_of_beq hok; subst hln; replace hs : pI st fun y s0 => pI s0 fun x s1 => K cs sl (pc + 1) ls (.int ((x.toUInt32 >>> (y.toUInt32 &&& Int32.toUInt32 31)).toInt32) :: s1) h := hs; obtain ⟨y, s0, rfl, hs1⟩ := pI_inv hs; obtain ⟨x, s1, rfl, hs2⟩ := pI_inv hs1; exact wr_iushr hd  (kK _ _ _ _ _ _ hs2)
  | ladd  => have hln := eq_of_beq hok; subst hln; replace hs : pJ st fun y s0 => pJ s0 fun x s1 => K cs sl (pc + 1) ls (.long (x + y) :: s1) h := hs; obtain ⟨y, s0, rfl, hs1⟩ := pJ_inv hs; obtain ⟨x, s1, rfl, hs2⟩ := pJ_inv hs1; exact wr_ladd hd  (kK _ _ _ _ _ _ hs2)
  | lsub  => have hln := eq_of_beq hok; subst hln; replace hs : pJ st fun y s0 => pJ s0 fun x s1 => K cs sl (pc + 1) ls (.long (x - y) :: s1) h := hs; obtain ⟨y, s0, rfl, hs1⟩ := pJ_inv hs; obtain ⟨x, s1, rfl, hs2⟩ := pJ_inv hs1; exact wr_lsub hd  (kK _ _ _ _ _ _ hs2)
  | lmul  => have hln := eq_of_beq hok; subst hln; replace hs : pJ st fun y s0 => pJ s0 fun x s1 => K cs sl (pc + 1) ls (.long (x * y) :: s1) h := hs; obtain ⟨y, s0, rfl, hs1⟩ := pJ_inv hs; obtain ⟨x, s1, rfl, hs2⟩ := pJ_inv hs1; exact wr_lmul hd  (kK _ _ _ _ _ _ hs2)
  | land  => have hln := eq_of_beq hok; subst hln; replace hs : pJ st fun y s0 => pJ s0 fun x s1 => K cs sl (pc + 1) ls (.long (x &&& y) :: s1) h := hs; obtain ⟨y, s0, rfl, hs1⟩ := pJ_inv hs; obtain ⟨x, s1, rfl, hs2⟩ := pJ_inv hs1; exact wr_land hd  (kK _ _ _ _ _ _ hs2)
  | lor  => have hln := eq_of_beq hok; subst hln; replace hs : pJ st fun y s0 => pJ s0 fun x s1 => K cs sl (pc + 1) ls (.long (x ||| y) :: s1) h := hs; obtain ⟨y, s0, rfl, hs1⟩ := pJ_inv hs; obtain ⟨x, s1, rfl, hs2⟩ := pJ_inv hs1; exact wr_lor hd  (kK _ _ _ _ _ _ hs2)
  | ldiv  => have hln := eq_of_beq hok; subst hln; replace hs : pJ st fun y s0 => pJ s0 fun x s1 => (¬ y = 0) ∧ K cs sl (pc + 1) ls (.long (x / y) :: s1) h := hs; obtain ⟨y, s0, rfl, hs1⟩ := pJ_inv hs; obtain ⟨x, s1, rfl, hs2⟩ := pJ_inv hs1; exact wr_ldiv hd hs2.1 (kK _ _ _ _ _ _ hs2.2)
  | lrem  => have hln := eq_of_beq hok; subst hln; replace hs : pJ st fun y s0 => pJ s0 fun x s1 => (¬ y = 0) ∧ K cs sl (pc + 1) ls (.long (x - x / y * y) :: s1) h := hs; obtain ⟨y, s0, rfl, hs1⟩ := pJ_inv hs; obtain ⟨x, s1, rfl, hs2⟩ := pJ_inv hs1; exact wr_lrem hd hs2.1 (kK _ _ _ _ _ _ hs2.2)
  | lcmp  => have hln := eq_of_beq hok; subst hln; replace hs : pJ st fun y s0 => pJ s0 fun x s1 => K cs sl (pc + 1) ls (.int (lg_cmp x y) :: s1) h := hs; obtain ⟨y, s0, rfl, hs1⟩ := pJ_inv hs; obtain ⟨x, s1, rfl, hs2⟩ := pJ_inv hs1; exact wr_lcmp hd  (kK _ _ _ _ _ _ hs2)
  | i2l  => have hln := eq_of_beq hok; subst hln; replace hs : pI st fun x s0 => K cs sl (pc + 1) ls (.long x.toInt64 :: s0) h := hs; obtain ⟨x, s0, rfl, hs1⟩ := pI_inv hs; exact wr_i2l hd  (kK _ _ _ _ _ _ hs1)
  | l2i  => have hln := eq_of_beq hok; subst hln; replace hs : pJ st fun x s0 => K cs sl (pc + 1) ls (.int x.toInt32 :: s0) h := hs; obtain ⟨x, s0, rfl, hs1⟩ := pJ_inv hs; exact wr_l2i hd  (kK _ _ _ _ _ _ hs1)
  | i2b  => have hln := eq_of_beq hok; subst hln; replace hs : pI st fun x s0 => K cs sl (pc + 1) ls (.int x.toInt8.toInt32 :: s0) h := hs; obtain ⟨x, s0, rfl, hs1⟩ := pI_inv hs; exact wr_i2b hd  (kK _ _ _ _ _ _ hs1)
  | dup  => have hln := eq_of_beq hok; subst hln; replace hs : p1 st fun y s => K cs sl (pc + 1) ls (y :: y :: s) h := hs; obtain ⟨y, s, rfl, hc, hs1⟩ := p1_inv hs; exact wr_dup hd hc (kK _ _ _ _ _ _ hs1)
  | pop  => have hln := eq_of_beq hok; subst hln; replace hs : p1 st fun y s => K cs sl (pc + 1) ls s h := hs; obtain ⟨y, s, rfl, hc, hs1⟩ := p1_inv hs; exact wr_pop hd hc (kK _ _ _ _ _ _ hs1)
  | dup2  => have hln := eq_of_beq hok; subst hln; replace hs : p1 st fun y s0 => p1 s0 fun x s => K cs sl (pc + 1) ls (y :: x :: y :: x :: s) h := hs; obtain ⟨y, s0, rfl, hc, hs1⟩ := p1_inv hs; obtain ⟨x, s, rfl, hc2, hs2⟩ := p1_inv hs1; exact wr_dup2 hd hc hc2 (kK _ _ _ _ _ _ hs2)
  | goto off => obtain ⟨hln, hok⟩ := Bool.and_eq_true_iff.mp hok; have hln := eq_of_beq hln; subst hln; replace hs : K cs sl t ls st h := hs; exact wr_goto hd (of_decide_eq_true hok) (kK _ _ _ _ _ _ hs)
  | ifCond q off =>
    cases q with
    | eq => obtain ⟨hln, hok⟩ := Bool.and_eq_true_iff.mp hok; have hln := eq_of_beq hln; subst hln; replace hs : pI st fun x s => (x = 0 → K cs sl t ls s h) ∧ (¬ x = 0 → K cs sl (pc + 3) ls s h) := hs; obtain ⟨x, s, rfl, hs1⟩ := pI_inv hs; exact wr_if_eq hd (of_decide_eq_true hok) ⟨fun q => kK _ _ _ _ _ _ (hs1.1 q), fun q => kK _ _ _ _ _ _ (hs1.2 q)⟩
    | ne => obtain ⟨hln, hok⟩ := Bool.and_eq_true_iff.mp hok; have hln := eq_of_beq hln; subst hln; replace hs : pI st fun x s => (¬ x = 0 → K cs sl t ls s h) ∧ (x = 0 → K cs sl (pc + 3) ls s h) := hs; obtain ⟨x, s, rfl, hs1⟩ := pI_inv hs; exact wr_if_ne hd (of_decide_eq_true hok) ⟨fun q => kK _ _ _ _ _ _ (hs1.1 q), fun q => kK _ _ _ _ _ _ (hs1.2 q)⟩
    | lt => obtain ⟨hln, hok⟩ := Bool.and_eq_true_iff.mp hok; have hln := eq_of_beq hln; subst hln; replace hs : pI st fun x s => (x < 0 → K cs sl t ls s h) ∧ (¬ x < 0 → K cs sl (pc + 3) ls s h) := hs; obtain ⟨x, s, rfl, hs1⟩ := pI_inv hs; exact wr_if_lt hd (of_decide_eq_true hok) ⟨fun q => kK _ _ _ _ _ _ (hs1.1 q), fun q => kK _ _ _ _ _ _ (hs1.2 q)⟩
    | ge => obtain ⟨hln, hok⟩ := Bool.and_eq_true_iff.mp hok; have hln := eq_of_beq hln; subst hln; replace hs : pI st fun x s => (0 ≤ x → K cs sl t ls s h) ∧ (¬ 0 ≤ x → K cs sl (pc + 3) ls s h) := hs; obtain ⟨x, s, rfl, hs1⟩ := pI_inv hs; exact wr_if_ge hd (of_decide_eq_true hok) ⟨fun q => kK _ _ _ _ _ _ (hs1.1 q), fun q => kK _ _ _ _ _ _ (hs1.2 q)⟩
    | gt => obtain ⟨hln, hok⟩ := Bool.and_eq_true_iff.mp hok; have hln := eq_of_beq hln; subst hln; replace hs : pI st fun x s => (0 < x → K cs sl t ls s h) ∧ (¬ 0 < x → K cs sl (pc + 3) ls s h) := hs; obtain ⟨x, s, rfl, hs1⟩ := pI_inv hs; exact wr_if_gt hd (of_decide_eq_true hok) ⟨fun q => kK _ _ _ _ _ _ (hs1.1 q), fun q => kK _ _ _ _ _ _ (hs1.2 q)⟩
    | le => obtain ⟨hln, hok⟩ := Bool.and_eq_true_iff.mp hok; have hln := eq_of_beq hln; subst hln; replace hs : pI st fun x s => (x ≤ 0 → K cs sl t ls s h) ∧ (¬ x ≤ 0 → K cs sl (pc + 3) ls s h) := hs; obtain ⟨x, s, rfl, hs1⟩ := pI_inv hs; exact wr_if_le hd (of_decide_eq_true hok) ⟨fun q => kK _ _ _ _ _ _ (hs1.1 q), fun q => kK _ _ _ _ _ _ (hs1.2 q)⟩
  | if_icmp q off =>
    cases q with
    | eq => obtain ⟨hln, hok⟩ := Bool.and_eq_true_iff.mp hok; have hln := eq_of_beq hln; subst hln; replace hs : pI st fun y s0 => pI s0 fun x s => (x = y → K cs sl t ls s h) ∧ (¬ x = y → K cs sl (pc + 3) ls s h) := hs; obtain ⟨y, s0, rfl, hs1⟩ := pI_inv hs; obtain ⟨x, s, rfl, hs2⟩ := pI_inv hs1; exact wr_icmp_eq hd (of_decide_eq_true hok) ⟨fun q => kK _ _ _ _ _ _ (hs2.1 q), fun q => kK _ _ _ _ _ _ (hs2.2 q)⟩
    | ne => obtain ⟨hln, hok⟩ := Bool.and_eq_true_iff.mp hok; have hln := eq_of_beq hln; subst hln; replace hs : pI st fun y s0 => pI s0 fun x s => (¬ x = y → K cs sl t ls s h) ∧ (x = y → K cs sl (pc + 3) ls s h) := hs; obtain ⟨y, s0, rfl, hs1⟩ := pI_inv hs; obtain ⟨x, s, rfl, hs2⟩ := pI_inv hs1; exact wr_icmp_ne hd (of_decide_eq_true hok) ⟨fun q => kK _ _ _ _ _ _ (hs2.1 q), fun q => kK _ _ _ _ _ _ (hs2.2 q)⟩
    | lt => obtain ⟨hln, hok⟩ := Bool.and_eq_true_iff.mp hok; have hln := eq_of_beq hln; subst hln; replace hs : pI st fun y s0 => pI s0 fun x s => (x < y → K cs sl t ls s h) ∧ (¬ x < y → K cs sl (pc + 3) ls s h) := hs; obtain ⟨y, s0, rfl, hs1⟩ := pI_inv hs; obtain ⟨x, s, rfl, hs2⟩ := pI_inv hs1; exact wr_icmp_lt hd (of_decide_eq_true hok) ⟨fun q => kK _ _ _ _ _ _ (hs2.1 q), fun q => kK _ _ _ _ _ _ (hs2.2 q)⟩
    | ge => obtain ⟨hln, hok⟩ := Bool.and_eq_true_iff.mp hok; have hln := eq_of_beq hln; subst hln; replace hs : pI st fun y s0 => pI s0 fun x s => (y ≤ x → K cs sl t ls s h) ∧ (¬ y ≤ x → K cs sl (pc + 3) ls s h) := hs; obtain ⟨y, s0, rfl, hs1⟩ := pI_inv hs; obtain ⟨x, s, rfl, hs2⟩ := pI_inv hs1; exact wr_icmp_ge hd (of_decide_eq_true hok) ⟨fun q => kK _ _ _ _ _ _ (hs2.1 q), fun q => kK _ _ _ _ _ _ (hs2.2 q)⟩
    | gt => obtain ⟨hln, hok⟩ := Bool.and_eq_true_iff.mp hok; have hln := eq_of_beq hln; subst hln; replace hs : pI st fun y s0 => pI s0 fun x s => (y < x → K cs sl t ls s h) ∧ (¬ y < x → K cs sl (pc + 3) ls s h) := hs; obtain ⟨y, s0, rfl, hs1⟩ := pI_inv hs; obtain ⟨x, s, rfl, hs2⟩ := pI_inv hs1; exact wr_icmp_gt hd (of_decide_eq_true hok) ⟨fun q => kK _ _ _ _ _ _ (hs2.1 q), fun q => kK _ _ _ _ _ _ (hs2.2 q)⟩
    | le => obtain ⟨hln, hok⟩ := Bool.and_eq_true_iff.mp hok; have hln := eq_of_beq hln; subst hln; replace hs : pI st fun y s0 => pI s0 fun x s => (x ≤ y → K cs sl t ls s h) ∧ (¬ x ≤ y → K cs sl (pc + 3) ls s h) := hs; obtain ⟨y, s0, rfl, hs1⟩ := pI_inv hs; obtain ⟨x, s, rfl, hs2⟩ := pI_inv hs1; exact wr_icmp_le hd (of_decide_eq_true hok) ⟨fun q => kK _ _ _ _ _ _ (hs2.1 q), fun q => kK _ _ _ _ _ _ (hs2.2 q)⟩
  | ifnull off => obtain ⟨hln, hok⟩ := Bool.and_eq_true_iff.mp hok; have hln := eq_of_beq hln; subst hln; replace hs : pN st fun y s => nl_ y (K cs sl t ls s h) (K cs sl (pc + 3) ls s h) := hs; obtain ⟨y, s, rfl, hy, hs1⟩ := pN_inv hs; rcases hy with ⟨z, rfl⟩ | rfl; exact wr_ifnull hd (kK _ _ _ _ _ _ hs1); exact wr_ifnullN hd (of_decide_eq_true hok) (kK _ _ _ _ _ _ hs1)
  | ifnonnull off => obtain ⟨hln, hok⟩ := Bool.and_eq_true_iff.mp hok; have hln := eq_of_beq hln; subst hln; replace hs : pN st fun y s => nl_ y (K cs sl (pc + 3) ls s h) (K cs sl t ls s h) := hs; obtain ⟨y, s, rfl, hy, hs1⟩ := pN_inv hs; rcases hy with ⟨z, rfl⟩ | rfl; exact wr_ifnonnull hd (of_decide_eq_true hok) (kK _ _ _ _ _ _ hs1); exact wr_ifnonnullN hd (kK _ _ _ _ _ _ hs1)
  | tableswitch d lo hi offs => replace hs : pI st fun x s => swc x sw (fun t => K cs sl t ls s h) (K cs sl t ls s h) := hs; obtain ⟨x, s, rfl, hs1⟩ := pI_inv hs; obtain ⟨h1, h2⟩ := Bool.and_eq_true_iff.mp hok; exact tsw_ok hd (of_decide_eq_true h1) h2 (fun cs sl pc ls st h hk => kK cs sl pc ls st h hk) hs1
  | lookupswitch d ps => replace hs : pI st fun x s => swc x sw (fun t => K cs sl t ls s h) (K cs sl t ls s h) := hs; obtain ⟨x, s, rfl, hs1⟩ := pI_inv hs; obtain ⟨h1, h2⟩ := Bool.and_eq_true_iff.mp hok; obtain ⟨h2, h3⟩ := Bool.and_eq_true_iff.mp h2; exact lsw_ok hd (of_decide_eq_true h1) (of_decide_eq_true h2) h3 (fun cs sl pc ls st h hk => kK cs sl pc ls st h hk) hs1
  | getfield x => obtain ⟨hln, hok⟩ := Bool.and_eq_true_iff.mp hok; have hln := eq_of_beq hln; subst hln; replace hs : pA st fun o s => hK h o = a + 1 ∧ gtf t h o b (fun y => K cs sl (pc + 3) ls (y :: s) h) := hs; have e := of_decide_eq_true hok; obtain ⟨o, s, rfl, hs1⟩ := pA_inv hs; obtain ⟨r, q1, q2, q3, q4, q5⟩ := hC.1 _ e.1; exact wr_getfield hd q1 q2 q3 q4 q5 hs1.1 (by have h2 := gtf_inv hs1.2; unfold hV; rw [← e.2]; exact kK _ _ _ _ _ _ h2)
  | putfield x => obtain ⟨hln, hok⟩ := Bool.and_eq_true_iff.mp hok; have hln := eq_of_beq hln; subst hln; replace hs : pV st fun y s0 => pA s0 fun o s => hK h o = a + 1 ∧ ptf t a b y ∧ K cs sl (pc + 3) ls s (setV t h o b y) := hs; have e := of_decide_eq_true hok; obtain ⟨y, s0, rfl, hs1⟩ := pV_inv hs; obtain ⟨o, s, rfl, hs2⟩ := pA_inv hs1; exact ptf_ok hC hd e.1 e.2 hs2.1 hs2.2.1 (kK _ _ _ _ _ _ hs2.2.2)
  | iaload  => have hln := eq_of_beq hok; subst hln; replace hs : pI st fun i s0 => pA s0 fun o s => hK h o = 20 ∧ vp_in i (hN h o) ∧ K cs sl (pc + 1) ls (.int (hI h o i.toNatClampNeg) :: s) h := hs; obtain ⟨i, s0, rfl, hs1⟩ := pI_inv hs; obtain ⟨o, s, rfl, hs2⟩ := pA_inv hs1; exact wr_iaload hd hs2.1 hs2.2.1 (kK _ _ _ _ _ _ hs2.2.2)
  | baload  => have hln := eq_of_beq hok; subst hln; replace hs : pI st fun i s0 => pA s0 fun o s => (hK h o = 21 ∨ hK h o = 22) ∧ vp_in i (hN h o) ∧ K cs sl (pc + 1) ls (.int (hI h o i.toNatClampNeg) :: s) h := hs; obtain ⟨i, s0, rfl, hs1⟩ := pI_inv hs; obtain ⟨o, s, rfl, hs2⟩ := pA_inv hs1; exact wr_baload hd hs2.1 hs2.2.1 (kK _ _ _ _ _ _ hs2.2.2)
  | laload  => have hln := eq_of_beq hok; subst hln; replace hs : pI st fun i s0 => pA s0 fun o s => hK h o = 23 ∧ vp_in i (hN h o) ∧ K cs sl (pc + 1) ls (.long (hJ h o i.toNatClampNeg) :: s) h := hs; obtain ⟨i, s0, rfl, hs1⟩ := pI_inv hs; obtain ⟨o, s, rfl, hs2⟩ := pA_inv hs1; exact wr_laload hd hs2.1 hs2.2.1 (kK _ _ _ _ _ _ hs2.2.2)
  | aaload  => have hln := eq_of_beq hok; subst hln; replace hs : pI st fun i s0 => pA s0 fun o s => (hK h o = 24 ∨ hK h o = 25) ∧ vp_in i (hN h o) ∧ rfc (hR h o i.toNatClampNeg) (fun y => K cs sl (pc + 1) ls (y :: s) h) := hs; obtain ⟨i, s0, rfl, hs1⟩ := pI_inv hs; obtain ⟨o, s, rfl, hs2⟩ := pA_inv hs1; exact wr_aaload hd hs2.1 hs2.2.1 (kK _ _ _ _ _ _ (rfc_inv hs2.2.2))
  | arraylength  => have hln := eq_of_beq hok; subst hln; replace hs : pA st fun o s => (20 ≤ hK h o ∧ hK h o < 26) ∧ K cs sl (pc + 1) ls (.int (Int32.ofNat (hN h o)) :: s) h := hs; obtain ⟨o, s, rfl, hs1⟩ := pA_inv hs; exact wr_alen (t := hK h o - 20) hd (by omega) (by omega) (kK _ _ _ _ _ _ hs1.2)
  | iastore  => have hln := eq_of_beq hok; subst hln; replace hs : pI st fun x s0 => pI s0 fun i s1 => pA s1 fun o s => hK h o = 20 ∧ vp_in i (hN h o) ∧ K cs sl (pc + 1) ls s (setI h o i.toNatClampNeg x) := hs; obtain ⟨x, s0, rfl, hs1⟩ := pI_inv hs; obtain ⟨i, s1, rfl, hs2⟩ := pI_inv hs1; obtain ⟨o, s, rfl, hs3⟩ := pA_inv hs2; exact wr_iastore hd hs3.1 hs3.2.1 (kK _ _ _ _ _ _ hs3.2.2)
  | bastore  => have hln := eq_of_beq hok; subst hln; replace hs : pI st fun x s0 => pI s0 fun i s1 => pA s1 fun o s => ((a = 1 ∧ hK h o = 21) ∨ (a = 2 ∧ hK h o = 22)) ∧ vp_in i (hN h o) ∧ K cs sl (pc + 1) ls s (setI h o i.toNatClampNeg (nb_ a x)) := hs; obtain ⟨x, s0, rfl, hs1⟩ := pI_inv hs; obtain ⟨i, s1, rfl, hs2⟩ := pI_inv hs1; obtain ⟨o, s, rfl, hs3⟩ := pA_inv hs2; obtain ⟨⟨rfl, q⟩ | ⟨rfl, q⟩, q2, q3⟩ := hs3; exact wr_bastore hd q q2 (kK _ _ _ _ _ _ q3); exact wr_zastore hd q q2 (kK _ _ _ _ _ _ q3)
  | lastore  => have hln := eq_of_beq hok; subst hln; replace hs : pJ st fun x s0 => pI s0 fun i s1 => pA s1 fun o s => hK h o = 23 ∧ vp_in i (hN h o) ∧ K cs sl (pc + 1) ls s (setJ h o i.toNatClampNeg x) := hs; obtain ⟨x, s0, rfl, hs1⟩ := pJ_inv hs; obtain ⟨i, s1, rfl, hs2⟩ := pI_inv hs1; obtain ⟨o, s, rfl, hs3⟩ := pA_inv hs2; exact wr_lastore hd hs3.1 hs3.2.1 (kK _ _ _ _ _ _ hs3.2.2)
  | aastore  => have hln := eq_of_beq hok; subst hln; replace hs : pA st fun y s0 => pI s0 fun i s1 => pA s1 fun o s => ((hK h o = 24 ∧ hK h y = 8) ∨ (hK h o = 25 ∧ hK h y = 3)) ∧ vp_in i (hN h o) ∧ K cs sl (pc + 1) ls s (setR h o i.toNatClampNeg (some y)) := hs; obtain ⟨y, s0, rfl, hs1⟩ := pA_inv hs; obtain ⟨i, s1, rfl, hs2⟩ := pI_inv hs1; obtain ⟨o, s, rfl, hs3⟩ := pA_inv hs2; obtain ⟨⟨q, q1⟩ | ⟨q, q1⟩, q2, q3⟩ := hs3; exact wr_aastore (t := 4) (ci := 7) hd q (by omega) (Or.inl ⟨rfl, rfl⟩) rfl q1 q2 (kK _ _ _ _ _ _ q3); exact wr_aastore (t := 5) (ci := 2) hd q (by omega) (Or.inr ⟨rfl, rfl⟩) rfl q1 q2 (kK _ _ _ _ _ _ q3)
  | new x => obtain ⟨hln, hok⟩ := Bool.and_eq_true_iff.mp hok; have hln := eq_of_beq hln; subst hln; replace hs : cs + 1 ≤ mc ∧ sl + b ≤ ms ∧ K (cs + 1) (sl + b) (pc + 3) ls (.ref (hZ h) :: st) (mkC h (a + 1) 0) := hs; obtain ⟨r, q1, q2, q3, q4, q5, q6⟩ := hC.2.2.2.1 _ (of_decide_eq_true hok); dsimp only at q1 q6; subst q6; exact wr_new hd q1 q2 q3 q4 q5 hs.1 hs.2.1 (kK _ _ _ _ _ _ hs.2.2)
  | newarray x => obtain ⟨hln, hok⟩ := Bool.and_eq_true_iff.mp hok; have hln := eq_of_beq hln; subst hln; replace hs : pI st fun y s => (¬ y < 0) ∧ y.toNatClampNeg ≤ 67108864 ∧ cs + 1 ≤ mc ∧ sl + y.toNatClampNeg ≤ ms ∧ K (cs + 1) (sl + y.toNatClampNeg) (pc + 2) ls (.ref (hZ h) :: s) (mkC h (20 + a) y.toNatClampNeg) := hs; have e := of_decide_eq_true hok; obtain ⟨e1, rfl⟩ := e; obtain ⟨y, s, rfl, hs1⟩ := pI_inv hs; exact wr_newarray hd e1 (ac_ok e1) hs1.1 hs1.2.1 hs1.2.2.1 hs1.2.2.2.1 (kK _ _ _ _ _ _ hs1.2.2.2.2)
  | anewarray x => obtain ⟨hln, hok⟩ := Bool.and_eq_true_iff.mp hok; have hln := eq_of_beq hln; subst hln; replace hs : pI st fun y s => (¬ y < 0) ∧ y.toNatClampNeg ≤ 67108864 ∧ cs + 1 ≤ mc ∧ sl + y.toNatClampNeg ≤ ms ∧ K (cs + 1) (sl + y.toNatClampNeg) (pc + 3) ls (.ref (hZ h) :: s) (mkC h (20 + a) y.toNatClampNeg) := hs; obtain ⟨ci, r, q1, q2, q3⟩ := hC.2.2.2.2.1 _ (of_decide_eq_true hok); obtain ⟨y, s, rfl, hs1⟩ := pI_inv hs; exact wr_anewarray hd q1 q2 q3 hs1.1 hs1.2.1 hs1.2.2.1 hs1.2.2.2.1 (kK _ _ _ _ _ _ hs1.2.2.2.2)
  | invokestatic x => obtain ⟨hln, hok⟩ := Bool.and_eq_true_iff.mp hok; have hln := eq_of_beq hln; subst hln; replace hs : scl a st (0 < n ∧ ((st.drop t).map fun v => v.category).sum ≤ 8 ∧ cs + mc2 ≤ mc ∧ sl + ms2 ≤ ms ∧ t ≤ st.length ∧ Call g (n - 1) mc2 ms2 (mtab b) (st.take t).reverse h (fun rv h2 => L (cs + mc2) (sl + ms2) (pc + 3) ls (rv.toList ++ st.drop t) h2)) (fun y s => (s.map fun v => v.category).sum ≤ 8 ∧ cs ≤ mc ∧ sl ≤ ms ∧ K cs sl (pc + 3) ls (y :: s) h) := hs; exact scl_ok hC hd (of_decide_eq_true hok) (fun cs sl pc ls st h hk => kK cs sl pc ls st h hk) (fun cs sl pc ls st h hk => kL cs sl pc ls st h hk) hs
  | invokevirtual x => obtain ⟨hln, hok⟩ := Bool.and_eq_true_iff.mp hok; have hln := eq_of_beq hln; subst hln; replace hs : 0 < n ∧ pA (st.drop t) fun o s => hK h o = c ∧ (s.map fun v => v.category).sum ≤ 8 ∧ cs + mc2 ≤ mc ∧ sl + ms2 ≤ ms ∧ t ≤ st.length ∧ Call g (n - 1) mc2 ms2 (mtab b) (.ref o :: (st.take t).reverse) h (fun rv h2 => L (cs + mc2) (sl + ms2) (pc + 3) ls (rv.toList ++ s) h2) := hs; exact vcl_ok hC hd (of_decide_eq_true hok) (fun cs sl pc ls st h hk => kL cs sl pc ls st h hk) hs
  | invokespecial x => obtain ⟨hln, hok⟩ := Bool.and_eq_true_iff.mp hok; have hln := eq_of_beq hln; subst hln; replace hs : icl a st ((st.map fun v => v.category).sum ≤ 8 ∧ pA st fun _ s => K cs sl (pc + 3) ls s h) (0 < n ∧ pA (st.drop t) fun o s => (s.map fun v => v.category).sum ≤ 8 ∧ cs + mc2 ≤ mc ∧ sl + ms2 ≤ ms ∧ t ≤ st.length ∧ Call g (n - 1) mc2 ms2 (mtab b) (.ref o :: (st.take t).reverse) h (fun rv h2 => L (cs + mc2) (sl + ms2) (pc + 3) ls (rv.toList ++ s) h2)) := hs; exact icl_ok hC hd (of_decide_eq_true hok) (fun cs sl pc ls st h hk => kK cs sl pc ls st h hk) (fun cs sl pc ls st h hk => kL cs sl pc ls st h hk) hs
  | ireturn  => obtain ⟨hln, hok⟩ := Bool.and_eq_true_iff.mp hok; have hln := eq_of_beq hln; subst hln; replace hs : pE st fun y => cs ≤ mc ∧ sl ≤ ms ∧ rti a y (fun x => Q (some (.int x)) h) := hs; obtain ⟨y, rfl, hs1⟩ := pE_inv hs; exact rti_ok hd hok hs1.1 hs1.2.1 hs1.2.2
  | lreturn  => obtain ⟨hln, hok⟩ := Bool.and_eq_true_iff.mp hok; have hln := eq_of_beq hln; subst hln; replace hs : pE st fun y => cs ≤ mc ∧ sl ≤ ms ∧ pJ [y] fun x _ => Q (some (.long x)) h := hs; obtain ⟨y, rfl, hs1⟩ := pE_inv hs; obtain ⟨x, s, e, q⟩ := pJ_inv hs1.2.2; cases e; exact wr_lreturn hd (of_decide_eq_true hok) hs1.1 hs1.2.1 q
  | areturn  => obtain ⟨hln, hok⟩ := Bool.and_eq_true_iff.mp hok; have hln := eq_of_beq hln; subst hln; replace hs : pE st fun y => cs ≤ mc ∧ sl ≤ ms ∧ pN [y] fun z _ => Q (some z) h := hs; obtain ⟨y, rfl, hs1⟩ := pE_inv hs; obtain ⟨z, s, e, hz, q⟩ := pN_inv hs1.2.2; cases e; exact rta_ok hd hok hz hs1.1 hs1.2.1 q
  | return_  => obtain ⟨hln, hok⟩ := Bool.and_eq_true_iff.mp hok; have hln := eq_of_beq hln; subst hln; replace hs : p0 st (cs ≤ mc ∧ sl ≤ ms ∧ Q none h) := hs; obtain ⟨rfl, hs1⟩ := p0_inv hs; exact wr_return hd (of_decide_eq_true hok) hs1.1 hs1.2.1 hs1.2.2
  | _ => exact hs.elim
end SS
/-- many steps, till a cut -/
def wpc (g : gx) (n mc ms : Nat) (M : md_) (h0 : hp) (Q : Option Value → hp → Prop) (tb : Nat → Option rw_) (cut : Nat → Bool) : Nat → Nat → Nat → Nat → List (Option Value) → List Value → hp → Prop
  | 0, cs, sl, pc, ls, st, h => Wp g n mc ms M h0 Q cs sl pc ls st h
  | f + 1, cs, sl, pc, ls, st, h => match tb pc with
    | some r => stp g n mc ms Q (fun cs sl pc ls st h => match cut pc with
      | true => Wp g n mc ms M h0 Q cs sl pc ls st h
      | false => wpc g n mc ms M h0 Q tb cut f cs sl pc ls st h) (fun cs sl pc ls st h => Wp g n mc ms M h0 Q cs sl pc ls st h) r cs sl pc ls st h
    | none => False
def tab (l : List (Nat × rw_)) (pc : Nat) : Option rw_ := (l.find? (fun q => q.1 == pc)).map (fun q => q.2)
def tb_ok (C : ct_) (M : md_) (l : List (Nat × rw_)) : Bool := l.all fun q => okB C M q.1 q.2 && decide (decode M.2.1 q.1 = .ok (q.2.1, q.2.2.1))
theorem wp_run {g : gx} {n mc ms : Nat} {M : md_} {h0 : hp} {Q : Option Value → hp → Prop} {C : ct_} {l : List (Nat × rw_)} (hC : ct_ok M.1.cls C) (hl : tb_ok C M l = true) (cut : Nat → Bool) : ∀ (f : Nat) {cs sl pc : Nat} {ls : List (Option Value)} {st : List Value} {h : hp}, wpc g n mc ms M h0 Q (tab l) cut f cs sl pc ls st h → Wp g n mc ms M h0 Q cs sl pc ls st h
  | 0, cs, sl, pc, ls, st, h, k => k
  | f + 1, cs, sl, pc, ls, st, h, k => by
    unfold wpc at k
    split at k
    · next r hr =>
      unfold tab at hr
      obtain ⟨q, hq, rfl⟩ := Option.map_eq_some_iff.mp hr
      have hm := List.mem_of_find?_eq_some hq
      have hp := List.find?_some hq
      have e : q.1 = pc := eq_of_beq hp
      obtain ⟨h1, h2⟩ := Bool.and_eq_true_iff.mp (List.all_eq_true.mp hl q hm)
      rw [e] at h1 h2
      refine stp_ok hC (of_decide_eq_true h2) h1 (fun cs sl pc ls st h kk => ?_) (fun cs sl pc ls st h kk => kk) k
      split at kk
      · exact kk
      · exact wp_run hC hl cut f kk
    · exact k.elim
