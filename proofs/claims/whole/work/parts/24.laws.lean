/-! 24: LAWS as both hold them; the reference's evaluation of a TEST -/
/-- a LAW: how many CLAUSES; kind (0 first, 1 bar, 2 lapse), key, first entry, end of each; op and number of each entry -/
abbrev lwt : Type := Nat × (Nat → Nat × Nat × Nat × Nat) × (Nat → Nat × Nat)
def bth (op : Nat) (a b : Int) : Int := match op with
  | 2 => a + b
  | 3 => a - b
  | 4 => if a < b then 1 else 0
  | 5 => if a ≤ b then 1 else 0
  | 6 => if a = b then 1 else 0
  | 7 => if b ≤ a then 1 else 0
  | 8 => if b < a then 1 else 0
  | 10 => if a = 1 ∧ b = 1 then 1 else 0
  | _ => if a = 0 ∧ b = 0 then 0 else 1
abbrev skt : Type := Nat × (Nat → Int)
/-- one entry: the stack behind it -/
def sx (cd : Nat × Nat) (f : Nat → Int) (q : skt) : skt := match cd.1 with
  | 0 => (q.1 + 1, up1 q.2 q.1 (cd.2 : Int))
  | 1 => (q.1 + 1, up1 q.2 q.1 (f cd.2))
  | 9 => (q.1, up1 q.2 (q.1 - 1) (1 - q.2 (q.1 - 1)))
  | op => (q.1 - 1, up1 q.2 (q.1 - 2) (bth op (q.2 (q.1 - 2)) (q.2 (q.1 - 1))))
def evQ (ln : lwt) (f : Nat → Int) : Nat → Nat → skt → skt
  | 0, _, q => q
  | n + 1, e, q => evQ ln f n (e + 1) (sx (ln.2.2 e) f q)
abbrev tyt : Type := Nat × (Nat → Bool)
/-- one entry: the types (true: 0 or 1) behind it; none if it can't stand there -/
def tx (cd : Nat × Nat) (q : tyt) : Option tyt := match cd.1 with
  | 0 => if cd.2 ≤ 9999 then some (q.1 + 1, up1 q.2 q.1 false) else none
  | 1 => if cd.2 < 13 then some (q.1 + 1, up1 q.2 q.1 false) else none
  | 9 => if 1 ≤ q.1 ∧ q.2 (q.1 - 1) = true then some q else none
  | 2 => if 2 ≤ q.1 ∧ q.2 (q.1 - 1) = false ∧ q.2 (q.1 - 2) = false then some (q.1 - 1, q.2) else none
  | 3 => if 2 ≤ q.1 ∧ q.2 (q.1 - 1) = false ∧ q.2 (q.1 - 2) = false then some (q.1 - 1, q.2) else none
  | 10 => if 2 ≤ q.1 ∧ q.2 (q.1 - 1) = true ∧ q.2 (q.1 - 2) = true then some (q.1 - 1, q.2) else none
  | 11 => if 2 ≤ q.1 ∧ q.2 (q.1 - 1) = true ∧ q.2 (q.1 - 2) = true then some (q.1 - 1, q.2) else none
  | op => if op ≤ 8 ∧ 2 ≤ q.1 ∧ q.2 (q.1 - 1) = false ∧ q.2 (q.1 - 2) = false then some (q.1 - 1, up1 q.2 (q.1 - 2) true) else none
def tcQ (ln : lwt) : Nat → Nat → tyt → Option tyt
  | 0, _, q => some q
  | n + 1, e, q => match tx (ln.2.2 e) q with
    | some q' => tcQ ln n (e + 1) q'
    | none => none
def sm (st : Nat → Int) : Nat → Nat
  | 0 => 0
  | n + 1 => sm st n + (st n).natAbs
theorem sm_up (st : Nat → Int) (k : Nat) (x : Int) : ∀ n, n ≤ k → sm (up1 st k x) n = sm st n
  | 0, _ => rfl
  | n + 1, h => by
    rw [sm, sm, sm_up st k x n (by omega), show up1 st k x n = st n from if_neg (by omega)]
theorem sm_le (st : Nat → Int) : ∀ (n i : Nat), i < n → (st i).natAbs ≤ sm st n
  | 0, i, h => by omega
  | n + 1, i, h => by
    rw [sm]
    by_cases e : i = n
    · subst e; omega
    · have := sm_le st n i (by omega)
      omega
theorem bth_01 {op : Nat} (h : ¬ op = 2) (h3 : ¬ op = 3) (a b : Int) : bth op a b = 0 ∨ bth op a b = 1 := by
  unfold bth
  split <;> first | (exfalso; omega) | (split <;> simp)
theorem bth_ab (op : Nat) (a b : Int) : (bth op a b).natAbs ≤ a.natAbs + b.natAbs + 1 := by
  by_cases h2 : op = 2
  · subst h2; show (a + b).natAbs ≤ _; omega
  · by_cases h3 : op = 3
    · subst h3; show (a - b).natAbs ≤ _; omega
    · rcases bth_01 h2 h3 a b with h | h <;> rw [h] <;> omega
/-- the stack is as the types say, and not large -/
def okQ (t : tyt) (q : skt) (k : Nat) : Prop := t.1 = q.1 ∧ q.1 ≤ k ∧ sm q.2 q.1 ≤ 10000 * k ∧ ∀ i, i < q.1 → t.2 i = true → q.2 i = 0 ∨ q.2 i = 1
theorem okQ_push {t : tyt} {q : skt} {k : Nat} (h : okQ t q k) (x : Int) (hx : x.natAbs ≤ 10000) : okQ (t.1 + 1, up1 t.2 t.1 false) (q.1 + 1, up1 q.2 q.1 x) (k + 1) := by
  obtain ⟨h1, h2, h3, h4⟩ := h
  refine ⟨by show t.1 + 1 = q.1 + 1; omega, by show q.1 + 1 ≤ k + 1; omega, ?_, fun i hi ht => ?_⟩
  · show sm (up1 q.2 q.1 x) (q.1 + 1) ≤ _
    rw [sm, sm_up _ _ _ _ (Nat.le_refl _), show up1 q.2 q.1 x q.1 = x from if_pos rfl]
    omega
  · change i < q.1 + 1 at hi
    change up1 t.2 t.1 false i = true at ht
    show up1 q.2 q.1 x i = 0 ∨ up1 q.2 q.1 x i = 1
    unfold up1 at ht ⊢
    by_cases e : i = q.1
    · rw [if_pos (by omega)] at ht; cases ht
    · rw [if_neg (by omega)] at ht
      rw [if_neg e]
      exact h4 i (by omega) ht
theorem okQ_bin {t : tyt} {q : skt} {k op : Nat} (h : okQ t q k) (h2 : 2 ≤ q.1) (ty : Bool) (hty : ty = true → bth op (q.2 (q.1 - 2)) (q.2 (q.1 - 1)) = 0 ∨ bth op (q.2 (q.1 - 2)) (q.2 (q.1 - 1)) = 1) : okQ (t.1 - 1, up1 t.2 (t.1 - 2) ty) (q.1 - 1, up1 q.2 (q.1 - 2) (bth op (q.2 (q.1 - 2)) (q.2 (q.1 - 1)))) (k + 1) := by
  obtain ⟨h1, h22, h3, h4⟩ := h
  obtain ⟨m, hm⟩ : ∃ m, q.1 = m + 2 := ⟨q.1 - 2, by omega⟩
  have hm' : t.1 = m + 2 := by omega
  rw [hm, hm']
  rw [hm] at h3 h4 hty
  simp only [show m + 2 - 1 = m + 1 from rfl, show m + 2 - 2 = m from rfl] at *
  refine ⟨rfl, by show m + 1 ≤ k + 1; omega, ?_, fun i hi ht => ?_⟩
  · show sm (up1 q.2 m _) (m + 1) ≤ _
    rw [sm, sm_up _ _ _ _ (Nat.le_refl _), show up1 q.2 m (bth op (q.2 m) (q.2 (m + 1))) m = bth op (q.2 m) (q.2 (m + 1)) from if_pos rfl]
    rw [sm, sm] at h3
    have := bth_ab op (q.2 m) (q.2 (m + 1))
    omega
  · change i < m + 1 at hi
    change up1 t.2 m ty i = true at ht
    show up1 q.2 m _ i = 0 ∨ up1 q.2 m _ i = 1
    unfold up1 at ht ⊢
    by_cases e : i = m
    · rw [if_pos e] at ht ⊢
      exact hty ht
    · rw [if_neg e] at ht ⊢
      exact h4 i (by omega) ht

theorem up1_same {α : Type} (f : Nat → α) (a : Nat) : up1 f a (f a) = f := by
  funext b
  unfold up1
  split
  · next e => rw [e]
  · rfl
/-- a step keeps the types -/
theorem okQ_step {cd : Nat × Nat} {f : Nat → Int} (hf : ∀ w, w < 13 → (f w).natAbs ≤ 10000) {t t' : tyt} {q : skt} {k : Nat} (h : okQ t q k) (ht : tx cd t = some t') : okQ t' (sx cd f q) (k + 1) := by
  obtain ⟨op, a⟩ := cd
  have h1 := h.1
  unfold tx at ht
  unfold sx
  dsimp only at ht ⊢
  split at ht
  · split at ht
    · cases ht
      exact okQ_push h _ (by omega)
    · cases ht
  · split at ht
    · next q1 =>
      cases ht
      exact okQ_push h _ (hf a q1)
    · cases ht
  · split at ht
    · next q1 =>
      cases ht
      obtain ⟨h1, h2, h3, h4⟩ := h
      have hv := h4 (q.1 - 1) (by omega) (by rw [← h1]; exact q1.2)
      obtain ⟨m, hm⟩ : ∃ m, q.1 = m + 1 := ⟨q.1 - 1, by omega⟩
      refine ⟨h1, by show q.1 ≤ k + 1; omega, ?_, fun i hi ht => ?_⟩
      · show sm (up1 q.2 (q.1 - 1) _) q.1 ≤ _
        rw [hm] at h3 hv ⊢
        rw [sm, show m + 1 - 1 = m from rfl, sm_up _ _ _ _ (Nat.le_refl _), show up1 q.2 m (1 - q.2 m) m = 1 - q.2 m from if_pos rfl]
        rw [sm] at h3
        rw [show m + 1 - 1 = m from rfl] at hv
        omega
      · change i < q.1 at hi
        show up1 q.2 (q.1 - 1) _ i = 0 ∨ up1 q.2 (q.1 - 1) _ i = 1
        unfold up1
        by_cases e : i = q.1 - 1
        · rw [if_pos e]; omega
        · rw [if_neg e]; exact h4 i hi ht
    · cases ht
  · split at ht
    · next q1 =>
      cases ht
      have := okQ_bin (op := 2) h (by omega) (t.2 (t.1 - 2)) (fun e => by rw [q1.2.2] at e; cases e)
      rw [up1_same] at this
      exact this
    · cases ht
  · split at ht
    · next q1 =>
      cases ht
      have := okQ_bin (op := 3) h (by omega) (t.2 (t.1 - 2)) (fun e => by rw [q1.2.2] at e; cases e)
      rw [up1_same] at this
      exact this
    · cases ht
  · split at ht
    · next q1 =>
      cases ht
      have := okQ_bin (op := 10) h (by omega) (t.2 (t.1 - 2)) (fun _ => bth_01 (by omega) (by omega) _ _)
      rw [up1_same] at this
      exact this
    · cases ht
  · split at ht
    · next q1 =>
      cases ht
      have := okQ_bin (op := 11) h (by omega) (t.2 (t.1 - 2)) (fun _ => bth_01 (by omega) (by omega) _ _)
      rw [up1_same] at this
      exact this
    · cases ht
  · next n0 n1 n9 n2 n3 n10 n11 =>
    split at ht
    · next q1 =>
      cases ht
      have := okQ_bin (op := op) h (by omega) true (fun _ => bth_01 (fun e => n2 e) (fun e => n3 e) _ _)
      split
      · exact absurd rfl n0
      · exact absurd rfl n1
      · exact absurd rfl n9
      · exact this
    · cases ht

