/-! 82: the TEST of a CLAUSE, read by an abstract machine -/
/-- entries: how many, which -/
abbrev ot : Type := Nat × (Nat → Nat × Nat)
def psh (o : ot) (x : Nat × Nat) : ot := (o.1 + 1, up1 o.2 o.1 x)
/-- a fault; or the place, the counted, the entries -/
abbrev rs : Type := Nat ⊕ (Nat × Nat × ot)
/-- mode (0 a FACT is wanted, 1 one was read, 2 a VALUE is wanted, 3 one was read), what is open, place, counted, entries -/
abbrev st_ : Type := Nat × List Nat × Nat × Nat × ot
def dpS : List Nat → Nat
  | [] => 0
  | x :: r => (if x = 9 ∨ x = 12 then 1 else 0) + dpS r
/-- those of one kind on the top are told -/
def pp (a : Nat) : List Nat → ot → List Nat × ot
  | [], o => ([], o)
  | x :: r, o => if x = a then pp a r (psh o (a, 0)) else (x :: r, o)
/-- a sum's sign that waits -/
def pq : List Nat → ot → List Nat × ot
  | [], o => ([], o)
  | x :: r, o => if x = 2 ∨ x = 3 then (r, psh o (x, 0)) else (x :: r, o)
def vlS (t : Nat → Nat) (n q c : Nat) (o : ot) : rs :=
  if kd t n q = 22 then .inl (1 + 8 * q + 1)
  else if ¬ kd t n q = 21 ∧ 13 ≤ kd t n q then .inl (1 + 8 * q)
  else if 60 ≤ c then .inl (1 + 8 * q + 3)
  else .inr (nq t n q, c + 1, psh o (if kd t n q = 21 then (0, nb t n q) else (1, kd t n q)))
def s0 (t : Nat → Nat) (n : Nat) (S : List Nat) (q c : Nat) (o : ot) : st_ ⊕ rs :=
  if kd t n q = 20 ∨ kd t n q = 30 then (if 10 ≤ dpS S then .inr (.inl (1 + 8 * q + 2)) else .inl (0, (if kd t n q = 20 then 9 else 12) :: S, nq t n q, c, o))
  else .inl (2, 20 :: S, q, c, o)
def s1b (t : Nat → Nat) (n : Nat) (S : List Nat) (q c : Nat) (o : ot) : st_ ⊕ rs :=
  match S with
  | [] => .inr (.inr (q, c, o))
  | x :: r => if x = 12 then (if kd t n q = 31 then .inl (1, r, nq t n q, c, o) else .inr (.inl (1 + 8 * q))) else .inr (.inr (q, c, o))
def s1 (t : Nat → Nat) (n : Nat) (S : List Nat) (q c : Nat) (o : ot) : st_ ⊕ rs :=
  if kd t n q = 18 then .inl (0, 10 :: (pp 10 (pp 9 S o).1 (pp 9 S o).2).1, nq t n q, c, (pp 10 (pp 9 S o).1 (pp 9 S o).2).2)
  else if kd t n q = 19 then .inl (0, 11 :: (pp 11 (pp 10 (pp 9 S o).1 (pp 9 S o).2).1 (pp 10 (pp 9 S o).1 (pp 9 S o).2).2).1, nq t n q, c, (pp 11 (pp 10 (pp 9 S o).1 (pp 9 S o).2).1 (pp 10 (pp 9 S o).1 (pp 9 S o).2).2).2)
  else s1b t n (pp 11 (pp 10 (pp 9 S o).1 (pp 9 S o).2).1 (pp 10 (pp 9 S o).1 (pp 9 S o).2).2).1 q c (pp 11 (pp 10 (pp 9 S o).1 (pp 9 S o).2).1 (pp 10 (pp 9 S o).1 (pp 9 S o).2).2).2
def s2 (t : Nat → Nat) (n : Nat) (S : List Nat) (q c : Nat) (o : ot) : st_ ⊕ rs :=
  match vlS t n q c o with
  | .inl f => .inr (.inl f)
  | .inr r => .inl (3, S, r)
def s3b (t : Nat → Nat) (n : Nat) (S : List Nat) (q c : Nat) (o : ot) : st_ ⊕ rs :=
  if kd t n q = 23 ∨ kd t n q = 24 then .inl (2, (kd t n q - 21) :: S, nq t n q, c, o)
  else match S with
  | [] => .inr (.inl 0)
  | x :: r => if x = 20 then (if ¬ (25 ≤ kd t n q ∧ kd t n q ≤ 29) then .inr (.inl (1 + 8 * q)) else if 60 ≤ c then .inr (.inl (1 + 8 * q + 3)) else .inl (2, (kd t n q - 21) :: r, nq t n q, c + 1, o))
    else .inl (1, r, q, c, psh o (x, 0))
def s3 (t : Nat → Nat) (n : Nat) (S : List Nat) (q c : Nat) (o : ot) : st_ ⊕ rs := s3b t n (pq S o).1 q c (pq S o).2
def sT (t : Nat → Nat) (n : Nat) (s : st_) : st_ ⊕ rs := match s.1 with
  | 0 => s0 t n s.2.1 s.2.2.1 s.2.2.2.1 s.2.2.2.2
  | 1 => s1 t n s.2.1 s.2.2.1 s.2.2.2.1 s.2.2.2.2
  | 2 => s2 t n s.2.1 s.2.2.1 s.2.2.2.1 s.2.2.2.2
  | _ => s3 t n s.2.1 s.2.2.1 s.2.2.2.1 s.2.2.2.2
def rn (t : Nat → Nat) (n : Nat) : Nat → st_ → Option rs
  | 0, _ => none
  | k + 1, s => match sT t n s with
    | .inl s' => rn t n k s'
    | .inr r => some r
/-- from s the machine comes to r -/
def Fn (t : Nat → Nat) (n : Nat) (s : st_) (r : rs) : Prop := ∃ k, rn t n k s = some r
theorem Fn.l {t : Nat → Nat} {n : Nat} {s s' : st_} {r : rs} (h : sT t n s = .inl s') (k : Fn t n s' r) : Fn t n s r := by
  obtain ⟨m, hm⟩ := k
  exact ⟨m + 1, by rw [rn, h]; exact hm⟩
theorem Fn.r {t : Nat → Nat} {n : Nat} {s : st_} {r : rs} (h : sT t n s = .inr r) : Fn t n s r := ⟨1, by rw [rn, h]⟩
theorem Fn.e {t : Nat → Nat} {n : Nat} {s s' : st_} {r : rs} (h : sT t n s = sT t n s') (k : Fn t n s' r) : Fn t n s r := by
  obtain ⟨m, hm⟩ := k
  cases m with
  | zero => cases hm
  | succ m => exact ⟨m + 1, by rw [rn, h]; rw [rn] at hm; exact hm⟩
theorem rn_u {t : Nat → Nat} {n : Nat} : ∀ (k j : Nat) (s : st_) (r r' : rs), rn t n k s = some r → rn t n j s = some r' → r = r'
  | 0, _, _, _, _, h, _ => by cases h
  | _ + 1, 0, _, _, _, _, h => by cases h
  | k + 1, j + 1, s, r, r', h, h' => by
    rw [rn] at h h'
    cases e : sT t n s with
    | inl s' =>
      rw [e] at h h'
      exact rn_u k j s' r r' h h'
    | inr x =>
      rw [e] at h h'
      exact (Option.some.inj h).symm.trans (Option.some.inj h')
theorem Fn.u {t : Nat → Nat} {n : Nat} {s : st_} {r r' : rs} (a : Fn t n s r) (b : Fn t n s r') : r = r' := by
  obtain ⟨k, hk⟩ := a
  obtain ⟨j, hj⟩ := b
  exact rn_u k j s r r' hk hj
/-- the top of what is open is none of these -/
def t9 (S : List Nat) : Prop := ∀ r, ¬ S = 9 :: r
def t10 (S : List Nat) : Prop := ∀ r, ¬ S = 10 :: r
def t11 (S : List Nat) : Prop := ∀ r, ¬ S = 11 :: r
theorem pp_e {a : Nat} {S : List Nat} {o : ot} (h : ∀ r, ¬ S = a :: r) : pp a S o = (S, o) := by
  cases S with
  | nil => rfl
  | cons x r => rw [pp, if_neg (fun e => h r (by rw [e]))]
theorem pp_s {a : Nat} {S : List Nat} {o : ot} : pp a (a :: S) o = pp a S (psh o (a, 0)) := by rw [pp, if_pos rfl]
/-- one that is closed may be told at once -/
theorem s1_9 {t : Nat → Nat} {n q c : Nat} {S : List Nat} {o : ot} : sT t n (1, 9 :: S, q, c, o) = sT t n (1, S, q, c, psh o (9, 0)) := by
  show s1 t n _ _ _ _ = s1 t n _ _ _ _
  unfold s1
  rw [pp_s]
theorem s1_10 {t : Nat → Nat} {n q c : Nat} {S : List Nat} {o : ot} (h9 : t9 S) (h10 : t10 S) : sT t n (1, 10 :: S, q, c, o) = sT t n (1, S, q, c, psh o (10, 0)) := by
  show s1 t n _ _ _ _ = s1 t n _ _ _ _
  unfold s1
  rw [pp_e (a := 9) (S := 10 :: S) (fun r e => by cases e), pp_e (a := 9) (S := S) h9]
  simp only [pp_s]
theorem s1_11 {t : Nat → Nat} {n q c : Nat} {S : List Nat} {o : ot} (h9 : t9 S) (h10 : t10 S) (hk : ¬ kd t n q = 18) : sT t n (1, 11 :: S, q, c, o) = sT t n (1, S, q, c, psh o (11, 0)) := by
  show s1 t n _ _ _ _ = s1 t n _ _ _ _
  unfold s1
  rw [if_neg hk, if_neg hk, pp_e (a := 9) (S := 11 :: S) (fun r e => by cases e), pp_e (a := 9) (S := S) h9]
  simp only
  rw [pp_e (a := 10) (S := 11 :: S) (fun r e => by cases e), pp_e (a := 10) (S := S) h10]
  simp only [pp_s]
/-- none of the three on the top: what comes next -/
theorem s1_and {t : Nat → Nat} {n q c : Nat} {S : List Nat} {o : ot} (h9 : t9 S) (h10 : t10 S) (hk : kd t n q = 18) : sT t n (1, S, q, c, o) = .inl (0, 10 :: S, nq t n q, c, o) := by
  show s1 t n _ _ _ _ = _
  unfold s1
  rw [if_pos hk, pp_e (a := 9) (S := S) h9]
  simp only
  rw [pp_e (a := 10) (S := S) h10]
theorem s1_or {t : Nat → Nat} {n q c : Nat} {S : List Nat} {o : ot} (h9 : t9 S) (h10 : t10 S) (h11 : t11 S) (hk : kd t n q = 19) : sT t n (1, S, q, c, o) = .inl (0, 11 :: S, nq t n q, c, o) := by
  show s1 t n _ _ _ _ = _
  unfold s1
  rw [if_neg (show ¬ kd t n q = 18 by omega), if_pos hk, pp_e (a := 9) (S := S) h9]
  simp only
  rw [pp_e (a := 10) (S := S) h10]
  simp only
  rw [pp_e (a := 11) (S := S) h11]
theorem s1_no {t : Nat → Nat} {n q c : Nat} {S : List Nat} {o : ot} (h9 : t9 S) (h10 : t10 S) (h11 : t11 S) (hk : ¬ kd t n q = 18) (hk2 : ¬ kd t n q = 19) : sT t n (1, S, q, c, o) = s1b t n S q c o := by
  show s1 t n _ _ _ _ = _
  unfold s1
  rw [if_neg hk, if_neg hk2, pp_e (a := 9) (S := S) h9]
  simp only
  rw [pp_e (a := 10) (S := S) h10]
  simp only
  rw [pp_e (a := 11) (S := S) h11]
theorem s3_pm {t : Nat → Nat} {n q c x : Nat} {S : List Nat} {o : ot} (hx : x = 2 ∨ x = 3) (hS : ∀ y r, S = y :: r → ¬ (y = 2 ∨ y = 3)) : sT t n (3, x :: S, q, c, o) = sT t n (3, S, q, c, psh o (x, 0)) := by
  show s3 t n _ _ _ _ = s3 t n _ _ _ _
  unfold s3
  have e : pq S (psh o (x, 0)) = (S, psh o (x, 0)) := by
    cases S with
    | nil => rfl
    | cons y r => rw [pq, if_neg (hS y r rfl)]
  rw [e, pq, if_pos hx]
theorem s3_e {t : Nat → Nat} {n q c x : Nat} {S : List Nat} {o : ot} (hx : ¬ (x = 2 ∨ x = 3)) : sT t n (3, x :: S, q, c, o) = s3b t n (x :: S) q c o := by
  show s3 t n _ _ _ _ = _
  unfold s3
  rw [pq, if_neg hx]

