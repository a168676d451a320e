/-! 94: a LAW's text, CLAUSE by CLAUSE, abstractly -/
theorem nq_end (t : Nat → Nat) (n : Nat) : nq t n n = n := by
  unfold nq te
  rw [tk_end (Nat.le_refl _)]
  exact sk_e (p := n) (fun z => by omega)
theorem pl_le (t : Nat → Nat) (n : Nat) : ∀ i, pl t n i ≤ n
  | 0 => sk_le (by omega)
  | i + 1 => by
    have h := pl_le t n i
    show nq t n (pl t n i) ≤ n
    by_cases e : pl t n i = n
    · rw [e, nq_end]
      exact Nat.le_refl _
    · exact (nq_gt (by omega)).2
theorem pl_mo (t : Nat → Nat) (n i : Nat) : pl t n i ≤ pl t n (i + 1) := by
  have h := pl_le t n i
  show pl t n i ≤ nq t n (pl t n i)
  by_cases e : pl t n i = n
  · rw [e, nq_end]
    exact Nat.le_refl _
  · exact Nat.le_of_lt (nq_gt (by omega)).1
abbrev isK (c : Nat) : Prop := c = 1 ∨ c = 2 ∨ c = 4 ∨ c = 5 ∨ c = 6 ∨ c = 8 ∨ c = 13
def kxi (k : Nat) : Nat := match k with
  | 6 => 0 | 13 => 1 | 4 => 2 | 1 => 3 | 2 => 4 | 5 => 5 | _ => 6
theorem kx_kxi {k : Nat} (h : isK k) : kx (kxi k) = k ∧ kxi k ≤ 6 := by
  rcases h with rfl | rfl | rfl | rfl | rfl | rfl | rfl <;> exact ⟨rfl, by decide⟩
/-- a CLAUSE from its word at q on: what its rest comes to -/
def CT (t : Nat → Nat) (n q c : Nat) (o : ot) (r : rs) : Prop :=
  if kd t n q = 14 then (if isK (kd t n (nq t n q)) then (if kd t n (nq t n (nq t n q)) = 17 then Fn t n (0, [], nq t n (nq t n (nq t n q)), c, o) r else r = .inr (nq t n (nq t n q), c, o)) else r = .inl (1 + 8 * nq t n q))
  else Fn t n (0, [], nq t n q, c, o) r
theorem CT.u {t : Nat → Nat} {n q c : Nat} {o : ot} {r r' : rs} (a : CT t n q c o r) (b : CT t n q c o r') : r = r' := by
  unfold CT at a b
  by_cases h1 : kd t n q = 14
  · rw [if_pos h1] at a b
    by_cases h2 : isK (kd t n (nq t n q))
    · rw [if_pos h2] at a b
      by_cases h3 : kd t n (nq t n (nq t n q)) = 17
      · rw [if_pos h3] at a b
        exact a.u b
      · rw [if_neg h3] at a b
        rw [a, b]
    · rw [if_neg h2] at a b
      rw [a, b]
  · rw [if_neg h1] at a b
    exact a.u b
def ky (t : Nat → Nat) (n q : Nat) : Nat := if kd t n q = 14 then kxi (kd t n (nq t n q)) else 0
abbrev cls_ : Type := Nat → Nat × Nat × Nat × Nat
def clN (t : Nat → Nat) (n z : Nat) (cl : cls_) (q : Nat) (o o' : ot) : cls_ := up1 cl z (kd t n q - 14, ky t n q, o.1, o'.1)
/-- z CLAUSES are read, another one must stand at q: what the whole text comes to -/
def CL (t : Nat → Nat) (n : Nat) : Nat → Nat → cls_ → Nat → Nat → ot → Nat ⊕ lwt → Prop
  | 0, _, _, _, _, _, _ => False
  | F + 1, z, cl, q, c, o, R =>
    if ¬ (kd t n q = 14 ∨ kd t n q = 15 ∨ kd t n q = 16) then R = .inl (1 + 8 * q)
    else if 12 ≤ z then R = .inl (1 + 8 * q + 4)
    else ∃ r, CT t n q c o r ∧ (match r with
      | .inl f => R = .inl f
      | .inr s => if kd t n s.1 = 34 then R = .inr (z + 1, clN t n z cl q o s.2.2, s.2.2.2)
        else if kd t n s.1 = 32 then CL t n F (z + 1) (clN t n z cl q o s.2.2) (nq t n s.1) s.2.1 s.2.2 R
        else R = .inl (1 + 8 * s.1))
def CLx (t : Nat → Nat) (n z : Nat) (cl : cls_) (q c : Nat) (o : ot) (R : Nat ⊕ lwt) : Prop := ∃ F, CL t n F z cl q c o R
theorem CL_u {t : Nat → Nat} {n : Nat} : ∀ (F F' z : Nat) (cl : cls_) (q c : Nat) (o : ot) (R R' : Nat ⊕ lwt), CL t n F z cl q c o R → CL t n F' z cl q c o R' → R = R'
  | 0, _, _, _, _, _, _, _, _, h, _ => by cases h
  | _ + 1, 0, _, _, _, _, _, _, _, _, h => by cases h
  | F + 1, F' + 1, z, cl, q, c, o, R, R', h, h' => by
    rw [CL] at h h'
    by_cases h1 : ¬ (kd t n q = 14 ∨ kd t n q = 15 ∨ kd t n q = 16)
    · rw [if_pos h1] at h h'
      rw [h, h']
    · rw [if_neg h1] at h h'
      by_cases h2 : 12 ≤ z
      · rw [if_pos h2] at h h'
        rw [h, h']
      · rw [if_neg h2] at h h'
        obtain ⟨r, a1, a2⟩ := h
        obtain ⟨r', b1, b2⟩ := h'
        cases a1.u b1
        cases r with
        | inl f =>
          simp only at a2 b2
          rw [a2, b2]
        | inr s =>
          simp only at a2 b2
          by_cases h3 : kd t n s.1 = 34
          · rw [if_pos h3] at a2 b2
            rw [a2, b2]
          · rw [if_neg h3] at a2 b2
            by_cases h4 : kd t n s.1 = 32
            · rw [if_pos h4] at a2 b2
              exact CL_u F F' _ _ _ _ _ _ _ a2 b2
            · rw [if_neg h4] at a2 b2
              rw [a2, b2]
theorem CLx.u {t : Nat → Nat} {n z : Nat} {cl : cls_} {q c : Nat} {o : ot} {R R' : Nat ⊕ lwt} (a : CLx t n z cl q c o R) (b : CLx t n z cl q c o R') : R = R' := by
  obtain ⟨F, a⟩ := a
  obtain ⟨F', b⟩ := b
  exact CL_u F F' _ _ _ _ _ _ _ a b
theorem CLx.w {t : Nat → Nat} {n z : Nat} {cl : cls_} {q c : Nat} {o : ot} (h : ¬ (kd t n q = 14 ∨ kd t n q = 15 ∨ kd t n q = 16)) : CLx t n z cl q c o (.inl (1 + 8 * q)) := ⟨1, by rw [CL, if_pos h]⟩
theorem CLx.m {t : Nat → Nat} {n z : Nat} {cl : cls_} {q c : Nat} {o : ot} (h : kd t n q = 14 ∨ kd t n q = 15 ∨ kd t n q = 16) (hz : 12 ≤ z) : CLx t n z cl q c o (.inl (1 + 8 * q + 4)) := ⟨1, by rw [CL, if_neg (fun e => e h), if_pos hz]⟩
theorem CLx.f {t : Nat → Nat} {n z : Nat} {cl : cls_} {q c : Nat} {o : ot} (h : kd t n q = 14 ∨ kd t n q = 15 ∨ kd t n q = 16) (hz : z < 12) {f : Nat} (k : CT t n q c o (.inl f)) : CLx t n z cl q c o (.inl f) := ⟨1, by rw [CL, if_neg (fun e => e h), if_neg (by omega)]; exact ⟨_, k, rfl⟩⟩
theorem CLx.e {t : Nat → Nat} {n z : Nat} {cl : cls_} {q c q' c' : Nat} {o o' : ot} (h : kd t n q = 14 ∨ kd t n q = 15 ∨ kd t n q = 16) (hz : z < 12) (k : CT t n q c o (.inr (q', c', o'))) (he : kd t n q' = 34) : CLx t n z cl q c o (.inr (z + 1, clN t n z cl q o o', o'.2)) := ⟨1, by
  rw [CL, if_neg (fun e => e h), if_neg (by omega)]
  refine ⟨_, k, ?_⟩
  simp only
  rw [if_pos he]
  trivial⟩
theorem CLx.n {t : Nat → Nat} {n z : Nat} {cl : cls_} {q c q' c' : Nat} {o o' : ot} {R : Nat ⊕ lwt} (h : kd t n q = 14 ∨ kd t n q = 15 ∨ kd t n q = 16) (hz : z < 12) (k : CT t n q c o (.inr (q', c', o'))) (he : kd t n q' = 32) (go : CLx t n (z + 1) (clN t n z cl q o o') (nq t n q') c' o' R) : CLx t n z cl q c o R := by
  obtain ⟨F, go⟩ := go
  refine ⟨F + 1, ?_⟩
  rw [CL, if_neg (fun e => e h), if_neg (by omega)]
  refine ⟨_, k, ?_⟩
  simp only
  rw [if_neg (by omega), if_pos he]
  exact go
theorem CLx.s {t : Nat → Nat} {n z : Nat} {cl : cls_} {q c q' c' : Nat} {o o' : ot} (h : kd t n q = 14 ∨ kd t n q = 15 ∨ kd t n q = 16) (hz : z < 12) (k : CT t n q c o (.inr (q', c', o'))) (h1 : ¬ kd t n q' = 34) (h2 : ¬ kd t n q' = 32) : CLx t n z cl q c o (.inl (1 + 8 * q')) := ⟨1, by
  rw [CL, if_neg (fun e => e h), if_neg (by omega)]
  refine ⟨_, k, ?_⟩
  simp only
  rw [if_neg h1, if_neg h2]
  trivial⟩
/-- between two CLAUSES -/
def cOk (o : ot) (x : Nat × Nat × Nat × Nat) : Prop := x.1 ≤ 2 ∧ x.2.1 ≤ 6 ∧ x.2.2.1 ≤ x.2.2.2 ∧ x.2.2.2 ≤ o.1 ∧ ((x.2.2.1 = x.2.2.2 ∧ x.1 = 0) ∨ ∃ tF : tyt, tF.1 = 1 ∧ tF.2 0 = true ∧ tcQ (lnO o) (x.2.2.2 - x.2.2.1) x.2.2.1 (0, fun _ => false) = some tF)
def JJ (n z : Nat) (cl : cls_) (q c : Nat) (o : ot) : Prop := z ≤ 12 ∧ q ≤ n ∧ c ≤ 60 ∧ vlN (lnO o) o.1 ≤ c ∧ 3 * o.1 ≤ 6 * c + q ∧ ∀ j, j < z → cOk o (cl j)
theorem JJ.st {n z : Nat} {cl : cls_} {q q' c : Nat} {o : ot} (J : JJ n z cl q c o) (hq : q ≤ q') (hn : q' ≤ n) : I0 n o [] q' c o := by
  obtain ⟨j1, j2, j3, j4, j5, j6⟩ := J
  refine ⟨⟨hn, j3, Nat.le_refl _, j4, fun _ _ => rfl⟩, trivial, ⟨(0, fun _ => false), ?_, rfl, fun i hi => by simp [arS] at hi, fun i h1 h2 => by simp [arS] at h2⟩, ?_⟩
  · unfold tc
    rw [Nat.sub_self]
    rfl
  · show 3 * (o.1 + 0) ≤ _
    omega
theorem cOk.up {o o' : ot} {x : Nat × Nat × Nat × Nat} (h : cOk o x) (h1 : o.1 ≤ o'.1) (h2 : ∀ e, e < o.1 → o'.2 e = o.2 e) : cOk o' x := by
  obtain ⟨a1, a2, a3, a4, a5⟩ := h
  refine ⟨a1, a2, a3, by omega, ?_⟩
  rcases a5 with a5 | ⟨tF, b1, b2, b3⟩
  · exact Or.inl a5
  · refine Or.inr ⟨tF, b1, b2, ?_⟩
    rw [← b3]
    exact tcQ_cg _ _ _ (fun i i1 i2 => h2 i (by omega))
theorem JJ.nx {t : Nat → Nat} {n z : Nat} {cl : cls_} {q q' c c' : Nat} {o o' : ot} (J : JJ n z cl q c o) (hz : z < 12) (hk : kd t n q = 14 ∨ kd t n q = 15 ∨ kd t n q = 16) (hK : kd t n q = 14 → isK (kd t n (nq t n q))) (h : I1 n o [] q' c' o' ∨ (kd t n q = 14 ∧ q ≤ q' ∧ q' ≤ n ∧ c' = c ∧ o' = o)) : JJ n (z + 1) (clN t n z cl q o o') q' c' o' := by
  obtain ⟨j1, j2, j3, j4, j5, j6⟩ := J
  have hky : ky t n q ≤ 6 := by
    unfold ky
    split
    · next e => exact (kx_kxi (hK e)).2
    · omega
  have hx : ∀ j, j < z + 1 → ¬ j = z → clN t n z cl q o o' j = cl j := fun j _ hj => if_neg hj
  have hz2 : clN t n z cl q o o' z = (kd t n q - 14, ky t n q, o.1, o'.1) := if_pos rfl
  rcases h with ⟨⟨c1, c2, c3, c4, c5⟩, s1, ty, bd⟩ | ⟨e14, e1, e2, rfl, rfl⟩
  · refine ⟨by omega, c1, c2, c4, ?_, fun j hj => ?_⟩
    · have bd : 3 * (o'.1 + 0) ≤ 6 * c' + q' := bd
      omega
    · by_cases e : j = z
      · rw [e, hz2]
        obtain ⟨T, t1, t2, t3, t4⟩ := ty
        exact ⟨by simp only; omega, hky, c3, Nat.le_refl _, Or.inr ⟨T, t2, t3 0 (by simp [arS]), t1⟩⟩
      · rw [hx j hj e]
        exact (j6 j (by omega)).up c3 c5
  · refine ⟨by omega, e2, j3, j4, by omega, fun j hj => ?_⟩
    by_cases e : j = z
    · rw [e, hz2]
      exact ⟨by simp only; omega, hky, Nat.le_refl _, Nat.le_refl _, Or.inl ⟨rfl, by simp only; omega⟩⟩
    · rw [hx j hj e]
      exact j6 j (by omega)
theorem JJ.mo {n z : Nat} {cl : cls_} {q q' c : Nat} {o : ot} (J : JJ n z cl q c o) (hq : q ≤ q') (hn : q' ≤ n) : JJ n z cl q' c o := by
  obtain ⟨j1, j2, j3, j4, j5, j6⟩ := J
  exact ⟨j1, hn, j3, j4, by omega, j6⟩
theorem JJ.lok {n z : Nat} {cl : cls_} {q c : Nat} {o : ot} (J : JJ n z cl q c o) (hn : n ≤ 400) : LOK (z, cl, o.2) ∧ o.1 ≤ 253 := by
  obtain ⟨j1, j2, j3, j4, j5, j6⟩ := J
  refine ⟨⟨j1, fun j hj => ?_⟩, by omega⟩
  obtain ⟨a1, a2, a3, a4, a5⟩ := j6 j hj
  refine ⟨a1, a2, a3, by show (cl j).2.2.2 ≤ 300; omega, ?_, ?_⟩
  · have h1 : vlN (lnO o) (cl j).2.2.2 ≤ vlN (lnO o) o.1 := vlN_mono (lnO o) a4
    have h2 : vlN ((z, cl, o.2) : lwt) (cl j).2.2.2 = vlN (lnO o) (cl j).2.2.2 := vlN_cg _ (fun _ _ => rfl)
    rw [h2]
    omega
  · rcases a5 with a5 | ⟨tF, b1, b2, b3⟩
    · exact Or.inl a5
    · refine Or.inr ⟨tF, b1, b2, ?_⟩
      rw [← b3]
      exact tcQ_cg _ _ _ (fun _ _ _ => rfl)

