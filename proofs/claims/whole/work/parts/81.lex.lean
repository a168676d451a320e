/-! 81: the text of a LAW, as both read it: blanks, runs of letters and digits, words, tokens -/
abbrev isL (c : Nat) : Prop := 97 ≤ c ∧ c ≤ 122
abbrev isD (c : Nat) : Prop := 48 ≤ c ∧ c ≤ 57

/-- behind the blanks -/
def sk (t : Nat → Nat) (n p : Nat) : Nat := if p < n ∧ t p = 32 then sk t n (p + 1) else p
termination_by n - p
theorem sk_s {t : Nat → Nat} {n p : Nat} (h : p < n) (h2 : t p = 32) : sk t n p = sk t n (p + 1) := by
  rw [sk, if_pos ⟨h, h2⟩]
theorem sk_e {t : Nat → Nat} {n p : Nat} (h : ¬ (p < n ∧ t p = 32)) : sk t n p = p := by
  rw [sk, if_neg h]
theorem sk_sp (t : Nat → Nat) (n : Nat) : ∀ (d p : Nat), n - p ≤ d → p ≤ sk t n p ∧ (p ≤ n → sk t n p ≤ n) ∧ ¬ (sk t n p < n ∧ t (sk t n p) = 32) ∧ ∀ j, p ≤ j → j < sk t n p → t j = 32
  | 0, p, hd => by
    rw [sk_e (by omega)]
    exact ⟨Nat.le_refl _, fun h => h, by omega, fun j h1 h2 => by omega⟩
  | d + 1, p, hd => by
    by_cases h : p < n ∧ t p = 32
    · rw [sk_s h.1 h.2]
      obtain ⟨a1, a2, a3, a4⟩ := sk_sp t n d (p + 1) (by omega)
      refine ⟨by omega, fun _ => a2 (by omega), a3, fun j h1 h2 => ?_⟩
      by_cases e : j = p
      · rw [e]; exact h.2
      · exact a4 j (by omega) h2
    · rw [sk_e h]
      exact ⟨Nat.le_refl _, fun h => h, h, fun j h1 h2 => by omega⟩
theorem sk_ge (t : Nat → Nat) (n p : Nat) : p ≤ sk t n p := (sk_sp t n _ p (Nat.le_refl _)).1
theorem sk_le {t : Nat → Nat} {n p : Nat} (h : p ≤ n) : sk t n p ≤ n := (sk_sp t n _ p (Nat.le_refl _)).2.1 h
theorem sk_no (t : Nat → Nat) (n p : Nat) : ¬ (sk t n p < n ∧ t (sk t n p) = 32) := (sk_sp t n _ p (Nat.le_refl _)).2.2.1
theorem sk_in {t : Nat → Nat} {n p j : Nat} (h1 : p ≤ j) (h2 : j < sk t n p) : t j = 32 := (sk_sp t n _ p (Nat.le_refl _)).2.2.2 j h1 h2
theorem sk_id (t : Nat → Nat) (n p : Nat) : sk t n (sk t n p) = sk t n p := sk_e (sk_no t n p)

/-- behind the letters -/
def el (t : Nat → Nat) (n p : Nat) : Nat := if p < n ∧ isL (t p) then el t n (p + 1) else p
termination_by n - p
theorem el_s {t : Nat → Nat} {n p : Nat} (h : p < n) (h2 : isL (t p)) : el t n p = el t n (p + 1) := by
  rw [el, if_pos ⟨h, h2⟩]
theorem el_e {t : Nat → Nat} {n p : Nat} (h : ¬ (p < n ∧ isL (t p))) : el t n p = p := by
  rw [el, if_neg h]
theorem el_sp (t : Nat → Nat) (n : Nat) : ∀ (d p : Nat), n - p ≤ d → p ≤ el t n p ∧ (p ≤ n → el t n p ≤ n) ∧ ¬ (el t n p < n ∧ isL (t (el t n p))) ∧ ∀ j, p ≤ j → j < el t n p → isL (t j)
  | 0, p, hd => by
    rw [el_e (by omega)]
    exact ⟨Nat.le_refl _, fun h => h, by omega, fun j h1 h2 => by omega⟩
  | d + 1, p, hd => by
    by_cases h : p < n ∧ isL (t p)
    · rw [el_s h.1 h.2]
      obtain ⟨a1, a2, a3, a4⟩ := el_sp t n d (p + 1) (by omega)
      refine ⟨by omega, fun _ => a2 (by omega), a3, fun j h1 h2 => ?_⟩
      by_cases e : j = p
      · rw [e]; exact h.2
      · exact a4 j (by omega) h2
    · rw [el_e h]
      exact ⟨Nat.le_refl _, fun h => h, h, fun j h1 h2 => by omega⟩
theorem el_ge (t : Nat → Nat) (n p : Nat) : p ≤ el t n p := (el_sp t n _ p (Nat.le_refl _)).1
theorem el_le {t : Nat → Nat} {n p : Nat} (h : p ≤ n) : el t n p ≤ n := (el_sp t n _ p (Nat.le_refl _)).2.1 h
theorem el_no (t : Nat → Nat) (n p : Nat) : ¬ (el t n p < n ∧ isL (t (el t n p))) := (el_sp t n _ p (Nat.le_refl _)).2.2.1
theorem el_in {t : Nat → Nat} {n p j : Nat} (h1 : p ≤ j) (h2 : j < el t n p) : isL (t j) := (el_sp t n _ p (Nat.le_refl _)).2.2.2 j h1 h2
theorem el_id (t : Nat → Nat) (n p : Nat) : el t n (el t n p) = el t n p := el_e (el_no t n p)

/-- behind the digits -/
def ed (t : Nat → Nat) (n p : Nat) : Nat := if p < n ∧ isD (t p) then ed t n (p + 1) else p
termination_by n - p
theorem ed_s {t : Nat → Nat} {n p : Nat} (h : p < n) (h2 : isD (t p)) : ed t n p = ed t n (p + 1) := by
  rw [ed, if_pos ⟨h, h2⟩]
theorem ed_e {t : Nat → Nat} {n p : Nat} (h : ¬ (p < n ∧ isD (t p))) : ed t n p = p := by
  rw [ed, if_neg h]
theorem ed_sp (t : Nat → Nat) (n : Nat) : ∀ (d p : Nat), n - p ≤ d → p ≤ ed t n p ∧ (p ≤ n → ed t n p ≤ n) ∧ ¬ (ed t n p < n ∧ isD (t (ed t n p))) ∧ ∀ j, p ≤ j → j < ed t n p → isD (t j)
  | 0, p, hd => by
    rw [ed_e (by omega)]
    exact ⟨Nat.le_refl _, fun h => h, by omega, fun j h1 h2 => by omega⟩
  | d + 1, p, hd => by
    by_cases h : p < n ∧ isD (t p)
    · rw [ed_s h.1 h.2]
      obtain ⟨a1, a2, a3, a4⟩ := ed_sp t n d (p + 1) (by omega)
      refine ⟨by omega, fun _ => a2 (by omega), a3, fun j h1 h2 => ?_⟩
      by_cases e : j = p
      · rw [e]; exact h.2
      · exact a4 j (by omega) h2
    · rw [ed_e h]
      exact ⟨Nat.le_refl _, fun h => h, h, fun j h1 h2 => by omega⟩
theorem ed_ge (t : Nat → Nat) (n p : Nat) : p ≤ ed t n p := (ed_sp t n _ p (Nat.le_refl _)).1
theorem ed_le {t : Nat → Nat} {n p : Nat} (h : p ≤ n) : ed t n p ≤ n := (ed_sp t n _ p (Nat.le_refl _)).2.1 h
theorem ed_no (t : Nat → Nat) (n p : Nat) : ¬ (ed t n p < n ∧ isD (t (ed t n p))) := (ed_sp t n _ p (Nat.le_refl _)).2.2.1
theorem ed_in {t : Nat → Nat} {n p j : Nat} (h1 : p ≤ j) (h2 : j < ed t n p) : isD (t j) := (ed_sp t n _ p (Nat.le_refl _)).2.2.2 j h1 h2
theorem ed_id (t : Nat → Nat) (n p : Nat) : ed t n (ed t n p) = ed t n p := ed_e (ed_no t n p)

/-- the words of LAWS, by number -/
def wd (k : Nat) : List Nat := match k with
  | 0 => [109, 105, 110, 117, 116, 101]
  | 1 => [114, 97, 110, 107]
  | 2 => [100, 97, 121]
  | 3 => [115, 101, 114, 118, 105, 99, 101]
  | 4 => [112, 111, 115, 116]
  | 5 => [110, 101, 97, 114]
  | 6 => [112, 97, 112, 101, 114]
  | 7 => [108, 105, 115, 116, 101, 100]
  | 8 => [111, 119, 110]
  | 9 => [100, 101, 112, 116, 104]
  | 10 => [102, 97, 108, 108, 101, 110]
  | 11 => [115, 105, 110, 99, 101]
  | 12 => [100, 111, 105, 110, 103]
  | 13 => [108, 105, 115, 116]
  | 14 => [102, 105, 114, 115, 116]
  | 15 => [98, 97, 114]
  | 16 => [108, 97, 112, 115, 101]
  | 17 => [105, 102]
  | 18 => [97, 110, 100]
  | 19 => [111, 114]
  | 20 => [110, 111, 116]
  | _ => []
/-- the word k stands from p to e -/
def isW (t : Nat → Nat) (p e k : Nat) : Prop := e = p + (wd k).length ∧ ∀ i, i < (wd k).length → t (p + i) = (wd k).getD i 0

def bW (t : Nat → Nat) (p e k : Nat) : Bool := decide (e = p + (wd k).length) && (List.range (wd k).length).all (fun i => decide (t (p + i) = (wd k).getD i 0))
theorem bW_iff {t : Nat → Nat} {p e k : Nat} : bW t p e k = true ↔ isW t p e k := by
  unfold bW isW
  rw [Bool.and_eq_true, decide_eq_true_iff, List.all_eq_true]
  constructor
  · rintro ⟨h1, h2⟩
    exact ⟨h1, fun i hi => of_decide_eq_true (h2 i (List.mem_range.mpr hi))⟩
  · rintro ⟨h1, h2⟩
    exact ⟨h1, fun i hi => decide_eq_true (h2 i (List.mem_range.mp hi))⟩
theorem wd_inj : ∀ j k : Fin 21, wd j.val = wd k.val → j = k := by decide +kernel
theorem wd_len : ∀ k : Fin 21, 2 ≤ (wd k.val).length ∧ (wd k.val).length ≤ 7 := by decide +kernel
theorem wd_let : ∀ k : Fin 21, ∀ i : Fin 7, i.val < (wd k.val).length → isL ((wd k.val).getD i.val 0) := by decide +kernel
theorem isW_u {t : Nat → Nat} {p e j k : Nat} (hj : j < 21) (hk : k < 21) (a : isW t p e j) (b : isW t p e k) : j = k := by
  have el : (wd j).length = (wd k).length := by have := a.1; have := b.1; omega
  have ew : wd j = wd k := by
    refine List.ext_getElem el fun i h1 h2 => ?_
    have q1 := a.2 i h1
    have q2 := b.2 i h2
    rw [List.getD_eq_getElem?_getD, List.getElem?_eq_getElem h1, Option.getD_some] at q1
    rw [List.getD_eq_getElem?_getD, List.getElem?_eq_getElem h2, Option.getD_some] at q2
    rw [← q1, ← q2]
  have := wd_inj ⟨j, hj⟩ ⟨k, hk⟩ ew
  exact congrArg Fin.val this
/-- the number of the word from p to e; 33 if it is none -/
def wkS (t : Nat → Nat) (p e : Nat) : Nat → Nat → Nat
  | 0, _ => 33
  | d + 1, k => if bW t p e k = true then k else wkS t p e d (k + 1)
def wk (t : Nat → Nat) (p e : Nat) : Nat := wkS t p e 21 0
theorem wkS_sp {t : Nat → Nat} {p e : Nat} : ∀ d k, (wkS t p e d k = 33 ∧ ∀ j, k ≤ j → j < k + d → ¬ isW t p e j) ∨ (k ≤ wkS t p e d k ∧ wkS t p e d k < k + d ∧ isW t p e (wkS t p e d k) ∧ ∀ j, k ≤ j → j < wkS t p e d k → ¬ isW t p e j)
  | 0, k => Or.inl ⟨rfl, fun j h1 h2 => by omega⟩
  | d + 1, k => by
    rw [wkS]
    by_cases h : bW t p e k = true
    · rw [if_pos h]
      exact Or.inr ⟨Nat.le_refl _, by omega, bW_iff.mp h, fun j h1 h2 => by omega⟩
    · rw [if_neg h]
      have hk : ¬ isW t p e k := fun q => h (bW_iff.mpr q)
      have st : ∀ m, (∀ j, k + 1 ≤ j → j < m → ¬ isW t p e j) → ∀ j, k ≤ j → j < m → ¬ isW t p e j := fun m hm j h1 h2 => by
        by_cases e0 : j = k
        · rw [e0]; exact hk
        · exact hm j (by omega) h2
      rcases wkS_sp d (k + 1) with ⟨a, b⟩ | ⟨a, b, c, dd⟩
      · exact Or.inl ⟨a, st _ (fun j h1 h2 => b j h1 (by omega))⟩
      · exact Or.inr ⟨by omega, by omega, c, st _ dd⟩
theorem wk_iff {t : Nat → Nat} {p e k : Nat} (hk : k < 21) : wk t p e = k ↔ isW t p e k := by
  unfold wk
  rcases wkS_sp (t := t) (p := p) (e := e) 21 0 with ⟨a, b⟩ | ⟨a, b, c, d⟩
  · rw [a]
    exact ⟨fun q => by omega, fun q => absurd q (b k (by omega) (by omega))⟩
  · constructor
    · intro q; rw [← q]; exact c
    · intro q; exact isW_u (by omega) hk c q
theorem wk_or (t : Nat → Nat) (p e : Nat) : wk t p e < 21 ∨ wk t p e = 33 := by
  unfold wk
  rcases wkS_sp (t := t) (p := p) (e := e) 21 0 with ⟨a, b⟩ | ⟨a, b, c, d⟩
  · exact Or.inr a
  · exact Or.inl (by omega)
theorem wk_33 {t : Nat → Nat} {p e : Nat} (h : ∀ j, j < 21 → ¬ isW t p e j) : wk t p e = 33 := by
  rcases wk_or t p e with h1 | h1
  · exact absurd ((wk_iff h1).mp rfl) (h _ h1)
  · exact h1
/-- a sign alone -/
def sg (c : Nat) : Nat := match c with
  | 43 => 23 | 45 => 24 | 60 => 25 | 61 => 27 | 62 => 29 | 91 => 30 | 93 => 31 | 59 => 32 | _ => 33
/-- the number of the digits from p on, at most four -/
def dv (t : Nat → Nat) (p : Nat) : Nat → Nat
  | 0 => 0
  | d + 1 => 10 * dv t p d + (t (p + d) - 48)
/-- the token at q: kind, number, its end -/
def tk (t : Nat → Nat) (n q : Nat) : Nat × Nat × Nat :=
  if n ≤ q then (34, 0, q)
  else if isL (t q) then (wk t q (el t n q), 0, el t n q)
  else if isD (t q) then (if 4 < ed t n q - q then (22, 0, ed t n q) else (21, dv t q (ed t n q - q), ed t n q))
  else if (t q = 60 ∨ t q = 62) ∧ q + 1 < n ∧ t (q + 1) = 61 then (if t q = 60 then 26 else 28, 0, q + 2)
  else (sg (t q), 0, q + 1)
def kd (t : Nat → Nat) (n q : Nat) : Nat := (tk t n q).1
def nb (t : Nat → Nat) (n q : Nat) : Nat := (tk t n q).2.1
def te (t : Nat → Nat) (n q : Nat) : Nat := (tk t n q).2.2
/-- where the token behind that at q stands -/
def nq (t : Nat → Nat) (n q : Nat) : Nat := sk t n (te t n q)
theorem tk_end {t : Nat → Nat} {n q : Nat} (h : n ≤ q) : tk t n q = (34, 0, q) := by
  unfold tk
  rw [if_pos h]
theorem tk_let {t : Nat → Nat} {n q : Nat} (h : q < n) (h1 : isL (t q)) : tk t n q = (wk t q (el t n q), 0, el t n q) := by
  unfold tk
  rw [if_neg (by omega), if_pos h1]
theorem tk_dig {t : Nat → Nat} {n q : Nat} (h : q < n) (h1 : isD (t q)) : tk t n q = if 4 < ed t n q - q then (22, 0, ed t n q) else (21, dv t q (ed t n q - q), ed t n q) := by
  unfold tk
  rw [if_neg (by omega), if_neg (by omega), if_pos h1]
theorem tk_wide {t : Nat → Nat} {n q : Nat} (h : q < n) (h1 : (t q = 60 ∨ t q = 62) ∧ q + 1 < n ∧ t (q + 1) = 61) : tk t n q = (if t q = 60 then 26 else 28, 0, q + 2) := by
  unfold tk
  rw [if_neg (by omega), if_neg (by omega), if_neg (by omega), if_pos h1]
theorem tk_one {t : Nat → Nat} {n q : Nat} (h : q < n) (h1 : ¬ isL (t q)) (h2 : ¬ isD (t q)) (h3 : ¬ ((t q = 60 ∨ t q = 62) ∧ q + 1 < n ∧ t (q + 1) = 61)) : tk t n q = (sg (t q), 0, q + 1) := by
  unfold tk
  rw [if_neg (by omega), if_neg h1, if_neg h2, if_neg h3]
theorem te_gt {t : Nat → Nat} {n q : Nat} (h : q < n) : q < te t n q ∧ te t n q ≤ n := by
  unfold te
  by_cases h1 : isL (t q)
  · rw [tk_let h h1]
    refine ⟨?_, el_le (by omega)⟩
    show q < el t n q
    rw [el_s h h1]
    exact el_ge t n (q + 1)
  · by_cases h2 : isD (t q)
    · rw [tk_dig h h2]
      have a : q < ed t n q := by
        rw [ed_s h h2]
        exact ed_ge t n (q + 1)
      have b : ed t n q ≤ n := ed_le (by omega)
      split <;> exact ⟨a, b⟩
    · by_cases h3 : (t q = 60 ∨ t q = 62) ∧ q + 1 < n ∧ t (q + 1) = 61
      · rw [tk_wide h h3]
        exact ⟨by show q < q + 2; omega, by show q + 2 ≤ n; omega⟩
      · rw [tk_one h h1 h2 h3]
        exact ⟨by show q < q + 1; omega, by show q + 1 ≤ n; omega⟩
theorem nq_gt {t : Nat → Nat} {n q : Nat} (h : q < n) : q < nq t n q ∧ nq t n q ≤ n := by
  have := te_gt (t := t) h
  have a := sk_ge t n (te t n q)
  have b := sk_le (t := t) (n := n) (p := te t n q) this.2
  unfold nq
  omega
theorem nq_sk (t : Nat → Nat) (n q : Nat) : sk t n (nq t n q) = nq t n q := sk_id t n _
theorem sg_or (c : Nat) : sg c = 23 ∨ sg c = 24 ∨ sg c = 25 ∨ sg c = 27 ∨ sg c = 29 ∨ sg c = 30 ∨ sg c = 31 ∨ sg c = 32 ∨ sg c = 33 := by
  unfold sg
  split <;> simp
/-- kinds of tokens, by what stands there -/
theorem kd_w {t : Nat → Nat} {n q k : Nat} (hq : q ≤ n) (hk : k < 21) : kd t n q = k ↔ isW t q (el t n q) k := by
  unfold kd
  have l2 := (wd_len ⟨k, hk⟩).1
  by_cases h : q < n
  · by_cases h1 : isL (t q)
    · rw [tk_let h h1]
      exact wk_iff hk
    · have e : el t n q = q := el_e (fun z => h1 z.2)
      have no : ¬ isW t q (el t n q) k := fun z => by have := z.1; rw [e] at this; simp only at l2; omega
      refine ⟨fun z => absurd z ?_, fun z => absurd z no⟩
      by_cases h2 : isD (t q)
      · rw [tk_dig h h2]
        split <;> (simp only; omega)
      · by_cases h3 : (t q = 60 ∨ t q = 62) ∧ q + 1 < n ∧ t (q + 1) = 61
        · rw [tk_wide h h3]
          simp only
          split <;> omega
        · rw [tk_one h h1 h2 h3]
          have := sg_or (t q)
          simp only
          omega
  · have e : el t n q = q := el_e (fun z => h z.1)
    have no : ¬ isW t q (el t n q) k := fun z => by have := z.1; rw [e] at this; simp only at l2; omega
    rw [tk_end (by omega)]
    exact ⟨fun z => by simp only at z; omega, fun z => absurd z no⟩
theorem te_w {t : Nat → Nat} {n q k : Nat} (hq : q ≤ n) (hk : k < 21) (h : isW t q (el t n q) k) : te t n q = q + (wd k).length := by
  have l2 := (wd_len ⟨k, hk⟩).1
  have h0 := h.1
  simp only at l2
  have hl : q < n ∧ isL (t q) := by
    by_cases z : q < n ∧ isL (t q)
    · exact z
    · rw [el_e z] at h0
      omega
  unfold te
  rw [tk_let hl.1 hl.2]
  exact h0
theorem kd_end {t : Nat → Nat} {n q : Nat} (hq : q ≤ n) : kd t n q = 34 ↔ q = n := by
  unfold kd
  constructor
  · intro h
    by_cases hl : q < n
    · by_cases h1 : isL (t q)
      · rw [tk_let hl h1] at h
        have := wk_or t q (el t n q)
        simp only at h
        omega
      · by_cases h2 : isD (t q)
        · rw [tk_dig hl h2] at h
          split at h <;> (simp only at h; omega)
        · by_cases h3 : (t q = 60 ∨ t q = 62) ∧ q + 1 < n ∧ t (q + 1) = 61
          · rw [tk_wide hl h3] at h
            simp only at h
            split at h <;> omega
          · rw [tk_one hl h1 h2 h3] at h
            have := sg_or (t q)
            simp only at h
            omega
    · omega
  · intro h
    rw [tk_end (by omega)]
theorem sg_43 {x : Nat} (h : sg x = 23) : x = 43 := by
  unfold sg at h
  split at h <;> first | rfl | omega
theorem sg_45 {x : Nat} (h : sg x = 24) : x = 45 := by
  unfold sg at h
  split at h <;> first | rfl | omega
theorem sg_91 {x : Nat} (h : sg x = 30) : x = 91 := by
  unfold sg at h
  split at h <;> first | rfl | omega
theorem sg_93 {x : Nat} (h : sg x = 31) : x = 93 := by
  unfold sg at h
  split at h <;> first | rfl | omega
theorem sg_59 {x : Nat} (h : sg x = 32) : x = 59 := by
  unfold sg at h
  split at h <;> first | rfl | omega
theorem sg_inj {x c : Nat} (h : sg x = sg c) (hcc : c = 43 ∨ c = 45 ∨ c = 91 ∨ c = 93 ∨ c = 59) : x = c := by
  rcases hcc with rfl | rfl | rfl | rfl | rfl
  · exact sg_43 h
  · exact sg_45 h
  · exact sg_91 h
  · exact sg_93 h
  · exact sg_59 h
/-- a sign: '+' '-' '[' ']' ';' and those of comparing -/
theorem kd_s {t : Nat → Nat} {n q c k : Nat} (hq : q ≤ n) (hc : sg c = k) (hk : k = 23 ∨ k = 24 ∨ k = 30 ∨ k = 31 ∨ k = 32) : kd t n q = k ↔ (q < n ∧ t q = c) := by
  have hcc : c = 43 ∨ c = 45 ∨ c = 91 ∨ c = 93 ∨ c = 59 := by
    rcases hk with e | e | e | e | e <;> rw [e] at hc
    · exact Or.inl (sg_43 hc)
    · exact Or.inr (Or.inl (sg_45 hc))
    · exact Or.inr (Or.inr (Or.inl (sg_91 hc)))
    · exact Or.inr (Or.inr (Or.inr (Or.inl (sg_93 hc))))
    · exact Or.inr (Or.inr (Or.inr (Or.inr (sg_59 hc))))
  unfold kd
  by_cases hl : q < n
  · by_cases h1 : isL (t q)
    · rw [tk_let hl h1]
      have := wk_or t q (el t n q)
      simp only
      exact ⟨fun z => by omega, fun z => by omega⟩
    · by_cases h2 : isD (t q)
      · rw [tk_dig hl h2]
        split <;> exact ⟨fun z => by simp only at z; omega, fun z => by omega⟩
      · by_cases h3 : (t q = 60 ∨ t q = 62) ∧ q + 1 < n ∧ t (q + 1) = 61
        · rw [tk_wide hl h3]
          simp only
          refine ⟨fun z => ?_, fun z => by omega⟩
          split at z <;> omega
        · rw [tk_one hl h1 h2 h3]
          simp only
          constructor
          · intro z
            exact ⟨hl, sg_inj (z.trans hc.symm) hcc⟩
          · rintro ⟨-, z⟩
            rw [z]; exact hc
  · rw [tk_end (by omega)]
    exact ⟨fun z => by simp only at z; omega, fun z => by omega⟩
theorem te_s {t : Nat → Nat} {n q c : Nat} (hl : q < n) (h : t q = c) (hcc : c = 43 ∨ c = 45 ∨ c = 91 ∨ c = 93 ∨ c = 59) : te t n q = q + 1 := by
  unfold te
  rw [tk_one hl (by omega) (by omega) (by omega)]
/-- the tokens' places -/
def pl (t : Nat → Nat) (n : Nat) : Nat → Nat
  | 0 => sk t n 0
  | i + 1 => nq t n (pl t n i)
theorem pl_sk (t : Nat → Nat) (n : Nat) : ∀ i, sk t n (pl t n i) = pl t n i
  | 0 => sk_id t n 0
  | i + 1 => nq_sk t n _

