/-! 83: what holds of the abstract machine: types, room -/
def lnO (o : ot) : lwt := (0, fun _ => (0, 0, 0, 0), o.2)
def tc (o : ot) (b : Nat) : Option tyt := tcQ (lnO o) (o.1 - b) b (0, fun _ => false)
theorem tcQ_sn (ln : lwt) : ∀ (m e : Nat) (q : tyt), tcQ ln (m + 1) e q = (match tcQ ln m e q with
    | some q' => tx (ln.2.2 (e + m)) q'
    | none => none)
  | 0, e, q => by
    rw [tcQ, tcQ]
    show (match tx (ln.2.2 e) q with
      | some q' => tcQ ln 0 (e + 1) q'
      | none => none) = tx (ln.2.2 (e + 0)) q
    rw [Nat.add_zero]
    cases tx (ln.2.2 e) q <;> rfl
  | m + 1, e, q => by
    rw [tcQ, tcQ]
    cases h : tx (ln.2.2 e) q with
    | none => rfl
    | some q' =>
      show tcQ ln (m + 1) (e + 1) q' = (match tcQ ln m (e + 1) q' with
        | some q'' => tx (ln.2.2 (e + (m + 1))) q''
        | none => none)
      rw [tcQ_sn ln m (e + 1) q', show e + 1 + m = e + (m + 1) by omega]
theorem tcQ_cg {ln ln' : lwt} : ∀ (m e : Nat) (q : tyt), (∀ i, e ≤ i → i < e + m → ln.2.2 i = ln'.2.2 i) → tcQ ln m e q = tcQ ln' m e q
  | 0, _, _, _ => rfl
  | m + 1, e, q, h => by
    rw [tcQ, tcQ, h e (by omega) (by omega)]
    cases tx (ln'.2.2 e) q with
    | none => rfl
    | some q' => exact tcQ_cg m (e + 1) q' (fun i h1 h2 => h i (by omega) (by omega))
theorem vlN_cg {ln ln' : lwt} : ∀ (e : Nat), (∀ i, i < e → ln.2.2 i = ln'.2.2 i) → vlN ln e = vlN ln' e
  | 0, _ => rfl
  | e + 1, h => by
    rw [vlN, vlN, h e (by omega), vlN_cg e (fun i hi => h i (by omega))]
theorem psh_o (o : ot) (x : Nat × Nat) {i : Nat} (h : ¬ i = o.1) : (psh o x).2 i = o.2 i := if_neg h
theorem psh_n (o : ot) (x : Nat × Nat) : (psh o x).2 o.1 = x := if_pos rfl
theorem tc_psh {o : ot} {b : Nat} {T : tyt} (hb : b ≤ o.1) (h : tc o b = some T) (x : Nat × Nat) : tc (psh o x) b = tx x T := by
  unfold tc at h ⊢
  show tcQ (lnO (psh o x)) (o.1 + 1 - b) b _ = _
  rw [show o.1 + 1 - b = (o.1 - b) + 1 by omega, tcQ_sn, tcQ_cg (ln' := lnO o) _ _ _ (fun i h1 h2 => psh_o o x (by omega)), h]
  show tx ((psh o x).2 (b + (o.1 - b))) T = _
  rw [show b + (o.1 - b) = o.1 by omega, psh_n]
theorem vl_psh (o : ot) (x : Nat × Nat) : vlN (lnO (psh o x)) (psh o x).1 = vlN (lnO o) o.1 + (if x.1 ≤ 1 then 1 else 0) := by
  show vlN (lnO (psh o x)) (o.1 + 1) = _
  rw [vlN, vlN_cg (ln' := lnO o) _ (fun i h1 => psh_o o x (by omega))]
  show _ + (if ((psh o x).2 o.1).1 ≤ 1 then 1 else 0) = _
  rw [psh_n]
/-- a truths and above them f numbers stand ready -/
def Ty (o : ot) (b a f : Nat) : Prop := ∃ T, tc o b = some T ∧ T.1 = a + f ∧ (∀ i, i < a → T.2 i = true) ∧ ∀ i, a ≤ i → i < a + f → T.2 i = false
theorem Ty.v {o : ot} {b a f : Nat} (hb : b ≤ o.1) (h : Ty o b a f) {x : Nat × Nat} (hx : (x.1 = 0 ∧ x.2 ≤ 9999) ∨ (x.1 = 1 ∧ x.2 < 13)) : Ty (psh o x) b a (f + 1) := by
  obtain ⟨T, h1, h2, h3, h4⟩ := h
  refine ⟨(T.1 + 1, up1 T.2 T.1 false), ?_, by simp only; omega, fun i hi => ?_, fun i hi hi2 => ?_⟩
  · rw [tc_psh hb h1]
    obtain ⟨x1, x2⟩ := x
    rcases hx with ⟨e, e2⟩ | ⟨e, e2⟩
    · simp only at e e2; subst e
      show (if x2 ≤ 9999 then _ else _) = _
      rw [if_pos e2]
    · simp only at e e2; subst e
      show (if x2 < 13 then _ else _) = _
      rw [if_pos e2]
  · show (if i = T.1 then false else T.2 i) = true
    rw [if_neg (by omega)]; exact h3 i hi
  · show (if i = T.1 then false else T.2 i) = false
    split
    · rfl
    · exact h4 i hi (by omega)
theorem Ty.pm {o : ot} {b a f x : Nat} (hb : b ≤ o.1) (h : Ty o b a (f + 2)) (hx : x = 2 ∨ x = 3) : Ty (psh o (x, 0)) b a (f + 1) := by
  obtain ⟨T, h1, h2, h3, h4⟩ := h
  refine ⟨(T.1 - 1, T.2), ?_, by simp only; omega, h3, fun i hi hi2 => h4 i hi (by omega)⟩
  rw [tc_psh hb h1]
  have c : 2 ≤ T.1 ∧ T.2 (T.1 - 1) = false ∧ T.2 (T.1 - 2) = false := ⟨by omega, h4 _ (by omega) (by omega), h4 _ (by omega) (by omega)⟩
  rcases hx with rfl | rfl
  · show (if 2 ≤ T.1 ∧ T.2 (T.1 - 1) = false ∧ T.2 (T.1 - 2) = false then _ else _) = _
    rw [if_pos c]
  · show (if 2 ≤ T.1 ∧ T.2 (T.1 - 1) = false ∧ T.2 (T.1 - 2) = false then _ else _) = _
    rw [if_pos c]
theorem Ty.cmp {o : ot} {b a x : Nat} (hb : b ≤ o.1) (h : Ty o b a 2) (hx : 4 ≤ x ∧ x ≤ 8) : Ty (psh o (x, 0)) b (a + 1) 0 := by
  obtain ⟨T, h1, h2, h3, h4⟩ := h
  refine ⟨(T.1 - 1, up1 T.2 (T.1 - 2) true), ?_, by simp only; omega, fun i hi => ?_, fun i hi hi2 => by omega⟩
  · rw [tc_psh hb h1]
    have c : x ≤ 8 ∧ 2 ≤ T.1 ∧ T.2 (T.1 - 1) = false ∧ T.2 (T.1 - 2) = false := ⟨hx.2, by omega, h4 _ (by omega) (by omega), h4 _ (by omega) (by omega)⟩
    have : x = 4 ∨ x = 5 ∨ x = 6 ∨ x = 7 ∨ x = 8 := by omega
    rcases this with rfl | rfl | rfl | rfl | rfl <;> exact if_pos c
  · show (if i = T.1 - 2 then true else T.2 i) = true
    split
    · rfl
    · exact h3 i (by omega)
theorem Ty.no {o : ot} {b a : Nat} (hb : b ≤ o.1) (h : Ty o b (a + 1) 0) : Ty (psh o (9, 0)) b (a + 1) 0 := by
  obtain ⟨T, h1, h2, h3, h4⟩ := h
  refine ⟨T, ?_, h2, h3, h4⟩
  rw [tc_psh hb h1]
  exact if_pos ⟨by omega, h3 _ (by omega)⟩
theorem Ty.bin {o : ot} {b a x : Nat} (hb : b ≤ o.1) (h : Ty o b (a + 2) 0) (hx : x = 10 ∨ x = 11) : Ty (psh o (x, 0)) b (a + 1) 0 := by
  obtain ⟨T, h1, h2, h3, h4⟩ := h
  refine ⟨(T.1 - 1, T.2), ?_, by simp only; omega, fun i hi => h3 i (by omega), fun i hi hi2 => by omega⟩
  rw [tc_psh hb h1]
  have c : 2 ≤ T.1 ∧ T.2 (T.1 - 1) = true ∧ T.2 (T.1 - 2) = true := ⟨by omega, h3 _ (by omega), h3 _ (by omega)⟩
  rcases hx with rfl | rfl <;> exact if_pos c
def arS : List Nat → Nat
  | [] => 0
  | x :: r => (if x = 10 ∨ x = 11 then 1 else 0) + arS r
def pnS : List Nat → Nat
  | [] => 0
  | x :: r => (if x = 12 then 0 else 1) + pnS r
def sO : List Nat → Prop
  | [] => True
  | x :: r => (x = 9 ∨ x = 10 ∨ x = 11 ∨ x = 12) ∧ (x = 10 → t9 r ∧ t10 r) ∧ (x = 11 → t9 r ∧ t10 r ∧ t11 r) ∧ sO r
def gX (x : Nat) : Nat := if x = 20 then 0 else 1
def Co (n : Nat) (b : ot) (q c : Nat) (o : ot) : Prop := q ≤ n ∧ c ≤ 60 ∧ b.1 ≤ o.1 ∧ vlN (lnO o) o.1 ≤ c ∧ ∀ e, e < b.1 → o.2 e = b.2 e
def I0 (n : Nat) (b : ot) (S : List Nat) (q c : Nat) (o : ot) : Prop := Co n b q c o ∧ sO S ∧ Ty o b.1 (arS S) 0 ∧ 3 * (o.1 + pnS S) ≤ 6 * c + q + 1
def I1 (n : Nat) (b : ot) (S : List Nat) (q c : Nat) (o : ot) : Prop := Co n b q c o ∧ sO S ∧ Ty o b.1 (arS S + 1) 0 ∧ 3 * (o.1 + pnS S) ≤ 6 * c + q
def okX (x : Nat) : Prop := x = 20 ∨ (4 ≤ x ∧ x ≤ 8)
def I2 (n : Nat) (b : ot) (S : List Nat) (x q c : Nat) (o : ot) : Prop := Co n b q c o ∧ sO S ∧ okX x ∧ Ty o b.1 (arS S) (gX x) ∧ 3 * (o.1 + pnS S + gX x) ≤ 6 * c + q + 1
def I3 (n : Nat) (b : ot) (S : List Nat) (x q c : Nat) (o : ot) : Prop := Co n b q c o ∧ sO S ∧ okX x ∧ Ty o b.1 (arS S) (gX x + 1) ∧ 3 * (o.1 + pnS S + gX x) + 3 ≤ 6 * c + q
def J2 (n : Nat) (b : ot) (S : List Nat) (x q c : Nat) (o : ot) : Prop := Co n b q c o ∧ sO S ∧ okX x ∧ Ty o b.1 (arS S) (gX x + 1) ∧ 3 * (o.1 + pnS S + gX x + 1) ≤ 6 * c + q + 1
def J3 (n : Nat) (b : ot) (S : List Nat) (x q c : Nat) (o : ot) : Prop := Co n b q c o ∧ sO S ∧ okX x ∧ Ty o b.1 (arS S) (gX x + 2) ∧ 3 * (o.1 + pnS S + gX x + 1) + 3 ≤ 6 * c + q
theorem dv_lt {t : Nat → Nat} {p : Nat} : ∀ d, (∀ i, i < d → t (p + i) ≤ 57) → dv t p d + 1 ≤ 10 ^ d
  | 0, _ => Nat.le_refl 1
  | d + 1, h => by
    have a := dv_lt d (fun i hi => h i (by omega))
    have b := h d (by omega)
    rw [dv, Nat.pow_succ]
    omega
theorem nb_le {t : Nat → Nat} {n q : Nat} (hq : q ≤ n) (h : kd t n q = 21) : nb t n q ≤ 9999 := by
  unfold kd at h
  unfold nb
  by_cases hl : q < n
  · by_cases h1 : isL (t q)
    · rw [tk_let hl h1] at h
      have := wk_or t q (el t n q)
      simp only at h
      omega
    · by_cases h2 : isD (t q)
      · rw [tk_dig hl h2] at h ⊢
        split at h
        · simp only at h; omega
        · next h4 =>
          rw [if_neg h4]
          show dv t q (ed t n q - q) ≤ 9999
          have a := dv_lt (t := t) (p := q) (ed t n q - q) (fun i hi => (ed_in (t := t) (n := n) (p := q) (j := q + i) (by omega) (by omega)).2)
          have b : (10 : Nat) ^ (ed t n q - q) ≤ 10 ^ 4 := Nat.pow_le_pow_right (by omega) (by omega)
          have c : (10 : Nat) ^ 4 = 10000 := by decide
          omega
      · by_cases h3 : (t q = 60 ∨ t q = 62) ∧ q + 1 < n ∧ t (q + 1) = 61
        · rw [tk_wide hl h3] at h
          simp only at h
          split at h <;> omega
        · rw [tk_one hl h1 h2 h3] at h
          have := sg_or (t q)
          simp only at h
          omega
  · rw [tk_end (by omega)] at h
    simp only at h
    omega
theorem lt_kd {t : Nat → Nat} {n q : Nat} (hq : q ≤ n) (h : ¬ kd t n q = 34) : q < n := by
  by_cases e : q = n
  · exact absurd ((kd_end hq).mpr e) h
  · omega
theorem Co.nq {t : Nat → Nat} {n q c : Nat} {b : ot} {o : ot} (h : Co n b q c o) (hl : q < n) : Co n b (nq t n q) c o := ⟨(nq_gt hl).2, h.2⟩
theorem nq_w {t : Nat → Nat} {n q k : Nat} (hq : q ≤ n) (hk : k < 21) (h : kd t n q = k) : q + (wd k).length ≤ nq t n q ∧ q < n := by
  have e := te_w hq hk ((kd_w hq hk).mp h)
  have a := sk_ge t n (te t n q)
  unfold nq
  exact ⟨by omega, lt_kd (t := t) hq (by omega)⟩
theorem val_ok {t : Nat → Nat} {n q c : Nat} {b : ot} {o : ot} (hC : Co n b q c o) (h2 : kd t n q = 21 ∨ kd t n q < 13) (hc : c < 60) : q < n ∧ Co n b (nq t n q) (c + 1) (psh o (if kd t n q = 21 then (0, nb t n q) else (1, kd t n q))) ∧ ∀ a f, Ty o b.1 a f → Ty (psh o (if kd t n q = 21 then (0, nb t n q) else (1, kd t n q))) b.1 a (f + 1) := by
  have hl := lt_kd (t := t) hC.1 (by omega)
  have hx : ((if kd t n q = 21 then (0, nb t n q) else (1, kd t n q) : Nat × Nat).1 = 0 ∧ (if kd t n q = 21 then (0, nb t n q) else (1, kd t n q) : Nat × Nat).2 ≤ 9999) ∨ ((if kd t n q = 21 then (0, nb t n q) else (1, kd t n q) : Nat × Nat).1 = 1 ∧ (if kd t n q = 21 then (0, nb t n q) else (1, kd t n q) : Nat × Nat).2 < 13) := by
    by_cases e : kd t n q = 21
    · rw [if_pos e]; exact Or.inl ⟨rfl, nb_le hC.1 e⟩
    · rw [if_neg e]; exact Or.inr ⟨rfl, by simp only; omega⟩
  generalize (if kd t n q = 21 then (0, nb t n q) else (1, kd t n q) : Nat × Nat) = x at hx
  refine ⟨hl, ⟨(nq_gt hl).2, by omega, ?_, ?_, fun e he => ?_⟩, fun a f h => h.v hC.2.2.1 hx⟩
  · show b.1 ≤ o.1 + 1
    have := hC.2.2.1
    omega
  · rw [vl_psh]
    have := hC.2.2.2.1
    split <;> omega
  · rw [psh_o o x (by have := hC.2.2.1; omega)]
    exact hC.2.2.2.2 e he
theorem Co.op {n q c : Nat} {b : ot} {o : ot} (h : Co n b q c o) {x : Nat} (hx : 2 ≤ x) : Co n b q c (psh o (x, 0)) := by
  refine ⟨h.1, h.2.1, ?_, ?_, fun e he => ?_⟩
  · show b.1 ≤ o.1 + 1
    have := h.2.2.1
    omega
  · rw [vl_psh, if_neg (by simp only; omega)]
    exact h.2.2.2.1
  · rw [psh_o o (x, 0) (by have := h.2.2.1; omega)]
    exact h.2.2.2.2 e he
theorem I0.cm {n : Nat} {b : ot} {S : List Nat} {q c : Nat} {o : ot} (h : I0 n b S q c o) : I2 n b S 20 q c o := ⟨h.1, h.2.1, Or.inl rfl, h.2.2.1, h.2.2.2⟩
theorem I2.v {t : Nat → Nat} {n : Nat} {b : ot} {S : List Nat} {x q c : Nat} {o : ot} (h : I2 n b S x q c o) (h2 : kd t n q = 21 ∨ kd t n q < 13) (hc : c < 60) : I3 n b S x (nq t n q) (c + 1) (psh o (if kd t n q = 21 then (0, nb t n q) else (1, kd t n q))) := by
  obtain ⟨hl, h4, h5⟩ := val_ok h.1 h2 hc
  have g := (nq_gt (t := t) hl).1
  have b0 := h.2.2.2.2
  exact ⟨h4, h.2.1, h.2.2.1, h5 _ _ h.2.2.2.1, by show 3 * (o.1 + 1 + pnS S + gX x) + 3 ≤ _; omega⟩
theorem J2.v {t : Nat → Nat} {n : Nat} {b : ot} {S : List Nat} {x q c : Nat} {o : ot} (h : J2 n b S x q c o) (h2 : kd t n q = 21 ∨ kd t n q < 13) (hc : c < 60) : J3 n b S x (nq t n q) (c + 1) (psh o (if kd t n q = 21 then (0, nb t n q) else (1, kd t n q))) := by
  obtain ⟨hl, h4, h5⟩ := val_ok h.1 h2 hc
  have g := (nq_gt (t := t) hl).1
  have b0 := h.2.2.2.2
  exact ⟨h4, h.2.1, h.2.2.1, h5 _ _ h.2.2.2.1, by show 3 * (o.1 + 1 + pnS S + gX x + 1) + 3 ≤ _; omega⟩
theorem J3.pop {n : Nat} {b : ot} {S : List Nat} {x y q c : Nat} {o : ot} (h : J3 n b S x q c o) (hy : y = 2 ∨ y = 3) : I3 n b S x q c (psh o (y, 0)) := ⟨h.1.op (by omega), h.2.1, h.2.2.1, h.2.2.2.1.pm h.1.2.2.1 hy, by have := h.2.2.2.2; show 3 * (o.1 + 1 + pnS S + gX x) + 3 ≤ _; omega⟩
theorem I3.pm {t : Nat → Nat} {n : Nat} {b : ot} {S : List Nat} {x q c : Nat} {o : ot} (h : I3 n b S x q c o) (hk : kd t n q = 23 ∨ kd t n q = 24) : J2 n b S x (nq t n q) c o := by
  have hl := lt_kd (t := t) h.1.1 (by omega)
  have g := (nq_gt (t := t) hl).1
  have b0 := h.2.2.2.2
  exact ⟨h.1.nq hl, h.2.1, h.2.2.1, h.2.2.2.1, by omega⟩
theorem I3.sg {t : Nat → Nat} {n : Nat} {b : ot} {S : List Nat} {q c : Nat} {o : ot} (h : I3 n b S 20 q c o) (hk : 25 ≤ kd t n q ∧ kd t n q ≤ 29) (hc : c < 60) : I2 n b S (kd t n q - 21) (nq t n q) (c + 1) o := by
  have hl := lt_kd (t := t) h.1.1 (by omega)
  have g := (nq_gt (t := t) hl).1
  obtain ⟨c1, c2, c3, c4, c5⟩ := h.1
  have b0 := h.2.2.2.2
  have e : gX (kd t n q - 21) = 1 := if_neg (by omega)
  have e0 : gX 20 = 0 := rfl
  have ty := h.2.2.2.1
  rw [e0] at b0 ty
  exact ⟨⟨(nq_gt hl).2, by omega, c3, by omega, c5⟩, h.2.1, Or.inr ⟨by omega, by omega⟩, by rw [e]; exact ty, by rw [e]; omega⟩
theorem I3.en {n : Nat} {b : ot} {S : List Nat} {x q c : Nat} {o : ot} (h : I3 n b S x q c o) (hx : ¬ x = 20) : I1 n b S q c (psh o (x, 0)) := by
  have hx2 : 4 ≤ x ∧ x ≤ 8 := by
    rcases h.2.2.1 with e | e
    · exact absurd e hx
    · exact e
  have e : gX x = 1 := if_neg hx
  have ty := h.2.2.2.1
  have b0 := h.2.2.2.2
  rw [e] at ty b0
  exact ⟨h.1.op (by omega), h.2.1, ty.cmp h.1.2.2.1 hx2, by show 3 * (o.1 + 1 + pnS S) ≤ _; omega⟩
theorem I0.no {t : Nat → Nat} {n : Nat} {b : ot} {S : List Nat} {q c : Nat} {o : ot} (h : I0 n b S q c o) (hk : kd t n q = 20) : I0 n b (9 :: S) (nq t n q) c o := by
  obtain ⟨g, hl⟩ := nq_w h.1.1 (by omega) hk
  have g : q + 3 ≤ nq t n q := g
  have b0 := h.2.2.2
  refine ⟨h.1.nq hl, ⟨Or.inl rfl, fun e => by omega, fun e => by omega, h.2.1⟩, ?_, ?_⟩
  · rw [arS, if_neg (by omega), Nat.zero_add]; exact h.2.2.1
  · rw [pnS, if_neg (by omega)]; omega
theorem I0.br {t : Nat → Nat} {n : Nat} {b : ot} {S : List Nat} {q c : Nat} {o : ot} (h : I0 n b S q c o) (hk : kd t n q = 30) : I0 n b (12 :: S) (nq t n q) c o := by
  have hl := lt_kd (t := t) h.1.1 (by omega)
  have g := (nq_gt (t := t) hl).1
  have b0 := h.2.2.2
  refine ⟨h.1.nq hl, ⟨Or.inr (Or.inr (Or.inr rfl)), fun e => by omega, fun e => by omega, h.2.1⟩, ?_, ?_⟩
  · rw [arS, if_neg (by omega), Nat.zero_add]; exact h.2.2.1
  · rw [pnS, if_pos rfl]; omega
theorem I1.p9 {n : Nat} {b : ot} {S : List Nat} {q c : Nat} {o : ot} (h : I1 n b (9 :: S) q c o) : I1 n b S q c (psh o (9, 0)) := by
  obtain ⟨h1, h2, h3, h4⟩ := h
  rw [arS, if_neg (by omega), Nat.zero_add] at h3
  rw [pnS, if_neg (by omega)] at h4
  exact ⟨h1.op (by omega), h2.2.2.2, h3.no h1.2.2.1, by show 3 * (o.1 + 1 + pnS S) ≤ _; omega⟩
theorem I1.p10 {n : Nat} {b : ot} {S : List Nat} {q c x : Nat} {o : ot} (hx : x = 10 ∨ x = 11) (h : I1 n b (x :: S) q c o) : I1 n b S q c (psh o (x, 0)) := by
  obtain ⟨h1, h2, h3, h4⟩ := h
  rw [arS, if_pos hx, show 1 + arS S + 1 = arS S + 2 by omega] at h3
  rw [pnS, if_neg (by omega)] at h4
  exact ⟨h1.op (by omega), h2.2.2.2, h3.bin h1.2.2.1 hx, by show 3 * (o.1 + 1 + pnS S) ≤ _; omega⟩
theorem I1.an {t : Nat → Nat} {n : Nat} {b : ot} {S : List Nat} {q c : Nat} {o : ot} (h : I1 n b S q c o) (h9 : t9 S) (h10 : t10 S) (hk : kd t n q = 18) : I0 n b (10 :: S) (nq t n q) c o := by
  obtain ⟨g, hl⟩ := nq_w h.1.1 (by omega) hk
  have g : q + 3 ≤ nq t n q := g
  obtain ⟨h1, h2, h3, h4⟩ := h
  refine ⟨h1.nq hl, ⟨Or.inr (Or.inl rfl), fun _ => ⟨h9, h10⟩, fun e => by omega, h2⟩, ?_, ?_⟩
  · rw [arS, if_pos (Or.inl rfl), Nat.add_comm]; exact h3
  · rw [pnS, if_neg (by omega)]; omega
theorem I1.orr {t : Nat → Nat} {n : Nat} {b : ot} {S : List Nat} {q c : Nat} {o : ot} (h : I1 n b S q c o) (h9 : t9 S) (h10 : t10 S) (h11 : t11 S) (hk : kd t n q = 19) : I0 n b (11 :: S) (nq t n q) c o := by
  obtain ⟨g, hl⟩ := nq_w h.1.1 (by omega) hk
  have g : q + 2 ≤ nq t n q := g
  obtain ⟨h1, h2, h3, h4⟩ := h
  refine ⟨h1.nq hl, ⟨Or.inr (Or.inr (Or.inl rfl)), fun e => by omega, fun _ => ⟨h9, h10, h11⟩, h2⟩, ?_, ?_⟩
  · rw [arS, if_pos (Or.inr rfl), Nat.add_comm]; exact h3
  · rw [pnS, if_neg (by omega)]; omega
theorem I1.cl {t : Nat → Nat} {n : Nat} {b : ot} {S : List Nat} {q c : Nat} {o : ot} (h : I1 n b (12 :: S) q c o) (hk : kd t n q = 31) : I1 n b S (nq t n q) c o := by
  have hl := lt_kd (t := t) h.1.1 (by omega)
  have g := (nq_gt (t := t) hl).1
  obtain ⟨h1, h2, h3, h4⟩ := h
  rw [arS, if_neg (by omega), Nat.zero_add] at h3
  rw [pnS, if_pos rfl] at h4
  exact ⟨h1.nq hl, h2.2.2.2, h3, by omega⟩
theorem I1.bd {n : Nat} {b : ot} {S : List Nat} {q c : Nat} {o : ot} (h : I1 n b S q c o) (hn : n ≤ 400) : o.1 ≤ 253 := by
  obtain ⟨⟨h1, h2, -⟩, -, -, h4⟩ := h
  omega
theorem I3.bd {n : Nat} {b : ot} {S : List Nat} {x q c : Nat} {o : ot} (h : I3 n b S x q c o) (hn : n ≤ 400) : o.1 ≤ 253 := by
  obtain ⟨⟨h1, h2, -⟩, -, -, -, h4⟩ := h
  omega
theorem J3.bd {n : Nat} {b : ot} {S : List Nat} {x q c : Nat} {o : ot} (h : J3 n b S x q c o) (hn : n ≤ 400) : o.1 ≤ 253 := by
  obtain ⟨⟨h1, h2, -⟩, -, -, -, h4⟩ := h
  omega
theorem I2.bd {n : Nat} {b : ot} {S : List Nat} {x q c : Nat} {o : ot} (h : I2 n b S x q c o) (hn : n ≤ 400) : o.1 ≤ 253 := by
  obtain ⟨⟨h1, h2, -⟩, -, -, -, h4⟩ := h
  omega
theorem J2.bd {n : Nat} {b : ot} {S : List Nat} {x q c : Nat} {o : ot} (h : J2 n b S x q c o) (hn : n ≤ 400) : o.1 ≤ 253 := by
  obtain ⟨⟨h1, h2, -⟩, -, -, -, h4⟩ := h
  omega
theorem I0.bd {n : Nat} {b : ot} {S : List Nat} {q c : Nat} {o : ot} (h : I0 n b S q c o) (hn : n ≤ 400) : o.1 ≤ 253 := by
  obtain ⟨⟨h1, h2, -⟩, -, -, h4⟩ := h
  omega

