/-! 78: the reference: a row told -/
theorem lc_add {v : vw} {j : Nat} (row : List Int32) (hj : ¬ j = 4) (b : Int32) : ∀ n, lc_ (vadd v j row) b n = lc_ v b n
  | 0 => rfl
  | n + 1 => by
    rw [lc_, lc_, lc_add row hj b n, show vc (vadd v j row) 4 n 0 = vc v 4 n 0 by rw [vc_vadd, if_neg (fun e => hj e.1.symm)]]
theorem MI.add1 {h : hp} {M L : Nat} {v : vw} {ls : lws} (H : MI h M v L ls) (x0 x1 x2 x3 x4 : Int32) (hlt : vn v 1 < 24) : MI (personM h M (vn v 1) x0 x1 x2 x3 x4) M (vadd v 1 [x0, x1, x2, x3, x4, -1]) L ls := by
  obtain ⟨⟨g0, ⟨g1, g2, g3, g4, g5, g6, g7⟩, ⟨m0, m1, m2, m3, m4, m5, m6⟩, t0, t1, t2, t3, t5, t6⟩, HL, hL, hW⟩ := H
  have k : Chg (fun q => q = M ∨ (M + 8 ≤ q ∧ q ≤ M + 13)) h (personM h M (vn v 1) x0 x1 x2 x3 x4) := ((((((Chg.sI (Or.inr ⟨by omega, by omega⟩)).tr (Chg.sI (Or.inr ⟨by omega, by omega⟩))).tr (Chg.sI (Or.inr ⟨by omega, by omega⟩))).tr (Chg.sI (Or.inr ⟨by omega, by omega⟩))).tr (Chg.sI (Or.inr ⟨by omega, by omega⟩))).tr (Chg.sI (Or.inr ⟨by omega, by omega⟩))).tr (Chg.sI (Or.inl rfl))
  have eM : ∀ i, ¬ i = 2 → hI (personM h M (vn v 1) x0 x1 x2 x3 x4) M i = hI h M i := fun i hi => by
    unfold personM
    simp only [hI_setI]
    rw [if_neg (by omega), if_neg (by omega), if_neg (by omega), if_neg (by omega), if_neg (by omega), if_neg (by omega), if_neg (by omega)]
  have e1 : hI (personM h M (vn v 1) x0 x1 x2 x3 x4) M 2 = nI (vn v 1 + 1) := by
    unfold personM
    rw [hI_setI, if_pos ⟨rfl, rfl⟩]
  have eo : ∀ q, ¬ (q = M ∨ (M + 8 ≤ q ∧ q ≤ M + 13)) → hI (personM h M (vn v 1) x0 x1 x2 x3 x4) q = hI h q := fun q hq => (k.2.2.2.2 q hq).1
  have en : ∀ i, ¬ i = 1 → vn (vadd v 1 [x0, x1, x2, x3, x4, -1]) i = vn v i := fun i hi => by rw [vn_vadd, if_neg hi]
  have ej : vn (vadd v 1 [x0, x1, x2, x3, x4, -1]) 1 = vn v 1 + 1 := by rw [vn_vadd, if_pos rfl]
  have ec : ∀ i r c, ¬ i = 1 → vc (vadd v 1 [x0, x1, x2, x3, x4, -1]) i r c = vc v i r c := fun i r c hi => by rw [vc_vadd, if_neg (fun e => hi e.1)]
  refine ⟨⟨g0.kept k, ⟨by rw [eM _ (by omega), en 0 (by omega)]; exact g1, by rw [ej]; exact e1, by rw [eM _ (by omega), en 2 (by omega)]; exact g3, by rw [eM _ (by omega), en 3 (by omega)]; exact g4, by rw [eM _ (by omega), en 5 (by omega)]; exact g5, by rw [eM _ (by omega), en 6 (by omega)]; exact g6, by rw [eM _ (by omega)]; exact g7⟩, ⟨by rw [en 0 (by omega)]; exact m0, by rw [ej]; omega, by rw [en 2 (by omega)]; exact m2, by rw [en 3 (by omega)]; exact m3, by rw [en 4 (by omega)]; exact m4, by rw [en 5 (by omega)]; exact m5, by rw [en 6 (by omega)]; exact m6⟩, fun r hr c hc => ?_, fun r hr c hc => ?_, fun r hr c hc => ?_, fun r hr c hc => ?_, fun r hr c hc => ?_, fun r hr c hc => ?_⟩, fun b hb => ?_, by rw [eM _ (by omega)]; exact hL, fun r hr => (hW r hr).kept k (fun b h1 h2 => by omega)⟩
  · rw [en 0 (by omega)] at hr
    rw [eo _ (by omega), ec 0 r c (by omega)]
    exact t0 r hr c hc
  · rw [ej] at hr
    have : c = 0 ∨ c = 1 ∨ c = 2 ∨ c = 3 ∨ c = 4 ∨ c = 5 := by omega
    rw [vc_vadd]
    by_cases e : r = vn v 1
    · rw [if_pos ⟨rfl, e⟩]
      subst e
      unfold personM
      rcases this with rfl | rfl | rfl | rfl | rfl | rfl <;> simp [hI_setI, Nat.add_assoc]
    · rw [if_neg (fun z => e z.2), ← t1 r (by omega) c hc]
      unfold personM
      simp only [hI_setI]
      rw [if_neg (by omega), if_neg (by omega), if_neg (by omega), if_neg (by omega), if_neg (by omega), if_neg (by omega), if_neg (by omega)]
  · rw [en 2 (by omega)] at hr
    rw [eo _ (by omega), ec 2 r c (by omega)]
    exact t2 r hr c hc
  · rw [en 3 (by omega)] at hr
    rw [eo _ (by omega), ec 3 r c (by omega)]
    exact t3 r hr c hc
  · rw [en 5 (by omega)] at hr
    rw [eo _ (by omega), ec 5 r c (by omega)]
    exact t5 r hr c hc
  · rw [en 6 (by omega)] at hr
    rw [eo _ (by omega), ec 6 r c (by omega)]
    exact t6 r hr c hc
  · rw [en 0 (by omega)] at hb
    obtain ⟨a0, a1, a2⟩ := HL b hb
    rw [en 4 (by omega), lc_add _ (by omega), eo _ (by omega), eo _ (by omega)]
    refine ⟨a0, a1, fun r hr hv => ?_⟩
    rw [ec 4 r _ (by omega)] at hv
    rw [ec 4 r _ (by omega), lc_add _ (by omega)]
    exact a2 r hr hv
theorem MI.add2 {h : hp} {M L : Nat} {v : vw} {ls : lws} (H : MI h M v L ls) (x0 x1 x2 x3 : Int32) (hlt : vn v 2 < 200) : MI (stepM h M (vn v 2) x0 x1 x2 x3) M (vadd v 2 [x0, x1, x2, x3]) L ls := by
  obtain ⟨⟨g0, ⟨g1, g2, g3, g4, g5, g6, g7⟩, ⟨m0, m1, m2, m3, m4, m5, m6⟩, t0, t1, t2, t3, t5, t6⟩, HL, hL, hW⟩ := H
  have k : Chg (fun q => q = M ∨ (M + 14 ≤ q ∧ q ≤ M + 17)) h (stepM h M (vn v 2) x0 x1 x2 x3) := ((((Chg.sI (Or.inr ⟨by omega, by omega⟩)).tr (Chg.sI (Or.inr ⟨by omega, by omega⟩))).tr (Chg.sI (Or.inr ⟨by omega, by omega⟩))).tr (Chg.sI (Or.inr ⟨by omega, by omega⟩))).tr (Chg.sI (Or.inl rfl))
  have eM : ∀ i, ¬ i = 3 → hI (stepM h M (vn v 2) x0 x1 x2 x3) M i = hI h M i := fun i hi => by
    unfold stepM
    simp only [hI_setI]
    rw [if_neg (by omega), if_neg (by omega), if_neg (by omega), if_neg (by omega), if_neg (by omega)]
  have e1 : hI (stepM h M (vn v 2) x0 x1 x2 x3) M 3 = nI (vn v 2 + 1) := by
    unfold stepM
    rw [hI_setI, if_pos ⟨rfl, rfl⟩]
  have eo : ∀ q, ¬ (q = M ∨ (M + 14 ≤ q ∧ q ≤ M + 17)) → hI (stepM h M (vn v 2) x0 x1 x2 x3) q = hI h q := fun q hq => (k.2.2.2.2 q hq).1
  have en : ∀ i, ¬ i = 2 → vn (vadd v 2 [x0, x1, x2, x3]) i = vn v i := fun i hi => by rw [vn_vadd, if_neg hi]
  have ej : vn (vadd v 2 [x0, x1, x2, x3]) 2 = vn v 2 + 1 := by rw [vn_vadd, if_pos rfl]
  have ec : ∀ i r c, ¬ i = 2 → vc (vadd v 2 [x0, x1, x2, x3]) i r c = vc v i r c := fun i r c hi => by rw [vc_vadd, if_neg (fun e => hi e.1)]
  refine ⟨⟨g0.kept k, ⟨by rw [eM _ (by omega), en 0 (by omega)]; exact g1, by rw [eM _ (by omega), en 1 (by omega)]; exact g2, by rw [ej]; exact e1, by rw [eM _ (by omega), en 3 (by omega)]; exact g4, by rw [eM _ (by omega), en 5 (by omega)]; exact g5, by rw [eM _ (by omega), en 6 (by omega)]; exact g6, by rw [eM _ (by omega)]; exact g7⟩, ⟨by rw [en 0 (by omega)]; exact m0, by rw [en 1 (by omega)]; exact m1, by rw [ej]; omega, by rw [en 3 (by omega)]; exact m3, by rw [en 4 (by omega)]; exact m4, by rw [en 5 (by omega)]; exact m5, by rw [en 6 (by omega)]; exact m6⟩, fun r hr c hc => ?_, fun r hr c hc => ?_, fun r hr c hc => ?_, fun r hr c hc => ?_, fun r hr c hc => ?_, fun r hr c hc => ?_⟩, fun b hb => ?_, by rw [eM _ (by omega)]; exact hL, fun r hr => (hW r hr).kept k (fun b h1 h2 => by omega)⟩
  · rw [en 0 (by omega)] at hr
    rw [eo _ (by omega), ec 0 r c (by omega)]
    exact t0 r hr c hc
  · rw [en 1 (by omega)] at hr
    rw [eo _ (by omega), ec 1 r c (by omega)]
    exact t1 r hr c hc
  · rw [ej] at hr
    have : c = 0 ∨ c = 1 ∨ c = 2 ∨ c = 3 := by omega
    rw [vc_vadd]
    by_cases e : r = vn v 2
    · rw [if_pos ⟨rfl, e⟩]
      subst e
      unfold stepM
      rcases this with rfl | rfl | rfl | rfl <;> simp [hI_setI, Nat.add_assoc]
    · rw [if_neg (fun z => e z.2), ← t2 r (by omega) c hc]
      unfold stepM
      simp only [hI_setI]
      rw [if_neg (by omega), if_neg (by omega), if_neg (by omega), if_neg (by omega), if_neg (by omega)]
  · rw [en 3 (by omega)] at hr
    rw [eo _ (by omega), ec 3 r c (by omega)]
    exact t3 r hr c hc
  · rw [en 5 (by omega)] at hr
    rw [eo _ (by omega), ec 5 r c (by omega)]
    exact t5 r hr c hc
  · rw [en 6 (by omega)] at hr
    rw [eo _ (by omega), ec 6 r c (by omega)]
    exact t6 r hr c hc
  · rw [en 0 (by omega)] at hb
    obtain ⟨a0, a1, a2⟩ := HL b hb
    rw [en 4 (by omega), lc_add _ (by omega), eo _ (by omega), eo _ (by omega)]
    refine ⟨a0, a1, fun r hr hv => ?_⟩
    rw [ec 4 r _ (by omega)] at hv
    rw [ec 4 r _ (by omega), lc_add _ (by omega)]
    exact a2 r hr hv
theorem MI.add3 {h : hp} {M L : Nat} {v : vw} {ls : lws} (H : MI h M v L ls) (x0 x1 x2 x3 : Int32) (hlt : vn v 3 < 24) : MI (paperM h M (vn v 3) x0 x1 x2 x3) M (vadd v 3 [x0, x1, x2, x3]) L ls := by
  obtain ⟨⟨g0, ⟨g1, g2, g3, g4, g5, g6, g7⟩, ⟨m0, m1, m2, m3, m4, m5, m6⟩, t0, t1, t2, t3, t5, t6⟩, HL, hL, hW⟩ := H
  have k : Chg (fun q => q = M ∨ (M + 18 ≤ q ∧ q ≤ M + 21)) h (paperM h M (vn v 3) x0 x1 x2 x3) := ((((Chg.sI (Or.inr ⟨by omega, by omega⟩)).tr (Chg.sI (Or.inr ⟨by omega, by omega⟩))).tr (Chg.sI (Or.inr ⟨by omega, by omega⟩))).tr (Chg.sI (Or.inr ⟨by omega, by omega⟩))).tr (Chg.sI (Or.inl rfl))
  have eM : ∀ i, ¬ i = 4 → hI (paperM h M (vn v 3) x0 x1 x2 x3) M i = hI h M i := fun i hi => by
    unfold paperM
    simp only [hI_setI]
    rw [if_neg (by omega), if_neg (by omega), if_neg (by omega), if_neg (by omega), if_neg (by omega)]
  have e1 : hI (paperM h M (vn v 3) x0 x1 x2 x3) M 4 = nI (vn v 3 + 1) := by
    unfold paperM
    rw [hI_setI, if_pos ⟨rfl, rfl⟩]
  have eo : ∀ q, ¬ (q = M ∨ (M + 18 ≤ q ∧ q ≤ M + 21)) → hI (paperM h M (vn v 3) x0 x1 x2 x3) q = hI h q := fun q hq => (k.2.2.2.2 q hq).1
  have en : ∀ i, ¬ i = 3 → vn (vadd v 3 [x0, x1, x2, x3]) i = vn v i := fun i hi => by rw [vn_vadd, if_neg hi]
  have ej : vn (vadd v 3 [x0, x1, x2, x3]) 3 = vn v 3 + 1 := by rw [vn_vadd, if_pos rfl]
  have ec : ∀ i r c, ¬ i = 3 → vc (vadd v 3 [x0, x1, x2, x3]) i r c = vc v i r c := fun i r c hi => by rw [vc_vadd, if_neg (fun e => hi e.1)]
  refine ⟨⟨g0.kept k, ⟨by rw [eM _ (by omega), en 0 (by omega)]; exact g1, by rw [eM _ (by omega), en 1 (by omega)]; exact g2, by rw [eM _ (by omega), en 2 (by omega)]; exact g3, by rw [ej]; exact e1, by rw [eM _ (by omega), en 5 (by omega)]; exact g5, by rw [eM _ (by omega), en 6 (by omega)]; exact g6, by rw [eM _ (by omega)]; exact g7⟩, ⟨by rw [en 0 (by omega)]; exact m0, by rw [en 1 (by omega)]; exact m1, by rw [en 2 (by omega)]; exact m2, by rw [ej]; omega, by rw [en 4 (by omega)]; exact m4, by rw [en 5 (by omega)]; exact m5, by rw [en 6 (by omega)]; exact m6⟩, fun r hr c hc => ?_, fun r hr c hc => ?_, fun r hr c hc => ?_, fun r hr c hc => ?_, fun r hr c hc => ?_, fun r hr c hc => ?_⟩, fun b hb => ?_, by rw [eM _ (by omega)]; exact hL, fun r hr => (hW r hr).kept k (fun b h1 h2 => by omega)⟩
  · rw [en 0 (by omega)] at hr
    rw [eo _ (by omega), ec 0 r c (by omega)]
    exact t0 r hr c hc
  · rw [en 1 (by omega)] at hr
    rw [eo _ (by omega), ec 1 r c (by omega)]
    exact t1 r hr c hc
  · rw [en 2 (by omega)] at hr
    rw [eo _ (by omega), ec 2 r c (by omega)]
    exact t2 r hr c hc
  · rw [ej] at hr
    have : c = 0 ∨ c = 1 ∨ c = 2 ∨ c = 3 := by omega
    rw [vc_vadd]
    by_cases e : r = vn v 3
    · rw [if_pos ⟨rfl, e⟩]
      subst e
      unfold paperM
      rcases this with rfl | rfl | rfl | rfl <;> simp [hI_setI, Nat.add_assoc]
    · rw [if_neg (fun z => e z.2), ← t3 r (by omega) c hc]
      unfold paperM
      simp only [hI_setI]
      rw [if_neg (by omega), if_neg (by omega), if_neg (by omega), if_neg (by omega), if_neg (by omega)]
  · rw [en 5 (by omega)] at hr
    rw [eo _ (by omega), ec 5 r c (by omega)]
    exact t5 r hr c hc
  · rw [en 6 (by omega)] at hr
    rw [eo _ (by omega), ec 6 r c (by omega)]
    exact t6 r hr c hc
  · rw [en 0 (by omega)] at hb
    obtain ⟨a0, a1, a2⟩ := HL b hb
    rw [en 4 (by omega), lc_add _ (by omega), eo _ (by omega), eo _ (by omega)]
    refine ⟨a0, a1, fun r hr hv => ?_⟩
    rw [ec 4 r _ (by omega)] at hv
    rw [ec 4 r _ (by omega), lc_add _ (by omega)]
    exact a2 r hr hv
theorem MI.add5 {h : hp} {M L : Nat} {v : vw} {ls : lws} (H : MI h M v L ls) (x0 x1 x2 x3 : Int32) (hlt : vn v 5 < 200) : MI (msgM h M (vn v 5) x0 x1 x2 x3) M (vadd v 5 [x0, x1, x2, x3]) L ls := by
  obtain ⟨⟨g0, ⟨g1, g2, g3, g4, g5, g6, g7⟩, ⟨m0, m1, m2, m3, m4, m5, m6⟩, t0, t1, t2, t3, t5, t6⟩, HL, hL, hW⟩ := H
  have k : Chg (fun q => q = M ∨ (M + 36 ≤ q ∧ q ≤ M + 39)) h (msgM h M (vn v 5) x0 x1 x2 x3) := ((((Chg.sI (Or.inr ⟨by omega, by omega⟩)).tr (Chg.sI (Or.inr ⟨by omega, by omega⟩))).tr (Chg.sI (Or.inr ⟨by omega, by omega⟩))).tr (Chg.sI (Or.inr ⟨by omega, by omega⟩))).tr (Chg.sI (Or.inl rfl))
  have eM : ∀ i, ¬ i = 5 → hI (msgM h M (vn v 5) x0 x1 x2 x3) M i = hI h M i := fun i hi => by
    unfold msgM
    simp only [hI_setI]
    rw [if_neg (by omega), if_neg (by omega), if_neg (by omega), if_neg (by omega), if_neg (by omega)]
  have e1 : hI (msgM h M (vn v 5) x0 x1 x2 x3) M 5 = nI (vn v 5 + 1) := by
    unfold msgM
    rw [hI_setI, if_pos ⟨rfl, rfl⟩]
  have eo : ∀ q, ¬ (q = M ∨ (M + 36 ≤ q ∧ q ≤ M + 39)) → hI (msgM h M (vn v 5) x0 x1 x2 x3) q = hI h q := fun q hq => (k.2.2.2.2 q hq).1
  have en : ∀ i, ¬ i = 5 → vn (vadd v 5 [x0, x1, x2, x3]) i = vn v i := fun i hi => by rw [vn_vadd, if_neg hi]
  have ej : vn (vadd v 5 [x0, x1, x2, x3]) 5 = vn v 5 + 1 := by rw [vn_vadd, if_pos rfl]
  have ec : ∀ i r c, ¬ i = 5 → vc (vadd v 5 [x0, x1, x2, x3]) i r c = vc v i r c := fun i r c hi => by rw [vc_vadd, if_neg (fun e => hi e.1)]
  refine ⟨⟨g0.kept k, ⟨by rw [eM _ (by omega), en 0 (by omega)]; exact g1, by rw [eM _ (by omega), en 1 (by omega)]; exact g2, by rw [eM _ (by omega), en 2 (by omega)]; exact g3, by rw [eM _ (by omega), en 3 (by omega)]; exact g4, by rw [ej]; exact e1, by rw [eM _ (by omega), en 6 (by omega)]; exact g6, by rw [eM _ (by omega)]; exact g7⟩, ⟨by rw [en 0 (by omega)]; exact m0, by rw [en 1 (by omega)]; exact m1, by rw [en 2 (by omega)]; exact m2, by rw [en 3 (by omega)]; exact m3, by rw [en 4 (by omega)]; exact m4, by rw [ej]; omega, by rw [en 6 (by omega)]; exact m6⟩, fun r hr c hc => ?_, fun r hr c hc => ?_, fun r hr c hc => ?_, fun r hr c hc => ?_, fun r hr c hc => ?_, fun r hr c hc => ?_⟩, fun b hb => ?_, by rw [eM _ (by omega)]; exact hL, fun r hr => (hW r hr).kept k (fun b h1 h2 => by omega)⟩
  · rw [en 0 (by omega)] at hr
    rw [eo _ (by omega), ec 0 r c (by omega)]
    exact t0 r hr c hc
  · rw [en 1 (by omega)] at hr
    rw [eo _ (by omega), ec 1 r c (by omega)]
    exact t1 r hr c hc
  · rw [en 2 (by omega)] at hr
    rw [eo _ (by omega), ec 2 r c (by omega)]
    exact t2 r hr c hc
  · rw [en 3 (by omega)] at hr
    rw [eo _ (by omega), ec 3 r c (by omega)]
    exact t3 r hr c hc
  · rw [ej] at hr
    have : c = 0 ∨ c = 1 ∨ c = 2 ∨ c = 3 := by omega
    rw [vc_vadd]
    by_cases e : r = vn v 5
    · rw [if_pos ⟨rfl, e⟩]
      subst e
      unfold msgM
      rcases this with rfl | rfl | rfl | rfl <;> simp [hI_setI, Nat.add_assoc]
    · rw [if_neg (fun z => e z.2), ← t5 r (by omega) c hc]
      unfold msgM
      simp only [hI_setI]
      rw [if_neg (by omega), if_neg (by omega), if_neg (by omega), if_neg (by omega), if_neg (by omega)]
  · rw [en 6 (by omega)] at hr
    rw [eo _ (by omega), ec 6 r c (by omega)]
    exact t6 r hr c hc
  · rw [en 0 (by omega)] at hb
    obtain ⟨a0, a1, a2⟩ := HL b hb
    rw [en 4 (by omega), lc_add _ (by omega), eo _ (by omega), eo _ (by omega)]
    refine ⟨a0, a1, fun r hr hv => ?_⟩
    rw [ec 4 r _ (by omega)] at hv
    rw [ec 4 r _ (by omega), lc_add _ (by omega)]
    exact a2 r hr hv
theorem MI.add6 {h : hp} {M L : Nat} {v : vw} {ls : lws} (H : MI h M v L ls) (x0 x1 x2 x3 x4 x5 : Int32) (hlt : vn v 6 < 60) : MI (orderM h M (vn v 6) x0 x1 x2 x3 x4 x5) M (vadd v 6 [x0, x1, x2, x3, x4, x5]) L ls := by
  obtain ⟨⟨g0, ⟨g1, g2, g3, g4, g5, g6, g7⟩, ⟨m0, m1, m2, m3, m4, m5, m6⟩, t0, t1, t2, t3, t5, t6⟩, HL, hL, hW⟩ := H
  have k : Chg (fun q => q = M ∨ (M + 41 ≤ q ∧ q ≤ M + 46)) h (orderM h M (vn v 6) x0 x1 x2 x3 x4 x5) := ((((((Chg.sI (Or.inr ⟨by omega, by omega⟩)).tr (Chg.sI (Or.inr ⟨by omega, by omega⟩))).tr (Chg.sI (Or.inr ⟨by omega, by omega⟩))).tr (Chg.sI (Or.inr ⟨by omega, by omega⟩))).tr (Chg.sI (Or.inr ⟨by omega, by omega⟩))).tr (Chg.sI (Or.inr ⟨by omega, by omega⟩))).tr (Chg.sI (Or.inl rfl))
  have eM : ∀ i, ¬ i = 6 → hI (orderM h M (vn v 6) x0 x1 x2 x3 x4 x5) M i = hI h M i := fun i hi => by
    unfold orderM
    simp only [hI_setI]
    rw [if_neg (by omega), if_neg (by omega), if_neg (by omega), if_neg (by omega), if_neg (by omega), if_neg (by omega), if_neg (by omega)]
  have e1 : hI (orderM h M (vn v 6) x0 x1 x2 x3 x4 x5) M 6 = nI (vn v 6 + 1) := by
    unfold orderM
    rw [hI_setI, if_pos ⟨rfl, rfl⟩]
  have eo : ∀ q, ¬ (q = M ∨ (M + 41 ≤ q ∧ q ≤ M + 46)) → hI (orderM h M (vn v 6) x0 x1 x2 x3 x4 x5) q = hI h q := fun q hq => (k.2.2.2.2 q hq).1
  have en : ∀ i, ¬ i = 6 → vn (vadd v 6 [x0, x1, x2, x3, x4, x5]) i = vn v i := fun i hi => by rw [vn_vadd, if_neg hi]
  have ej : vn (vadd v 6 [x0, x1, x2, x3, x4, x5]) 6 = vn v 6 + 1 := by rw [vn_vadd, if_pos rfl]
  have ec : ∀ i r c, ¬ i = 6 → vc (vadd v 6 [x0, x1, x2, x3, x4, x5]) i r c = vc v i r c := fun i r c hi => by rw [vc_vadd, if_neg (fun e => hi e.1)]
  refine ⟨⟨g0.kept k, ⟨by rw [eM _ (by omega), en 0 (by omega)]; exact g1, by rw [eM _ (by omega), en 1 (by omega)]; exact g2, by rw [eM _ (by omega), en 2 (by omega)]; exact g3, by rw [eM _ (by omega), en 3 (by omega)]; exact g4, by rw [eM _ (by omega), en 5 (by omega)]; exact g5, by rw [ej]; exact e1, by rw [eM _ (by omega)]; exact g7⟩, ⟨by rw [en 0 (by omega)]; exact m0, by rw [en 1 (by omega)]; exact m1, by rw [en 2 (by omega)]; exact m2, by rw [en 3 (by omega)]; exact m3, by rw [en 4 (by omega)]; exact m4, by rw [en 5 (by omega)]; exact m5, by rw [ej]; omega⟩, fun r hr c hc => ?_, fun r hr c hc => ?_, fun r hr c hc => ?_, fun r hr c hc => ?_, fun r hr c hc => ?_, fun r hr c hc => ?_⟩, fun b hb => ?_, by rw [eM _ (by omega)]; exact hL, fun r hr => (hW r hr).kept k (fun b h1 h2 => by omega)⟩
  · rw [en 0 (by omega)] at hr
    rw [eo _ (by omega), ec 0 r c (by omega)]
    exact t0 r hr c hc
  · rw [en 1 (by omega)] at hr
    rw [eo _ (by omega), ec 1 r c (by omega)]
    exact t1 r hr c hc
  · rw [en 2 (by omega)] at hr
    rw [eo _ (by omega), ec 2 r c (by omega)]
    exact t2 r hr c hc
  · rw [en 3 (by omega)] at hr
    rw [eo _ (by omega), ec 3 r c (by omega)]
    exact t3 r hr c hc
  · rw [en 5 (by omega)] at hr
    rw [eo _ (by omega), ec 5 r c (by omega)]
    exact t5 r hr c hc
  · rw [ej] at hr
    have : c = 0 ∨ c = 1 ∨ c = 2 ∨ c = 3 ∨ c = 4 ∨ c = 5 := by omega
    rw [vc_vadd]
    by_cases e : r = vn v 6
    · rw [if_pos ⟨rfl, e⟩]
      subst e
      unfold orderM
      rcases this with rfl | rfl | rfl | rfl | rfl | rfl <;> simp [hI_setI, Nat.add_assoc]
    · rw [if_neg (fun z => e z.2), ← t6 r (by omega) c hc]
      unfold orderM
      simp only [hI_setI]
      rw [if_neg (by omega), if_neg (by omega), if_neg (by omega), if_neg (by omega), if_neg (by omega), if_neg (by omega), if_neg (by omega)]
  · rw [en 0 (by omega)] at hb
    obtain ⟨a0, a1, a2⟩ := HL b hb
    rw [en 4 (by omega), lc_add _ (by omega), eo _ (by omega), eo _ (by omega)]
    refine ⟨a0, a1, fun r hr hv => ?_⟩
    rw [ec 4 r _ (by omega)] at hv
    rw [ec 4 r _ (by omega), lc_add _ (by omega)]
    exact a2 r hr hv

