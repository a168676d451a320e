/-! 80: the state told: the rest of the reference's, and what must hold of it -/
theorem lc_0 {v : vw} {L : Nat} (V : VOK v L) : ∀ n, n ≤ vn v 4 → lc_ v (nI (vn v 0)) n = 0
  | 0, _ => rfl
  | n + 1, hn => by
    rw [lc_, lc_0 V n (by omega), if_neg]
    intro e
    have c0 := V.1.1
    obtain ⟨z, z1, z2, z3⟩ := inR_of (V.2.2.2.2.2.1 n (by omega)).1
    rw [e, nI_inj (by omega) z3] at z2
    omega
theorem MI.add0 {h : hp} {M L : Nat} {v : vw} {ls : lws} (H : MI h M v L ls) (V : VOK v L) (x0 x1 x2 x3 : Int32) (hlt : vn v 0 < 12) : MI (bodyM h M (vn v 0) x0 x1 x2 x3) M (vadd v 0 [x0, x1, x2, x3, -1]) L ls := by
  obtain ⟨⟨g0, ⟨g1, g2, g3, g4, g5, g6, g7⟩, ⟨m0, m1, m2, m3, m4, m5, m6⟩, t0, t1, t2, t3, t5, t6⟩, HL, hL, hW⟩ := H
  have k : Chg (fun q => q = M ∨ (M + 1 ≤ q ∧ q ≤ M + 6)) h (bodyM h M (vn v 0) x0 x1 x2 x3) := ((((((Chg.sI (Or.inr ⟨by omega, by omega⟩)).tr (Chg.sI (Or.inr ⟨by omega, by omega⟩))).tr (Chg.sI (Or.inr ⟨by omega, by omega⟩))).tr (Chg.sI (Or.inr ⟨by omega, by omega⟩))).tr (Chg.sI (Or.inr ⟨by omega, by omega⟩))).tr (Chg.sI (Or.inr ⟨by omega, by omega⟩))).tr (Chg.sI (Or.inl rfl))
  have eM : ∀ i, ¬ i = 1 → hI (bodyM h M (vn v 0) x0 x1 x2 x3) M i = hI h M i := fun i hi => by
    unfold bodyM
    simp only [hI_setI]
    rw [if_neg (by omega), if_neg (by omega), if_neg (by omega), if_neg (by omega), if_neg (by omega), if_neg (by omega), if_neg (by omega)]
  have e1 : hI (bodyM h M (vn v 0) x0 x1 x2 x3) M 1 = nI (vn v 0 + 1) := by
    unfold bodyM
    rw [hI_setI, if_pos ⟨rfl, rfl⟩]
  have eo : ∀ q, ¬ (q = M ∨ (M + 1 ≤ q ∧ q ≤ M + 6)) → hI (bodyM h M (vn v 0) x0 x1 x2 x3) q = hI h q := fun q hq => (k.2.2.2.2 q hq).1
  have e6 : ∀ i, hI (bodyM h M (vn v 0) x0 x1 x2 x3) (M + 6) i = if i = vn v 0 then 0 else hI h (M + 6) i := fun i => by
    unfold bodyM
    rw [hI_setI, if_neg (by omega), hI_setI]
    by_cases e : i = vn v 0
    · rw [if_pos ⟨rfl, e⟩, if_pos e]
    · rw [if_neg (fun z => e z.2), if_neg e, hI_setI, if_neg (by omega), hI_setI, if_neg (by omega), hI_setI, if_neg (by omega), hI_setI, if_neg (by omega), hI_setI, if_neg (by omega)]
  have en : ∀ i, ¬ i = 0 → vn (vadd v 0 [x0, x1, x2, x3, -1]) i = vn v i := fun i hi => by rw [vn_vadd, if_neg hi]
  have ej : vn (vadd v 0 [x0, x1, x2, x3, -1]) 0 = vn v 0 + 1 := by rw [vn_vadd, if_pos rfl]
  have ec : ∀ i r c, ¬ i = 0 → vc (vadd v 0 [x0, x1, x2, x3, -1]) i r c = vc v i r c := fun i r c hi => by rw [vc_vadd, if_neg (fun e => hi e.1)]
  refine ⟨⟨g0.kept k, ⟨by rw [ej]; exact e1, by rw [eM _ (by omega), en 1 (by omega)]; exact g2, by rw [eM _ (by omega), en 2 (by omega)]; exact g3, by rw [eM _ (by omega), en 3 (by omega)]; exact g4, by rw [eM _ (by omega), en 5 (by omega)]; exact g5, by rw [eM _ (by omega), en 6 (by omega)]; exact g6, by rw [eM _ (by omega)]; exact g7⟩, ⟨by rw [ej]; omega, by rw [en 1 (by omega)]; exact m1, by rw [en 2 (by omega)]; exact m2, by rw [en 3 (by omega)]; exact m3, by rw [en 4 (by omega)]; exact m4, by rw [en 5 (by omega)]; exact m5, by rw [en 6 (by omega)]; exact m6⟩, fun r hr c hc => ?_, fun r hr c hc => ?_, fun r hr c hc => ?_, fun r hr c hc => ?_, fun r hr c hc => ?_, fun r hr c hc => ?_⟩, fun b hb => ?_, by rw [eM _ (by omega)]; exact hL, fun r hr => (hW r hr).kept k (fun b h1 h2 => by omega)⟩
  · rw [ej] at hr
    have : c = 0 ∨ c = 1 ∨ c = 2 ∨ c = 3 ∨ c = 4 := by omega
    rw [vc_vadd]
    by_cases e : r = vn v 0
    · rw [if_pos ⟨rfl, e⟩]
      subst e
      unfold bodyM
      rcases this with rfl | rfl | rfl | rfl | rfl <;> simp [hI_setI, Nat.add_assoc]
    · rw [if_neg (fun z => e z.2), ← t0 r (by omega) c hc]
      unfold bodyM
      simp only [hI_setI]
      rw [if_neg (by omega), if_neg (by omega), if_neg (by omega), if_neg (by omega), if_neg (by omega), if_neg (by omega), if_neg (by omega)]
  · rw [en 1 (by omega)] at hr
    rw [eo _ (by omega), ec 1 r c (by omega)]
    exact t1 r hr c hc
  · rw [en 2 (by omega)] at hr
    rw [eo _ (by omega), ec 2 r c (by omega)]
    exact t2 r hr c hc
  · rw [en 3 (by omega)] at hr
    rw [eo _ (by omega), ec 3 r c (by omega)]
    exact t3 r hr c hc
  · rw [en 5 (by omega)] at hr
    rw [eo _ (by omega), ec 5 r c (by omega)]
    exact t5 r hr c hc
  · rw [en 6 (by omega)] at hr
    rw [eo _ (by omega), ec 6 r c (by omega)]
    exact t6 r hr c hc
  · rw [ej] at hb
    rw [en 4 (by omega), lc_add _ (by omega), eo (M + 7) (by omega), e6]
    by_cases eb : b = vn v 0
    · subst eb
      rw [if_pos rfl, lc_0 V _ (Nat.le_refl _)]
      refine ⟨rfl, by omega, fun r hr hv => ?_⟩
      rw [ec 4 r _ (by omega)] at hv
      obtain ⟨z, z1, z2, z3⟩ := inR_of (V.2.2.2.2.2.1 r hr).1
      rw [hv, nI_inj (by omega) z3] at z2
      omega
    · rw [if_neg eb]
      obtain ⟨a0, a1, a2⟩ := HL b (by omega)
      refine ⟨a0, a1, fun r hr hv => ?_⟩
      rw [ec 4 r _ (by omega)] at hv
      rw [ec 4 r _ (by omega), lc_add _ (by omega)]
      exact a2 r hr hv
theorem MI.fal {h : hp} {M L : Nat} {v : vw} {ls : lws} (H : MI h M v L ls) (q m : Int32) : MI (fallsM h M q m) M (vset v 1 q.toNatClampNeg 5 m) L ls := by
  obtain ⟨⟨g0, ⟨g1, g2, g3, g4, g5, g6, g7⟩, g8, t0, t1, t2, t3, t5, t6⟩, HL, hL, hW⟩ := H
  have k : Chg (fun q => q = M + 13) h (fallsM h M q m) := Chg.sI rfl
  have eo : ∀ z, ¬ z = M + 13 → hI (fallsM h M q m) z = hI h z := fun z hz => (k.2.2.2.2 z hz).1
  have ec : ∀ i r c, ¬ i = 1 → vc (vset v 1 q.toNatClampNeg 5 m) i r c = vc v i r c := fun i r c hi => by rw [vc_vset, if_neg (fun e => hi e.1)]
  have el : ∀ b n, lc_ (vset v 1 q.toNatClampNeg 5 m) b n = lc_ v b n := fun b n => by
    induction n with
    | zero => rfl
    | succ n ih => rw [lc_, lc_, ih, ec _ _ _ (by omega)]
  refine ⟨⟨g0.kept k, ⟨by rw [eo _ (by omega)]; exact g1, by rw [eo _ (by omega)]; exact g2, by rw [eo _ (by omega)]; exact g3, by rw [eo _ (by omega)]; exact g4, by rw [eo _ (by omega)]; exact g5, by rw [eo _ (by omega)]; exact g6, by rw [eo _ (by omega)]; exact g7⟩, g8, fun r hr c hc => ?_, fun r hr c hc => ?_, fun r hr c hc => ?_, fun r hr c hc => ?_, fun r hr c hc => ?_, fun r hr c hc => ?_⟩, fun b hb => ?_, by rw [eo _ (by omega)]; exact hL, fun r hr => (hW r hr).kept k (fun b h1 h2 => by omega)⟩
  · rw [eo _ (by omega), ec _ _ _ (by omega)]; exact t0 r hr c hc
  · rw [vc_vset]
    unfold fallsM
    rw [hI_setI]
    by_cases e : r = q.toNatClampNeg ∧ c = 5
    · rw [if_pos ⟨by omega, e.1⟩, if_pos ⟨rfl, e⟩]
    · rw [if_neg (by omega), if_neg (fun z => e z.2)]; exact t1 r hr c hc
  · rw [eo _ (by omega), ec _ _ _ (by omega)]; exact t2 r hr c hc
  · rw [eo _ (by omega), ec _ _ _ (by omega)]; exact t3 r hr c hc
  · rw [eo _ (by omega), ec _ _ _ (by omega)]; exact t5 r hr c hc
  · rw [eo _ (by omega), ec _ _ _ (by omega)]; exact t6 r hr c hc
  · obtain ⟨a0, a1, a2⟩ := HL b hb
    rw [el, eo _ (by omega), eo _ (by omega)]
    refine ⟨a0, a1, fun r hr hv => ?_⟩
    rw [ec _ _ _ (by omega)] at hv
    rw [el, ec _ _ _ (by omega)]
    exact a2 r hr hv
theorem MI.rul {h : hp} {M L : Nat} {v : vw} {ls : lws} (H : MI h M v L ls) (b r : Int32) : MI (rulesM h M b r) M (vset v 0 b.toNatClampNeg 4 r) L ls := by
  have k : Kq M b.toNatClampNeg h h := ⟨Chg.rf, fun _ _ => rfl, fun _ _ => rfl⟩
  refine (k.st r).mi H ?_
  rw [hI_setI, if_pos ⟨rfl, rfl⟩]
theorem lc_a4 {v : vw} {b p : Int32} (y : Int32) : ∀ n, n ≤ vn v 4 → lc_ (vadd v 4 [b, p]) y n = lc_ v y n
  | 0, _ => rfl
  | n + 1, hn => by
    have e : vc (vadd v 4 [b, p]) 4 n 0 = vc v 4 n 0 := by rw [vc_vadd, if_neg (by omega)]
    rw [lc_, lc_, lc_a4 y n (by omega), e]
theorem lc_a4s {v : vw} {b p : Int32} (y : Int32) : lc_ (vadd v 4 [b, p]) y (vn v 4 + 1) = if b = y then lc_ v y (vn v 4) + 1 else lc_ v y (vn v 4) := by
  have e : vc (vadd v 4 [b, p]) 4 (vn v 4) 0 = b := by
    rw [vc_vadd, if_pos ⟨rfl, rfl⟩]
    rfl
  rw [lc_, lc_a4 y _ (Nat.le_refl _), e]

theorem MI.add4 {h : hp} {M L : Nat} {v : vw} {ls : lws} (H : MI h M v L ls) (V : XV v L ls) {b p : Int32} (ok : okList v b p) : MI (listM h M v b p) M (vadd v 4 [b, p]) L ls := by
  obtain ⟨⟨g0, ⟨g1, g2, g3, g4, g5, g6, g7⟩, ⟨m0, m1, m2, m3, m4, m5, m6⟩, t0, t1, t2, t3, t5, t6⟩, HL, hL, hW⟩ := H
  obtain ⟨k1, k2, k3, k4⟩ := ok
  obtain ⟨bn, hbn, rfl, hb31⟩ := inR_of k1
  have eb : (nI bn).toNatClampNeg = bn := nI_tn (by omega)
  have room := ls_room V hbn k3
  have k : Chg (fun q => q = M + 6 ∨ q = M + 7) h (listM h M v (nI bn) p) := (Chg.sI (Or.inr rfl)).tr (Chg.sI (Or.inl rfl))
  have eo : ∀ z, ¬ (z = M + 6 ∨ z = M + 7) → hI (listM h M v (nI bn) p) z = hI h z := fun z hz => (k.2.2.2.2 z hz).1
  have e6 : ∀ i, hI (listM h M v (nI bn) p) (M + 6) i = if i = bn then nI (lc_ v (nI bn) (vn v 4) + 1) else hI h (M + 6) i := fun i => by
    unfold listM
    rw [eb, hI_setI, hI_setI]
    by_cases e : i = bn
    · rw [if_pos ⟨rfl, e⟩, if_pos e]
    · rw [if_neg (fun z => e z.2), if_neg e, if_neg (by omega)]
  have e7 : ∀ i, hI (listM h M v (nI bn) p) (M + 7) i = if i = 8 * bn + lc_ v (nI bn) (vn v 4) then p else hI h (M + 7) i := fun i => by
    unfold listM
    rw [eb, hI_setI, hI_setI, if_neg (by omega)]
    by_cases e : i = 8 * bn + lc_ v (nI bn) (vn v 4)
    · rw [if_pos ⟨rfl, e⟩, if_pos e]
    · rw [if_neg (fun z => e z.2), if_neg e]
  have en : ∀ i, ¬ i = 4 → vn (vadd v 4 [nI bn, p]) i = vn v i := fun i hi => by rw [vn_vadd, if_neg hi]
  have ej : vn (vadd v 4 [nI bn, p]) 4 = vn v 4 + 1 := by rw [vn_vadd, if_pos rfl]
  have ec : ∀ i r c, ¬ (i = 4 ∧ r = vn v 4) → vc (vadd v 4 [nI bn, p]) i r c = vc v i r c := fun i r c hi => by rw [vc_vadd, if_neg hi]
  refine ⟨⟨g0.kept k, ⟨by rw [eo _ (by omega)]; exact g1, by rw [eo _ (by omega)]; exact g2, by rw [eo _ (by omega)]; exact g3, by rw [eo _ (by omega)]; exact g4, by rw [eo _ (by omega)]; exact g5, by rw [eo _ (by omega)]; exact g6, by rw [eo _ (by omega)]; exact g7⟩, ⟨m0, m1, m2, m3, by rw [ej]; omega, m5, m6⟩, fun r hr c hc => ?_, fun r hr c hc => ?_, fun r hr c hc => ?_, fun r hr c hc => ?_, fun r hr c hc => ?_, fun r hr c hc => ?_⟩, fun y hy => ?_, by rw [eo _ (by omega)]; exact hL, fun r hr => (hW r hr).kept k (fun b h1 h2 => by omega)⟩
  · rw [eo _ (by omega), ec _ _ _ (by omega)]; exact t0 r hr c hc
  · rw [eo _ (by omega), ec _ _ _ (by omega)]; exact t1 r hr c hc
  · rw [eo _ (by omega), ec _ _ _ (by omega)]; exact t2 r hr c hc
  · rw [eo _ (by omega), ec _ _ _ (by omega)]; exact t3 r hr c hc
  · rw [eo _ (by omega), ec _ _ _ (by omega)]; exact t5 r hr c hc
  · rw [eo _ (by omega), ec _ _ _ (by omega)]; exact t6 r hr c hc
  · have hy : y < vn v 0 := hy
    obtain ⟨a0, a1, a2⟩ := HL y hy
    rw [ej, lc_a4s, e6]
    by_cases e : y = bn
    · subst e
      rw [if_pos rfl, if_pos rfl]
      refine ⟨rfl, by omega, fun r hr hv => ?_⟩
      rw [lc_a4 _ _ (by omega), e7]
      by_cases er : r = vn v 4
      · subst er
        rw [if_pos rfl, vc_vadd, if_pos ⟨rfl, rfl⟩]
        rfl
      · rw [ec _ _ _ (by omega)] at hv ⊢
        have := lc_lt v (show r < vn v 4 by omega) hv
        rw [if_neg (by omega)]
        exact a2 r (by omega) hv
    · have ne : ¬ nI bn = nI y := fun z => e ((nI_inj (by omega) (by omega)).mp z.symm)
      rw [if_neg e, if_neg ne]
      refine ⟨a0, a1, fun r hr hv => ?_⟩
      rw [lc_a4 _ _ (by omega), e7]
      by_cases er : r = vn v 4
      · subst er
        rw [vc_vadd, if_pos ⟨rfl, rfl⟩] at hv
        exact absurd hv ne
      · rw [ec _ _ _ (by omega)] at hv ⊢
        have l1 := lc_lt v (show r < vn v 4 by omega) hv
        rw [if_neg (by omega)]
        exact a2 r (by omega) hv
theorem XV.of {v v' : vw} {L : Nat} {ls : lws} (V : XV v L ls) (V' : VOK v' L) (h0 : vn v' 0 = vn v 0) (h4 : vn v' 4 = vn v 4) (hc : ∀ r, vc v' 4 r 0 = vc v 4 r 0) : XV v' L ls := by
  refine ⟨⟨V', V.1.2⟩, fun b hb => ?_⟩
  have e : ∀ n, lc_ v' (nI b) n = lc_ v (nI b) n := fun n => by
    induction n with
    | zero => rfl
    | succ n ih => rw [lc_, lc_, ih, hc]
  rw [e, h4]
  exact V.2 b (by omega)
theorem XV.add0 {v : vw} {L : Nat} {ls : lws} (V : XV v L ls) {x0 x1 x2 x3 : Int32} (ok : okBody (vn v 0) x0 x1 x2 x3) : XV (vadd v 0 [x0, x1, x2, x3, -1]) L ls := by
  refine ⟨⟨V.1.1.add0 ok.1 ⟨ok.2.1, ok.2.2.1, ok.2.2.2.1, ok.2.2.2.2, Or.inl rfl⟩, V.1.2⟩, fun b hb => ?_⟩
  have hb : b < vn v 0 + 1 := hb
  rw [lc_add _ (by omega)]
  show lc_ v (nI b) (vn v 4) ≤ 8
  by_cases e : b = vn v 0
  · rw [e, lc_0 V.1.1 _ (Nat.le_refl _)]
    omega
  · exact V.2 b (by omega)
theorem XV.add4 {v : vw} {L : Nat} {ls : lws} (V : XV v L ls) {b p : Int32} (ok : okList v b p) : XV (vadd v 4 [b, p]) L ls := by
  obtain ⟨k1, k2, k3, k4⟩ := ok
  have c0 := V.1.1.1.1
  obtain ⟨bn, hbn, rfl, hb31⟩ := inR_of k1
  refine ⟨⟨V.1.1.add4 (ls_room V hbn k3) ⟨k1, k2⟩, V.1.2⟩, fun y hy => ?_⟩
  show lc_ (vadd v 4 [nI bn, p]) (nI y) (vn v 4 + 1) ≤ 8
  rw [lc_a4s]
  split
  · next e => rw [← e]; omega
  · exact V.2 y hy

