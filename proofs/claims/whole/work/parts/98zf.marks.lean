/-! 98zf: law, mark, back -/
theorem XLay.cg4 {h h' : hp} {X : Nat} (H : XLay h X) (k : ∀ b, X ≤ b → b ≤ X + 47 → hK h' b = hK h b) (n : ∀ b, X ≤ b → b ≤ X + 47 → hN h' b = hN h b) (r : ∀ b, X ≤ b → b ≤ X + 47 → ¬ b = X + 16 → ∀ j, hR h' b j = hR h b j) : XLay h' X := by
  unfold XLay FcAt RkAt KnAt RdAt PlAt at H ⊢
  simp (disch := omega) only [k, n, r]
  exact H
theorem up1_p {α : Type} (f : Nat → α) (a : Nat) (x : α) : up1 f a x a = x := by unfold up1; rw [if_pos rfl]
theorem up1_n {α : Type} (f : Nat → α) {a b : Nat} (x : α) (e : ¬ b = a) : up1 f a x b = f b := by unfold up1; rw [if_neg e]
theorem IVc.law {h h' : hp} {X : Nat} {v : vw} {L : Nat} {ls : lws} {la : Nat → Nat} {n : Nat} {t : Nat → Nat} {mv : Nat → vw} {ln : lwt} (C : IVc h X v L ls la n t mv) (W : Hlw h h' X L) (N : LwX h' (hZ h) ln) : IVc h' X v (L + 1) (up1 ls L ln) (up1 la L (hZ h)) 0 t mv := by
  obtain ⟨h1, h2, h3, h4, h5⟩ := C
  obtain ⟨c1, c2, c3, c4, c5, c6, c7, c8, c9⟩ := id W
  obtain ⟨a1, a2⟩ := h1.law (fun r hr => (h4 r hr).2) (by omega) W N
  refine ⟨a1, ⟨c9, by omega, fun j hj => absurd hj (by omega)⟩, by omega, fun r hr => ⟨?_, a2 r hr⟩, fun k hk w hw => ?_⟩
  · by_cases e : r = L
    · rw [e, up1_p]; exact h3
    · rw [up1_n _ _ e]; exact (h4 r (by omega)).1
  · have r16 : ∀ j, hR h' (X + 16) j = hR h (X + 16) j := c3 _ (by omega) (by omega)
    rw [r16] at hw
    obtain ⟨b1, b2, b3, b4, b5⟩ := h5 k hk w hw
    refine ⟨b1.cg2 (fun b q1 q2 => W.eq (by omega) (by omega) (by omega) (by omega)), b2, by omega, fun r hr => ?_, fun j hj e u hu => b5 j hj e u (by rw [r16] at hu; exact hu)⟩
    by_cases e : r = L
    · rw [e, up1_p]; right; exact b3
    · rw [up1_n _ _ e]; exact b4 r (by omega)
set_option maxHeartbeats 1000000 in
theorem st_law {g : gx} {Z : Nat} {h : hp} {X : Nat} (I : IV g Z h X) : Call g 200 6 2005 m_X8_law [.ref X] h (StQ g Z X m_X9_law []) := by
  obtain ⟨S, zx, sa, v, L, ls, la, n, t, mv, C, D, V, U⟩ := I
  by_cases L8 : L < 8
  rotate_left
  · have e8 : L = 8 := by have := V.1.2.1; omega
    refine (d_X8_law g 173 C.1.1 (by rw [C.1.2.2.1, e8])).mono ?_
    rintro rv h1 ⟨rfl, rfl⟩
    refine ⟨_, rfl, D.1.1.1.1, (d_X9_law g 200 D.1.1.1 (by rw [D.1.2.2.1, e8])).mono ?_⟩
    rintro rv h2 ⟨rfl, rfl⟩
    exact ⟨rfl, IV.rq S zx sa C D V U Kp.rf⟩
  have hz := C.2.2.1
  refine (c_X8_law g 173 C.1.1 C.1.2.2.1 L8 C.2.1 S zx (by omega)).mono ?_
  rintro rv h1 (⟨f, hf, rfl, T1, k1, e1, e5⟩ | ⟨ln, rfl, T1, O1, W1, N1⟩)
  · obtain ⟨S1, C1, D1⟩ := IV.c (n' := 0) (t' := t) S zx C D k1 (fun q e => by rcases e with e | e <;> omega) (C.1.nolaw k1 e1) ⟨e5, by omega, fun j hj => absurd hj (by omega)⟩
    refine ⟨_, rfl, D1.1.1.1.1, (c_X9_law g 189 ⟨D1.1.1.1, D1.2.1, ⟨D1.1.2.2.1, L8⟩, S1, by omega⟩).mono ?_⟩
    rintro rv h2 ⟨K2, e29, (⟨f2, hf2, rfl, T2, e32⟩ | ⟨ln2, rfl, T2, e32, N2⟩)⟩
    · have ef : f = f2 := Sum.inl.inj (T1.u T2)
      subst ef
      refine ⟨rfl, IV.r S1 zx sa C1 V (by rw [mkx_c X k1]; exact U) K2.1 (fun q e => by rcases e with e | e <;> omega) (D1.cg3 (D1.1.nolaw V.1 K2 e32) ⟨e29, by omega, fun j hj => absurd hj (by omega)⟩ (K2.2.1 55 (by omega)) (fun b hb j => by rw [(K2.1.2.2.2.2 b (fun e => by rcases e with e | e <;> omega)).1]))⟩
    · exact absurd (T1.u T2) (fun e => by cases e)
  · have C1 := C.law W1 N1
    have W2 := W1
    obtain ⟨c1, c2, c3, c4, c5, c6, c7, c8, c9⟩ := W2
    have D1 := D.cg2 (h' := h1) (fun b q1 q2 => W1.eq (by omega) (by omega) (by omega) (by omega))
    have S1 := S.cg2 (h' := h1) sa (fun b hb => W1.eq (by omega) (by omega) (by omega) (by omega))
    have em : mkx h1 X = mkx h X := funext (fun k => by unfold mkx; rw [c3 _ (by omega) (by omega)])
    refine ⟨_, rfl, D1.1.1.1.1, (c_X9_law g 189 ⟨D1.1.1.1, D1.2.1, ⟨D1.1.2.2.1, L8⟩, S1, by omega⟩).mono ?_⟩
    rintro rv h2 ⟨K2, e29, (⟨f2, hf2, rfl, T2, e32⟩ | ⟨ln2, rfl, T2, e32, N2⟩)⟩
    · exact absurd (T1.u T2) (fun e => by cases e)
    · have ef : ln = ln2 := Sum.inr.inj (T1.u T2)
      subst ef
      have D2 := D1.cg3 (D1.1.law V.1 K2 e32 N2) (n' := 0) (t' := t) ⟨e29, by omega, fun j hj => absurd hj (by omega)⟩ (K2.2.1 55 (by omega)) (fun b hb j => by rw [(K2.1.2.2.2.2 b (fun e => by rcases e with e | e <;> omega)).1])
      refine ⟨rfl, IV.r S1 zx sa C1 (V.law L8 O1) (fun k hk e => ?_) K2.1 (fun q e => by rcases e with e | e <;> omega) ?_⟩
      · rw [em] at e
        exact (U k hk e).law L8 O1
      · rw [em]
        exact D2
theorem XI.sep {h h' : hp} {X b : Nat} {v : vw} {L : Nat} {ls : lws} {la : Nat → Nat} (H : XI h X v L ls la) (k : Chg (inW b) h h') (hb : X + 98 < b) (hl : ∀ r, r < L → la r + 5 < b ∨ b + 14 < la r) : XI h' X v L ls la := by
  refine ⟨H.1.kept k, H.2.1.kept k (fun q hq e => by have := e.1; have := hq.2; omega), by rw [(k.2.2.2.2 X (fun e => by have := e.1; omega)).1]; exact H.2.2.1, fun r hr => ?_⟩
  obtain ⟨a1, a2, a3⟩ := H.2.2.2 r hr
  exact ⟨by rw [k.2.2.2.1]; exact a1, a2.kept k (fun q h1 h2 e => by have := e.1; have := e.2; have := hl r hr; omega), a3⟩
theorem IVc.mk1 {h h' : hp} {X b k : Nat} {v : vw} {L : Nat} {ls : lws} {la : Nat → Nat} {n : Nat} {t : Nat → Nat} {mv : Nat → vw} (C : IVc h X v L ls la n t mv) (k4 : k < 4) (rk : hR h (X + 16) k = some b) (c : Chg (inW b) h h') (W : WRep h' b v) : IVc h' X v L ls la n t (up1 mv k v) := by
  obtain ⟨h1, h2, h3, h4, h5⟩ := C
  obtain ⟨b1, b2, b3, b4, b5⟩ := h5 k k4 b rk
  refine ⟨h1.sep c b2 b4, h2.cg2 (by rw [(c.2.2.2.2 X (fun e => by have := e.1; omega)).1]) (fun j => by rw [(c.2.2.2.2 (X + 18) (fun e => by have := e.1; omega)).1]), by rw [c.1]; exact h3, fun r hr => by rw [c.1]; exact h4 r hr, fun j hj w hw => ?_⟩
  rw [c.2.2.2.1] at hw
  obtain ⟨a1, a2, a3, a4, a5⟩ := h5 j hj w hw
  refine ⟨?_, a2, by rw [c.1]; exact a3, a4, fun i hi e u hu => a5 i hi e u (by rw [c.2.2.2.1] at hu; exact hu)⟩
  by_cases e : j = k
  · subst e
    have ew : b = w := Option.some.inj (rk.symm.trans hw)
    subst ew
    rw [up1_p]
    exact W
  · rw [up1_n _ _ e]
    have := b5 j hj e w hw
    exact a1.kept c (fun q hq z => by have := z.1; have := z.2; have := hq.1; have := hq.2; omega)
theorem IVc.mk2 {h h' : hp} {X k : Nat} {v : vw} {L : Nat} {ls : lws} {la : Nat → Nat} {n : Nat} {t : Nat → Nat} {mv : Nat → vw} (C : IVc h X v L ls la n t mv) (k4 : k < 4) (K : Hmk h h' X k) (W : WRep h' (hZ h) v) : IVc h' X v L ls la n t (up1 mv k v) := by
  obtain ⟨h1, h2, h3, h4, h5⟩ := C
  obtain ⟨c1, c2, c3, c4, c5⟩ := K
  obtain ⟨g1, g2, g3, g4⟩ := h1
  have x1 : XI h' X v L ls la := by
    refine ⟨g1.cg4 (fun b q1 q2 => ?_) (fun b q1 q2 => ?_) (fun b q1 q2 q3 => (c2 b (by omega) q3).2.2.2.2), g2.cg2 (fun b q1 q2 => c2 b (by omega) (by omega)), ((c2 X (by omega) (by omega)).2.2.1 3).trans g3, fun r hr => ?_⟩
    · by_cases e : b = X + 16
      · rw [e]; exact c3.1
      · exact (c2 b (by omega) e).1
    · by_cases e : b = X + 16
      · rw [e]; exact c3.2
      · exact (c2 b (by omega) e).2.1
    · obtain ⟨a1, a2, a3⟩ := g4 r hr
      have := h4 r hr
      exact ⟨((c2 (X + 17) (by omega) (by omega)).2.2.2.2 r).trans a1, a2.cg2 (fun b q1 q2 => c2 b (by omega) (by omega)), a3⟩
  refine ⟨x1, h2.cg2 ((c2 X (by omega) (by omega)).2.2.1 5) (fun j => (c2 (X + 18) (by omega) (by omega)).2.2.1 j), by omega, fun r hr => ⟨(h4 r hr).1, by have := (h4 r hr).2; omega⟩, fun j hj w hw => ?_⟩
  by_cases e : j = k
  · subst e
    rw [c5] at hw
    have ew : hZ h = w := Option.some.inj hw
    rw [up1_p]
    subst ew
    refine ⟨W, h3, by omega, fun r hr => Or.inl (h4 r hr).2, fun i hi e u hu => Or.inl ?_⟩
    rw [c4 i e] at hu
    exact (h5 i hi u hu).2.2.1
  · rw [c4 j e] at hw
    obtain ⟨a1, a2, a3, a4, a5⟩ := h5 j hj w hw
    rw [up1_n _ _ e]
    refine ⟨a1.cg2 (fun b q1 q2 => c2 b (by omega) (by omega)), a2, by omega, a4, fun i hi ie u hu => ?_⟩
    by_cases ik : i = k
    · subst ik
      rw [c5] at hu
      have eu : hZ h = u := Option.some.inj hu
      right; omega
    · rw [c4 i ik] at hu
      exact a5 i hi ie u hu
theorem IVm.mk {h h' : hp} {M k : Nat} {v : vw} {L : Nat} {ls : lws} {n : Nat} {t : Nat → Nat} {mk mk' : Nat → Bool} {mv : Nat → vw} (D : IVm h M v L ls n t mk mv) (K : Km M k h h') (R : MKr h' M k v) (e1 : mk' k = true) (e2 : ∀ j, ¬ j = k → mk' j = mk j) : IVm h' M v L ls n t mk' (up1 mv k v) := by
  obtain ⟨h1, h2, h3, h4, h5⟩ := D
  have KK := K
  obtain ⟨c1, c2, c3, c4, c5⟩ := KK
  refine ⟨K.mi h1, h2.cg2 (c2 29 (by omega) (by omega)) (fun j => by rw [(c1.2.2.2.2 (M + 22) (by omega)).1]), (c2 55 (by omega) (by omega)).trans h3, fun j hj => ?_, fun j hj ej => ?_⟩
  · by_cases e : j = k
    · rw [e, c4, e1]; rfl
    · rw [c5 j e, e2 j e]; exact h4 j hj
  · by_cases e : j = k
    · rw [e, up1_p]; exact R
    · rw [up1_n _ _ e]
      rw [e2 j e] at ej
      exact (h5 j hj ej).kept (fun i i1 i2 => c3 i (by omega))
theorem Km.fr {M k : Nat} {h h' : hp} (K : Km M k h h') : Chg (fun q => M ≤ q ∧ q ≤ M + 50) h h' := K.1.wk (fun q e => by omega)
set_option maxHeartbeats 1000000 in
theorem st_mark {g : gx} {Z : Nat} {h : hp} {X : Nat} (I : IV g Z h X) (a : Int32) : Call g 200 15 5708 m_X8_mark [.ref X, .int a] h (StQ g Z X m_X9_mark [.int a]) := by
  obtain ⟨S, zx, sa, v, L, ls, la, n, t, mv, C, D, V, U⟩ := I
  by_cases ia : inR 4 a
  rotate_left
  · refine (c0_X8_mark g 198 ia).mono ?_
    rintro rv h1 ⟨rfl, rfl⟩
    refine ⟨_, rfl, D.1.1.1.1, (c_X9_mark g 198 D.1 V.1 a).mono ?_⟩
    rintro rv h2 ⟨rfl, (⟨-, rfl⟩ | ⟨i2, -⟩)⟩
    · exact ⟨by rw [if_neg ia], IV.rq S zx sa C D V U Kp.rf⟩
    · exact absurd i2 ia
  obtain ⟨k, k4, rfl, k31⟩ := inR_of ia
  have tk : (nI k).toNatClampNeg = k := nI_tn k31
  have hz := C.2.2.1
  cases rk : hR h (X + 16) k with
  | none =>
    refine (c2_X8_mark g 198 C.1.1 C.1.2.1 k4 rk (by omega)).mono ?_
    rintro rv h1 ⟨rfl, K1, W1⟩
    have C1 := C.mk2 k4 K1 W1
    obtain ⟨c1, c2, c3, c4, c5⟩ := K1
    have D1 := D.cg2 (h' := h1) (fun b q1 q2 => c2 b (by omega) (by omega))
    have S1 := S.cg2 (h' := h1) sa (fun b hb => c2 b (by omega) (by omega))
    have m1 : mkx h1 X k = true := by unfold mkx; rw [c5]; rfl
    have m2 : ∀ j, ¬ j = k → mkx h1 X j = mkx h X j := fun j e => by unfold mkx; rw [c4 j e]
    refine ⟨_, rfl, D1.1.1.1.1, (c_X9_mark g 198 D1.1 V.1 (nI k)).mono ?_⟩
    rintro rv h2 ⟨rfl, (⟨i2, -⟩ | ⟨-, K2, R2⟩)⟩
    · exact absurd ia i2
    · rw [tk] at K2 R2
      refine ⟨by rw [if_pos ia], IV.r S1 zx sa C1 V (fun j hj e => ?_) K2.fr (fun q e => by omega) (D1.mk K2 R2 m1 m2)⟩
      by_cases ej : j = k
      · rw [ej, up1_p]; exact V
      · rw [up1_n _ _ ej]
        rw [m2 j ej] at e
        exact U j hj e
  | some b =>
    obtain ⟨b1, b2, b3, b4, b5⟩ := C.2.2.2.2 k k4 b rk
    refine (c1_X8_mark g 198 C.1.1 C.1.2.1 k4 rk b1 (by omega)).mono ?_
    rintro rv h1 ⟨rfl, K1, W1⟩
    have C1 := C.mk1 k4 rk K1 W1
    have em := mkx_c X K1
    have D1 := D.cg2 (h' := h1) (fun q q1 q2 => K1.eq (fun e => by have := e.1; omega))
    have S1 := S.kept K1 (fun q e => by have := e.1; omega)
    have m1 : mkx h1 X k = true := by unfold mkx; rw [K1.2.2.2.1, rk]; rfl
    refine ⟨_, rfl, D1.1.1.1.1, (c_X9_mark g 198 D1.1 V.1 (nI k)).mono ?_⟩
    rintro rv h2 ⟨rfl, (⟨i2, -⟩ | ⟨-, K2, R2⟩)⟩
    · exact absurd ia i2
    · rw [tk] at K2 R2
      refine ⟨by rw [if_pos ia], IV.r S1 zx sa C1 V (fun j hj e => ?_) K2.fr (fun q e => by omega) (D1.mk K2 R2 m1 (fun j _ => by rw [em]))⟩
      by_cases ej : j = k
      · rw [ej, up1_p]; exact V
      · rw [up1_n _ _ ej]
        rw [em] at e
        exact U j hj e
set_option maxHeartbeats 1000000 in
theorem st_back {g : gx} {Z : Nat} {h : hp} {X : Nat} (I : IV g Z h X) (a : Int32) : Call g 200 0 0 m_X8_back [.ref X, .int a] h (StQ g Z X m_X9_back [.int a]) := by
  obtain ⟨S, zx, sa, v, L, ls, la, n, t, mv, C, D, V, U⟩ := I
  have HK : ∀ k, k < 4 → mkx h X k = true → ∀ r, r < vn (mv k) 5 → vc (mv k) 5 r 0 = 0 ∨ vc (mv k) 5 r 0 = 1 := fun k hk e r hr => ((U k hk e).1.1.2.2.2.2.2.2.1 r hr).1
  by_cases ia : inR 4 a
  rotate_left
  · refine (c0_X8_back g 198 ia).mono ?_
    rintro rv h1 ⟨rfl, rfl⟩
    refine ⟨_, rfl, D.1.1.1.1, (c_X9_back g 198 D.1 V.1 (mkx h1 X) D.2.2.2.1 mv (fun k hk e => ⟨D.2.2.2.2 k hk e, HK k hk e⟩) a).mono ?_⟩
    rintro rv h2 ⟨rfl, (⟨-, rfl⟩ | ⟨i2, -⟩)⟩
    · exact ⟨by rw [if_neg (fun z => ia z.1)], IV.rq S zx sa C D V U Kp.rf⟩
    · exact absurd i2.1 ia
  obtain ⟨k, k4, rfl, k31⟩ := inR_of ia
  have tk : (nI k).toNatClampNeg = k := nI_tn k31
  cases rk : hR h (X + 16) k with
  | none =>
    have m0 : ¬ mkx h X k = true := by unfold mkx; rw [rk]; exact fun e => by cases e
    refine (c1_X8_back g 198 C.1.1 k4 rk).mono ?_
    rintro rv h1 ⟨rfl, rfl⟩
    refine ⟨_, rfl, D.1.1.1.1, (c_X9_back g 198 D.1 V.1 (mkx h1 X) D.2.2.2.1 mv (fun k hk e => ⟨D.2.2.2.2 k hk e, HK k hk e⟩) (nI k)).mono ?_⟩
    rintro rv h2 ⟨rfl, (⟨-, rfl⟩ | ⟨i2, -⟩)⟩
    · exact ⟨by rw [if_neg (fun z => by rw [tk] at z; exact m0 z.2)], IV.rq S zx sa C D V U Kp.rf⟩
    · exact absurd (by rw [tk] at i2; exact i2.2) m0
  | some b =>
    have m0 : mkx h X k = true := by unfold mkx; rw [rk]; rfl
    obtain ⟨b1, b2, b3, b4, b5⟩ := C.2.2.2.2 k k4 b rk
    refine (c2_X8_back g 198 C.1.1 C.1.2.1 k4 rk b1 (by omega)).mono ?_
    rintro rv h1 ⟨rfl, k1, W1⟩
    obtain ⟨S1, C1, D1⟩ := IV.cw S zx C D k1 (C.1.kepw k1 W1)
    have em := mkx_c X k1
    rw [em] at D1
    refine ⟨_, rfl, D1.1.1.1.1, (c_X9_back g 198 D1.1 V.1 (mkx h X) D1.2.2.2.1 mv (fun k hk e => ⟨D1.2.2.2.2 k hk e, HK k hk e⟩) (nI k)).mono ?_⟩
    rintro rv h2 ⟨rfl, (⟨i2, -⟩ | ⟨-, K2, M2⟩)⟩
    · exact absurd ⟨ia, by rw [tk]; exact m0⟩ i2
    · rw [tk] at M2
      refine ⟨by rw [if_pos ⟨ia, by rw [tk]; exact m0⟩, tk], IV.r S1 zx sa C1 (U k k4 m0) (by rw [em]; exact U) K2.1 (fun q e => by unfold bkq at e; omega) ?_⟩
      rw [em]
      exact D1.cg3 M2 (D1.2.1.cg2 (K2.2 29 (by omega) (by omega) (by omega)) (fun j => by rw [(K2.1.2.2.2.2 (X + 48 + 22) (by unfold bkq; omega)).1])) (K2.2 55 (by omega) (by omega) (by omega)) (fun b hb j => by rw [(K2.1.2.2.2.2 b (by unfold bkq; omega)).1])

