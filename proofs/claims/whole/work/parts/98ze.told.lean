/-! 98ze: the calls that tell something -/
theorem m1R {x : Int32} {n : Nat} (h1 : -1 ≤ x.toInt) (h2 : x.toInt < (n : Int)) : x = -1 ∨ inR n x := by
  by_cases e : x.toInt = -1
  · left; exact i_eq.mpr (by rw [e, i_m1])
  · right; exact ⟨by omega, h2⟩
theorem VOK.rul {v : vw} {L : Nat} (V : VOK v L) {k : Nat} {x : Int32} (hx : x = -1 ∨ inR L x) : VOK (vset v 0 k 4 x) L := by
  refine V.of V.1 (Nat.le_refl _) (Nat.le_refl _) (Nat.le_refl _) ?_ (fun r hr => Or.inl ⟨hr, fun c => by rw [vc_vset, if_neg (by omega)]⟩) (fun r hr => Or.inl ⟨hr, fun c => by rw [vc_vset, if_neg (by omega)]⟩) (fun r hr => Or.inl ⟨hr, fun c => by rw [vc_vset, if_neg (by omega)]⟩) (fun r hr => Or.inl ⟨hr, fun c => by rw [vc_vset, if_neg (by omega)]⟩) (fun r hr => Or.inl ⟨hr, fun c => by rw [vc_vset, if_neg (by omega)]⟩) (fun r hr => Or.inl ⟨hr, fun c => by rw [vc_vset, if_neg (by omega)]⟩)
  intro r hr
  right
  have q := V.2.1 r hr
  refine ⟨by rw [vc_vset, if_neg (by omega)]; exact q.1, by rw [vc_vset, if_neg (by omega)]; exact q.2.1, by rw [vc_vset, if_neg (by omega)]; exact q.2.2.1, by rw [vc_vset, if_neg (by omega)]; exact q.2.2.2.1, ?_⟩
  rw [vc_vset]
  split
  · exact hx
  · exact q.2.2.2.2
theorem SHp.cg2 {g : gx} {h h' : hp} {Z : Nat} (H : SHp g h Z) (sa : ∀ k, k < 22 → g.2.2 k < Z) (e : ∀ b, b < Z → hp_eq h h' b) : SHp g h' Z := by
  intro k hk
  obtain ⟨a1, a2, b, a3, a4, a5⟩ := H k hk
  have q := e _ (sa k hk)
  exact ⟨q.1.trans a1, q.2.1.trans a2, b, (q.2.2.2.2 0).trans a3, a4, fun j hj => ((e b a4).2.2.1 j).trans (a5 j hj)⟩

theorem st_body {g : gx} {Z : Nat} {h : hp} {X : Nat} (I : IV g Z h X) (a b c d : Int32) : Call g 200 0 0 m_X8_body [.ref X, .int a, .int b, .int c, .int d] h (StQ g Z X m_X9_body [.int a, .int b, .int c, .int d]) := by
  obtain ⟨S, zx, sa, v, L, ls, la, n, t, mv, C, D, V, U⟩ := I
  refine (c_X8_body g 198 C.1 V a b c d).mono ?_
  rintro rv h1 ⟨rfl, k1, H1⟩
  by_cases ok : okBody (vn v 0) a b c d
  · rw [if_pos ok] at H1
    obtain ⟨S1, C1, D1⟩ := IV.cw S zx C D k1 H1
    refine ⟨_, rfl, D1.1.1.1.1, (c_X9_body g 198 D1.1.1.1 D1.1.1.2.1.1 D1.1.1.2.2.1.1 a b c d).mono ?_⟩
    rintro rv h2 ⟨rfl, e2⟩
    rw [if_pos ok] at e2
    subst e2
    have kc : Chg (fun q => X + 48 ≤ q ∧ q ≤ X + 48 + 50) h1 (bodyM h1 (X + 48) (vn v 0) a b c d) := by
      unfold bodyM
      refine Chg.tr ?_ (Chg.sI ⟨by omega, by omega⟩)
      refine Chg.tr ?_ (Chg.sI ⟨by omega, by omega⟩)
      refine Chg.tr ?_ (Chg.sI ⟨by omega, by omega⟩)
      refine Chg.tr ?_ (Chg.sI ⟨by omega, by omega⟩)
      refine Chg.tr ?_ (Chg.sI ⟨by omega, by omega⟩)
      refine Chg.tr ?_ (Chg.sI ⟨by omega, by omega⟩)
      refine Chg.tr ?_ (Chg.sI ⟨by omega, by omega⟩)
      exact Chg.rf
    refine ⟨rfl, IV.rt S1 zx sa C1 D1 (V.add0 ok) (by rw [mkx_c X k1]; exact U) kc (D1.1.add0 V.1.1 a b c d ok.1) (fun j hj => ?_) (fun b hb j => ?_)⟩
    · unfold bodyM
      rw [hI_setI, if_neg (by omega), hI_setI, if_neg (by omega), hI_setI, if_neg (by omega), hI_setI, if_neg (by omega), hI_setI, if_neg (by omega), hI_setI, if_neg (by omega), hI_setI, if_neg (by omega)]
    · unfold bodyM
      rw [hI_setI, if_neg (by omega), hI_setI, if_neg (by omega), hI_setI, if_neg (by omega), hI_setI, if_neg (by omega), hI_setI, if_neg (by omega), hI_setI, if_neg (by omega), hI_setI, if_neg (by omega)]
  · rw [if_neg ok] at H1
    obtain ⟨S1, C1, D1⟩ := IV.cw S zx C D k1 H1
    refine ⟨_, rfl, D1.1.1.1.1, (c_X9_body g 198 D1.1.1.1 D1.1.1.2.1.1 D1.1.1.2.2.1.1 a b c d).mono ?_⟩
    rintro rv h2 ⟨rfl, e2⟩
    rw [if_neg ok] at e2
    subst e2
    exact ⟨rfl, IV.rq S1 zx sa C1 D1 V (by rw [mkx_c X k1]; exact U) Kp.rf⟩

theorem st_person {g : gx} {Z : Nat} {h : hp} {X : Nat} (I : IV g Z h X) (a b c d e : Int32) : Call g 200 0 0 m_X8_person [.ref X, .int a, .int b, .int c, .int d, .int e] h (StQ g Z X m_X9_person [.int a, .int b, .int c, .int d, .int e]) := by
  obtain ⟨S, zx, sa, v, L, ls, la, n, t, mv, C, D, V, U⟩ := I
  refine (c_X8_person g 198 C.1 V a b c d e).mono ?_
  rintro rv h1 ⟨rfl, k1, H1⟩
  by_cases ok : okPerson (vn v 0) (vn v 1) a b c d e
  · rw [if_pos ok] at H1
    obtain ⟨S1, C1, D1⟩ := IV.cw S zx C D k1 H1
    refine ⟨_, rfl, D1.1.1.1.1, (c_X9_person g 198 D1.1.1.1 D1.1.1.2.1.1 D1.1.1.2.2.1.1 D1.1.1.2.1.2.1 D1.1.1.2.2.1.2.1 a b c d e).mono ?_⟩
    rintro rv h2 ⟨rfl, e2⟩
    rw [if_pos ok] at e2
    subst e2
    have kc : Chg (fun q => X + 48 ≤ q ∧ q ≤ X + 48 + 50) h1 (personM h1 (X + 48) (vn v 1) a b c d e) := by
      unfold personM
      refine Chg.tr ?_ (Chg.sI ⟨by omega, by omega⟩)
      refine Chg.tr ?_ (Chg.sI ⟨by omega, by omega⟩)
      refine Chg.tr ?_ (Chg.sI ⟨by omega, by omega⟩)
      refine Chg.tr ?_ (Chg.sI ⟨by omega, by omega⟩)
      refine Chg.tr ?_ (Chg.sI ⟨by omega, by omega⟩)
      refine Chg.tr ?_ (Chg.sI ⟨by omega, by omega⟩)
      refine Chg.tr ?_ (Chg.sI ⟨by omega, by omega⟩)
      exact Chg.rf
    refine ⟨rfl, IV.rt S1 zx sa C1 D1 (V.of (V.1.1.add1 ok.1 ⟨ok.2.1, ok.2.2.1, ok.2.2.2.1, ok.2.2.2.2.1, ok.2.2.2.2.2, Or.inl rfl⟩) rfl rfl (fun r => by rw [vc_vadd, if_neg (by omega)])) (by rw [mkx_c X k1]; exact U) kc (D1.1.add1 a b c d e ok.1) (fun j hj => ?_) (fun b hb j => ?_)⟩
    · unfold personM
      rw [hI_setI, if_neg (by omega), hI_setI, if_neg (by omega), hI_setI, if_neg (by omega), hI_setI, if_neg (by omega), hI_setI, if_neg (by omega), hI_setI, if_neg (by omega), hI_setI, if_neg (by omega)]
    · unfold personM
      rw [hI_setI, if_neg (by omega), hI_setI, if_neg (by omega), hI_setI, if_neg (by omega), hI_setI, if_neg (by omega), hI_setI, if_neg (by omega), hI_setI, if_neg (by omega), hI_setI, if_neg (by omega)]
  · rw [if_neg ok] at H1
    obtain ⟨S1, C1, D1⟩ := IV.cw S zx C D k1 H1
    refine ⟨_, rfl, D1.1.1.1.1, (c_X9_person g 198 D1.1.1.1 D1.1.1.2.1.1 D1.1.1.2.2.1.1 D1.1.1.2.1.2.1 D1.1.1.2.2.1.2.1 a b c d e).mono ?_⟩
    rintro rv h2 ⟨rfl, e2⟩
    rw [if_neg ok] at e2
    subst e2
    exact ⟨rfl, IV.rq S1 zx sa C1 D1 V (by rw [mkx_c X k1]; exact U) Kp.rf⟩

theorem st_step {g : gx} {Z : Nat} {h : hp} {X : Nat} (I : IV g Z h X) (a b c d : Int32) : Call g 200 0 0 m_X8_step [.ref X, .int a, .int b, .int c, .int d] h (StQ g Z X m_X9_step [.int a, .int b, .int c, .int d]) := by
  obtain ⟨S, zx, sa, v, L, ls, la, n, t, mv, C, D, V, U⟩ := I
  refine (c_X8_step g 198 C.1 V a b c d).mono ?_
  rintro rv h1 ⟨rfl, k1, H1⟩
  by_cases ok : okStep (vn v 1) (vn v 2) a b c d
  · rw [if_pos ok] at H1
    obtain ⟨S1, C1, D1⟩ := IV.cw S zx C D k1 H1
    refine ⟨_, rfl, D1.1.1.1.1, (c_X9_step g 198 D1.1.1.1 D1.1.1.2.1.2.1 D1.1.1.2.2.1.2.1 D1.1.1.2.1.2.2.1 D1.1.1.2.2.1.2.2.1 a b c d).mono ?_⟩
    rintro rv h2 ⟨rfl, e2⟩
    rw [if_pos ok] at e2
    subst e2
    have kc : Chg (fun q => X + 48 ≤ q ∧ q ≤ X + 48 + 50) h1 (stepM h1 (X + 48) (vn v 2) a b c d) := by
      unfold stepM
      refine Chg.tr ?_ (Chg.sI ⟨by omega, by omega⟩)
      refine Chg.tr ?_ (Chg.sI ⟨by omega, by omega⟩)
      refine Chg.tr ?_ (Chg.sI ⟨by omega, by omega⟩)
      refine Chg.tr ?_ (Chg.sI ⟨by omega, by omega⟩)
      refine Chg.tr ?_ (Chg.sI ⟨by omega, by omega⟩)
      exact Chg.rf
    refine ⟨rfl, IV.rt S1 zx sa C1 D1 (V.of (V.1.1.add2 ok.1 ok.2) rfl rfl (fun r => by rw [vc_vadd, if_neg (by omega)])) (by rw [mkx_c X k1]; exact U) kc (D1.1.add2 a b c d ok.1) (fun j hj => ?_) (fun b hb j => ?_)⟩
    · unfold stepM
      rw [hI_setI, if_neg (by omega), hI_setI, if_neg (by omega), hI_setI, if_neg (by omega), hI_setI, if_neg (by omega), hI_setI, if_neg (by omega)]
    · unfold stepM
      rw [hI_setI, if_neg (by omega), hI_setI, if_neg (by omega), hI_setI, if_neg (by omega), hI_setI, if_neg (by omega), hI_setI, if_neg (by omega)]
  · rw [if_neg ok] at H1
    obtain ⟨S1, C1, D1⟩ := IV.cw S zx C D k1 H1
    refine ⟨_, rfl, D1.1.1.1.1, (c_X9_step g 198 D1.1.1.1 D1.1.1.2.1.2.1 D1.1.1.2.2.1.2.1 D1.1.1.2.1.2.2.1 D1.1.1.2.2.1.2.2.1 a b c d).mono ?_⟩
    rintro rv h2 ⟨rfl, e2⟩
    rw [if_neg ok] at e2
    subst e2
    exact ⟨rfl, IV.rq S1 zx sa C1 D1 V (by rw [mkx_c X k1]; exact U) Kp.rf⟩

theorem st_paper {g : gx} {Z : Nat} {h : hp} {X : Nat} (I : IV g Z h X) (a b c d : Int32) : Call g 200 0 0 m_X8_paper [.ref X, .int a, .int b, .int c, .int d] h (StQ g Z X m_X9_paper [.int a, .int b, .int c, .int d]) := by
  obtain ⟨S, zx, sa, v, L, ls, la, n, t, mv, C, D, V, U⟩ := I
  refine (c_X8_paper g 198 C.1 V a b c d).mono ?_
  rintro rv h1 ⟨rfl, k1, H1⟩
  by_cases ok : okPaper (vn v 0) (vn v 1) (vn v 3) a b c d
  · rw [if_pos ok] at H1
    obtain ⟨S1, C1, D1⟩ := IV.cw S zx C D k1 H1
    refine ⟨_, rfl, D1.1.1.1.1, (c_X9_paper g 198 D1.1.1.1 D1.1.1.2.1.1 D1.1.1.2.2.1.1 D1.1.1.2.1.2.1 D1.1.1.2.2.1.2.1 D1.1.1.2.1.2.2.2.1 D1.1.1.2.2.1.2.2.2.1 a b c d).mono ?_⟩
    rintro rv h2 ⟨rfl, e2⟩
    rw [if_pos ok] at e2
    subst e2
    have kc : Chg (fun q => X + 48 ≤ q ∧ q ≤ X + 48 + 50) h1 (paperM h1 (X + 48) (vn v 3) a b c d) := by
      unfold paperM
      refine Chg.tr ?_ (Chg.sI ⟨by omega, by omega⟩)
      refine Chg.tr ?_ (Chg.sI ⟨by omega, by omega⟩)
      refine Chg.tr ?_ (Chg.sI ⟨by omega, by omega⟩)
      refine Chg.tr ?_ (Chg.sI ⟨by omega, by omega⟩)
      refine Chg.tr ?_ (Chg.sI ⟨by omega, by omega⟩)
      exact Chg.rf
    refine ⟨rfl, IV.rt S1 zx sa C1 D1 (V.of (V.1.1.add3 ok.1 ⟨ok.2.1, ok.2.2.1, ok.2.2.2.1, ok.2.2.2.2.1⟩) rfl rfl (fun r => by rw [vc_vadd, if_neg (by omega)])) (by rw [mkx_c X k1]; exact U) kc (D1.1.add3 a b c d ok.1) (fun j hj => ?_) (fun b hb j => ?_)⟩
    · unfold paperM
      rw [hI_setI, if_neg (by omega), hI_setI, if_neg (by omega), hI_setI, if_neg (by omega), hI_setI, if_neg (by omega), hI_setI, if_neg (by omega)]
    · unfold paperM
      rw [hI_setI, if_neg (by omega), hI_setI, if_neg (by omega), hI_setI, if_neg (by omega), hI_setI, if_neg (by omega), hI_setI, if_neg (by omega)]
  · rw [if_neg ok] at H1
    obtain ⟨S1, C1, D1⟩ := IV.cw S zx C D k1 H1
    refine ⟨_, rfl, D1.1.1.1.1, (c_X9_paper g 198 D1.1.1.1 D1.1.1.2.1.1 D1.1.1.2.2.1.1 D1.1.1.2.1.2.1 D1.1.1.2.2.1.2.1 D1.1.1.2.1.2.2.2.1 D1.1.1.2.2.1.2.2.2.1 a b c d).mono ?_⟩
    rintro rv h2 ⟨rfl, e2⟩
    rw [if_neg ok] at e2
    subst e2
    exact ⟨rfl, IV.rq S1 zx sa C1 D1 V (by rw [mkx_c X k1]; exact U) Kp.rf⟩

theorem st_list {g : gx} {Z : Nat} {h : hp} {X : Nat} (I : IV g Z h X) (a b : Int32) : Call g 200 0 0 m_X8_list [.ref X, .int a, .int b] h (StQ g Z X m_X9_list [.int a, .int b]) := by
  obtain ⟨S, zx, sa, v, L, ls, la, n, t, mv, C, D, V, U⟩ := I
  refine (c_X8_list g 198 C.1 V a b).mono ?_
  rintro rv h1 ⟨rfl, k1, H1⟩
  by_cases ok : okList v a b
  · rw [if_pos ok] at H1
    obtain ⟨S1, C1, D1⟩ := IV.cw S zx C D k1 H1
    refine ⟨_, rfl, D1.1.1.1.1, (c_X9_list g 198 D1.1.1 D1.1.2.1 a b).mono ?_⟩
    rintro rv h2 ⟨rfl, e2⟩
    rw [if_pos ok] at e2
    subst e2
    have kc : Chg (fun q => X + 48 ≤ q ∧ q ≤ X + 48 + 50) h1 (listM h1 (X + 48) v a b) := by
      unfold listM
      refine Chg.tr ?_ (Chg.sI ⟨by omega, by omega⟩)
      refine Chg.tr ?_ (Chg.sI ⟨by omega, by omega⟩)
      exact Chg.rf
    refine ⟨rfl, IV.rt S1 zx sa C1 D1 (V.add4 ok) (by rw [mkx_c X k1]; exact U) kc (D1.1.add4 V ok) (fun j hj => ?_) (fun b hb j => ?_)⟩
    · unfold listM
      rw [hI_setI, if_neg (by omega), hI_setI, if_neg (by omega)]
    · unfold listM
      rw [hI_setI, if_neg (by omega), hI_setI, if_neg (by omega)]
  · rw [if_neg ok] at H1
    obtain ⟨S1, C1, D1⟩ := IV.cw S zx C D k1 H1
    refine ⟨_, rfl, D1.1.1.1.1, (c_X9_list g 198 D1.1.1 D1.1.2.1 a b).mono ?_⟩
    rintro rv h2 ⟨rfl, e2⟩
    rw [if_neg ok] at e2
    subst e2
    exact ⟨rfl, IV.rq S1 zx sa C1 D1 V (by rw [mkx_c X k1]; exact U) Kp.rf⟩

theorem st_message {g : gx} {Z : Nat} {h : hp} {X : Nat} (I : IV g Z h X) (z a b c : Int32) (hz : z = 0 ∨ z = 1) : Call g 200 0 0 m_X8_message [.ref X, .int z, .int a, .int b, .int c] h (StQ g Z X m_X9_message [.int z, .int a, .int b, .int c]) := by
  obtain ⟨S, zx, sa, v, L, ls, la, n, t, mv, C, D, V, U⟩ := I
  refine (c_X8_message g 198 C.1 V z a b c hz).mono ?_
  rintro rv h1 ⟨rfl, k1, H1⟩
  by_cases ok : okMsg (vn v 1) (vn v 3) (vn v 5) z a b c
  · rw [if_pos ok] at H1
    obtain ⟨S1, C1, D1⟩ := IV.cw S zx C D k1 H1
    refine ⟨_, rfl, D1.1.1.1.1, (c_X9_message g 198 D1.1.1.1 D1.1.1.2.1.2.1 D1.1.1.2.2.1.2.1 D1.1.1.2.1.2.2.2.1 D1.1.1.2.2.1.2.2.2.1 D1.1.1.2.1.2.2.2.2.1 D1.1.1.2.2.1.2.2.2.2.2.1 z a b c hz).mono ?_⟩
    rintro rv h2 ⟨rfl, e2⟩
    rw [if_pos ok] at e2
    subst e2
    have kc : Chg (fun q => X + 48 ≤ q ∧ q ≤ X + 48 + 50) h1 (msgM h1 (X + 48) (vn v 5) z a b c) := by
      unfold msgM
      refine Chg.tr ?_ (Chg.sI ⟨by omega, by omega⟩)
      refine Chg.tr ?_ (Chg.sI ⟨by omega, by omega⟩)
      refine Chg.tr ?_ (Chg.sI ⟨by omega, by omega⟩)
      refine Chg.tr ?_ (Chg.sI ⟨by omega, by omega⟩)
      refine Chg.tr ?_ (Chg.sI ⟨by omega, by omega⟩)
      exact Chg.rf
    refine ⟨rfl, IV.rt S1 zx sa C1 D1 (V.of (V.1.1.add5 ok.1 ⟨hz, ok.2.2.1, m1R ok.2.2.2.1 ok.2.2.2.2, fun e => by have := ok.2.1; rw [if_pos e] at this; exact this, fun e => by have := ok.2.1; rw [if_neg (by rw [e]; decide)] at this; exact this⟩) rfl rfl (fun r => by rw [vc_vadd, if_neg (by omega)])) (by rw [mkx_c X k1]; exact U) kc (D1.1.add5 z a b c ok.1) (fun j hj => ?_) (fun b hb j => ?_)⟩
    · unfold msgM
      rw [hI_setI, if_neg (by omega), hI_setI, if_neg (by omega), hI_setI, if_neg (by omega), hI_setI, if_neg (by omega), hI_setI, if_neg (by omega)]
    · unfold msgM
      rw [hI_setI, if_neg (by omega), hI_setI, if_neg (by omega), hI_setI, if_neg (by omega), hI_setI, if_neg (by omega), hI_setI, if_neg (by omega)]
  · rw [if_neg ok] at H1
    obtain ⟨S1, C1, D1⟩ := IV.cw S zx C D k1 H1
    refine ⟨_, rfl, D1.1.1.1.1, (c_X9_message g 198 D1.1.1.1 D1.1.1.2.1.2.1 D1.1.1.2.2.1.2.1 D1.1.1.2.1.2.2.2.1 D1.1.1.2.2.1.2.2.2.1 D1.1.1.2.1.2.2.2.2.1 D1.1.1.2.2.1.2.2.2.2.2.1 z a b c hz).mono ?_⟩
    rintro rv h2 ⟨rfl, e2⟩
    rw [if_neg ok] at e2
    subst e2
    exact ⟨rfl, IV.rq S1 zx sa C1 D1 V (by rw [mkx_c X k1]; exact U) Kp.rf⟩

theorem st_order {g : gx} {Z : Nat} {h : hp} {X : Nat} (I : IV g Z h X) (a b c d e f : Int32) : Call g 200 0 0 m_X8_order [.ref X, .int a, .int b, .int c, .int d, .int e, .int f] h (StQ g Z X m_X9_order [.int a, .int b, .int c, .int d, .int e, .int f]) := by
  obtain ⟨S, zx, sa, v, L, ls, la, n, t, mv, C, D, V, U⟩ := I
  refine (c_X8_order g 198 C.1 V a b c d e f).mono ?_
  rintro rv h1 ⟨rfl, k1, H1⟩
  by_cases ok : okOrder (vn v 0) (vn v 1) (vn v 6) a b c d e f
  · rw [if_pos ok] at H1
    obtain ⟨S1, C1, D1⟩ := IV.cw S zx C D k1 H1
    refine ⟨_, rfl, D1.1.1.1.1, (c_X9_order g 198 D1.1.1.1 D1.1.1.2.1.1 D1.1.1.2.2.1.1 D1.1.1.2.1.2.1 D1.1.1.2.2.1.2.1 D1.1.1.2.1.2.2.2.2.2.1 D1.1.1.2.2.1.2.2.2.2.2.2 a b c d e f).mono ?_⟩
    rintro rv h2 ⟨rfl, e2⟩
    rw [if_pos ok] at e2
    subst e2
    have kc : Chg (fun q => X + 48 ≤ q ∧ q ≤ X + 48 + 50) h1 (orderM h1 (X + 48) (vn v 6) a b c d e f) := by
      unfold orderM
      refine Chg.tr ?_ (Chg.sI ⟨by omega, by omega⟩)
      refine Chg.tr ?_ (Chg.sI ⟨by omega, by omega⟩)
      refine Chg.tr ?_ (Chg.sI ⟨by omega, by omega⟩)
      refine Chg.tr ?_ (Chg.sI ⟨by omega, by omega⟩)
      refine Chg.tr ?_ (Chg.sI ⟨by omega, by omega⟩)
      refine Chg.tr ?_ (Chg.sI ⟨by omega, by omega⟩)
      refine Chg.tr ?_ (Chg.sI ⟨by omega, by omega⟩)
      exact Chg.rf
    refine ⟨rfl, IV.rt S1 zx sa C1 D1 (V.of (V.1.1.add6 ok.1 ⟨ok.2.1, ok.2.2.1, ok.2.2.2.1, ok.2.2.2.2.1, ok.2.2.2.2.2.1.2, ok.2.2.2.2.2.2.2, ok.2.2.2.2.2.1.1⟩) rfl rfl (fun r => by rw [vc_vadd, if_neg (by omega)])) (by rw [mkx_c X k1]; exact U) kc (D1.1.add6 a b c d e f ok.1) (fun j hj => ?_) (fun b hb j => ?_)⟩
    · unfold orderM
      rw [hI_setI, if_neg (by omega), hI_setI, if_neg (by omega), hI_setI, if_neg (by omega), hI_setI, if_neg (by omega), hI_setI, if_neg (by omega), hI_setI, if_neg (by omega), hI_setI, if_neg (by omega)]
    · unfold orderM
      rw [hI_setI, if_neg (by omega), hI_setI, if_neg (by omega), hI_setI, if_neg (by omega), hI_setI, if_neg (by omega), hI_setI, if_neg (by omega), hI_setI, if_neg (by omega), hI_setI, if_neg (by omega)]
  · rw [if_neg ok] at H1
    obtain ⟨S1, C1, D1⟩ := IV.cw S zx C D k1 H1
    refine ⟨_, rfl, D1.1.1.1.1, (c_X9_order g 198 D1.1.1.1 D1.1.1.2.1.1 D1.1.1.2.2.1.1 D1.1.1.2.1.2.1 D1.1.1.2.2.1.2.1 D1.1.1.2.1.2.2.2.2.2.1 D1.1.1.2.2.1.2.2.2.2.2.2 a b c d e f).mono ?_⟩
    rintro rv h2 ⟨rfl, e2⟩
    rw [if_neg ok] at e2
    subst e2
    exact ⟨rfl, IV.rq S1 zx sa C1 D1 V (by rw [mkx_c X k1]; exact U) Kp.rf⟩

theorem st_rules {g : gx} {Z : Nat} {h : hp} {X : Nat} (I : IV g Z h X) (a b : Int32) : Call g 200 0 0 m_X8_rules [.ref X, .int a, .int b] h (StQ g Z X m_X9_rules [.int a, .int b]) := by
  obtain ⟨S, zx, sa, v, L, ls, la, n, t, mv, C, D, V, U⟩ := I
  refine (c_X8_rules g 198 C.1 V a b).mono ?_
  rintro rv h1 ⟨rfl, k1, H1⟩
  by_cases ok : okRules (vn v 0) L a b
  · rw [if_pos ok] at H1
    obtain ⟨S1, C1, D1⟩ := IV.cw S zx C D k1 H1
    refine ⟨_, rfl, D1.1.1.1.1, (c_X9_rules g 198 D1.1.1.1 D1.1.1.2.1.1 D1.1.1.2.2.1.1 D1.1.2.2.1 V.1.2.1 a b).mono ?_⟩
    rintro rv h2 ⟨rfl, e2⟩
    rw [if_pos ok] at e2
    subst e2
    have kc : Chg (fun q => X + 48 ≤ q ∧ q ≤ X + 48 + 50) h1 (rulesM h1 (X + 48) a b) := by
      unfold rulesM
      refine Chg.tr ?_ (Chg.sI ⟨by omega, by omega⟩)
      exact Chg.rf
    refine ⟨rfl, IV.rt S1 zx sa C1 D1 (V.of (V.1.1.rul (m1R ok.2.1 ok.2.2)) rfl rfl (fun r => by rw [vc_vset, if_neg (by omega)])) (by rw [mkx_c X k1]; exact U) kc (D1.1.rul a b) (fun j hj => ?_) (fun b hb j => ?_)⟩
    · unfold rulesM
      rw [hI_setI, if_neg (by omega)]
    · unfold rulesM
      rw [hI_setI, if_neg (by omega)]
  · rw [if_neg ok] at H1
    obtain ⟨S1, C1, D1⟩ := IV.cw S zx C D k1 H1
    refine ⟨_, rfl, D1.1.1.1.1, (c_X9_rules g 198 D1.1.1.1 D1.1.1.2.1.1 D1.1.1.2.2.1.1 D1.1.2.2.1 V.1.2.1 a b).mono ?_⟩
    rintro rv h2 ⟨rfl, e2⟩
    rw [if_neg ok] at e2
    subst e2
    exact ⟨rfl, IV.rq S1 zx sa C1 D1 V (by rw [mkx_c X k1]; exact U) Kp.rf⟩

theorem st_sight {g : gx} {Z : Nat} {h : hp} {X : Nat} (I : IV g Z h X) (a : Int32) : Call g 200 0 0 m_X8_sight [.ref X, .int a] h (StQ g Z X m_X9_sight [.int a]) := by
  obtain ⟨S, zx, sa, v, L, ls, la, n, t, mv, C, D, V, U⟩ := I
  refine (c_X8_sight g 198 C.1 V a).mono ?_
  rintro rv h1 ⟨rfl, k1, H1⟩
  by_cases ok : okSight a
  · rw [if_pos ok] at H1
    obtain ⟨S1, C1, D1⟩ := IV.cw S zx C D k1 H1
    refine ⟨_, rfl, D1.1.1.1.1, (c_X9_sight g 198 D1.1.1.1 a).mono ?_⟩
    rintro rv h2 ⟨rfl, e2⟩
    rw [if_pos ok] at e2
    subst e2
    have e7 := D1.1.1.2.1.2.2.2.2.2.2
    have kc : Chg (fun q => X + 48 ≤ q ∧ q ≤ X + 48 + 50) h1 (sightM h1 (X + 48) a) := by
      unfold sightM
      refine Chg.tr ?_ (Chg.sI ⟨by omega, by omega⟩)
      exact Chg.rf
    refine ⟨by rw [e7], IV.rt S1 zx sa C1 D1 (V.of (V.1.1.sig ok) rfl rfl (fun _ => rfl)) (by rw [mkx_c X k1]; exact U) kc (D1.1.sig a) (fun j hj => ?_) (fun b hb j => ?_)⟩
    · unfold sightM
      rw [hI_setI, if_neg (by omega)]
    · unfold sightM
      rw [hI_setI, if_neg (by omega)]
  · rw [if_neg ok] at H1
    obtain ⟨S1, C1, D1⟩ := IV.cw S zx C D k1 H1
    refine ⟨_, rfl, D1.1.1.1.1, (c_X9_sight g 198 D1.1.1.1 a).mono ?_⟩
    rintro rv h2 ⟨rfl, e2⟩
    rw [if_neg ok] at e2
    subst e2
    exact ⟨by rw [if_neg ok, if_neg ok], IV.rq S1 zx sa C1 D1 V (by rw [mkx_c X k1]; exact U) Kp.rf⟩

theorem st_falls {g : gx} {Z : Nat} {h : hp} {X : Nat} (I : IV g Z h X) (a b : Int32) : Call g 200 0 0 m_X8_falls [.ref X, .int a, .int b] h (StQ g Z X m_X9_falls [.int a, .int b]) := by
  obtain ⟨S, zx, sa, v, L, ls, la, n, t, mv, C, D, V, U⟩ := I
  refine (c_X8_falls g 198 C.1 V a b).mono ?_
  rintro rv h1 ⟨rfl, k1, H1⟩
  by_cases ok : (inR (vn v 1) a ∧ inR 2880 b ∧ vc v 1 a.toNatClampNeg 5 = -1)
  · rw [if_pos ok] at H1
    obtain ⟨S1, C1, D1⟩ := IV.cw S zx C D k1 H1
    have key : okFalls h1 (X + 48) (vn v 1) a b ↔ (inR (vn v 1) a ∧ inR 2880 b ∧ vc v 1 a.toNatClampNeg 5 = -1) := by
      refine and_congr_right (fun q => and_congr_right (fun _ => ?_))
      have e5 := D1.1.1.2.2.2.2.1 a.toNatClampNeg (by obtain ⟨k, k1, rfl, k3⟩ := inR_of q; rw [nI_tn k3]; exact k1) 5 (by omega)
      rw [show hI h1 (X + 48 + 13) a.toNatClampNeg = vc v 1 a.toNatClampNeg 5 from e5]
    refine ⟨_, rfl, D1.1.1.1.1, (c_X9_falls g 198 D1.1.1.1 D1.1.1.2.1.2.1 D1.1.1.2.2.1.2.1 a b).mono ?_⟩
    rintro rv h2 ⟨rfl, e2⟩
    rw [if_pos (key.mpr ok)] at e2
    subst e2
    have kc : Chg (fun q => X + 48 ≤ q ∧ q ≤ X + 48 + 50) h1 (fallsM h1 (X + 48) a b) := by
      unfold fallsM
      refine Chg.tr ?_ (Chg.sI ⟨by omega, by omega⟩)
      exact Chg.rf
    refine ⟨by rw [if_pos ok, if_pos (key.mpr ok)], IV.rt S1 zx sa C1 D1 (V.of (V.1.1.fal ok.2.1) rfl rfl (fun r => by rw [vc_vset, if_neg (by omega)])) (by rw [mkx_c X k1]; exact U) kc (D1.1.fal a b) (fun j hj => ?_) (fun b hb j => ?_)⟩
    · unfold fallsM
      rw [hI_setI, if_neg (by omega)]
    · unfold fallsM
      rw [hI_setI, if_neg (by omega)]
  · rw [if_neg ok] at H1
    obtain ⟨S1, C1, D1⟩ := IV.cw S zx C D k1 H1
    have key : okFalls h1 (X + 48) (vn v 1) a b ↔ (inR (vn v 1) a ∧ inR 2880 b ∧ vc v 1 a.toNatClampNeg 5 = -1) := by
      refine and_congr_right (fun q => and_congr_right (fun _ => ?_))
      have e5 := D1.1.1.2.2.2.2.1 a.toNatClampNeg (by obtain ⟨k, k1, rfl, k3⟩ := inR_of q; rw [nI_tn k3]; exact k1) 5 (by omega)
      rw [show hI h1 (X + 48 + 13) a.toNatClampNeg = vc v 1 a.toNatClampNeg 5 from e5]
    refine ⟨_, rfl, D1.1.1.1.1, (c_X9_falls g 198 D1.1.1.1 D1.1.1.2.1.2.1 D1.1.1.2.2.1.2.1 a b).mono ?_⟩
    rintro rv h2 ⟨rfl, e2⟩
    rw [if_neg (fun z => ok (key.mp z))] at e2
    subst e2
    exact ⟨by rw [if_neg ok, if_neg (fun z => ok (key.mp z))], IV.rq S1 zx sa C1 D1 V (by rw [mkx_c X k1]; exact U) Kp.rf⟩

theorem st_feed {g : gx} {Z : Nat} {h : hp} {X : Nat} (I : IV g Z h X) (a b c d e : Int32) : Call g 200 0 0 m_X8_feed [.ref X, .int a, .int b, .int c, .int d, .int e] h (StQ g Z X m_X9_feed [.int a, .int b, .int c, .int d, .int e]) := by
  obtain ⟨S, zx, sa, v, L, ls, la, n, t, mv, C, D, V, U⟩ := I
  refine (c_X8_feed g 199 C.1.1 C.2.1 a b c d e).mono ?_
  rintro rv h1 ⟨rfl, k1, T1⟩
  obtain ⟨S1, C1, D1⟩ := IV.c S zx C D k1.1 (fun q e => by rcases e with e | e <;> omega) (C.1.kepx k1) T1
  refine ⟨_, rfl, D1.1.1.1.1, (c_X9_feed g 199 D1.1.1.1 D1.2.1 a b c d e).mono ?_⟩
  rintro rv h2 ⟨rfl, k2, T2⟩
  have H2 : MI h2 (X + 48) v L ls := D1.1.cg3 (D1.1.1.1.kept k2.1) (fun j hj => k2.2 j (by omega)) (fun b hb j => by rw [(k2.1.2.2.2.2 b (fun e => by rcases e with e | e <;> omega)).1])
  exact ⟨rfl, IV.r S1 zx sa C1 V (by rw [mkx_c X k1.1]; exact U) k2.1 (fun q e => by rcases e with e | e <;> omega) (D1.cg3 H2 T2 (k2.2 55 (by omega)) (fun b hb j => by rw [(k2.1.2.2.2.2 b (fun e => by rcases e with e | e <;> omega)).1]))⟩
theorem TpM.end {h : hp} {M n : Nat} {t : Nat → Nat} {x : Int32} (H : TpM h M n t) (ok : okEnd n x) : TpM (endM h M x) M x.toNatClampNeg t := by
  obtain ⟨k, rfl, k2, k3⟩ := i_nat (x := x) (by rw [i_le, i_0]; exact ok.1)
  have h2 := H.2.1
  have o2 := ok.2
  rw [k3] at o2
  rw [nI_tn k2]
  unfold endM
  refine ⟨by rw [hI_setI, if_pos ⟨rfl, rfl⟩], by omega, fun j hj => ⟨(H.2.2 j (by omega)).1, ?_⟩⟩
  rw [hI_setI, if_neg (by omega)]
  exact (H.2.2 j (by omega)).2
theorem st_end {g : gx} {Z : Nat} {h : hp} {X : Nat} (I : IV g Z h X) (a : Int32) : Call g 200 0 0 m_X8_end [.ref X, .int a] h (StQ g Z X m_X9_end [.int a]) := by
  obtain ⟨S, zx, sa, v, L, ls, la, n, t, mv, C, D, V, U⟩ := I
  refine (c_X8_end g 200 C.1.1 C.2.1 a).mono ?_
  rintro rv h1 ⟨rfl, k1, T1⟩
  obtain ⟨S1, C1, D1⟩ := IV.c S zx C D k1.1 (fun q e => by rcases e with e | e <;> omega) (C.1.kepx k1) T1
  refine ⟨_, rfl, D1.1.1.1.1, (c_X9_end g 200 D1.1.1.1 D1.2.1.1 D1.2.1.2.1 a).mono ?_⟩
  rintro rv h2 ⟨rfl, e2⟩
  refine ⟨rfl, ?_⟩
  by_cases ok : okEnd n a
  · rw [if_pos ok] at e2
    rw [if_pos ok] at C1
    subst e2
    have T2 := D1.2.1.end ok
    have k2 : Chg (fun q => q = X + 48) h1 (endM h1 (X + 48) a) := by
      unfold endM
      exact Chg.sI rfl
    have f2 : ∀ j, ¬ j = 29 → hI (endM h1 (X + 48) a) (X + 48) j = hI h1 (X + 48) j := fun j hj => by
      unfold endM
      rw [hI_setI, if_neg (by omega)]
    have H2 : MI (endM h1 (X + 48) a) (X + 48) v L ls := D1.1.cg3 (D1.1.1.1.kept k2) (fun j hj => f2 j (by omega)) (fun b hb j => by rw [(k2.2.2.2.2 b (fun (e : b = X + 48) => by omega)).1])
    exact IV.r S1 zx sa C1 V (by rw [mkx_c X k1.1]; exact U) k2 (fun q (e : q = X + 48) => by omega) (D1.cg3 H2 T2 (f2 55 (by omega)) (fun b hb j => by rw [(k2.2.2.2.2 b (fun (e : b = X + 48) => by omega)).1]))
  · rw [if_neg ok] at e2
    rw [if_neg ok] at C1
    subst e2
    exact IV.rq S1 zx sa C1 D1 V (by rw [mkx_c X k1.1]; exact U) Kp.rf

