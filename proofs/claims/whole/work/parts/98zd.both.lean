/-! 98zd: both sides together: what holds between two calls of the law -/
theorem MI.cg3 {h h' : hp} {M L : Nat} {v : vw} {ls : lws} (H : MI h M v L ls) (lay : MLay h' M) (f : ∀ j, (1 ≤ j ∧ j ≤ 7) ∨ j = 32 → hI h' M j = hI h M j) (i : ∀ b, (M + 1 ≤ b ∧ b ≤ M + 21) ∨ (M + 23 ≤ b ∧ b ≤ M + 29) ∨ (M + 36 ≤ b ∧ b ≤ M + 39) ∨ (M + 41 ≤ b ∧ b ≤ M + 46) → ∀ j, hI h' b j = hI h b j) : MI h' M v L ls := by
  obtain ⟨⟨g0, ⟨g1, g2, g3, g4, g5, g6, g7⟩, gb, t0, t1, t2, t3, t5, t6⟩, HL, hL, hW⟩ := H
  refine ⟨⟨lay, ⟨(f 1 (by omega)).trans g1, (f 2 (by omega)).trans g2, (f 3 (by omega)).trans g3, (f 4 (by omega)).trans g4, (f 5 (by omega)).trans g5, (f 6 (by omega)).trans g6, (f 7 (by omega)).trans g7⟩, gb, fun r hr c hc => (i _ (by omega) _).trans (t0 r hr c hc), fun r hr c hc => (i _ (by omega) _).trans (t1 r hr c hc), fun r hr c hc => (i _ (by omega) _).trans (t2 r hr c hc), fun r hr c hc => (i _ (by omega) _).trans (t3 r hr c hc), fun r hr c hc => (i _ (by omega) _).trans (t5 r hr c hc), fun r hr c hc => (i _ (by omega) _).trans (t6 r hr c hc)⟩, fun b hb => ?_, (f 32 (by omega)).trans hL, fun r hr => ?_⟩
  · obtain ⟨a1, a2, a3⟩ := HL b hb
    exact ⟨(i _ (by omega) _).trans a1, a2, fun r hr e => (i _ (by omega) _).trans (a3 r hr e)⟩
  · obtain ⟨a1, a2⟩ := hW r hr
    refine ⟨(i _ (by omega) _).trans a1, fun c hc => ?_⟩
    obtain ⟨b1, b2, b3, b4, b5⟩ := a2 c hc
    exact ⟨(i _ (by omega) _).trans b1, (i _ (by omega) _).trans b2, (i _ (by omega) _).trans b3, (i _ (by omega) _).trans b4, fun e e1 e2 => ⟨(i _ (by omega) _).trans (b5 e e1 e2).1, (i _ (by omega) _).trans (b5 e e1 e2).2⟩⟩
theorem MLay.cg2 {h h' : hp} {M : Nat} (H : MLay h M) (e : ∀ b, M ≤ b → b ≤ M + 50 → hp_eq h h' b) : MLay h' M := by
  refine ⟨(e M (by omega) (by omega)).1.trans H.1, fun k hk => ?_⟩
  obtain ⟨a1, a2, a3⟩ := H.2 k hk
  have := mo_le k
  exact ⟨((e M (by omega) (by omega)).2.2.2.2 k).trans a1, (e _ (by omega) (by omega)).1.trans a2, (e _ (by omega) (by omega)).2.1.trans a3⟩
/-- the MARKS of the class -/
def MKx (h : hp) (X L : Nat) (la : Nat → Nat) (mv : Nat → vw) : Prop := ∀ k, k < 4 → ∀ w, hR h (X + 16) k = some w → WRep h w (mv k) ∧ X + 98 < w ∧ w + 14 < hZ h ∧ (∀ r, r < L → la r + 5 < w ∨ w + 14 < la r) ∧ ∀ j, j < 4 → ¬ j = k → ∀ u, hR h (X + 16) j = some u → u + 14 < w ∨ w + 14 < u
/-- the class's side -/
def IVc (h : hp) (X : Nat) (v : vw) (L : Nat) (ls : lws) (la : Nat → Nat) (n : Nat) (t : Nat → Nat) (mv : Nat → vw) : Prop := XI h X v L ls la ∧ TpX h X n t ∧ X + 98 < hZ h ∧ (∀ r, r < L → X + 98 < la r ∧ la r + 5 < hZ h) ∧ MKx h X L la mv
/-- the reference's side -/
def IVm (h : hp) (M : Nat) (v : vw) (L : Nat) (ls : lws) (n : Nat) (t : Nat → Nat) (mk : Nat → Bool) (mv : Nat → vw) : Prop := MI h M v L ls ∧ TpM h M n t ∧ hI h M 55 = -1 ∧ (∀ k, k < 4 → hI h (M + 50) k = bi (mk k)) ∧ ∀ k, k < 4 → mk k = true → MKr h M k (mv k)
def mkx (h : hp) (X : Nat) : Nat → Bool := fun k => (hR h (X + 16) k).isSome
def IV (g : gx) (Z : Nat) (h : hp) (X : Nat) : Prop := SHp g h Z ∧ Z ≤ X ∧ (∀ k, k < 22 → g.2.2 k < Z) ∧ ∃ (v : vw) (L : Nat) (ls : lws) (la : Nat → Nat) (n : Nat) (t : Nat → Nat) (mv : Nat → vw), IVc h X v L ls la n t mv ∧ IVm h (X + 48) v L ls n t (mkx h X) mv ∧ XV v L ls ∧ ∀ k, k < 4 → mkx h X k = true → XV (mv k) L ls
theorem XI.out {h h' : hp} {P : Nat → Prop} {X : Nat} {v : vw} {L : Nat} {ls : lws} {la : Nat → Nat} (H : XI h X v L ls la) (k : Chg P h h') (hP : ∀ q, P q → X + 48 ≤ q ∧ q ≤ X + 98) (hl : ∀ r, r < L → X + 98 < la r) : XI h' X v L ls la := by
  refine ⟨H.1.kept k, H.2.1.kept k (fun q hq e => by have := hP q e; have := hq.2; omega), by rw [(k.2.2.2.2 X (fun e => by have := hP X e; omega)).1]; exact H.2.2.1, fun r hr => ?_⟩
  obtain ⟨a1, a2, a3⟩ := H.2.2.2 r hr
  exact ⟨by rw [k.2.2.2.1]; exact a1, a2.kept k (fun q h1 h2 e => by have := hP q e; have := hl r hr; omega), a3⟩
theorem TpX.cg2 {h h' : hp} {X n : Nat} {t : Nat → Nat} (H : TpX h X n t) (e1 : hI h' X 5 = hI h X 5) (e2 : ∀ j, hI h' (X + 18) j = hI h (X + 18) j) : TpX h' X n t := ⟨e1.trans H.1, H.2.1, fun j hj => ⟨(H.2.2 j hj).1, (e2 j).trans (H.2.2 j hj).2⟩⟩
theorem TpM.cg2 {h h' : hp} {M n : Nat} {t : Nat → Nat} (H : TpM h M n t) (e1 : hI h' M 29 = hI h M 29) (e2 : ∀ j, hI h' (M + 22) j = hI h (M + 22) j) : TpM h' M n t := ⟨e1.trans H.1, H.2.1, fun j hj => ⟨(H.2.2 j hj).1, (e2 j).trans (H.2.2 j hj).2⟩⟩
theorem MKx.kept {h h' : hp} {P : Nat → Prop} {X L : Nat} {la : Nat → Nat} {mv : Nat → vw} (H : MKx h X L la mv) (k : Chg P h h') (hP : ∀ q, P q → q ≤ X + 98) : MKx h' X L la mv := by
  intro j hj w hw
  rw [k.2.2.2.1] at hw
  obtain ⟨a1, a2, a3, a4, a5⟩ := H j hj w hw
  refine ⟨a1.kept k (fun q hq e => by have := hP q e; have := hq.1; omega), a2, by rw [k.1]; exact a3, a4, fun i hi e u hu => a5 i hi e u (by rw [k.2.2.2.1] at hu; exact hu)⟩
theorem IVc.out {h h' : hp} {P : Nat → Prop} {X : Nat} {v : vw} {L : Nat} {ls : lws} {la : Nat → Nat} {n : Nat} {t : Nat → Nat} {mv : Nat → vw} (H : IVc h X v L ls la n t mv) (k : Chg P h h') (hP : ∀ q, P q → X + 48 ≤ q ∧ q ≤ X + 98) : IVc h' X v L ls la n t mv := by
  obtain ⟨h1, h2, h3, h4, h5⟩ := H
  exact ⟨h1.out k hP (fun r hr => (h4 r hr).1), h2.cg2 (by rw [(k.2.2.2.2 X (fun e => by have := hP X e; omega)).1]) (fun j => by rw [(k.2.2.2.2 (X + 18) (fun e => by have := hP _ e; omega)).1]), by rw [k.1]; exact h3, fun r hr => by rw [k.1]; exact h4 r hr, h5.kept k (fun q e => (hP q e).2)⟩
theorem IVc.inn {h h' : hp} {P : Nat → Prop} {X : Nat} {v v' : vw} {L : Nat} {ls : lws} {la : Nat → Nat} {n n' : Nat} {t t' : Nat → Nat} {mv : Nat → vw} (H : IVc h X v L ls la n t mv) (k : Chg P h h') (hP : ∀ q, P q → q ≤ X + 47) (H1 : XI h' X v' L ls la) (H2 : TpX h' X n' t') : IVc h' X v' L ls la n' t' mv := by
  obtain ⟨h1, h2, h3, h4, h5⟩ := H
  exact ⟨H1, H2, by rw [k.1]; exact h3, fun r hr => by rw [k.1]; exact h4 r hr, h5.kept k (fun q e => by have := hP q e; omega)⟩
theorem IVm.cg3 {h h' : hp} {M : Nat} {v v' : vw} {L L' : Nat} {ls ls' : lws} {n n' : Nat} {t t' : Nat → Nat} {mk : Nat → Bool} {mv : Nat → vw} (H : IVm h M v L ls n t mk mv) (H1 : MI h' M v' L' ls') (H2 : TpM h' M n' t') (f : hI h' M 55 = hI h M 55) (i : ∀ b, b = M + 47 ∨ b = M + 50 → ∀ j, hI h' b j = hI h b j) : IVm h' M v' L' ls' n' t' mk mv := by
  obtain ⟨h1, h2, h3, h4, h5⟩ := H
  exact ⟨H1, H2, f.trans h3, fun k hk => (i _ (by omega) _).trans (h4 k hk), fun k hk e => (h5 k hk e).kept (fun j _ _ => i _ (by omega) _)⟩
theorem IVm.cg2 {h h' : hp} {M : Nat} {v : vw} {L : Nat} {ls : lws} {n : Nat} {t : Nat → Nat} {mk : Nat → Bool} {mv : Nat → vw} (H : IVm h M v L ls n t mk mv) (e : ∀ b, M ≤ b → b ≤ M + 50 → hp_eq h h' b) : IVm h' M v L ls n t mk mv := by
  have i : ∀ b, M ≤ b → b ≤ M + 50 → ∀ j, hI h' b j = hI h b j := fun b h1 h2 => (e b h1 h2).2.2.1
  exact H.cg3 (H.1.cg3 (H.1.1.1.cg2 e) (fun j _ => i M (by omega) (by omega) j) (fun b hb j => i b (by omega) (by omega) j)) (H.2.1.cg2 (i _ (by omega) (by omega) _) (fun j => i _ (by omega) (by omega) _)) (i _ (by omega) (by omega) _) (fun b hb j => i b (by omega) (by omega) j)
theorem Chg.eq {P : Nat → Prop} {h h' : hp} {b : Nat} (k : Chg P h h') (n : ¬ P b) : hp_eq h h' b := ⟨by rw [k.2.1], by rw [k.2.2.1], fun j => by rw [(k.2.2.2.2 b n).1], fun j => by rw [(k.2.2.2.2 b n).2], fun j => by rw [k.2.2.2.1]⟩
theorem IVm.cls {h h' : hp} {P : Nat → Prop} {X : Nat} {v : vw} {L : Nat} {ls : lws} {n : Nat} {t : Nat → Nat} {mk : Nat → Bool} {mv : Nat → vw} (H : IVm h (X + 48) v L ls n t mk mv) (k : Chg P h h') (hP : ∀ q, P q → ¬ (X + 48 ≤ q ∧ q ≤ X + 98)) : IVm h' (X + 48) v L ls n t mk mv :=
  H.cg2 (fun b h1 h2 => k.eq (fun e => hP b e ⟨by omega, by omega⟩))
theorem IVm.kp {h h' : hp} {M : Nat} {v : vw} {L : Nat} {ls : lws} {n : Nat} {t : Nat → Nat} {mk : Nat → Bool} {mv : Nat → vw} (H : IVm h M v L ls n t mk mv) (k : Kp M h h') : IVm h' M v L ls n t mk mv :=
  H.cg3 (k.mi H.1) (H.2.1.cg2 (k.2.1 29 (by omega)) (fun j => by rw [(k.1.2.2.2.2 (M + 22) (by unfold scr; omega)).1])) (k.2.1 55 (by omega)) (fun b hb j => by rw [(k.1.2.2.2.2 b (by unfold scr; omega)).1])
theorem mkx_c {P : Nat → Prop} {h h' : hp} (X : Nat) (k : Chg P h h') : mkx h' X = mkx h X := by unfold mkx; rw [k.2.2.2.1]
/-- the class has been asked, or told, within X .. X + 47 -/
theorem IV.c {g : gx} {Z : Nat} {h h' : hp} {P : Nat → Prop} {X : Nat} {v v' : vw} {L : Nat} {ls : lws} {la : Nat → Nat} {n n' : Nat} {t t' : Nat → Nat} {mv : Nat → vw} (S : SHp g h Z) (zx : Z ≤ X) (C : IVc h X v L ls la n t mv) (D : IVm h (X + 48) v L ls n t (mkx h X) mv) (k : Chg P h h') (hP : ∀ q, P q → X ≤ q ∧ q ≤ X + 47) (H1 : XI h' X v' L ls la) (H2 : TpX h' X n' t') : SHp g h' Z ∧ IVc h' X v' L ls la n' t' mv ∧ IVm h' (X + 48) v L ls n t (mkx h' X) mv := by
  refine ⟨S.kept k (fun b e => by have := hP b e; omega), C.inn k (fun q e => (hP q e).2) H1 H2, ?_⟩
  rw [mkx_c X k]
  exact D.cls k (fun q e z => by have := hP q e; omega)
theorem IV.cq {g : gx} {Z : Nat} {h h' : hp} {X : Nat} {v : vw} {L : Nat} {ls : lws} {la : Nat → Nat} {n : Nat} {t : Nat → Nat} {mv : Nat → vw} (S : SHp g h Z) (zx : Z ≤ X) (C : IVc h X v L ls la n t mv) (D : IVm h (X + 48) v L ls n t (mkx h X) mv) (k : Chg (xse X) h h') : SHp g h' Z ∧ IVc h' X v L ls la n t mv ∧ IVm h' (X + 48) v L ls n t (mkx h' X) mv :=
  IV.c S zx C D k (fun q e => by unfold xse at e; omega) (C.1.kepe k) (C.2.1.cg2 (by rw [(k.2.2.2.2 X (by unfold xse; omega)).1]) (fun j => by rw [(k.2.2.2.2 (X + 18) (by unfold xse; omega)).1]))
theorem IV.cw {g : gx} {Z : Nat} {h h' : hp} {X : Nat} {v v' : vw} {L : Nat} {ls : lws} {la : Nat → Nat} {n : Nat} {t : Nat → Nat} {mv : Nat → vw} (S : SHp g h Z) (zx : Z ≤ X) (C : IVc h X v L ls la n t mv) (D : IVm h (X + 48) v L ls n t (mkx h X) mv) (k : Chg (xwd X) h h') (H1 : XI h' X v' L ls la) : SHp g h' Z ∧ IVc h' X v' L ls la n t mv ∧ IVm h' (X + 48) v L ls n t (mkx h' X) mv :=
  IV.c S zx C D k (fun q e => by unfold xwd at e; omega) H1 (C.2.1.cg2 (by rw [(k.2.2.2.2 X (by unfold xwd; omega)).1]) (fun j => by rw [(k.2.2.2.2 (X + 18) (by unfold xwd; omega)).1]))
/-- then the reference -/
theorem IV.r {g : gx} {Z : Nat} {h h' : hp} {P : Nat → Prop} {X : Nat} {v : vw} {L : Nat} {ls : lws} {la : Nat → Nat} {n : Nat} {t : Nat → Nat} {mv : Nat → vw} (S : SHp g h Z) (zx : Z ≤ X) (sa : ∀ k, k < 22 → g.2.2 k < Z) (C : IVc h X v L ls la n t mv) (V : XV v L ls) (U : ∀ k, k < 4 → mkx h X k = true → XV (mv k) L ls) (k : Chg P h h') (hP : ∀ q, P q → X + 48 ≤ q ∧ q ≤ X + 98) (D' : IVm h' (X + 48) v L ls n t (mkx h X) mv) : IV g Z h' X := by
  refine ⟨S.kept k (fun b e => by have := hP b e; omega), zx, sa, v, L, ls, la, n, t, mv, C.out k hP, ?_, V, ?_⟩
  · rw [mkx_c X k]; exact D'
  · rw [mkx_c X k]; exact U
theorem IV.rq {g : gx} {Z : Nat} {h h' : hp} {X : Nat} {v : vw} {L : Nat} {ls : lws} {la : Nat → Nat} {n : Nat} {t : Nat → Nat} {mv : Nat → vw} (S : SHp g h Z) (zx : Z ≤ X) (sa : ∀ k, k < 22 → g.2.2 k < Z) (C : IVc h X v L ls la n t mv) (D : IVm h (X + 48) v L ls n t (mkx h X) mv) (V : XV v L ls) (U : ∀ k, k < 4 → mkx h X k = true → XV (mv k) L ls) (k : Kp (X + 48) h h') : IV g Z h' X :=
  IV.r S zx sa C V U k.1 (fun q e => by unfold scr at e; omega) (D.kp k)
/-- the reference has been told -/
theorem IV.rt {g : gx} {Z : Nat} {h h' : hp} {X : Nat} {v v' : vw} {L : Nat} {ls : lws} {la : Nat → Nat} {n : Nat} {t : Nat → Nat} {mv : Nat → vw} (S : SHp g h Z) (zx : Z ≤ X) (sa : ∀ k, k < 22 → g.2.2 k < Z) (C : IVc h X v' L ls la n t mv) (D : IVm h (X + 48) v L ls n t (mkx h X) mv) (V : XV v' L ls) (U : ∀ k, k < 4 → mkx h X k = true → XV (mv k) L ls) (k : Chg (fun q => X + 48 ≤ q ∧ q ≤ X + 48 + 50) h h') (H1 : MI h' (X + 48) v' L ls) (f : ∀ j, j = 29 ∨ j = 55 → hI h' (X + 48) j = hI h (X + 48) j) (i : ∀ b, b = X + 48 + 22 ∨ b = X + 48 + 47 ∨ b = X + 48 + 50 → ∀ j, hI h' b j = hI h b j) : IV g Z h' X :=
  IV.r S zx sa C V U k (fun q e => by omega) (D.cg3 H1 (D.2.1.cg2 (f 29 (by omega)) (fun j => i _ (by omega) j)) (f 55 (by omega)) (fun b hb j => i b (by omega) j))
/-- a call of the law: the class, then the reference: the same answer, and all holds again -/
def StQ (g : gx) (Z X : Nat) (M9 : md_) (As : List Value) : Option Value → hp → Prop := fun rv h1 => ∃ y : Int32, rv = some (.int y) ∧ hK h1 (X + 48) = 10 ∧ Call g 200 0 0 M9 (.ref (X + 48) :: As) h1 (fun rv2 h2 => rv2 = some (.int y) ∧ IV g Z h2 X)
theorem xs_xe {X : Nat} {h h' : hp} (k : Chg (xsc X) h h') : Chg (xse X) h h' := k.wk (fun q e => by unfold xsc at e; unfold xse; omega)

theorem st_near {g : gx} {Z : Nat} {h : hp} {X : Nat} (I : IV g Z h X) (a b c : Int32) : Call g 200 0 0 m_X8_near [.ref X, .int a, .int b, .int c] h (StQ g Z X m_X9_near [.int a, .int b, .int c]) := by
  obtain ⟨S, zx, sa, v, L, ls, la, n, t, mv, C, D, V, U⟩ := I
  refine (c_X8_near g 196 C.1 V a b c).mono ?_
  rintro rv h1 ⟨rfl, k1⟩
  have k1 := xs_xe k1
  obtain ⟨S1, C1, D1⟩ := IV.cq S zx C D k1
  refine ⟨_, rfl, D1.1.1.1.1, (c_X9_near g 197 D1.1.1 V.1.1 a b c).mono ?_⟩
  rintro rv h2 ⟨rfl, rfl⟩
  exact ⟨rfl, IV.rq S1 zx sa C1 D1 V (by rw [mkx_c X k1]; exact U) (Kp.rf)⟩

theorem st_may {g : gx} {Z : Nat} {h : hp} {X : Nat} (I : IV g Z h X) (a b : Int32) : Call g 200 0 0 m_X8_may [.ref X, .int a, .int b] h (StQ g Z X m_X9_may [.int a, .int b]) := by
  obtain ⟨S, zx, sa, v, L, ls, la, n, t, mv, C, D, V, U⟩ := I
  refine (c_X8_may g 195 C.1 V a b).mono ?_
  rintro rv h1 ⟨rfl, k1⟩
  have k1 := xs_xe k1
  obtain ⟨S1, C1, D1⟩ := IV.cq S zx C D k1
  refine ⟨_, rfl, D1.1.1.1.1, (c_X9_may g 194 D1.1 V.1 a b).mono ?_⟩
  rintro rv h2 ⟨rfl, k2⟩
  exact ⟨rfl, IV.rq S1 zx sa C1 D1 V (by rw [mkx_c X k1]; exact U) (Kp.of k2)⟩

theorem st_commands {g : gx} {Z : Nat} {h : hp} {X : Nat} (I : IV g Z h X) (a b : Int32) : Call g 200 0 0 m_X8_commands [.ref X, .int a, .int b] h (StQ g Z X m_X9_commands [.int a, .int b]) := by
  obtain ⟨S, zx, sa, v, L, ls, la, n, t, mv, C, D, V, U⟩ := I
  refine (c_X8_commands g 195 C.1 V a b).mono ?_
  rintro rv h1 ⟨rfl, k1⟩
  have k1 := xs_xe k1
  obtain ⟨S1, C1, D1⟩ := IV.cq S zx C D k1
  refine ⟨_, rfl, D1.1.1.1.1, (c_X9_commands g 192 D1.1 V.1 a b).mono ?_⟩
  rintro rv h2 ⟨rfl, k2⟩
  exact ⟨rfl, IV.rq S1 zx sa C1 D1 V (by rw [mkx_c X k1]; exact U) (Kp.of k2)⟩

theorem st_ahead {g : gx} {Z : Nat} {h : hp} {X : Nat} (I : IV g Z h X) (a b c d e : Int32) : Call g 200 0 0 m_X8_ahead [.ref X, .int a, .int b, .int c, .int d, .int e] h (StQ g Z X m_X9_ahead [.int a, .int b, .int c, .int d, .int e]) := by
  obtain ⟨S, zx, sa, v, L, ls, la, n, t, mv, C, D, V, U⟩ := I
  refine (c_X8_ahead g 196 C.1 V a b c d e).mono ?_
  rintro rv h1 ⟨rfl, k1⟩
  have k1 := xs_xe k1
  obtain ⟨S1, C1, D1⟩ := IV.cq S zx C D k1
  refine ⟨_, rfl, D1.1.1.1.1, (c_X9_ahead g 195 D1.1 V.1 a b c d e).mono ?_⟩
  rintro rv h2 ⟨rfl, k2⟩
  exact ⟨rfl, IV.rq S1 zx sa C1 D1 V (by rw [mkx_c X k1]; exact U) (Kp.of k2)⟩

theorem st_thinks {g : gx} {Z : Nat} {h : hp} {X : Nat} (I : IV g Z h X) (a b c : Int32) : Call g 200 0 0 m_X8_thinks [.ref X, .int a, .int b, .int c] h (StQ g Z X m_X9_thinks [.int a, .int b, .int c]) := by
  obtain ⟨S, zx, sa, v, L, ls, la, n, t, mv, C, D, V, U⟩ := I
  refine (c_X8_thinks g 195 C.1 V a b c).mono ?_
  rintro rv h1 ⟨rfl, k1⟩
  have k1 := xs_xe k1
  obtain ⟨S1, C1, D1⟩ := IV.cq S zx C D k1
  refine ⟨_, rfl, D1.1.1.1.1, (c_X9_thinks g 193 D1.1 V.1 D1.2.2.1 a b c).mono ?_⟩
  rintro rv h2 ⟨rfl, k2⟩
  exact ⟨rfl, IV.rq S1 zx sa C1 D1 V (by rw [mkx_c X k1]; exact U) (Kp.of k2)⟩

theorem st_wrong {g : gx} {Z : Nat} {h : hp} {X : Nat} (I : IV g Z h X) (a b : Int32) : Call g 200 0 0 m_X8_wrong [.ref X, .int a, .int b] h (StQ g Z X m_X9_wrong [.int a, .int b]) := by
  obtain ⟨S, zx, sa, v, L, ls, la, n, t, mv, C, D, V, U⟩ := I
  refine (c_X8_wrong g 195 C.1 V a b).mono ?_
  rintro rv h1 ⟨rfl, k1⟩
  have k1 := xs_xe k1
  obtain ⟨S1, C1, D1⟩ := IV.cq S zx C D k1
  refine ⟨_, rfl, D1.1.1.1.1, (c_X9_wrong g 191 D1.1 V.1 D1.2.2.1 a b).mono ?_⟩
  rintro rv h2 ⟨rfl, k2⟩
  exact ⟨rfl, IV.rq S1 zx sa C1 D1 V (by rw [mkx_c X k1]; exact U) (Kp.of k2)⟩

theorem st_seat {g : gx} {Z : Nat} {h : hp} {X : Nat} (I : IV g Z h X) (a : Int32) : Call g 200 0 0 m_X8_seat [.ref X, .int a] h (StQ g Z X m_X9_seat [.int a]) := by
  obtain ⟨S, zx, sa, v, L, ls, la, n, t, mv, C, D, V, U⟩ := I
  refine (c_X8_seat g 194 C.1 V a).mono ?_
  rintro rv h1 ⟨rfl, k1⟩
  have k1 := xs_xe k1
  obtain ⟨S1, C1, D1⟩ := IV.cq S zx C D k1
  refine ⟨_, rfl, D1.1.1.1.1, (c_X9_seat g 191 D1.1 V.1 a).mono ?_⟩
  rintro rv h2 ⟨rfl, k2⟩
  exact ⟨rfl, IV.rq S1 zx sa C1 D1 V (by rw [mkx_c X k1]; exact U) (Kp.of k2)⟩

theorem st_force {g : gx} {Z : Nat} {h : hp} {X : Nat} (I : IV g Z h X) (a b : Int32) : Call g 200 0 0 m_X8_force [.ref X, .int a, .int b] h (StQ g Z X m_X9_force [.int a, .int b]) := by
  obtain ⟨S, zx, sa, v, L, ls, la, n, t, mv, C, D, V, U⟩ := I
  refine (c_X8_force g 194 C.1 V a b).mono ?_
  rintro rv h1 ⟨rfl, k1⟩
  have k1 := xs_xe k1
  obtain ⟨S1, C1, D1⟩ := IV.cq S zx C D k1
  refine ⟨_, rfl, D1.1.1.1.1, (c_X9_force g 190 D1.1 V.1 a b).mono ?_⟩
  rintro rv h2 ⟨rfl, k2⟩
  exact ⟨rfl, IV.rq S1 zx sa C1 D1 V (by rw [mkx_c X k1]; exact U) (Kp.of k2)⟩

theorem st_bound {g : gx} {Z : Nat} {h : hp} {X : Nat} (I : IV g Z h X) (a b : Int32) : Call g 200 0 0 m_X8_bound [.ref X, .int a, .int b] h (StQ g Z X m_X9_bound [.int a, .int b]) := by
  obtain ⟨S, zx, sa, v, L, ls, la, n, t, mv, C, D, V, U⟩ := I
  refine (c_X8_bound g 193 C.1 V a b).mono ?_
  rintro rv h1 ⟨rfl, k1⟩
  have k1 := xs_xe k1
  obtain ⟨S1, C1, D1⟩ := IV.cq S zx C D k1
  refine ⟨_, rfl, D1.1.1.1.1, (c_X9_bound g 189 D1.1 V.1 a b).mono ?_⟩
  rintro rv h2 ⟨rfl, k2⟩
  exact ⟨rfl, IV.rq S1 zx sa C1 D1 V (by rw [mkx_c X k1]; exact U) (Kp.of k2)⟩

theorem st_cross {g : gx} {Z : Nat} {h : hp} {X : Nat} (I : IV g Z h X) (a b : Int32) : Call g 200 0 0 m_X8_cross [.ref X, .int a, .int b] h (StQ g Z X m_X9_cross [.int a, .int b]) := by
  obtain ⟨S, zx, sa, v, L, ls, la, n, t, mv, C, D, V, U⟩ := I
  refine (c_X8_cross g 194 C.1 V a b).mono ?_
  rintro rv h1 ⟨rfl, k1⟩
  skip
  obtain ⟨S1, C1, D1⟩ := IV.cq S zx C D k1
  refine ⟨_, rfl, D1.1.1.1.1, (c_X9_cross g 190 D1.1 V.1 a b).mono ?_⟩
  rintro rv h2 ⟨rfl, k2⟩
  exact ⟨rfl, IV.rq S1 zx sa C1 D1 V (by rw [mkx_c X k1]; exact U) (Kp.of k2)⟩

theorem st_answers {g : gx} {Z : Nat} {h : hp} {X : Nat} (I : IV g Z h X) (a b c : Int32) : Call g 200 0 0 m_X8_answers [.ref X, .int a, .int b, .int c] h (StQ g Z X m_X9_answers_ [.int a, .int b, .int c]) := by
  obtain ⟨S, zx, sa, v, L, ls, la, n, t, mv, C, D, V, U⟩ := I
  refine (c_X8_answers g 193 C.1 V a b c).mono ?_
  rintro rv h1 ⟨rfl, k1⟩
  have k1 := xs_xe k1
  obtain ⟨S1, C1, D1⟩ := IV.cq S zx C D k1
  refine ⟨_, rfl, D1.1.1.1.1, (c_X9_answers_ g 189 D1.1 V.1 a b c).mono ?_⟩
  rintro rv h2 ⟨rfl, k2⟩
  exact ⟨rfl, IV.rq S1 zx sa C1 D1 V (by rw [mkx_c X k1]; exact U) (Kp.of k2)⟩

theorem st_gaps {g : gx} {Z : Nat} {h : hp} {X : Nat} (I : IV g Z h X) (a b c d : Int32) : Call g 200 0 0 m_X8_gaps [.ref X, .int a, .int b, .int c, .int d] h (StQ g Z X m_X9_gaps [.int a, .int b, .int c, .int d]) := by
  obtain ⟨S, zx, sa, v, L, ls, la, n, t, mv, C, D, V, U⟩ := I
  refine (c_X8_gaps g 195 C.1 V a b c d).mono ?_
  rintro rv h1 ⟨rfl, k1⟩
  have k1 := xs_xe k1
  obtain ⟨S1, C1, D1⟩ := IV.cq S zx C D k1
  refine ⟨_, rfl, D1.1.1.1.1, (c_X9_gaps g 192 D1.1 V.1 a b c d).mono ?_⟩
  rintro rv h2 ⟨rfl, k2⟩
  exact ⟨rfl, IV.rq S1 zx sa C1 D1 V (by rw [mkx_c X k1]; exact U) (Kp.of k2)⟩

theorem st_doubt {g : gx} {Z : Nat} {h : hp} {X : Nat} (I : IV g Z h X) (a b c : Int32) : Call g 200 0 0 m_X8_doubt [.ref X, .int a, .int b, .int c] h (StQ g Z X m_X9_doubt [.int a, .int b, .int c]) := by
  obtain ⟨S, zx, sa, v, L, ls, la, n, t, mv, C, D, V, U⟩ := I
  refine (c_X8_doubt g 194 C.1 V a b c).mono ?_
  rintro rv h1 ⟨rfl, k1⟩
  have k1 := xs_xe k1
  obtain ⟨S1, C1, D1⟩ := IV.cq S zx C D k1
  refine ⟨_, rfl, D1.1.1.1.1, (c_X9_doubt g 190 D1.1 V.1 D1.2.2.1 a b c).mono ?_⟩
  rintro rv h2 ⟨rfl, k2⟩
  exact ⟨rfl, IV.rq S1 zx sa C1 D1 V (by rw [mkx_c X k1]; exact U) (k2)⟩

theorem st_brief {g : gx} {Z : Nat} {h : hp} {X : Nat} (I : IV g Z h X) (a b c d : Int32) : Call g 200 0 0 m_X8_brief [.ref X, .int a, .int b, .int c, .int d] h (StQ g Z X m_X9_brief [.int a, .int b, .int c, .int d]) := by
  obtain ⟨S, zx, sa, v, L, ls, la, n, t, mv, C, D, V, U⟩ := I
  refine (c_X8_brief g 195 C.1 V a b c d).mono ?_
  rintro rv h1 ⟨rfl, k1⟩
  have k1 := xs_xe k1
  obtain ⟨S1, C1, D1⟩ := IV.cq S zx C D k1
  refine ⟨_, rfl, D1.1.1.1.1, (c_X9_brief g 194 D1.1 V.1 a b c d).mono ?_⟩
  rintro rv h2 ⟨rfl, k2⟩
  exact ⟨rfl, IV.rq S1 zx sa C1 D1 V (by rw [mkx_c X k1]; exact U) (Kp.of k2)⟩

theorem st_fights {g : gx} {Z : Nat} {h : hp} {X : Nat} (I : IV g Z h X) (a b c d e f : Int32) : Call g 200 0 0 m_X8_fights [.ref X, .int a, .int b, .int c, .int d, .int e, .int f] h (StQ g Z X m_X9_fights [.int a, .int b, .int c, .int d, .int e, .int f]) := by
  obtain ⟨S, zx, sa, v, L, ls, la, n, t, mv, C, D, V, U⟩ := I
  refine (c_X8_fights g 195 C.1 V a b c d e f).mono ?_
  rintro rv h1 ⟨rfl, k1⟩
  have k1 := xs_xe k1
  obtain ⟨S1, C1, D1⟩ := IV.cq S zx C D k1
  refine ⟨_, rfl, D1.1.1.1.1, (c_X9_fights g 191 D1.1 V.1 D1.2.2.1 a b c d e f).mono ?_⟩
  rintro rv h2 ⟨rfl, k2⟩
  exact ⟨rfl, IV.rq S1 zx sa C1 D1 V (by rw [mkx_c X k1]; exact U) (k2.kp)⟩

theorem st_allied {g : gx} {Z : Nat} {h : hp} {X : Nat} (I : IV g Z h X) (a b c d : Int32) : Call g 200 0 0 m_X8_allied [.ref X, .int a, .int b, .int c, .int d] h (StQ g Z X m_X9_allied [.int a, .int b, .int c, .int d]) := by
  obtain ⟨S, zx, sa, v, L, ls, la, n, t, mv, C, D, V, U⟩ := I
  refine (c_X8_allied g 195 C.1 V a b c d).mono ?_
  rintro rv h1 ⟨rfl, k1⟩
  have k1 := xs_xe k1
  obtain ⟨S1, C1, D1⟩ := IV.cq S zx C D k1
  refine ⟨_, rfl, D1.1.1.1.1, (c_X9_allied g 192 D1.1 V.1 a b c d).mono ?_⟩
  rintro rv h2 ⟨rfl, k2⟩
  exact ⟨rfl, IV.rq S1 zx sa C1 D1 V (by rw [mkx_c X k1]; exact U) (Kp.of k2)⟩

theorem st_mended {g : gx} {Z : Nat} {h : hp} {X : Nat} (I : IV g Z h X) (a b c : Int32) : Call g 200 0 0 m_X8_mended [.ref X, .int a, .int b, .int c] h (StQ g Z X m_X9_mended [.int a, .int b, .int c]) := by
  obtain ⟨S, zx, sa, v, L, ls, la, n, t, mv, C, D, V, U⟩ := I
  refine (c_X8_mended g 194 C.1 V a b c).mono ?_
  rintro rv h1 ⟨rfl, k1⟩
  have k1 := xs_xe k1
  obtain ⟨S1, C1, D1⟩ := IV.cq S zx C D k1
  refine ⟨_, rfl, D1.1.1.1.1, (c_X9_mended g 190 D1.1 V.1 D1.2.2.1 a b c).mono ?_⟩
  rintro rv h2 ⟨rfl, k2⟩
  exact ⟨rfl, IV.rq S1 zx sa C1 D1 V (by rw [mkx_c X k1]; exact U) (k2)⟩

theorem st_judge {g : gx} {Z : Nat} {h : hp} {X : Nat} (I : IV g Z h X) (a b c d : Int32) : Call g 200 0 0 m_X8_judge [.ref X, .int a, .int b, .int c, .int d] h (StQ g Z X m_X9_judge [.int a, .int b, .int c, .int d]) := by
  obtain ⟨S, zx, sa, v, L, ls, la, n, t, mv, C, D, V, U⟩ := I
  refine (c_X8_judge g 195 C.1 V a b c d).mono ?_
  rintro rv h1 ⟨rfl, k1⟩
  have k1 := xs_xe k1
  obtain ⟨S1, C1, D1⟩ := IV.cq S zx C D k1
  refine ⟨_, rfl, D1.1.1.1.1, (c_X9_judge g 192 D1.1 V.1 a b c d).mono ?_⟩
  rintro rv h2 ⟨rfl, k2⟩
  exact ⟨rfl, IV.rq S1 zx sa C1 D1 V (by rw [mkx_c X k1]; exact U) (Kp.of k2)⟩

theorem st_hangs {g : gx} {Z : Nat} {h : hp} {X : Nat} (I : IV g Z h X) (a b c : Int32) : Call g 200 0 0 m_X8_hangs [.ref X, .int a, .int b, .int c] h (StQ g Z X m_X9_hangs [.int a, .int b, .int c]) := by
  obtain ⟨S, zx, sa, v, L, ls, la, n, t, mv, C, D, V, U⟩ := I
  refine (c_X8_hangs g 195 C.1 V a b c).mono ?_
  rintro rv h1 ⟨rfl, k1⟩
  have k1 := xs_xe k1
  obtain ⟨S1, C1, D1⟩ := IV.cq S zx C D k1
  refine ⟨_, rfl, D1.1.1.1.1, (c_X9_hangs g 191 D1.1 V.1 D1.2.2.1 a b c).mono ?_⟩
  rintro rv h2 ⟨rfl, k2⟩
  exact ⟨rfl, IV.rq S1 zx sa C1 D1 V (by rw [mkx_c X k1]; exact U) (k2)⟩

theorem st_knows {g : gx} {Z : Nat} {h : hp} {X : Nat} (I : IV g Z h X) (a z b c : Int32) (hz : z = 0 ∨ z = 1) : Call g 200 0 0 m_X8_knows [.ref X, .int a, .int z, .int b, .int c] h (StQ g Z X m_X9_knows [.int a, .int z, .int b, .int c]) := by
  obtain ⟨S, zx, sa, v, L, ls, la, n, t, mv, C, D, V, U⟩ := I
  rcases hz with rfl | rfl
  · refine (c0_X8_knows g 196 C.1 V a b c).mono ?_
    rintro rv h1 ⟨rfl, k1⟩
    have k1 := xs_xe k1
    obtain ⟨S1, C1, D1⟩ := IV.cq S zx C D k1
    refine ⟨_, rfl, D1.1.1.1.1, (c0_X9_knows g 196 D1.1 V.1 D1.2.2.1 a b c).mono ?_⟩
    rintro rv h2 ⟨rfl, rfl⟩
    exact ⟨rfl, IV.rq S1 zx sa C1 D1 V (by rw [mkx_c X k1]; exact U) Kp.rf⟩
  · refine (c1_X8_knows g 196 C.1 V a b c).mono ?_
    rintro rv h1 ⟨rfl, k1⟩
    have k1 := xs_xe k1
    obtain ⟨S1, C1, D1⟩ := IV.cq S zx C D k1
    refine ⟨_, rfl, D1.1.1.1.1, (c1_X9_knows g 196 D1.1 V.1 D1.2.2.1 a b c).mono ?_⟩
    rintro rv h2 ⟨rfl, rfl⟩
    exact ⟨rfl, IV.rq S1 zx sa C1 D1 V (by rw [mkx_c X k1]; exact U) Kp.rf⟩
theorem st_count {g : gx} {Z : Nat} {h : hp} {X : Nat} (I : IV g Z h X) (a : Int32) : Call g 200 0 0 m_X8_count [.ref X, .int a] h (StQ g Z X m_X9_count [.int a]) := by
  obtain ⟨S, zx, sa, v, L, ls, la, n, t, mv, C, D, V, U⟩ := I
  refine (c_X8_count g 197 C.1 V C.2.1.1 a).mono ?_
  rintro rv h1 ⟨rfl, rfl⟩
  refine ⟨_, rfl, D.1.1.1.1, (c_X9_count g 200 D.1 V.1 D.2.1.1 a).mono ?_⟩
  rintro rv h2 ⟨rfl, rfl⟩
  exact ⟨rfl, IV.rq S zx sa C D V U Kp.rf⟩

