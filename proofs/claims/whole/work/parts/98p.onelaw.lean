/-! 98p: one LAW more, both sides -/
theorem XLay.cg2 {h h' : hp} {X : Nat} (H : XLay h X) (k : ∀ b, X ≤ b → b ≤ X + 47 → hK h' b = hK h b) (n : ∀ b, X ≤ b → b ≤ X + 47 → hN h' b = hN h b) (r : ∀ b, X ≤ b → b ≤ X + 47 → ¬ b = X + 17 → ∀ j, hR h' b j = hR h b j) : XLay h' X := by
  unfold XLay FcAt RkAt KnAt RdAt PlAt at H ⊢
  simp (disch := omega) only [k, n, r]
  exact H
theorem WRep.cg2 {h h' : hp} {a : Nat} {v : vw} (H : WRep h a v) (e : ∀ b, a ≤ b → b ≤ a + 14 → hp_eq h h' b) : WRep h' a v := by
  have k : ∀ b, a ≤ b → b ≤ a + 14 → hK h' b = hK h b := fun b h1 h2 => (e b h1 h2).1
  have n : ∀ b, a ≤ b → b ≤ a + 14 → hN h' b = hN h b := fun b h1 h2 => (e b h1 h2).2.1
  have i : ∀ b, a ≤ b → b ≤ a + 14 → ∀ j, hI h' b j = hI h b j := fun b h1 h2 => (e b h1 h2).2.2.1
  have r : ∀ b, a ≤ b → b ≤ a + 14 → ∀ j, hR h' b j = hR h b j := fun b h1 h2 => (e b h1 h2).2.2.2.2
  unfold WRep TabAt RowsAt at H ⊢
  simp (disch := omega) only [k, n, i, r]
  exact H
theorem LwX.cg2 {h h' : hp} {a : Nat} {ln : lwt} (H : LwX h a ln) (e : ∀ b, a ≤ b → b ≤ a + 5 → hp_eq h h' b) : LwX h' a ln := by
  have k : ∀ b, a ≤ b → b ≤ a + 5 → hK h' b = hK h b := fun b h1 h2 => (e b h1 h2).1
  have n : ∀ b, a ≤ b → b ≤ a + 5 → hN h' b = hN h b := fun b h1 h2 => (e b h1 h2).2.1
  have i : ∀ b, a ≤ b → b ≤ a + 5 → ∀ j, hI h' b j = hI h b j := fun b h1 h2 => (e b h1 h2).2.2.1
  have r : ∀ b, a ≤ b → b ≤ a + 5 → ∀ j, hR h' b j = hR h b j := fun b h1 h2 => (e b h1 h2).2.2.2.2
  unfold LwX at H ⊢
  simp (disch := omega) only [k, n, i, r]
  exact H
/-- all the LAWS lie below the heap's end -/
def lwB (h : hp) (L : Nat) (la : Nat → Nat) : Prop := ∀ r, r < L → la r + 5 < hZ h
theorem Hlw.eq {h h' : hp} {X L b : Nat} (H : Hlw h h' X L) (hb : b < hZ h) (h1 : ¬ b = X) (h2 : ¬ b = X + 17) (h3 : ¬ (X + 19 ≤ b ∧ b ≤ X + 27)) : hp_eq h h' b := by
  obtain ⟨c1, c2, c3, c4, c5, c6, c7⟩ := H
  obtain ⟨i, j⟩ := c6 b hb (by omega)
  exact ⟨(c2 b hb).1, (c2 b hb).2, i, j, c3 b hb h2⟩
theorem XI.law {h h' : hp} {X L : Nat} {v : vw} {ls : lws} {la : Nat → Nat} {ln : lwt} (H : XI h X v L ls la) (hB : lwB h L la) (hz : X + 47 < hZ h) (W : Hlw h h' X L) (N : LwX h' (hZ h) ln) : XI h' X v (L + 1) (up1 ls L ln) (up1 la L (hZ h)) ∧ lwB h' (L + 1) (up1 la L (hZ h)) := by
  obtain ⟨H1, H2, H3, H4⟩ := H
  obtain ⟨c1, c2, c3, c4, c5, c6, c7, c8, c9⟩ := id W
  refine ⟨⟨H1.cg2 (fun b h1 h2 => (c2 b (by omega)).1) (fun b h1 h2 => (c2 b (by omega)).2) (fun b h1 h2 h3 => c3 b (by omega) h3), H2.cg2 (fun b h1 h2 => W.eq (by omega) (by omega) (by omega) (by omega)), c8, fun r hr => ?_⟩, fun r hr => ?_⟩
  · unfold up1
    by_cases e : r = L
    · subst e
      rw [if_pos rfl, if_pos rfl]
      exact ⟨c5, N, hz⟩
    · rw [if_neg e, if_neg e]
      obtain ⟨a1, a2, a3⟩ := H4 r (by omega)
      have := hB r (by omega)
      exact ⟨(c4 r e).trans a1, a2.cg2 (fun b h1 h2 => W.eq (by omega) (by omega) (by omega) (by omega)), a3⟩
  · unfold up1
    by_cases e : r = L
    · rw [if_pos e, c1]; omega
    · rw [if_neg e, c1]
      have := hB r (by omega)
      omega
theorem LawM.w {h h' : hp} {M L r : Nat} {ln : lwt} (H : LawM h M r ln) (k : Kw M L h h') (hr : r < L) (O : LOK ln) : LawM h' M r ln := by
  obtain ⟨k1, k2, k3, k4, k5⟩ := k
  refine ⟨(k5 r hr).trans H.1, fun c hc => ?_⟩
  obtain ⟨h1, h2, h3, h4, h5⟩ := H.2 c hc
  have o1 := O.1
  have o2 := (O.2 c hc).2.2.2.1
  obtain ⟨a1, a2, a3, a4⟩ := k4 (12 * r + c) (by omega)
  refine ⟨a1.trans h1, a2.trans h2, a3.trans h3, a4.trans h4, fun e e1 e2 => ?_⟩
  obtain ⟨b1, b2⟩ := k3 (300 * r + e) (by omega)
  obtain ⟨d1, d2⟩ := h5 e e1 e2
  exact ⟨b1.trans d1, b2.trans d2⟩
theorem MI.w {h h' : hp} {M L L' : Nat} {v : vw} {ls ls' : lws} (H : MI h M v L ls) (k : Kw M L h h') (h32 : hI h' M 32 = nI L') (hl : ∀ r, r < L' → LawM h' M r (ls' r)) : MI h' M v L' ls' := by
  obtain ⟨⟨g0, ⟨g1, g2, g3, g4, g5, g6, g7⟩, g8, t0, t1, t2, t3, t5, t6⟩, HL, hL, hW⟩ := H
  have hf := k.2.1
  have n1 : ∀ q, ¬ (q = M ∨ (M + 23 ≤ q ∧ q ≤ M + 30)) → hI h' q = hI h q := fun q hq => (k.1.2.2.2.2 q hq).1
  refine ⟨⟨g0.kept k.1, ⟨by rw [hf _ (by omega)]; exact g1, by rw [hf _ (by omega)]; exact g2, by rw [hf _ (by omega)]; exact g3, by rw [hf _ (by omega)]; exact g4, by rw [hf _ (by omega)]; exact g5, by rw [hf _ (by omega)]; exact g6, by rw [hf _ (by omega)]; exact g7⟩, g8, fun r hr c hc => ?_, fun r hr c hc => ?_, fun r hr c hc => ?_, fun r hr c hc => ?_, fun r hr c hc => ?_, fun r hr c hc => ?_⟩, HL.kept k.1 (by omega) (by omega), h32, hl⟩
  · rw [n1 _ (by omega)]; exact t0 r hr c hc
  · rw [n1 _ (by omega)]; exact t1 r hr c hc
  · rw [n1 _ (by omega)]; exact t2 r hr c hc
  · rw [n1 _ (by omega)]; exact t3 r hr c hc
  · rw [n1 _ (by omega)]; exact t5 r hr c hc
  · rw [n1 _ (by omega)]; exact t6 r hr c hc
theorem MI.law {h h' : hp} {M L : Nat} {v : vw} {ls : lws} {ln : lwt} (H : MI h M v L ls) (V : VL v L ls) (k : Kw M L h h') (h32 : hI h' M 32 = nI (L + 1)) (N : LawM h' M L ln) : MI h' M v (L + 1) (up1 ls L ln) := by
  refine H.w k h32 (fun r hr => ?_)
  unfold up1
  by_cases e : r = L
  · subst e; rw [if_pos rfl]; exact N
  · rw [if_neg e]; exact (H.2.2.2 r (by omega)).w k (by omega) (V.2.2 r (by omega))
theorem MI.nolaw {h h' : hp} {M L : Nat} {v : vw} {ls : lws} (H : MI h M v L ls) (V : VL v L ls) (k : Kw M L h h') (h32 : hI h' M 32 = nI L) : MI h' M v L ls :=
  H.w k h32 (fun r hr => (H.2.2.2 r hr).w k hr (V.2.2 r hr))
theorem VOK.up {v : vw} {L : Nat} (V : VOK v L) : VOK v (L + 1) := by
  obtain ⟨v1, v2, v3⟩ := V
  refine ⟨v1, fun r hr => ?_, v3⟩
  obtain ⟨a, b, c, d, e⟩ := v2 r hr
  exact ⟨a, b, c, d, e.imp id (fun z => inRup z (by omega))⟩
theorem XV.law {v : vw} {L : Nat} {ls : lws} {ln : lwt} (V : XV v L ls) (L8 : L < 8) (O : LOK ln) : XV v (L + 1) (up1 ls L ln) := by
  obtain ⟨⟨v1, v2, v3⟩, v4⟩ := V
  refine ⟨⟨v1.up, by omega, fun r hr => ?_⟩, v4⟩
  unfold up1
  by_cases e : r = L
  · rw [if_pos e]; exact O
  · rw [if_neg e]; exact v3 r (by omega)

