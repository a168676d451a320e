/-! 79: the reference: SIGHT told, a fall told -/
theorem MI.sig {h : hp} {M L : Nat} {v : vw} {ls : lws} (H : MI h M v L ls) (x : Int32) : MI (sightM h M x) M (vsig v x) L ls := by
  obtain ⟨⟨g0, ⟨g1, g2, g3, g4, g5, g6, g7⟩, g8, t0, t1, t2, t3, t5, t6⟩, HL, hL, hW⟩ := H
  have k : Chg (fun q => q = M) h (sightM h M x) := Chg.sI rfl
  have eM : ∀ i, ¬ i = 7 → hI (sightM h M x) M i = hI h M i := fun i hi => by
    unfold sightM
    rw [hI_setI, if_neg (fun e => hi e.2)]
  have e7 : hI (sightM h M x) M 7 = x := by
    unfold sightM
    rw [hI_setI, if_pos ⟨rfl, rfl⟩]
  have eo : ∀ q, ¬ q = M → hI (sightM h M x) q = hI h q := fun q hq => (k.2.2.2.2 q hq).1
  have HL2 : MLs (sightM h M x) M v := HL.kept k (by omega) (by omega)
  have el : ∀ b n, lc_ (vsig v x) b n = lc_ v b n := fun b n => by
    induction n with
    | zero => rfl
    | succ n ih => rw [lc_, lc_, ih, vc_vsig]
  refine ⟨⟨g0.kept k, ⟨by rw [eM _ (by omega)]; exact g1, by rw [eM _ (by omega)]; exact g2, by rw [eM _ (by omega)]; exact g3, by rw [eM _ (by omega)]; exact g4, by rw [eM _ (by omega)]; exact g5, by rw [eM _ (by omega)]; exact g6, e7⟩, g8, fun r hr c hc => ?_, fun r hr c hc => ?_, fun r hr c hc => ?_, fun r hr c hc => ?_, fun r hr c hc => ?_, fun r hr c hc => ?_⟩, fun b hb => ?_, by rw [eM _ (by omega)]; exact hL, fun r hr => (hW r hr).kept k (fun b h1 h2 => by omega)⟩
  · rw [eo _ (by omega)]; exact t0 r hr c hc
  · rw [eo _ (by omega)]; exact t1 r hr c hc
  · rw [eo _ (by omega)]; exact t2 r hr c hc
  · rw [eo _ (by omega)]; exact t3 r hr c hc
  · rw [eo _ (by omega)]; exact t5 r hr c hc
  · rw [eo _ (by omega)]; exact t6 r hr c hc
  · obtain ⟨a0, a1, a2⟩ := HL2 b hb
    rw [el]
    refine ⟨a0, a1, fun r hr hv => ?_⟩
    rw [el]
    exact a2 r hr hv

