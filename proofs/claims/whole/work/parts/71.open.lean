/-! 71: the class: rows opened and set -/
def xwd (X : Nat) : Nat → Prop := fun q => X + 1 ≤ q ∧ q ≤ X + 15
def wdt (i : Nat) : Nat := match i with
  | 0 => 5
  | 1 => 6
  | 2 => 4
  | 3 => 4
  | 4 => 2
  | 5 => 4
  | 6 => 6
  | _ => 0
theorem XI.kepw {h h' : hp} {X : Nat} {v v' : vw} {L : Nat} {ls : lws} {la : Nat → Nat} (H : XI h X v L ls la) (k : Chg (xwd X) h h') (W : WRep h' (X + 1) v') : XI h' X v' L ls la := by
  refine ⟨H.1.kept k, W, by rw [(k.2.2.2.2 X (fun e => by have := e.1; omega)).1]; exact H.2.2.1, fun r hr => ?_⟩
  obtain ⟨a1, a2, a3⟩ := H.2.2.2 r hr
  exact ⟨by rw [k.2.2.2.1]; exact a1, a2.kept k (fun q h1 h2 e => by have := e.2; omega), a3⟩
theorem TabAt.cg {h : hp} {o c w m j : Nat} {v v' : vw} (H : TabAt h o c w m v j) (e1 : vn v' j = vn v j) (e2 : ∀ r k, k < w → vc v' j r k = vc v j r k) : TabAt h o c w m v' j := by
  refine ⟨by rw [e1]; exact H.1, fun r hr k hk => ?_⟩
  rw [e1] at hr
  rw [e2 r k hk]
  exact H.2 r hr k hk
theorem XI.cg {h : hp} {X : Nat} {v v' : vw} {L : Nat} {ls : lws} {la : Nat → Nat} (H : XI h X v L ls la) (e1 : ∀ j, vn v' j = vn v j) (e2 : ∀ i r k, k < wdt i → vc v' i r k = vc v i r k) (e3 : vs v' = vs v) : XI h X v' L ls la := by
  obtain ⟨L0, ⟨⟨g0, g1, gr⟩, t0, t1, t2, t3, t4, t5, t6⟩, H3, H4⟩ := H
  exact ⟨L0, ⟨⟨g0, by rw [e3]; exact g1, gr⟩, t0.cg (e1 0) (e2 0), t1.cg (e1 1) (e2 1), t2.cg (e1 2) (e2 2), t3.cg (e1 3) (e2 3), t4.cg (e1 4) (e2 4), t5.cg (e1 5) (e2 5), t6.cg (e1 6) (e2 6)⟩, H3, H4⟩
theorem TabAt.set {h : hp} {o c w m j r k : Nat} {v : vw} (H : TabAt h o c w m v j) (x : Int32) (hk : k < w) (hoc : ¬ o = c) : TabAt (setI h c (r * w + k) x) o c w m (vset v j r k x) j := by
  refine ⟨H.1.kept (P := fun q => q = c) (Chg.sI rfl) hoc, fun r' hr' k' hk' => ?_⟩
  rw [hI_setI, vc_vset]
  by_cases e : r' = r ∧ k' = k
  · obtain ⟨rfl, rfl⟩ := e
    rw [if_pos ⟨rfl, rfl⟩, if_pos ⟨rfl, rfl, rfl⟩]
  · rw [if_neg (fun q => e ?_), if_neg (fun q => e q.2)]
    · exact H.2 r' hr' k' hk'
    · have q2 := q.2
      have hw : 0 < w := by omega
      have a1 : (r' * w + k') / w = r' := by rw [Nat.mul_comm, Nat.mul_add_div hw, Nat.div_eq_of_lt hk', Nat.add_zero]
      have a2 : (r * w + k) / w = r := by rw [Nat.mul_comm, Nat.mul_add_div hw, Nat.div_eq_of_lt hk, Nat.add_zero]
      have a3 : r' = r := by rw [← a1, ← a2, q2]
      subst a3
      exact ⟨rfl, by omega⟩
theorem TabAt.kset {h : hp} {o c w m i j r k q p : Nat} {v : vw} (H : TabAt h o c w m v i) (x : Int32) (hij : ¬ i = j) (h1 : ¬ o = q) (h2 : ¬ c = q) : TabAt (setI h q p x) o c w m (vset v j r k x) i := by
  have := H.kept (P := fun z => z = q) (Chg.sI (k := p) (x := x) rfl) h1 h2
  exact this.cg rfl (fun r' k' hk => by rw [vc_vset, if_neg (fun e => hij e.1)])
theorem TabAt.opn {h : hp} {o c w m j : Nat} {v : vw} (H : TabAt h o c w m v j) (hlt : vn v j < m) (hoc : ¬ o = c) : TabAt (setI h o 3 (nI (vn v j + 1))) o c w m (vadd v j ((List.range w).map (fun k => hI h c (vn v j * w + k)))) j := by
  have e : vn (vadd v j ((List.range w).map (fun k => hI h c (vn v j * w + k)))) j = vn v j + 1 := by rw [vn_vadd, if_pos rfl]
  obtain ⟨⟨h1, h2, h3, h4, h5, h6, h7, h8, h9⟩, HT⟩ := H
  refine ⟨?_, fun r hr k hk => ?_⟩
  · rw [e]
    refine ⟨h1, h2, h3, h4, ?_, ?_, ?_, by omega, h9⟩
    · rw [hI_setI, if_neg (by omega)]; exact h5
    · rw [hI_setI, if_neg (by omega)]; exact h6
    · rw [hI_setI, if_pos ⟨rfl, rfl⟩]
  · rw [e] at hr
    rw [hI_setI, if_neg (fun q => hoc q.1.symm), vc_vadd]
    by_cases z : r = vn v j
    · subst z
      rw [if_pos ⟨rfl, rfl⟩]
      simp [hk]
    · rw [if_neg (fun q => z q.2)]
      exact HT r (by omega) k hk
theorem TabAt.kopn {h : hp} {o c w m i j q : Nat} {v : vw} {y : Int32} (row : List Int32) (H : TabAt h o c w m v i) (hij : ¬ i = j) (h1 : ¬ o = q) (h2 : ¬ c = q) : TabAt (setI h q 3 y) o c w m (vadd v j row) i := by
  have := H.kept (P := fun z => z = q) (Chg.sI (k := 3) (x := y) rfl) h1 h2
  exact this.cg (by rw [vn_vadd, if_neg hij]) (fun r' k' hk => by rw [vc_vadd, if_neg (fun e => hij e.1)])
theorem n_wset (g : gx) (n : Nat) {h : hp} {o c w m j : Nat} {v : vw} (H : TabAt h o c w m v j) (y x : Int32) : Call g n 0 0 m_X6_set [.ref o, .int (-1), .int y, .int x] h (fun rv h' => rv = none ∧ h' = h) := by
  refine (c_X6_set g n H.1 (-1) y x).mono ?_
  rintro rv h2 ⟨rfl, e2⟩
  exact ⟨rfl, e2.trans (if_neg (fun e => by have := e.1.1; rw [i_m1] at this; omega))⟩
theorem n_wopn (g : gx) (n : Nat) {h : hp} {o c w m j : Nat} {v : vw} (H : TabAt h o c w m v j) (hlt : ¬ vn v j < m) : Call g n 0 0 m_X6_open [.ref o] h (fun rv h' => rv = some (.int (-1)) ∧ h' = h) := by
  refine (c_X6_open g n H.1).mono ?_
  rintro rv h2 ⟨rfl, rfl⟩
  rw [if_neg hlt, if_neg hlt]
  exact ⟨rfl, rfl⟩
theorem c_wset0 (g : gx) (n : Nat) {h : hp} {X L : Nat} {v : vw} {ls : lws} {la : Nat → Nat} (H0 : XI h X v L ls la) {r : Nat} (hr : r < vn v 0) (y : Int32) (k : Nat) (hy : y = nI k) (hk : k < 5) (x : Int32) : Call g n 0 0 m_X6_set [.ref (X + 1 + 1), .int (nI r), .int y, .int x] h (fun rv h' => rv = none ∧ Chg (xwd X) h h' ∧ XI h' X (vset v 0 r k x) L ls la) := by
  obtain ⟨⟨g0, g1, gr⟩, t0, t1, t2, t3, t4, t5, t6⟩ := H0.2.1
  have hm := t0.1.2.2.2.2.2.2.2
  subst hy
  refine (c_X6_set g n t0.1 (nI r) (nI k) x).mono ?_
  rintro rv h2 ⟨rfl, rfl⟩
  rw [if_pos ⟨inR_nI hr (by omega), inR_nI hk (by omega)⟩, nI_tn (by omega), nI_tn (by omega)]
  have hc : Chg (xwd X) h (setI h (X + 1 + 2) (r * 5 + k) x) := Chg.sI (by unfold xwd; omega)
  exact ⟨rfl, hc, H0.kepw hc ⟨⟨g0, by rw [hI_setI, if_neg (by omega)]; exact g1, gr⟩, t0.set x hk (by omega), t1.kset x (by omega) (by omega) (by omega), t2.kset x (by omega) (by omega) (by omega), t3.kset x (by omega) (by omega) (by omega), t4.kset x (by omega) (by omega) (by omega), t5.kset x (by omega) (by omega) (by omega), t6.kset x (by omega) (by omega) (by omega)⟩⟩
theorem c_wopn0 (g : gx) (n : Nat) {h : hp} {X L : Nat} {v : vw} {ls : lws} {la : Nat → Nat} (H0 : XI h X v L ls la) (hlt : vn v 0 < 12) : Call g n 0 0 m_X6_open [.ref (X + 1 + 1)] h (fun rv h' => rv = some (.int (nI (vn v 0))) ∧ Chg (xwd X) h h' ∧ ∃ row, XI h' X (vadd v 0 row) L ls la) := by
  obtain ⟨⟨g0, g1, gr⟩, t0, t1, t2, t3, t4, t5, t6⟩ := H0.2.1
  refine (c_X6_open g n t0.1).mono ?_
  rintro rv h2 ⟨rfl, rfl⟩
  rw [if_pos hlt, if_pos hlt]
  have hc : Chg (xwd X) h (setI h (X + 1 + 1) 3 (nI (vn v 0 + 1))) := Chg.sI (by unfold xwd; omega)
  exact ⟨rfl, hc, _, H0.kepw hc ⟨⟨g0, by rw [hI_setI, if_neg (by omega)]; exact g1, gr⟩, t0.opn hlt (by omega), t1.kopn _ (by omega) (by omega) (by omega), t2.kopn _ (by omega) (by omega) (by omega), t3.kopn _ (by omega) (by omega) (by omega), t4.kopn _ (by omega) (by omega) (by omega), t5.kopn _ (by omega) (by omega) (by omega), t6.kopn _ (by omega) (by omega) (by omega)⟩⟩
theorem XI.row0 {h : hp} {X L : Nat} {v : vw} {ls : lws} {la : Nat → Nat} {row : List Int32} {x0 x1 x2 x3 x4 : Int32} (H : XI h X (vset (vset (vset (vset (vset (vadd v 0 row) 0 (vn v 0) 0 x0) 0 (vn v 0) 1 x1) 0 (vn v 0) 2 x2) 0 (vn v 0) 3 x3) 0 (vn v 0) 4 x4) L ls la) : XI h X (vadd v 0 [x0, x1, x2, x3, x4]) L ls la := by
  refine H.cg (fun i => rfl) (fun i r k hk => ?_) rfl
  simp only [vc_vset, vc_vadd]
  by_cases e : i = 0 ∧ r = vn v 0
  · obtain ⟨rfl, rfl⟩ := e
    have hk : k < 5 := hk
    have : k = 0 ∨ k = 1 ∨ k = 2 ∨ k = 3 ∨ k = 4 := by omega
    rcases this with rfl | rfl | rfl | rfl | rfl <;> simp
  · rw [if_neg e]
    simp only [if_neg e, if_neg (fun q : i = 0 ∧ r = vn v 0 ∧ _ => e ⟨q.1, q.2.1⟩)]
theorem c_wset1 (g : gx) (n : Nat) {h : hp} {X L : Nat} {v : vw} {ls : lws} {la : Nat → Nat} (H0 : XI h X v L ls la) {r : Nat} (hr : r < vn v 1) (y : Int32) (k : Nat) (hy : y = nI k) (hk : k < 6) (x : Int32) : Call g n 0 0 m_X6_set [.ref (X + 1 + 3), .int (nI r), .int y, .int x] h (fun rv h' => rv = none ∧ Chg (xwd X) h h' ∧ XI h' X (vset v 1 r k x) L ls la) := by
  obtain ⟨⟨g0, g1, gr⟩, t0, t1, t2, t3, t4, t5, t6⟩ := H0.2.1
  have hm := t1.1.2.2.2.2.2.2.2
  subst hy
  refine (c_X6_set g n t1.1 (nI r) (nI k) x).mono ?_
  rintro rv h2 ⟨rfl, rfl⟩
  rw [if_pos ⟨inR_nI hr (by omega), inR_nI hk (by omega)⟩, nI_tn (by omega), nI_tn (by omega)]
  have hc : Chg (xwd X) h (setI h (X + 1 + 4) (r * 6 + k) x) := Chg.sI (by unfold xwd; omega)
  exact ⟨rfl, hc, H0.kepw hc ⟨⟨g0, by rw [hI_setI, if_neg (by omega)]; exact g1, gr⟩, t0.kset x (by omega) (by omega) (by omega), t1.set x hk (by omega), t2.kset x (by omega) (by omega) (by omega), t3.kset x (by omega) (by omega) (by omega), t4.kset x (by omega) (by omega) (by omega), t5.kset x (by omega) (by omega) (by omega), t6.kset x (by omega) (by omega) (by omega)⟩⟩
theorem c_wopn1 (g : gx) (n : Nat) {h : hp} {X L : Nat} {v : vw} {ls : lws} {la : Nat → Nat} (H0 : XI h X v L ls la) (hlt : vn v 1 < 24) : Call g n 0 0 m_X6_open [.ref (X + 1 + 3)] h (fun rv h' => rv = some (.int (nI (vn v 1))) ∧ Chg (xwd X) h h' ∧ ∃ row, XI h' X (vadd v 1 row) L ls la) := by
  obtain ⟨⟨g0, g1, gr⟩, t0, t1, t2, t3, t4, t5, t6⟩ := H0.2.1
  refine (c_X6_open g n t1.1).mono ?_
  rintro rv h2 ⟨rfl, rfl⟩
  rw [if_pos hlt, if_pos hlt]
  have hc : Chg (xwd X) h (setI h (X + 1 + 3) 3 (nI (vn v 1 + 1))) := Chg.sI (by unfold xwd; omega)
  exact ⟨rfl, hc, _, H0.kepw hc ⟨⟨g0, by rw [hI_setI, if_neg (by omega)]; exact g1, gr⟩, t0.kopn _ (by omega) (by omega) (by omega), t1.opn hlt (by omega), t2.kopn _ (by omega) (by omega) (by omega), t3.kopn _ (by omega) (by omega) (by omega), t4.kopn _ (by omega) (by omega) (by omega), t5.kopn _ (by omega) (by omega) (by omega), t6.kopn _ (by omega) (by omega) (by omega)⟩⟩
theorem XI.row1 {h : hp} {X L : Nat} {v : vw} {ls : lws} {la : Nat → Nat} {row : List Int32} {x0 x1 x2 x3 x4 x5 : Int32} (H : XI h X (vset (vset (vset (vset (vset (vset (vadd v 1 row) 1 (vn v 1) 0 x0) 1 (vn v 1) 1 x1) 1 (vn v 1) 2 x2) 1 (vn v 1) 3 x3) 1 (vn v 1) 4 x4) 1 (vn v 1) 5 x5) L ls la) : XI h X (vadd v 1 [x0, x1, x2, x3, x4, x5]) L ls la := by
  refine H.cg (fun i => rfl) (fun i r k hk => ?_) rfl
  simp only [vc_vset, vc_vadd]
  by_cases e : i = 1 ∧ r = vn v 1
  · obtain ⟨rfl, rfl⟩ := e
    have hk : k < 6 := hk
    have : k = 0 ∨ k = 1 ∨ k = 2 ∨ k = 3 ∨ k = 4 ∨ k = 5 := by omega
    rcases this with rfl | rfl | rfl | rfl | rfl | rfl <;> simp
  · rw [if_neg e]
    simp only [if_neg e, if_neg (fun q : i = 1 ∧ r = vn v 1 ∧ _ => e ⟨q.1, q.2.1⟩)]
theorem c_wset2 (g : gx) (n : Nat) {h : hp} {X L : Nat} {v : vw} {ls : lws} {la : Nat → Nat} (H0 : XI h X v L ls la) {r : Nat} (hr : r < vn v 2) (y : Int32) (k : Nat) (hy : y = nI k) (hk : k < 4) (x : Int32) : Call g n 0 0 m_X6_set [.ref (X + 1 + 5), .int (nI r), .int y, .int x] h (fun rv h' => rv = none ∧ Chg (xwd X) h h' ∧ XI h' X (vset v 2 r k x) L ls la) := by
  obtain ⟨⟨g0, g1, gr⟩, t0, t1, t2, t3, t4, t5, t6⟩ := H0.2.1
  have hm := t2.1.2.2.2.2.2.2.2
  subst hy
  refine (c_X6_set g n t2.1 (nI r) (nI k) x).mono ?_
  rintro rv h2 ⟨rfl, rfl⟩
  rw [if_pos ⟨inR_nI hr (by omega), inR_nI hk (by omega)⟩, nI_tn (by omega), nI_tn (by omega)]
  have hc : Chg (xwd X) h (setI h (X + 1 + 6) (r * 4 + k) x) := Chg.sI (by unfold xwd; omega)
  exact ⟨rfl, hc, H0.kepw hc ⟨⟨g0, by rw [hI_setI, if_neg (by omega)]; exact g1, gr⟩, t0.kset x (by omega) (by omega) (by omega), t1.kset x (by omega) (by omega) (by omega), t2.set x hk (by omega), t3.kset x (by omega) (by omega) (by omega), t4.kset x (by omega) (by omega) (by omega), t5.kset x (by omega) (by omega) (by omega), t6.kset x (by omega) (by omega) (by omega)⟩⟩
theorem c_wopn2 (g : gx) (n : Nat) {h : hp} {X L : Nat} {v : vw} {ls : lws} {la : Nat → Nat} (H0 : XI h X v L ls la) (hlt : vn v 2 < 200) : Call g n 0 0 m_X6_open [.ref (X + 1 + 5)] h (fun rv h' => rv = some (.int (nI (vn v 2))) ∧ Chg (xwd X) h h' ∧ ∃ row, XI h' X (vadd v 2 row) L ls la) := by
  obtain ⟨⟨g0, g1, gr⟩, t0, t1, t2, t3, t4, t5, t6⟩ := H0.2.1
  refine (c_X6_open g n t2.1).mono ?_
  rintro rv h2 ⟨rfl, rfl⟩
  rw [if_pos hlt, if_pos hlt]
  have hc : Chg (xwd X) h (setI h (X + 1 + 5) 3 (nI (vn v 2 + 1))) := Chg.sI (by unfold xwd; omega)
  exact ⟨rfl, hc, _, H0.kepw hc ⟨⟨g0, by rw [hI_setI, if_neg (by omega)]; exact g1, gr⟩, t0.kopn _ (by omega) (by omega) (by omega), t1.kopn _ (by omega) (by omega) (by omega), t2.opn hlt (by omega), t3.kopn _ (by omega) (by omega) (by omega), t4.kopn _ (by omega) (by omega) (by omega), t5.kopn _ (by omega) (by omega) (by omega), t6.kopn _ (by omega) (by omega) (by omega)⟩⟩
theorem XI.row2 {h : hp} {X L : Nat} {v : vw} {ls : lws} {la : Nat → Nat} {row : List Int32} {x0 x1 x2 x3 : Int32} (H : XI h X (vset (vset (vset (vset (vadd v 2 row) 2 (vn v 2) 0 x0) 2 (vn v 2) 1 x1) 2 (vn v 2) 2 x2) 2 (vn v 2) 3 x3) L ls la) : XI h X (vadd v 2 [x0, x1, x2, x3]) L ls la := by
  refine H.cg (fun i => rfl) (fun i r k hk => ?_) rfl
  simp only [vc_vset, vc_vadd]
  by_cases e : i = 2 ∧ r = vn v 2
  · obtain ⟨rfl, rfl⟩ := e
    have hk : k < 4 := hk
    have : k = 0 ∨ k = 1 ∨ k = 2 ∨ k = 3 := by omega
    rcases this with rfl | rfl | rfl | rfl <;> simp
  · rw [if_neg e]
    simp only [if_neg e, if_neg (fun q : i = 2 ∧ r = vn v 2 ∧ _ => e ⟨q.1, q.2.1⟩)]
theorem c_wset3 (g : gx) (n : Nat) {h : hp} {X L : Nat} {v : vw} {ls : lws} {la : Nat → Nat} (H0 : XI h X v L ls la) {r : Nat} (hr : r < vn v 3) (y : Int32) (k : Nat) (hy : y = nI k) (hk : k < 4) (x : Int32) : Call g n 0 0 m_X6_set [.ref (X + 1 + 7), .int (nI r), .int y, .int x] h (fun rv h' => rv = none ∧ Chg (xwd X) h h' ∧ XI h' X (vset v 3 r k x) L ls la) := by
  obtain ⟨⟨g0, g1, gr⟩, t0, t1, t2, t3, t4, t5, t6⟩ := H0.2.1
  have hm := t3.1.2.2.2.2.2.2.2
  subst hy
  refine (c_X6_set g n t3.1 (nI r) (nI k) x).mono ?_
  rintro rv h2 ⟨rfl, rfl⟩
  rw [if_pos ⟨inR_nI hr (by omega), inR_nI hk (by omega)⟩, nI_tn (by omega), nI_tn (by omega)]
  have hc : Chg (xwd X) h (setI h (X + 1 + 8) (r * 4 + k) x) := Chg.sI (by unfold xwd; omega)
  exact ⟨rfl, hc, H0.kepw hc ⟨⟨g0, by rw [hI_setI, if_neg (by omega)]; exact g1, gr⟩, t0.kset x (by omega) (by omega) (by omega), t1.kset x (by omega) (by omega) (by omega), t2.kset x (by omega) (by omega) (by omega), t3.set x hk (by omega), t4.kset x (by omega) (by omega) (by omega), t5.kset x (by omega) (by omega) (by omega), t6.kset x (by omega) (by omega) (by omega)⟩⟩
theorem c_wopn3 (g : gx) (n : Nat) {h : hp} {X L : Nat} {v : vw} {ls : lws} {la : Nat → Nat} (H0 : XI h X v L ls la) (hlt : vn v 3 < 24) : Call g n 0 0 m_X6_open [.ref (X + 1 + 7)] h (fun rv h' => rv = some (.int (nI (vn v 3))) ∧ Chg (xwd X) h h' ∧ ∃ row, XI h' X (vadd v 3 row) L ls la) := by
  obtain ⟨⟨g0, g1, gr⟩, t0, t1, t2, t3, t4, t5, t6⟩ := H0.2.1
  refine (c_X6_open g n t3.1).mono ?_
  rintro rv h2 ⟨rfl, rfl⟩
  rw [if_pos hlt, if_pos hlt]
  have hc : Chg (xwd X) h (setI h (X + 1 + 7) 3 (nI (vn v 3 + 1))) := Chg.sI (by unfold xwd; omega)
  exact ⟨rfl, hc, _, H0.kepw hc ⟨⟨g0, by rw [hI_setI, if_neg (by omega)]; exact g1, gr⟩, t0.kopn _ (by omega) (by omega) (by omega), t1.kopn _ (by omega) (by omega) (by omega), t2.kopn _ (by omega) (by omega) (by omega), t3.opn hlt (by omega), t4.kopn _ (by omega) (by omega) (by omega), t5.kopn _ (by omega) (by omega) (by omega), t6.kopn _ (by omega) (by omega) (by omega)⟩⟩
theorem XI.row3 {h : hp} {X L : Nat} {v : vw} {ls : lws} {la : Nat → Nat} {row : List Int32} {x0 x1 x2 x3 : Int32} (H : XI h X (vset (vset (vset (vset (vadd v 3 row) 3 (vn v 3) 0 x0) 3 (vn v 3) 1 x1) 3 (vn v 3) 2 x2) 3 (vn v 3) 3 x3) L ls la) : XI h X (vadd v 3 [x0, x1, x2, x3]) L ls la := by
  refine H.cg (fun i => rfl) (fun i r k hk => ?_) rfl
  simp only [vc_vset, vc_vadd]
  by_cases e : i = 3 ∧ r = vn v 3
  · obtain ⟨rfl, rfl⟩ := e
    have hk : k < 4 := hk
    have : k = 0 ∨ k = 1 ∨ k = 2 ∨ k = 3 := by omega
    rcases this with rfl | rfl | rfl | rfl <;> simp
  · rw [if_neg e]
    simp only [if_neg e, if_neg (fun q : i = 3 ∧ r = vn v 3 ∧ _ => e ⟨q.1, q.2.1⟩)]
theorem c_wset4 (g : gx) (n : Nat) {h : hp} {X L : Nat} {v : vw} {ls : lws} {la : Nat → Nat} (H0 : XI h X v L ls la) {r : Nat} (hr : r < vn v 4) (y : Int32) (k : Nat) (hy : y = nI k) (hk : k < 2) (x : Int32) : Call g n 0 0 m_X6_set [.ref (X + 1 + 9), .int (nI r), .int y, .int x] h (fun rv h' => rv = none ∧ Chg (xwd X) h h' ∧ XI h' X (vset v 4 r k x) L ls la) := by
  obtain ⟨⟨g0, g1, gr⟩, t0, t1, t2, t3, t4, t5, t6⟩ := H0.2.1
  have hm := t4.1.2.2.2.2.2.2.2
  subst hy
  refine (c_X6_set g n t4.1 (nI r) (nI k) x).mono ?_
  rintro rv h2 ⟨rfl, rfl⟩
  rw [if_pos ⟨inR_nI hr (by omega), inR_nI hk (by omega)⟩, nI_tn (by omega), nI_tn (by omega)]
  have hc : Chg (xwd X) h (setI h (X + 1 + 10) (r * 2 + k) x) := Chg.sI (by unfold xwd; omega)
  exact ⟨rfl, hc, H0.kepw hc ⟨⟨g0, by rw [hI_setI, if_neg (by omega)]; exact g1, gr⟩, t0.kset x (by omega) (by omega) (by omega), t1.kset x (by omega) (by omega) (by omega), t2.kset x (by omega) (by omega) (by omega), t3.kset x (by omega) (by omega) (by omega), t4.set x hk (by omega), t5.kset x (by omega) (by omega) (by omega), t6.kset x (by omega) (by omega) (by omega)⟩⟩
theorem c_wopn4 (g : gx) (n : Nat) {h : hp} {X L : Nat} {v : vw} {ls : lws} {la : Nat → Nat} (H0 : XI h X v L ls la) (hlt : vn v 4 < 96) : Call g n 0 0 m_X6_open [.ref (X + 1 + 9)] h (fun rv h' => rv = some (.int (nI (vn v 4))) ∧ Chg (xwd X) h h' ∧ ∃ row, XI h' X (vadd v 4 row) L ls la) := by
  obtain ⟨⟨g0, g1, gr⟩, t0, t1, t2, t3, t4, t5, t6⟩ := H0.2.1
  refine (c_X6_open g n t4.1).mono ?_
  rintro rv h2 ⟨rfl, rfl⟩
  rw [if_pos hlt, if_pos hlt]
  have hc : Chg (xwd X) h (setI h (X + 1 + 9) 3 (nI (vn v 4 + 1))) := Chg.sI (by unfold xwd; omega)
  exact ⟨rfl, hc, _, H0.kepw hc ⟨⟨g0, by rw [hI_setI, if_neg (by omega)]; exact g1, gr⟩, t0.kopn _ (by omega) (by omega) (by omega), t1.kopn _ (by omega) (by omega) (by omega), t2.kopn _ (by omega) (by omega) (by omega), t3.kopn _ (by omega) (by omega) (by omega), t4.opn hlt (by omega), t5.kopn _ (by omega) (by omega) (by omega), t6.kopn _ (by omega) (by omega) (by omega)⟩⟩
theorem XI.row4 {h : hp} {X L : Nat} {v : vw} {ls : lws} {la : Nat → Nat} {row : List Int32} {x0 x1 : Int32} (H : XI h X (vset (vset (vadd v 4 row) 4 (vn v 4) 0 x0) 4 (vn v 4) 1 x1) L ls la) : XI h X (vadd v 4 [x0, x1]) L ls la := by
  refine H.cg (fun i => rfl) (fun i r k hk => ?_) rfl
  simp only [vc_vset, vc_vadd]
  by_cases e : i = 4 ∧ r = vn v 4
  · obtain ⟨rfl, rfl⟩ := e
    have hk : k < 2 := hk
    have : k = 0 ∨ k = 1 := by omega
    rcases this with rfl | rfl <;> simp
  · rw [if_neg e]
    simp only [if_neg e, if_neg (fun q : i = 4 ∧ r = vn v 4 ∧ _ => e ⟨q.1, q.2.1⟩)]
theorem c_wset5 (g : gx) (n : Nat) {h : hp} {X L : Nat} {v : vw} {ls : lws} {la : Nat → Nat} (H0 : XI h X v L ls la) {r : Nat} (hr : r < vn v 5) (y : Int32) (k : Nat) (hy : y = nI k) (hk : k < 4) (x : Int32) : Call g n 0 0 m_X6_set [.ref (X + 1 + 11), .int (nI r), .int y, .int x] h (fun rv h' => rv = none ∧ Chg (xwd X) h h' ∧ XI h' X (vset v 5 r k x) L ls la) := by
  obtain ⟨⟨g0, g1, gr⟩, t0, t1, t2, t3, t4, t5, t6⟩ := H0.2.1
  have hm := t5.1.2.2.2.2.2.2.2
  subst hy
  refine (c_X6_set g n t5.1 (nI r) (nI k) x).mono ?_
  rintro rv h2 ⟨rfl, rfl⟩
  rw [if_pos ⟨inR_nI hr (by omega), inR_nI hk (by omega)⟩, nI_tn (by omega), nI_tn (by omega)]
  have hc : Chg (xwd X) h (setI h (X + 1 + 12) (r * 4 + k) x) := Chg.sI (by unfold xwd; omega)
  exact ⟨rfl, hc, H0.kepw hc ⟨⟨g0, by rw [hI_setI, if_neg (by omega)]; exact g1, gr⟩, t0.kset x (by omega) (by omega) (by omega), t1.kset x (by omega) (by omega) (by omega), t2.kset x (by omega) (by omega) (by omega), t3.kset x (by omega) (by omega) (by omega), t4.kset x (by omega) (by omega) (by omega), t5.set x hk (by omega), t6.kset x (by omega) (by omega) (by omega)⟩⟩
theorem c_wopn5 (g : gx) (n : Nat) {h : hp} {X L : Nat} {v : vw} {ls : lws} {la : Nat → Nat} (H0 : XI h X v L ls la) (hlt : vn v 5 < 200) : Call g n 0 0 m_X6_open [.ref (X + 1 + 11)] h (fun rv h' => rv = some (.int (nI (vn v 5))) ∧ Chg (xwd X) h h' ∧ ∃ row, XI h' X (vadd v 5 row) L ls la) := by
  obtain ⟨⟨g0, g1, gr⟩, t0, t1, t2, t3, t4, t5, t6⟩ := H0.2.1
  refine (c_X6_open g n t5.1).mono ?_
  rintro rv h2 ⟨rfl, rfl⟩
  rw [if_pos hlt, if_pos hlt]
  have hc : Chg (xwd X) h (setI h (X + 1 + 11) 3 (nI (vn v 5 + 1))) := Chg.sI (by unfold xwd; omega)
  exact ⟨rfl, hc, _, H0.kepw hc ⟨⟨g0, by rw [hI_setI, if_neg (by omega)]; exact g1, gr⟩, t0.kopn _ (by omega) (by omega) (by omega), t1.kopn _ (by omega) (by omega) (by omega), t2.kopn _ (by omega) (by omega) (by omega), t3.kopn _ (by omega) (by omega) (by omega), t4.kopn _ (by omega) (by omega) (by omega), t5.opn hlt (by omega), t6.kopn _ (by omega) (by omega) (by omega)⟩⟩
theorem XI.row5 {h : hp} {X L : Nat} {v : vw} {ls : lws} {la : Nat → Nat} {row : List Int32} {x0 x1 x2 x3 : Int32} (H : XI h X (vset (vset (vset (vset (vadd v 5 row) 5 (vn v 5) 0 x0) 5 (vn v 5) 1 x1) 5 (vn v 5) 2 x2) 5 (vn v 5) 3 x3) L ls la) : XI h X (vadd v 5 [x0, x1, x2, x3]) L ls la := by
  refine H.cg (fun i => rfl) (fun i r k hk => ?_) rfl
  simp only [vc_vset, vc_vadd]
  by_cases e : i = 5 ∧ r = vn v 5
  · obtain ⟨rfl, rfl⟩ := e
    have hk : k < 4 := hk
    have : k = 0 ∨ k = 1 ∨ k = 2 ∨ k = 3 := by omega
    rcases this with rfl | rfl | rfl | rfl <;> simp
  · rw [if_neg e]
    simp only [if_neg e, if_neg (fun q : i = 5 ∧ r = vn v 5 ∧ _ => e ⟨q.1, q.2.1⟩)]
theorem c_wset6 (g : gx) (n : Nat) {h : hp} {X L : Nat} {v : vw} {ls : lws} {la : Nat → Nat} (H0 : XI h X v L ls la) {r : Nat} (hr : r < vn v 6) (y : Int32) (k : Nat) (hy : y = nI k) (hk : k < 6) (x : Int32) : Call g n 0 0 m_X6_set [.ref (X + 1 + 13), .int (nI r), .int y, .int x] h (fun rv h' => rv = none ∧ Chg (xwd X) h h' ∧ XI h' X (vset v 6 r k x) L ls la) := by
  obtain ⟨⟨g0, g1, gr⟩, t0, t1, t2, t3, t4, t5, t6⟩ := H0.2.1
  have hm := t6.1.2.2.2.2.2.2.2
  subst hy
  refine (c_X6_set g n t6.1 (nI r) (nI k) x).mono ?_
  rintro rv h2 ⟨rfl, rfl⟩
  rw [if_pos ⟨inR_nI hr (by omega), inR_nI hk (by omega)⟩, nI_tn (by omega), nI_tn (by omega)]
  have hc : Chg (xwd X) h (setI h (X + 1 + 14) (r * 6 + k) x) := Chg.sI (by unfold xwd; omega)
  exact ⟨rfl, hc, H0.kepw hc ⟨⟨g0, by rw [hI_setI, if_neg (by omega)]; exact g1, gr⟩, t0.kset x (by omega) (by omega) (by omega), t1.kset x (by omega) (by omega) (by omega), t2.kset x (by omega) (by omega) (by omega), t3.kset x (by omega) (by omega) (by omega), t4.kset x (by omega) (by omega) (by omega), t5.kset x (by omega) (by omega) (by omega), t6.set x hk (by omega)⟩⟩
theorem c_wopn6 (g : gx) (n : Nat) {h : hp} {X L : Nat} {v : vw} {ls : lws} {la : Nat → Nat} (H0 : XI h X v L ls la) (hlt : vn v 6 < 60) : Call g n 0 0 m_X6_open [.ref (X + 1 + 13)] h (fun rv h' => rv = some (.int (nI (vn v 6))) ∧ Chg (xwd X) h h' ∧ ∃ row, XI h' X (vadd v 6 row) L ls la) := by
  obtain ⟨⟨g0, g1, gr⟩, t0, t1, t2, t3, t4, t5, t6⟩ := H0.2.1
  refine (c_X6_open g n t6.1).mono ?_
  rintro rv h2 ⟨rfl, rfl⟩
  rw [if_pos hlt, if_pos hlt]
  have hc : Chg (xwd X) h (setI h (X + 1 + 13) 3 (nI (vn v 6 + 1))) := Chg.sI (by unfold xwd; omega)
  exact ⟨rfl, hc, _, H0.kepw hc ⟨⟨g0, by rw [hI_setI, if_neg (by omega)]; exact g1, gr⟩, t0.kopn _ (by omega) (by omega) (by omega), t1.kopn _ (by omega) (by omega) (by omega), t2.kopn _ (by omega) (by omega) (by omega), t3.kopn _ (by omega) (by omega) (by omega), t4.kopn _ (by omega) (by omega) (by omega), t5.kopn _ (by omega) (by omega) (by omega), t6.opn hlt (by omega)⟩⟩
theorem XI.row6 {h : hp} {X L : Nat} {v : vw} {ls : lws} {la : Nat → Nat} {row : List Int32} {x0 x1 x2 x3 x4 x5 : Int32} (H : XI h X (vset (vset (vset (vset (vset (vset (vadd v 6 row) 6 (vn v 6) 0 x0) 6 (vn v 6) 1 x1) 6 (vn v 6) 2 x2) 6 (vn v 6) 3 x3) 6 (vn v 6) 4 x4) 6 (vn v 6) 5 x5) L ls la) : XI h X (vadd v 6 [x0, x1, x2, x3, x4, x5]) L ls la := by
  refine H.cg (fun i => rfl) (fun i r k hk => ?_) rfl
  simp only [vc_vset, vc_vadd]
  by_cases e : i = 6 ∧ r = vn v 6
  · obtain ⟨rfl, rfl⟩ := e
    have hk : k < 6 := hk
    have : k = 0 ∨ k = 1 ∨ k = 2 ∨ k = 3 ∨ k = 4 ∨ k = 5 := by omega
    rcases this with rfl | rfl | rfl | rfl | rfl | rfl <;> simp
  · rw [if_neg e]
    simp only [if_neg e, if_neg (fun q : i = 6 ∧ r = vn v 6 ∧ _ => e ⟨q.1, q.2.1⟩)]

