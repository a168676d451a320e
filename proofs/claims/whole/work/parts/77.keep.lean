/-! 77: the state stays as it must be -/
theorem inRup {N N' : Nat} {x : Int32} (h : inR N x) (hN : N ≤ N') : inR N' x := ⟨h.1, by have := h.2; omega⟩
theorem VOK.of {v v' : vw} {L : Nat} (V : VOK v L) (hc : vn v' 0 ≤ 12 ∧ vn v' 1 ≤ 24 ∧ vn v' 2 ≤ 200 ∧ vn v' 3 ≤ 24 ∧ vn v' 4 ≤ 96 ∧ vn v' 5 ≤ 200 ∧ vn v' 6 ≤ 60 ∧ inR 100 (vs v')) (n0 : vn v 0 ≤ vn v' 0) (n1 : vn v 1 ≤ vn v' 1) (n3 : vn v 3 ≤ vn v' 3)
  (t0 : ∀ r, r < vn v' 0 → (r < vn v 0 ∧ ∀ c, vc v' 0 r c = vc v 0 r c) ∨ ((vc v' 0 r 0 = -1 ∨ inR r (vc v' 0 r 0)) ∧ inR 4 (vc v' 0 r 1) ∧ inR 100 (vc v' 0 r 2) ∧ inR 100 (vc v' 0 r 3) ∧ (vc v' 0 r 4 = -1 ∨ inR L (vc v' 0 r 4))))
  (t1 : ∀ r, r < vn v' 1 → (r < vn v 1 ∧ ∀ c, vc v' 1 r c = vc v 1 r c) ∨ (inR 10 (vc v' 1 r 0) ∧ inR 10000 (vc v' 1 r 1) ∧ inR 4 (vc v' 1 r 2) ∧ inR (vn v' 0) (vc v' 1 r 3) ∧ inR 10 (vc v' 1 r 4) ∧ (vc v' 1 r 5 = -1 ∨ inR 2880 (vc v' 1 r 5))))
  (t2 : ∀ r, r < vn v' 2 → (r < vn v 2 ∧ ∀ c, vc v' 2 r c = vc v 2 r c) ∨ (inR (vn v' 1) (vc v' 2 r 0) ∧ inR 2880 (vc v' 2 r 1) ∧ inR 100 (vc v' 2 r 2) ∧ inR 100 (vc v' 2 r 3)))
  (t3 : ∀ r, r < vn v' 3 → (r < vn v 3 ∧ ∀ c, vc v' 3 r c = vc v 3 r c) ∨ (inR (vn v' 1) (vc v' 3 r 0) ∧ inR (vn v' 0) (vc v' 3 r 1) ∧ inR 2880 (vc v' 3 r 2) ∧ inR 2880 (vc v' 3 r 3)))
  (t4 : ∀ r, r < vn v' 4 → (r < vn v 4 ∧ ∀ c, vc v' 4 r c = vc v 4 r c) ∨ (inR (vn v' 0) (vc v' 4 r 0) ∧ inR (vn v' 1) (vc v' 4 r 1)))
  (t5 : ∀ r, r < vn v' 5 → (r < vn v 5 ∧ ∀ c, vc v' 5 r c = vc v 5 r c) ∨ ((vc v' 5 r 0 = 0 ∨ vc v' 5 r 0 = 1) ∧ inR (vn v' 1) (vc v' 5 r 2) ∧ (vc v' 5 r 3 = -1 ∨ inR 2880 (vc v' 5 r 3)) ∧ (vc v' 5 r 0 = 0 → inR (vn v' 1) (vc v' 5 r 1)) ∧ (vc v' 5 r 0 = 1 → inR (vn v' 3) (vc v' 5 r 1))))
  (t6 : ∀ r, r < vn v' 6 → (r < vn v 6 ∧ ∀ c, vc v' 6 r c = vc v 6 r c) ∨ (inR (vn v' 1) (vc v' 6 r 0) ∧ inR (vn v' 0) (vc v' 6 r 1) ∧ inR 10 (vc v' 6 r 2) ∧ inR 2880 (vc v' 6 r 3) ∧ inR 2880 (vc v' 6 r 4) ∧ inR 2880 (vc v' 6 r 5) ∧ (vc v' 6 r 3).toInt ≤ (vc v' 6 r 4).toInt))
  : VOK v' L := by
  refine ⟨hc, ?_, ?_, ?_, ?_, ?_, ?_, ?_⟩
  · intro r hr
    rcases t0 r hr with ⟨h, e⟩ | h
    · simp only [e]
      have q := V.2.1 r h
      exact q
    · exact h
  · intro r hr
    rcases t1 r hr with ⟨h, e⟩ | h
    · simp only [e]
      have q := V.2.2.1 r h
      exact ⟨q.1, q.2.1, q.2.2.1, inRup (q.2.2.2.1) n0, q.2.2.2.2⟩
    · exact h
  · intro r hr
    rcases t2 r hr with ⟨h, e⟩ | h
    · simp only [e]
      have q := V.2.2.2.1 r h
      exact ⟨inRup (q.1) n1, q.2⟩
    · exact h
  · intro r hr
    rcases t3 r hr with ⟨h, e⟩ | h
    · simp only [e]
      have q := V.2.2.2.2.1 r h
      exact ⟨inRup (q.1) n1, inRup (q.2.1) n0, q.2.2⟩
    · exact h
  · intro r hr
    rcases t4 r hr with ⟨h, e⟩ | h
    · simp only [e]
      have q := V.2.2.2.2.2.1 r h
      exact ⟨inRup (q.1) n0, inRup (q.2) n1⟩
    · exact h
  · intro r hr
    rcases t5 r hr with ⟨h, e⟩ | h
    · simp only [e]
      have q := V.2.2.2.2.2.2.1 r h
      exact ⟨q.1, inRup (q.2.1) n1, q.2.2.1, fun z => inRup ((q.2.2.2.1 z)) n1, fun z => inRup ((q.2.2.2.2 z)) n3⟩
    · exact h
  · intro r hr
    rcases t6 r hr with ⟨h, e⟩ | h
    · simp only [e]
      have q := V.2.2.2.2.2.2.2 r h
      exact ⟨inRup (q.1) n1, inRup (q.2.1) n0, q.2.2⟩
    · exact h
theorem VOK.add0 {v : vw} {L : Nat} (V : VOK v L) {x0 x1 x2 x3 x4 : Int32} (hlt : vn v 0 < 12) (q : (x0 = -1 ∨ inR (vn v 0) (x0)) ∧ inR 4 (x1) ∧ inR 100 (x2) ∧ inR 100 (x3) ∧ (x4 = -1 ∨ inR L (x4))) : VOK (vadd v 0 [x0, x1, x2, x3, x4]) L := by
  have n0 : vn v 0 ≤ vn (vadd v 0 [x0, x1, x2, x3, x4]) 0 := by rw [vn_vadd]; split <;> omega
  have n1 : vn v 1 ≤ vn (vadd v 0 [x0, x1, x2, x3, x4]) 1 := by rw [vn_vadd]; split <;> omega
  have n3 : vn v 3 ≤ vn (vadd v 0 [x0, x1, x2, x3, x4]) 3 := by rw [vn_vadd]; split <;> omega
  obtain ⟨c0, c1, c2, c3, c4, c5, c6, c7⟩ := V.1
  have ex : ∀ c, vc (vadd v 0 [x0, x1, x2, x3, x4]) 0 (vn v 0) c = ([x0, x1, x2, x3, x4] : List Int32).getD c 0 := fun c => by rw [vc_vadd, if_pos ⟨rfl, rfl⟩]
  have el : ∀ i r c, ¬ (i = 0 ∧ r = vn v 0) → vc (vadd v 0 [x0, x1, x2, x3, x4]) i r c = vc v i r c := fun i r c h => by rw [vc_vadd, if_neg h]
  refine V.of ⟨by rw [vn_vadd]; split <;> omega, by rw [vn_vadd]; split <;> omega, by rw [vn_vadd]; split <;> omega, by rw [vn_vadd]; split <;> omega, by rw [vn_vadd]; split <;> omega, by rw [vn_vadd]; split <;> omega, by rw [vn_vadd]; split <;> omega, c7⟩ n0 n1 n3 ?_ (fun r hr => Or.inl ⟨hr, fun c => el 1 r c (by omega)⟩) (fun r hr => Or.inl ⟨hr, fun c => el 2 r c (by omega)⟩) (fun r hr => Or.inl ⟨hr, fun c => el 3 r c (by omega)⟩) (fun r hr => Or.inl ⟨hr, fun c => el 4 r c (by omega)⟩) (fun r hr => Or.inl ⟨hr, fun c => el 5 r c (by omega)⟩) (fun r hr => Or.inl ⟨hr, fun c => el 6 r c (by omega)⟩)
  intro r hr
  by_cases e : r = vn v 0
  · subst e
    right
    simp only [ex]
    exact q
  · have hr : r < vn v 0 + 1 := hr
    exact Or.inl ⟨by omega, fun c => el 0 r c (fun h => e h.2)⟩
theorem VOK.add1 {v : vw} {L : Nat} (V : VOK v L) {x0 x1 x2 x3 x4 x5 : Int32} (hlt : vn v 1 < 24) (q : inR 10 (x0) ∧ inR 10000 (x1) ∧ inR 4 (x2) ∧ inR (vn v 0) (x3) ∧ inR 10 (x4) ∧ (x5 = -1 ∨ inR 2880 (x5))) : VOK (vadd v 1 [x0, x1, x2, x3, x4, x5]) L := by
  have n0 : vn v 0 ≤ vn (vadd v 1 [x0, x1, x2, x3, x4, x5]) 0 := by rw [vn_vadd]; split <;> omega
  have n1 : vn v 1 ≤ vn (vadd v 1 [x0, x1, x2, x3, x4, x5]) 1 := by rw [vn_vadd]; split <;> omega
  have n3 : vn v 3 ≤ vn (vadd v 1 [x0, x1, x2, x3, x4, x5]) 3 := by rw [vn_vadd]; split <;> omega
  obtain ⟨c0, c1, c2, c3, c4, c5, c6, c7⟩ := V.1
  have ex : ∀ c, vc (vadd v 1 [x0, x1, x2, x3, x4, x5]) 1 (vn v 1) c = ([x0, x1, x2, x3, x4, x5] : List Int32).getD c 0 := fun c => by rw [vc_vadd, if_pos ⟨rfl, rfl⟩]
  have el : ∀ i r c, ¬ (i = 1 ∧ r = vn v 1) → vc (vadd v 1 [x0, x1, x2, x3, x4, x5]) i r c = vc v i r c := fun i r c h => by rw [vc_vadd, if_neg h]
  refine V.of ⟨by rw [vn_vadd]; split <;> omega, by rw [vn_vadd]; split <;> omega, by rw [vn_vadd]; split <;> omega, by rw [vn_vadd]; split <;> omega, by rw [vn_vadd]; split <;> omega, by rw [vn_vadd]; split <;> omega, by rw [vn_vadd]; split <;> omega, c7⟩ n0 n1 n3 (fun r hr => Or.inl ⟨hr, fun c => el 0 r c (by omega)⟩) ?_ (fun r hr => Or.inl ⟨hr, fun c => el 2 r c (by omega)⟩) (fun r hr => Or.inl ⟨hr, fun c => el 3 r c (by omega)⟩) (fun r hr => Or.inl ⟨hr, fun c => el 4 r c (by omega)⟩) (fun r hr => Or.inl ⟨hr, fun c => el 5 r c (by omega)⟩) (fun r hr => Or.inl ⟨hr, fun c => el 6 r c (by omega)⟩)
  intro r hr
  by_cases e : r = vn v 1
  · subst e
    right
    simp only [ex]
    exact ⟨q.1, q.2.1, q.2.2.1, inRup (q.2.2.2.1) n0, q.2.2.2.2⟩
  · have hr : r < vn v 1 + 1 := hr
    exact Or.inl ⟨by omega, fun c => el 1 r c (fun h => e h.2)⟩
theorem VOK.add2 {v : vw} {L : Nat} (V : VOK v L) {x0 x1 x2 x3 : Int32} (hlt : vn v 2 < 200) (q : inR (vn v 1) (x0) ∧ inR 2880 (x1) ∧ inR 100 (x2) ∧ inR 100 (x3)) : VOK (vadd v 2 [x0, x1, x2, x3]) L := by
  have n0 : vn v 0 ≤ vn (vadd v 2 [x0, x1, x2, x3]) 0 := by rw [vn_vadd]; split <;> omega
  have n1 : vn v 1 ≤ vn (vadd v 2 [x0, x1, x2, x3]) 1 := by rw [vn_vadd]; split <;> omega
  have n3 : vn v 3 ≤ vn (vadd v 2 [x0, x1, x2, x3]) 3 := by rw [vn_vadd]; split <;> omega
  obtain ⟨c0, c1, c2, c3, c4, c5, c6, c7⟩ := V.1
  have ex : ∀ c, vc (vadd v 2 [x0, x1, x2, x3]) 2 (vn v 2) c = ([x0, x1, x2, x3] : List Int32).getD c 0 := fun c => by rw [vc_vadd, if_pos ⟨rfl, rfl⟩]
  have el : ∀ i r c, ¬ (i = 2 ∧ r = vn v 2) → vc (vadd v 2 [x0, x1, x2, x3]) i r c = vc v i r c := fun i r c h => by rw [vc_vadd, if_neg h]
  refine V.of ⟨by rw [vn_vadd]; split <;> omega, by rw [vn_vadd]; split <;> omega, by rw [vn_vadd]; split <;> omega, by rw [vn_vadd]; split <;> omega, by rw [vn_vadd]; split <;> omega, by rw [vn_vadd]; split <;> omega, by rw [vn_vadd]; split <;> omega, c7⟩ n0 n1 n3 (fun r hr => Or.inl ⟨hr, fun c => el 0 r c (by omega)⟩) (fun r hr => Or.inl ⟨hr, fun c => el 1 r c (by omega)⟩) ?_ (fun r hr => Or.inl ⟨hr, fun c => el 3 r c (by omega)⟩) (fun r hr => Or.inl ⟨hr, fun c => el 4 r c (by omega)⟩) (fun r hr => Or.inl ⟨hr, fun c => el 5 r c (by omega)⟩) (fun r hr => Or.inl ⟨hr, fun c => el 6 r c (by omega)⟩)
  intro r hr
  by_cases e : r = vn v 2
  · subst e
    right
    simp only [ex]
    exact ⟨inRup (q.1) n1, q.2⟩
  · have hr : r < vn v 2 + 1 := hr
    exact Or.inl ⟨by omega, fun c => el 2 r c (fun h => e h.2)⟩
theorem VOK.add3 {v : vw} {L : Nat} (V : VOK v L) {x0 x1 x2 x3 : Int32} (hlt : vn v 3 < 24) (q : inR (vn v 1) (x0) ∧ inR (vn v 0) (x1) ∧ inR 2880 (x2) ∧ inR 2880 (x3)) : VOK (vadd v 3 [x0, x1, x2, x3]) L := by
  have n0 : vn v 0 ≤ vn (vadd v 3 [x0, x1, x2, x3]) 0 := by rw [vn_vadd]; split <;> omega
  have n1 : vn v 1 ≤ vn (vadd v 3 [x0, x1, x2, x3]) 1 := by rw [vn_vadd]; split <;> omega
  have n3 : vn v 3 ≤ vn (vadd v 3 [x0, x1, x2, x3]) 3 := by rw [vn_vadd]; split <;> omega
  obtain ⟨c0, c1, c2, c3, c4, c5, c6, c7⟩ := V.1
  have ex : ∀ c, vc (vadd v 3 [x0, x1, x2, x3]) 3 (vn v 3) c = ([x0, x1, x2, x3] : List Int32).getD c 0 := fun c => by rw [vc_vadd, if_pos ⟨rfl, rfl⟩]
  have el : ∀ i r c, ¬ (i = 3 ∧ r = vn v 3) → vc (vadd v 3 [x0, x1, x2, x3]) i r c = vc v i r c := fun i r c h => by rw [vc_vadd, if_neg h]
  refine V.of ⟨by rw [vn_vadd]; split <;> omega, by rw [vn_vadd]; split <;> omega, by rw [vn_vadd]; split <;> omega, by rw [vn_vadd]; split <;> omega, by rw [vn_vadd]; split <;> omega, by rw [vn_vadd]; split <;> omega, by rw [vn_vadd]; split <;> omega, c7⟩ n0 n1 n3 (fun r hr => Or.inl ⟨hr, fun c => el 0 r c (by omega)⟩) (fun r hr => Or.inl ⟨hr, fun c => el 1 r c (by omega)⟩) (fun r hr => Or.inl ⟨hr, fun c => el 2 r c (by omega)⟩) ?_ (fun r hr => Or.inl ⟨hr, fun c => el 4 r c (by omega)⟩) (fun r hr => Or.inl ⟨hr, fun c => el 5 r c (by omega)⟩) (fun r hr => Or.inl ⟨hr, fun c => el 6 r c (by omega)⟩)
  intro r hr
  by_cases e : r = vn v 3
  · subst e
    right
    simp only [ex]
    exact ⟨inRup (q.1) n1, inRup (q.2.1) n0, q.2.2⟩
  · have hr : r < vn v 3 + 1 := hr
    exact Or.inl ⟨by omega, fun c => el 3 r c (fun h => e h.2)⟩
theorem VOK.add4 {v : vw} {L : Nat} (V : VOK v L) {x0 x1 : Int32} (hlt : vn v 4 < 96) (q : inR (vn v 0) (x0) ∧ inR (vn v 1) (x1)) : VOK (vadd v 4 [x0, x1]) L := by
  have n0 : vn v 0 ≤ vn (vadd v 4 [x0, x1]) 0 := by rw [vn_vadd]; split <;> omega
  have n1 : vn v 1 ≤ vn (vadd v 4 [x0, x1]) 1 := by rw [vn_vadd]; split <;> omega
  have n3 : vn v 3 ≤ vn (vadd v 4 [x0, x1]) 3 := by rw [vn_vadd]; split <;> omega
  obtain ⟨c0, c1, c2, c3, c4, c5, c6, c7⟩ := V.1
  have ex : ∀ c, vc (vadd v 4 [x0, x1]) 4 (vn v 4) c = ([x0, x1] : List Int32).getD c 0 := fun c => by rw [vc_vadd, if_pos ⟨rfl, rfl⟩]
  have el : ∀ i r c, ¬ (i = 4 ∧ r = vn v 4) → vc (vadd v 4 [x0, x1]) i r c = vc v i r c := fun i r c h => by rw [vc_vadd, if_neg h]
  refine V.of ⟨by rw [vn_vadd]; split <;> omega, by rw [vn_vadd]; split <;> omega, by rw [vn_vadd]; split <;> omega, by rw [vn_vadd]; split <;> omega, by rw [vn_vadd]; split <;> omega, by rw [vn_vadd]; split <;> omega, by rw [vn_vadd]; split <;> omega, c7⟩ n0 n1 n3 (fun r hr => Or.inl ⟨hr, fun c => el 0 r c (by omega)⟩) (fun r hr => Or.inl ⟨hr, fun c => el 1 r c (by omega)⟩) (fun r hr => Or.inl ⟨hr, fun c => el 2 r c (by omega)⟩) (fun r hr => Or.inl ⟨hr, fun c => el 3 r c (by omega)⟩) ?_ (fun r hr => Or.inl ⟨hr, fun c => el 5 r c (by omega)⟩) (fun r hr => Or.inl ⟨hr, fun c => el 6 r c (by omega)⟩)
  intro r hr
  by_cases e : r = vn v 4
  · subst e
    right
    simp only [ex]
    exact ⟨inRup (q.1) n0, inRup (q.2) n1⟩
  · have hr : r < vn v 4 + 1 := hr
    exact Or.inl ⟨by omega, fun c => el 4 r c (fun h => e h.2)⟩
theorem VOK.add5 {v : vw} {L : Nat} (V : VOK v L) {x0 x1 x2 x3 : Int32} (hlt : vn v 5 < 200) (q : (x0 = 0 ∨ x0 = 1) ∧ inR (vn v 1) (x2) ∧ (x3 = -1 ∨ inR 2880 (x3)) ∧ (x0 = 0 → inR (vn v 1) (x1)) ∧ (x0 = 1 → inR (vn v 3) (x1))) : VOK (vadd v 5 [x0, x1, x2, x3]) L := by
  have n0 : vn v 0 ≤ vn (vadd v 5 [x0, x1, x2, x3]) 0 := by rw [vn_vadd]; split <;> omega
  have n1 : vn v 1 ≤ vn (vadd v 5 [x0, x1, x2, x3]) 1 := by rw [vn_vadd]; split <;> omega
  have n3 : vn v 3 ≤ vn (vadd v 5 [x0, x1, x2, x3]) 3 := by rw [vn_vadd]; split <;> omega
  obtain ⟨c0, c1, c2, c3, c4, c5, c6, c7⟩ := V.1
  have ex : ∀ c, vc (vadd v 5 [x0, x1, x2, x3]) 5 (vn v 5) c = ([x0, x1, x2, x3] : List Int32).getD c 0 := fun c => by rw [vc_vadd, if_pos ⟨rfl, rfl⟩]
  have el : ∀ i r c, ¬ (i = 5 ∧ r = vn v 5) → vc (vadd v 5 [x0, x1, x2, x3]) i r c = vc v i r c := fun i r c h => by rw [vc_vadd, if_neg h]
  refine V.of ⟨by rw [vn_vadd]; split <;> omega, by rw [vn_vadd]; split <;> omega, by rw [vn_vadd]; split <;> omega, by rw [vn_vadd]; split <;> omega, by rw [vn_vadd]; split <;> omega, by rw [vn_vadd]; split <;> omega, by rw [vn_vadd]; split <;> omega, c7⟩ n0 n1 n3 (fun r hr => Or.inl ⟨hr, fun c => el 0 r c (by omega)⟩) (fun r hr => Or.inl ⟨hr, fun c => el 1 r c (by omega)⟩) (fun r hr => Or.inl ⟨hr, fun c => el 2 r c (by omega)⟩) (fun r hr => Or.inl ⟨hr, fun c => el 3 r c (by omega)⟩) (fun r hr => Or.inl ⟨hr, fun c => el 4 r c (by omega)⟩) ?_ (fun r hr => Or.inl ⟨hr, fun c => el 6 r c (by omega)⟩)
  intro r hr
  by_cases e : r = vn v 5
  · subst e
    right
    simp only [ex]
    exact ⟨q.1, inRup (q.2.1) n1, q.2.2.1, fun z => inRup ((q.2.2.2.1 z)) n1, fun z => inRup ((q.2.2.2.2 z)) n3⟩
  · have hr : r < vn v 5 + 1 := hr
    exact Or.inl ⟨by omega, fun c => el 5 r c (fun h => e h.2)⟩
theorem VOK.add6 {v : vw} {L : Nat} (V : VOK v L) {x0 x1 x2 x3 x4 x5 : Int32} (hlt : vn v 6 < 60) (q : inR (vn v 1) (x0) ∧ inR (vn v 0) (x1) ∧ inR 10 (x2) ∧ inR 2880 (x3) ∧ inR 2880 (x4) ∧ inR 2880 (x5) ∧ (x3).toInt ≤ (x4).toInt) : VOK (vadd v 6 [x0, x1, x2, x3, x4, x5]) L := by
  have n0 : vn v 0 ≤ vn (vadd v 6 [x0, x1, x2, x3, x4, x5]) 0 := by rw [vn_vadd]; split <;> omega
  have n1 : vn v 1 ≤ vn (vadd v 6 [x0, x1, x2, x3, x4, x5]) 1 := by rw [vn_vadd]; split <;> omega
  have n3 : vn v 3 ≤ vn (vadd v 6 [x0, x1, x2, x3, x4, x5]) 3 := by rw [vn_vadd]; split <;> omega
  obtain ⟨c0, c1, c2, c3, c4, c5, c6, c7⟩ := V.1
  have ex : ∀ c, vc (vadd v 6 [x0, x1, x2, x3, x4, x5]) 6 (vn v 6) c = ([x0, x1, x2, x3, x4, x5] : List Int32).getD c 0 := fun c => by rw [vc_vadd, if_pos ⟨rfl, rfl⟩]
  have el : ∀ i r c, ¬ (i = 6 ∧ r = vn v 6) → vc (vadd v 6 [x0, x1, x2, x3, x4, x5]) i r c = vc v i r c := fun i r c h => by rw [vc_vadd, if_neg h]
  refine V.of ⟨by rw [vn_vadd]; split <;> omega, by rw [vn_vadd]; split <;> omega, by rw [vn_vadd]; split <;> omega, by rw [vn_vadd]; split <;> omega, by rw [vn_vadd]; split <;> omega, by rw [vn_vadd]; split <;> omega, by rw [vn_vadd]; split <;> omega, c7⟩ n0 n1 n3 (fun r hr => Or.inl ⟨hr, fun c => el 0 r c (by omega)⟩) (fun r hr => Or.inl ⟨hr, fun c => el 1 r c (by omega)⟩) (fun r hr => Or.inl ⟨hr, fun c => el 2 r c (by omega)⟩) (fun r hr => Or.inl ⟨hr, fun c => el 3 r c (by omega)⟩) (fun r hr => Or.inl ⟨hr, fun c => el 4 r c (by omega)⟩) (fun r hr => Or.inl ⟨hr, fun c => el 5 r c (by omega)⟩) ?_
  intro r hr
  by_cases e : r = vn v 6
  · subst e
    right
    simp only [ex]
    exact ⟨inRup (q.1) n1, inRup (q.2.1) n0, q.2.2⟩
  · have hr : r < vn v 6 + 1 := hr
    exact Or.inl ⟨by omega, fun c => el 6 r c (fun h => e h.2)⟩
theorem VOK.fal {v : vw} {L : Nat} (V : VOK v L) {k : Nat} {m : Int32} (hm : inR 2880 m) : VOK (vset v 1 k 5 m) L := by
  refine V.of V.1 (Nat.le_refl _) (Nat.le_refl _) (Nat.le_refl _) (fun r hr => Or.inl ⟨hr, fun c => by rw [vc_vset, if_neg (by omega)]⟩) ?_ (fun r hr => Or.inl ⟨hr, fun c => by rw [vc_vset, if_neg (by omega)]⟩) (fun r hr => Or.inl ⟨hr, fun c => by rw [vc_vset, if_neg (by omega)]⟩) (fun r hr => Or.inl ⟨hr, fun c => by rw [vc_vset, if_neg (by omega)]⟩) (fun r hr => Or.inl ⟨hr, fun c => by rw [vc_vset, if_neg (by omega)]⟩) (fun r hr => Or.inl ⟨hr, fun c => by rw [vc_vset, if_neg (by omega)]⟩)
  intro r hr
  right
  have q := V.2.2.1 r hr
  refine ⟨by rw [vc_vset, if_neg (by omega)]; exact q.1, by rw [vc_vset, if_neg (by omega)]; exact q.2.1, by rw [vc_vset, if_neg (by omega)]; exact q.2.2.1, by rw [vc_vset, if_neg (by omega)]; exact q.2.2.2.1, by rw [vc_vset, if_neg (by omega)]; exact q.2.2.2.2.1, ?_⟩
  rw [vc_vset]
  split
  · exact Or.inr hm
  · exact q.2.2.2.2.2
theorem VOK.sig {v : vw} {L : Nat} (V : VOK v L) {x : Int32} (hx : inR 100 x) : VOK (vsig v x) L := by
  obtain ⟨⟨c0, c1, c2, c3, c4, c5, c6, c7⟩, V2⟩ := V
  exact ⟨⟨c0, c1, c2, c3, c4, c5, c6, hx⟩, V2⟩

