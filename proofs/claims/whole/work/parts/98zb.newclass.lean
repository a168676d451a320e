/-! 98zb: the class: its constructor -/
theorem RdAt.cg2 {h h' : hp} {a : Nat} (H : RdAt h a) (e : ∀ b, a ≤ b → b ≤ a + 8 → hp_eq h h' b) : RdAt h' a := by
  have k : ∀ b, a ≤ b → b ≤ a + 8 → hK h' b = hK h b := fun b h1 h2 => (e b h1 h2).1
  have n : ∀ b, a ≤ b → b ≤ a + 8 → hN h' b = hN h b := fun b h1 h2 => (e b h1 h2).2.1
  have r : ∀ b, a ≤ b → b ≤ a + 8 → ∀ j, hR h' b j = hR h b j := fun b h1 h2 => (e b h1 h2).2.2.2.2
  unfold RdAt at H ⊢
  simp (disch := omega) only [k, n, r]
  exact H
theorem RkAt.cg2 {h h' : hp} {a : Nat} (H : RkAt h a) (e : ∀ b, a ≤ b → b ≤ a + 2 → hp_eq h h' b) : RkAt h' a := by
  have k : ∀ b, a ≤ b → b ≤ a + 2 → hK h' b = hK h b := fun b h1 h2 => (e b h1 h2).1
  have n : ∀ b, a ≤ b → b ≤ a + 2 → hN h' b = hN h b := fun b h1 h2 => (e b h1 h2).2.1
  have r : ∀ b, a ≤ b → b ≤ a + 2 → ∀ j, hR h' b j = hR h b j := fun b h1 h2 => (e b h1 h2).2.2.2.2
  unfold RkAt at H ⊢
  simp (disch := omega) only [k, n, r]
  exact H
theorem FcAt.cg2 {h h' : hp} {a : Nat} (H : FcAt h a) (e : ∀ b, a ≤ b → b ≤ a + 6 → hp_eq h h' b) : FcAt h' a := by
  have k : ∀ b, a ≤ b → b ≤ a + 6 → hK h' b = hK h b := fun b h1 h2 => (e b h1 h2).1
  have n : ∀ b, a ≤ b → b ≤ a + 6 → hN h' b = hN h b := fun b h1 h2 => (e b h1 h2).2.1
  have r : ∀ b, a ≤ b → b ≤ a + 6 → ∀ j, hR h' b j = hR h b j := fun b h1 h2 => (e b h1 h2).2.2.2.2
  unfold FcAt PlAt at H ⊢
  simp (disch := omega) only [k, n, r]
  exact H
theorem KnAt.cg2 {h h' : hp} {a : Nat} (H : KnAt h a) (e : ∀ b, a ≤ b → b ≤ a + 8 → hp_eq h h' b) : KnAt h' a := by
  have k : ∀ b, a ≤ b → b ≤ a + 8 → hK h' b = hK h b := fun b h1 h2 => (e b h1 h2).1
  have n : ∀ b, a ≤ b → b ≤ a + 8 → hN h' b = hN h b := fun b h1 h2 => (e b h1 h2).2.1
  have r : ∀ b, a ≤ b → b ≤ a + 8 → ∀ j, hR h' b j = hR h b j := fun b h1 h2 => (e b h1 h2).2.2.2.2
  unfold KnAt PlAt at H ⊢
  simp (disch := omega) only [k, n, r]
  exact H
/-- G', as G below e, with field f of X set -/
theorem Nv {G G' : hp} {X e f : Nat} (ae : X < e) (q : ∀ b, b < e → hp_eq G G' b) : hR (setR G' X f (some e)) X f = some e ∧ (∀ j, ¬ j = f → hR (setR G' X f (some e)) X j = hR G X j) ∧ (∀ b, b < e → ¬ b = X → hp_eq G (setR G' X f (some e)) b) ∧ hK (setR G' X f (some e)) X = hK G X ∧ (∀ j, hI (setR G' X f (some e)) X j = hI G X j) ∧ hK G' X = hK G X :=
  ⟨by rw [hR_setR, if_pos ⟨rfl, rfl⟩], fun j hj => by rw [hR_setR, if_neg (fun x => hj x.2)]; exact (q X ae).2.2.2.2 j, fun b hb e => hp_eq.tr (q b hb) (hp_eq_sR2 e), (q X ae).1, fun j => (q X ae).2.2.1 j, (q X ae).1⟩
/-- e cells stand from X on, X is the class's object -/
def XB (h : hp) (X e : Nat) (G : hp) : Prop := hZ G = X + e ∧ hK G X = 9 ∧ ∀ b, b < X → hp_eq h G b
theorem XB.mk {h G : hp} {X e q l : Nat} (B : XB h X e G) (e0 : 0 < e) : hK (mkC G q l) X = 9 := by
  have := B.1
  rw [hK_mkC, if_neg (by omega)]
  exact B.2.1
theorem XB.r {h G G' : hp} {X e e2 f : Nat} (B : XB h X e G) (e0 : 0 < e) (z : hZ G' = X + e2) (q : ∀ b, b < X + e → hp_eq G G' b) : XB h X e2 (setR G' X f (some (X + e))) :=
  ⟨z, ((q X (by omega)).1).trans B.2.1, fun b hb => hp_eq.tr (B.2.2 b hb) (hp_eq.tr (q b (by omega)) (hp_eq_sR2 (by omega)))⟩

def XJ1 (X : Nat) (G : hp) : Prop := (hR G X 0 = some (X + 1) ∧ ∀ v, vE v → WRep G (X + 1) v)

def XJ2 (X : Nat) (G : hp) : Prop := (hR G X 0 = some (X + 1) ∧ ∀ v, vE v → WRep G (X + 1) v) ∧ (hR G X 1 = some (X + 16) ∧ hK G (X + 16) = 24 ∧ hN G (X + 16) = 4 ∧ ∀ j, hR G (X + 16) j = none)

def XJ3 (X : Nat) (G : hp) : Prop := (hR G X 0 = some (X + 1) ∧ ∀ v, vE v → WRep G (X + 1) v) ∧ (hR G X 1 = some (X + 16) ∧ hK G (X + 16) = 24 ∧ hN G (X + 16) = 4 ∧ ∀ j, hR G (X + 16) j = none) ∧ (hR G X 2 = some (X + 17) ∧ hK G (X + 17) = 25 ∧ hN G (X + 17) = 8)

def XJ4 (X : Nat) (G : hp) : Prop := (hR G X 0 = some (X + 1) ∧ ∀ v, vE v → WRep G (X + 1) v) ∧ (hR G X 1 = some (X + 16) ∧ hK G (X + 16) = 24 ∧ hN G (X + 16) = 4 ∧ ∀ j, hR G (X + 16) j = none) ∧ (hR G X 2 = some (X + 17) ∧ hK G (X + 17) = 25 ∧ hN G (X + 17) = 8) ∧ hI G X 3 = 0

def XJ5 (X : Nat) (G : hp) : Prop := (hR G X 0 = some (X + 1) ∧ ∀ v, vE v → WRep G (X + 1) v) ∧ (hR G X 1 = some (X + 16) ∧ hK G (X + 16) = 24 ∧ hN G (X + 16) = 4 ∧ ∀ j, hR G (X + 16) j = none) ∧ (hR G X 2 = some (X + 17) ∧ hK G (X + 17) = 25 ∧ hN G (X + 17) = 8) ∧ hI G X 3 = 0 ∧ (hR G X 4 = some (X + 18) ∧ hK G (X + 18) = 20 ∧ hN G (X + 18) = 400)

def XJ6 (X : Nat) (G : hp) : Prop := (hR G X 0 = some (X + 1) ∧ ∀ v, vE v → WRep G (X + 1) v) ∧ (hR G X 1 = some (X + 16) ∧ hK G (X + 16) = 24 ∧ hN G (X + 16) = 4 ∧ ∀ j, hR G (X + 16) j = none) ∧ (hR G X 2 = some (X + 17) ∧ hK G (X + 17) = 25 ∧ hN G (X + 17) = 8) ∧ hI G X 3 = 0 ∧ (hR G X 4 = some (X + 18) ∧ hK G (X + 18) = 20 ∧ hN G (X + 18) = 400) ∧ hI G X 5 = 0

def XJ7 (X : Nat) (G : hp) : Prop := (hR G X 0 = some (X + 1) ∧ ∀ v, vE v → WRep G (X + 1) v) ∧ (hR G X 1 = some (X + 16) ∧ hK G (X + 16) = 24 ∧ hN G (X + 16) = 4 ∧ ∀ j, hR G (X + 16) j = none) ∧ (hR G X 2 = some (X + 17) ∧ hK G (X + 17) = 25 ∧ hN G (X + 17) = 8) ∧ hI G X 3 = 0 ∧ (hR G X 4 = some (X + 18) ∧ hK G (X + 18) = 20 ∧ hN G (X + 18) = 400) ∧ hI G X 5 = 0 ∧ (hR G X 6 = some (X + 19) ∧ RdAt G (X + 19))

def XJ8 (X : Nat) (G : hp) : Prop := (hR G X 0 = some (X + 1) ∧ ∀ v, vE v → WRep G (X + 1) v) ∧ (hR G X 1 = some (X + 16) ∧ hK G (X + 16) = 24 ∧ hN G (X + 16) = 4 ∧ ∀ j, hR G (X + 16) j = none) ∧ (hR G X 2 = some (X + 17) ∧ hK G (X + 17) = 25 ∧ hN G (X + 17) = 8) ∧ hI G X 3 = 0 ∧ (hR G X 4 = some (X + 18) ∧ hK G (X + 18) = 20 ∧ hN G (X + 18) = 400) ∧ hI G X 5 = 0 ∧ (hR G X 6 = some (X + 19) ∧ RdAt G (X + 19)) ∧ (hR G X 7 = some (X + 28) ∧ FcAt G (X + 28))

def XJ9 (X : Nat) (G : hp) : Prop := (hR G X 0 = some (X + 1) ∧ ∀ v, vE v → WRep G (X + 1) v) ∧ (hR G X 1 = some (X + 16) ∧ hK G (X + 16) = 24 ∧ hN G (X + 16) = 4 ∧ ∀ j, hR G (X + 16) j = none) ∧ (hR G X 2 = some (X + 17) ∧ hK G (X + 17) = 25 ∧ hN G (X + 17) = 8) ∧ hI G X 3 = 0 ∧ (hR G X 4 = some (X + 18) ∧ hK G (X + 18) = 20 ∧ hN G (X + 18) = 400) ∧ hI G X 5 = 0 ∧ (hR G X 6 = some (X + 19) ∧ RdAt G (X + 19)) ∧ (hR G X 7 = some (X + 28) ∧ FcAt G (X + 28)) ∧ (hR G X 8 = some (X + 35) ∧ RkAt G (X + 35))

def XJ10 (X : Nat) (G : hp) : Prop := (hR G X 0 = some (X + 1) ∧ ∀ v, vE v → WRep G (X + 1) v) ∧ (hR G X 1 = some (X + 16) ∧ hK G (X + 16) = 24 ∧ hN G (X + 16) = 4 ∧ ∀ j, hR G (X + 16) j = none) ∧ (hR G X 2 = some (X + 17) ∧ hK G (X + 17) = 25 ∧ hN G (X + 17) = 8) ∧ hI G X 3 = 0 ∧ (hR G X 4 = some (X + 18) ∧ hK G (X + 18) = 20 ∧ hN G (X + 18) = 400) ∧ hI G X 5 = 0 ∧ (hR G X 6 = some (X + 19) ∧ RdAt G (X + 19)) ∧ (hR G X 7 = some (X + 28) ∧ FcAt G (X + 28)) ∧ (hR G X 8 = some (X + 35) ∧ RkAt G (X + 35)) ∧ (hR G X 9 = some (X + 38) ∧ KnAt G (X + 38))

def XJ11 (X : Nat) (G : hp) : Prop := (hR G X 0 = some (X + 1) ∧ ∀ v, vE v → WRep G (X + 1) v) ∧ (hR G X 1 = some (X + 16) ∧ hK G (X + 16) = 24 ∧ hN G (X + 16) = 4 ∧ ∀ j, hR G (X + 16) j = none) ∧ (hR G X 2 = some (X + 17) ∧ hK G (X + 17) = 25 ∧ hN G (X + 17) = 8) ∧ hI G X 3 = 0 ∧ (hR G X 4 = some (X + 18) ∧ hK G (X + 18) = 20 ∧ hN G (X + 18) = 400) ∧ hI G X 5 = 0 ∧ (hR G X 6 = some (X + 19) ∧ RdAt G (X + 19)) ∧ (hR G X 7 = some (X + 28) ∧ FcAt G (X + 28)) ∧ (hR G X 8 = some (X + 35) ∧ RkAt G (X + 35)) ∧ (hR G X 9 = some (X + 38) ∧ KnAt G (X + 38)) ∧ (hR G X 10 = some (X + 47) ∧ hK G (X + 47) = 20 ∧ hN G (X + 47) = 10)

theorem xj1 {h G G2 : hp} {X : Nat} (B : XB h X 1 G) (z2 : hZ G2 = X + 16) (q : ∀ b, b < X + 1 → hp_eq (mkC G 8 0) G2 b) (P : ∀ v, vE v → WRep G2 (X + 1) v) : XB h X 16 (setR G2 X 0 (some (X + 1))) ∧ XJ1 X (setR G2 X 0 (some (X + 1))) ∧ hK G2 X = 9 := by
  have z := B.1
  have m : ∀ b, b < X + 1 → hp_eq G G2 b := fun b hb => hp_eq.tr (hp_eq_mkC (by omega)) (q b hb)
  obtain ⟨r, fl, en, -, ig0, l⟩ := Nv (X := X) (e := X + 1) (f := 0) (by omega) m
  have ig : ∀ j, 0 ≤ j → hI (setR G2 X 0 (some (X + 1))) X j = hI G X j := fun j _ => ig0 j
  exact ⟨B.r (by omega) z2 m, ⟨r, fun v E => (P v E).cg2 (fun b h1 h2 => hp_eq_sR2 (by omega))⟩, l.trans B.2.1⟩

theorem xj2 {h G : hp} {X : Nat} (B : XB h X 16 G) (J : XJ1 X G) : XB h X 17 (setR (mkC G 24 4) X 1 (some (X + 16))) ∧ XJ2 X (setR (mkC G 24 4) X 1 (some (X + 16))) := by
  have z := B.1
  have m : ∀ b, b < X + 16 → hp_eq G (mkC G 24 4) b := fun b hb => hp_eq_mkC (by omega)
  obtain ⟨r, fl, en, -, ig0, -⟩ := Nv (X := X) (e := X + 16) (f := 1) (by omega) m
  have ig : ∀ j, 0 ≤ j → hI (setR (mkC G 24 4) X 1 (some (X + 16))) X j = hI G X j := fun j _ => ig0 j
  have q1 : (hR G X 0 = some (X + 1) ∧ ∀ v, vE v → WRep G (X + 1) v) := J
  exact ⟨B.r (by omega) (by rw [hZ_mkC, z]) m, ⟨(fl 0 (by omega)).trans q1.1, fun v E => (q1.2 v E).cg2 (fun b h1 h2 => en b (by omega) (by omega))⟩, ⟨r, by rw [hK_setR, hK_mkC, if_pos B.1.symm], by rw [hN_setR, hN_mkC, if_pos B.1.symm], fun j => by rw [hR_setR, if_neg (by omega), hR_mkC, if_pos B.1.symm]⟩⟩

theorem xj3 {h G : hp} {X : Nat} (B : XB h X 17 G) (J : XJ2 X G) : XB h X 18 (setR (mkC G 25 8) X 2 (some (X + 17))) ∧ XJ3 X (setR (mkC G 25 8) X 2 (some (X + 17))) := by
  have z := B.1
  have m : ∀ b, b < X + 17 → hp_eq G (mkC G 25 8) b := fun b hb => hp_eq_mkC (by omega)
  obtain ⟨r, fl, en, -, ig0, -⟩ := Nv (X := X) (e := X + 17) (f := 2) (by omega) m
  have ig : ∀ j, 0 ≤ j → hI (setR (mkC G 25 8) X 2 (some (X + 17))) X j = hI G X j := fun j _ => ig0 j
  obtain ⟨q1, q2⟩ := J
  exact ⟨B.r (by omega) (by rw [hZ_mkC, z]) m, ⟨(fl 0 (by omega)).trans q1.1, fun v E => (q1.2 v E).cg2 (fun b h1 h2 => en b (by omega) (by omega))⟩, ⟨(fl 1 (by omega)).trans q2.1, (en _ (by omega) (by omega)).1.trans q2.2.1, (en _ (by omega) (by omega)).2.1.trans q2.2.2.1, fun j => ((en _ (by omega) (by omega)).2.2.2.2 j).trans (q2.2.2.2 j)⟩, ⟨r, by rw [hK_setR, hK_mkC, if_pos B.1.symm], by rw [hN_setR, hN_mkC, if_pos B.1.symm]⟩⟩

theorem xj4 {h G : hp} {X : Nat} (B : XB h X 18 G) (J : XJ3 X G) : XB h X 18 (setI G X 3 0) ∧ XJ4 X (setI G X 3 0) := by
  have en : ∀ b, b < X + 18 → ¬ b = X → hp_eq G (setI G X 3 0) b := fun b _ hb => hp_eq_sI2 hb
  have fl : ∀ j, 0 ≤ j → hR (setI G X 3 0) X j = hR G X j := fun _ _ => rfl
  have ig : ∀ j, ¬ j = 3 → hI (setI G X 3 0) X j = hI G X j := fun j hj => by rw [hI_setI, if_neg (fun x => hj x.2)]
  obtain ⟨q1, q2, q3⟩ := J
  exact ⟨⟨B.1, B.2.1, fun b hb => hp_eq.tr (B.2.2 b hb) (hp_eq_sI2 (by omega))⟩, ⟨(fl 0 (by omega)).trans q1.1, fun v E => (q1.2 v E).cg2 (fun b h1 h2 => en b (by omega) (by omega))⟩, ⟨(fl 1 (by omega)).trans q2.1, (en _ (by omega) (by omega)).1.trans q2.2.1, (en _ (by omega) (by omega)).2.1.trans q2.2.2.1, fun j => ((en _ (by omega) (by omega)).2.2.2.2 j).trans (q2.2.2.2 j)⟩, ⟨(fl 2 (by omega)).trans q3.1, (en _ (by omega) (by omega)).1.trans q3.2.1, (en _ (by omega) (by omega)).2.1.trans q3.2.2⟩, by rw [hI_setI, if_pos ⟨rfl, rfl⟩]⟩

theorem xj5 {h G : hp} {X : Nat} (B : XB h X 18 G) (J : XJ4 X G) : XB h X 19 (setR (mkC G 20 400) X 4 (some (X + 18))) ∧ XJ5 X (setR (mkC G 20 400) X 4 (some (X + 18))) := by
  have z := B.1
  have m : ∀ b, b < X + 18 → hp_eq G (mkC G 20 400) b := fun b hb => hp_eq_mkC (by omega)
  obtain ⟨r, fl, en, -, ig0, -⟩ := Nv (X := X) (e := X + 18) (f := 4) (by omega) m
  have ig : ∀ j, 0 ≤ j → hI (setR (mkC G 20 400) X 4 (some (X + 18))) X j = hI G X j := fun j _ => ig0 j
  obtain ⟨q1, q2, q3, q4⟩ := J
  exact ⟨B.r (by omega) (by rw [hZ_mkC, z]) m, ⟨(fl 0 (by omega)).trans q1.1, fun v E => (q1.2 v E).cg2 (fun b h1 h2 => en b (by omega) (by omega))⟩, ⟨(fl 1 (by omega)).trans q2.1, (en _ (by omega) (by omega)).1.trans q2.2.1, (en _ (by omega) (by omega)).2.1.trans q2.2.2.1, fun j => ((en _ (by omega) (by omega)).2.2.2.2 j).trans (q2.2.2.2 j)⟩, ⟨(fl 2 (by omega)).trans q3.1, (en _ (by omega) (by omega)).1.trans q3.2.1, (en _ (by omega) (by omega)).2.1.trans q3.2.2⟩, (ig 3 (by omega)).trans q4, ⟨r, by rw [hK_setR, hK_mkC, if_pos B.1.symm], by rw [hN_setR, hN_mkC, if_pos B.1.symm]⟩⟩

theorem xj6 {h G : hp} {X : Nat} (B : XB h X 19 G) (J : XJ5 X G) : XB h X 19 (setI G X 5 0) ∧ XJ6 X (setI G X 5 0) := by
  have en : ∀ b, b < X + 19 → ¬ b = X → hp_eq G (setI G X 5 0) b := fun b _ hb => hp_eq_sI2 hb
  have fl : ∀ j, 0 ≤ j → hR (setI G X 5 0) X j = hR G X j := fun _ _ => rfl
  have ig : ∀ j, ¬ j = 5 → hI (setI G X 5 0) X j = hI G X j := fun j hj => by rw [hI_setI, if_neg (fun x => hj x.2)]
  obtain ⟨q1, q2, q3, q4, q5⟩ := J
  exact ⟨⟨B.1, B.2.1, fun b hb => hp_eq.tr (B.2.2 b hb) (hp_eq_sI2 (by omega))⟩, ⟨(fl 0 (by omega)).trans q1.1, fun v E => (q1.2 v E).cg2 (fun b h1 h2 => en b (by omega) (by omega))⟩, ⟨(fl 1 (by omega)).trans q2.1, (en _ (by omega) (by omega)).1.trans q2.2.1, (en _ (by omega) (by omega)).2.1.trans q2.2.2.1, fun j => ((en _ (by omega) (by omega)).2.2.2.2 j).trans (q2.2.2.2 j)⟩, ⟨(fl 2 (by omega)).trans q3.1, (en _ (by omega) (by omega)).1.trans q3.2.1, (en _ (by omega) (by omega)).2.1.trans q3.2.2⟩, (ig 3 (by omega)).trans q4, ⟨(fl 4 (by omega)).trans q5.1, (en _ (by omega) (by omega)).1.trans q5.2.1, (en _ (by omega) (by omega)).2.1.trans q5.2.2⟩, by rw [hI_setI, if_pos ⟨rfl, rfl⟩]⟩

theorem xj7 {h G G2 : hp} {X : Nat} (B : XB h X 19 G) (J : XJ6 X G) (z2 : hZ G2 = X + 28) (q : ∀ b, b < X + 19 → hp_eq (mkC G 4 0) G2 b) (P : RdAt G2 (X + 19)) : XB h X 28 (setR G2 X 6 (some (X + 19))) ∧ XJ7 X (setR G2 X 6 (some (X + 19))) ∧ hK G2 X = 9 := by
  have z := B.1
  have m : ∀ b, b < X + 19 → hp_eq G G2 b := fun b hb => hp_eq.tr (hp_eq_mkC (by omega)) (q b hb)
  obtain ⟨r, fl, en, -, ig0, l⟩ := Nv (X := X) (e := X + 19) (f := 6) (by omega) m
  have ig : ∀ j, 0 ≤ j → hI (setR G2 X 6 (some (X + 19))) X j = hI G X j := fun j _ => ig0 j
  obtain ⟨q1, q2, q3, q4, q5, q6⟩ := J
  exact ⟨B.r (by omega) z2 m, ⟨⟨(fl 0 (by omega)).trans q1.1, fun v E => (q1.2 v E).cg2 (fun b h1 h2 => en b (by omega) (by omega))⟩, ⟨(fl 1 (by omega)).trans q2.1, (en _ (by omega) (by omega)).1.trans q2.2.1, (en _ (by omega) (by omega)).2.1.trans q2.2.2.1, fun j => ((en _ (by omega) (by omega)).2.2.2.2 j).trans (q2.2.2.2 j)⟩, ⟨(fl 2 (by omega)).trans q3.1, (en _ (by omega) (by omega)).1.trans q3.2.1, (en _ (by omega) (by omega)).2.1.trans q3.2.2⟩, (ig 3 (by omega)).trans q4, ⟨(fl 4 (by omega)).trans q5.1, (en _ (by omega) (by omega)).1.trans q5.2.1, (en _ (by omega) (by omega)).2.1.trans q5.2.2⟩, (ig 5 (by omega)).trans q6, ⟨r, P.cg2 (fun b h1 h2 => hp_eq_sR2 (by omega))⟩⟩, l.trans B.2.1⟩

theorem xj8 {h G G2 : hp} {X : Nat} (B : XB h X 28 G) (J : XJ7 X G) (z2 : hZ G2 = X + 35) (q : ∀ b, b < X + 28 → hp_eq (mkC G 1 0) G2 b) (P : FcAt G2 (X + 28)) : XB h X 35 (setR G2 X 7 (some (X + 28))) ∧ XJ8 X (setR G2 X 7 (some (X + 28))) ∧ hK G2 X = 9 := by
  have z := B.1
  have m : ∀ b, b < X + 28 → hp_eq G G2 b := fun b hb => hp_eq.tr (hp_eq_mkC (by omega)) (q b hb)
  obtain ⟨r, fl, en, -, ig0, l⟩ := Nv (X := X) (e := X + 28) (f := 7) (by omega) m
  have ig : ∀ j, 0 ≤ j → hI (setR G2 X 7 (some (X + 28))) X j = hI G X j := fun j _ => ig0 j
  obtain ⟨q1, q2, q3, q4, q5, q6, q7⟩ := J
  exact ⟨B.r (by omega) z2 m, ⟨⟨(fl 0 (by omega)).trans q1.1, fun v E => (q1.2 v E).cg2 (fun b h1 h2 => en b (by omega) (by omega))⟩, ⟨(fl 1 (by omega)).trans q2.1, (en _ (by omega) (by omega)).1.trans q2.2.1, (en _ (by omega) (by omega)).2.1.trans q2.2.2.1, fun j => ((en _ (by omega) (by omega)).2.2.2.2 j).trans (q2.2.2.2 j)⟩, ⟨(fl 2 (by omega)).trans q3.1, (en _ (by omega) (by omega)).1.trans q3.2.1, (en _ (by omega) (by omega)).2.1.trans q3.2.2⟩, (ig 3 (by omega)).trans q4, ⟨(fl 4 (by omega)).trans q5.1, (en _ (by omega) (by omega)).1.trans q5.2.1, (en _ (by omega) (by omega)).2.1.trans q5.2.2⟩, (ig 5 (by omega)).trans q6, ⟨(fl 6 (by omega)).trans q7.1, q7.2.cg2 (fun b h1 h2 => en b (by omega) (by omega))⟩, ⟨r, P.cg2 (fun b h1 h2 => hp_eq_sR2 (by omega))⟩⟩, l.trans B.2.1⟩

theorem xj9 {h G G2 : hp} {X : Nat} (B : XB h X 35 G) (J : XJ8 X G) (z2 : hZ G2 = X + 38) (q : ∀ b, b < X + 35 → hp_eq (mkC G 6 0) G2 b) (P : RkAt G2 (X + 35)) : XB h X 38 (setR G2 X 8 (some (X + 35))) ∧ XJ9 X (setR G2 X 8 (some (X + 35))) ∧ hK G2 X = 9 := by
  have z := B.1
  have m : ∀ b, b < X + 35 → hp_eq G G2 b := fun b hb => hp_eq.tr (hp_eq_mkC (by omega)) (q b hb)
  obtain ⟨r, fl, en, -, ig0, l⟩ := Nv (X := X) (e := X + 35) (f := 8) (by omega) m
  have ig : ∀ j, 0 ≤ j → hI (setR G2 X 8 (some (X + 35))) X j = hI G X j := fun j _ => ig0 j
  obtain ⟨q1, q2, q3, q4, q5, q6, q7, q8⟩ := J
  exact ⟨B.r (by omega) z2 m, ⟨⟨(fl 0 (by omega)).trans q1.1, fun v E => (q1.2 v E).cg2 (fun b h1 h2 => en b (by omega) (by omega))⟩, ⟨(fl 1 (by omega)).trans q2.1, (en _ (by omega) (by omega)).1.trans q2.2.1, (en _ (by omega) (by omega)).2.1.trans q2.2.2.1, fun j => ((en _ (by omega) (by omega)).2.2.2.2 j).trans (q2.2.2.2 j)⟩, ⟨(fl 2 (by omega)).trans q3.1, (en _ (by omega) (by omega)).1.trans q3.2.1, (en _ (by omega) (by omega)).2.1.trans q3.2.2⟩, (ig 3 (by omega)).trans q4, ⟨(fl 4 (by omega)).trans q5.1, (en _ (by omega) (by omega)).1.trans q5.2.1, (en _ (by omega) (by omega)).2.1.trans q5.2.2⟩, (ig 5 (by omega)).trans q6, ⟨(fl 6 (by omega)).trans q7.1, q7.2.cg2 (fun b h1 h2 => en b (by omega) (by omega))⟩, ⟨(fl 7 (by omega)).trans q8.1, q8.2.cg2 (fun b h1 h2 => en b (by omega) (by omega))⟩, ⟨r, P.cg2 (fun b h1 h2 => hp_eq_sR2 (by omega))⟩⟩, l.trans B.2.1⟩

theorem xj10 {h G G2 : hp} {X : Nat} (B : XB h X 38 G) (J : XJ9 X G) (z2 : hZ G2 = X + 47) (q : ∀ b, b < X + 38 → hp_eq (mkC G 2 0) G2 b) (P : KnAt G2 (X + 38)) : XB h X 47 (setR G2 X 9 (some (X + 38))) ∧ XJ10 X (setR G2 X 9 (some (X + 38))) ∧ hK G2 X = 9 := by
  have z := B.1
  have m : ∀ b, b < X + 38 → hp_eq G G2 b := fun b hb => hp_eq.tr (hp_eq_mkC (by omega)) (q b hb)
  obtain ⟨r, fl, en, -, ig0, l⟩ := Nv (X := X) (e := X + 38) (f := 9) (by omega) m
  have ig : ∀ j, 0 ≤ j → hI (setR G2 X 9 (some (X + 38))) X j = hI G X j := fun j _ => ig0 j
  obtain ⟨q1, q2, q3, q4, q5, q6, q7, q8, q9⟩ := J
  exact ⟨B.r (by omega) z2 m, ⟨⟨(fl 0 (by omega)).trans q1.1, fun v E => (q1.2 v E).cg2 (fun b h1 h2 => en b (by omega) (by omega))⟩, ⟨(fl 1 (by omega)).trans q2.1, (en _ (by omega) (by omega)).1.trans q2.2.1, (en _ (by omega) (by omega)).2.1.trans q2.2.2.1, fun j => ((en _ (by omega) (by omega)).2.2.2.2 j).trans (q2.2.2.2 j)⟩, ⟨(fl 2 (by omega)).trans q3.1, (en _ (by omega) (by omega)).1.trans q3.2.1, (en _ (by omega) (by omega)).2.1.trans q3.2.2⟩, (ig 3 (by omega)).trans q4, ⟨(fl 4 (by omega)).trans q5.1, (en _ (by omega) (by omega)).1.trans q5.2.1, (en _ (by omega) (by omega)).2.1.trans q5.2.2⟩, (ig 5 (by omega)).trans q6, ⟨(fl 6 (by omega)).trans q7.1, q7.2.cg2 (fun b h1 h2 => en b (by omega) (by omega))⟩, ⟨(fl 7 (by omega)).trans q8.1, q8.2.cg2 (fun b h1 h2 => en b (by omega) (by omega))⟩, ⟨(fl 8 (by omega)).trans q9.1, q9.2.cg2 (fun b h1 h2 => en b (by omega) (by omega))⟩, ⟨r, P.cg2 (fun b h1 h2 => hp_eq_sR2 (by omega))⟩⟩, l.trans B.2.1⟩

theorem xj11 {h G : hp} {X : Nat} (B : XB h X 47 G) (J : XJ10 X G) : XB h X 48 (setR (mkC G 20 10) X 10 (some (X + 47))) ∧ XJ11 X (setR (mkC G 20 10) X 10 (some (X + 47))) := by
  have z := B.1
  have m : ∀ b, b < X + 47 → hp_eq G (mkC G 20 10) b := fun b hb => hp_eq_mkC (by omega)
  obtain ⟨r, fl, en, -, ig0, -⟩ := Nv (X := X) (e := X + 47) (f := 10) (by omega) m
  have ig : ∀ j, 0 ≤ j → hI (setR (mkC G 20 10) X 10 (some (X + 47))) X j = hI G X j := fun j _ => ig0 j
  obtain ⟨q1, q2, q3, q4, q5, q6, q7, q8, q9, q10⟩ := J
  exact ⟨B.r (by omega) (by rw [hZ_mkC, z]) m, ⟨(fl 0 (by omega)).trans q1.1, fun v E => (q1.2 v E).cg2 (fun b h1 h2 => en b (by omega) (by omega))⟩, ⟨(fl 1 (by omega)).trans q2.1, (en _ (by omega) (by omega)).1.trans q2.2.1, (en _ (by omega) (by omega)).2.1.trans q2.2.2.1, fun j => ((en _ (by omega) (by omega)).2.2.2.2 j).trans (q2.2.2.2 j)⟩, ⟨(fl 2 (by omega)).trans q3.1, (en _ (by omega) (by omega)).1.trans q3.2.1, (en _ (by omega) (by omega)).2.1.trans q3.2.2⟩, (ig 3 (by omega)).trans q4, ⟨(fl 4 (by omega)).trans q5.1, (en _ (by omega) (by omega)).1.trans q5.2.1, (en _ (by omega) (by omega)).2.1.trans q5.2.2⟩, (ig 5 (by omega)).trans q6, ⟨(fl 6 (by omega)).trans q7.1, q7.2.cg2 (fun b h1 h2 => en b (by omega) (by omega))⟩, ⟨(fl 7 (by omega)).trans q8.1, q8.2.cg2 (fun b h1 h2 => en b (by omega) (by omega))⟩, ⟨(fl 8 (by omega)).trans q9.1, q9.2.cg2 (fun b h1 h2 => en b (by omega) (by omega))⟩, ⟨(fl 9 (by omega)).trans q10.1, q10.2.cg2 (fun b h1 h2 => en b (by omega) (by omega))⟩, ⟨r, by rw [hK_setR, hK_mkC, if_pos B.1.symm], by rw [hN_setR, hN_mkC, if_pos B.1.symm]⟩⟩

theorem XJf {h G : hp} {X : Nat} (B : XB h X 48 G) (J : XJ11 X G) : hZ G = X + 48 ∧ (∀ b, b < X → hp_eq h G b) ∧ XLay G X ∧ (∀ v, vE v → WRep G (X + 1) v) ∧ hI G X 3 = 0 ∧ hI G X 5 = 0 ∧ ∀ j, hR G (X + 16) j = none := by
  obtain ⟨q1, q2, q3, q4, q5, q6, q7, q8, q9, q10, q11⟩ := J
  exact ⟨B.1, B.2.2, ⟨B.2.1, ⟨q1.1, q2.1, q3.1, q5.1, q7.1, q8.1, q9.1, q10.1, q11.1⟩, ⟨⟨q2.2.1, q2.2.2.1⟩, q3.2, q5.2, q11.2⟩, q8.2, q9.2, q10.2, q7.2⟩, q1.2, q4, q6, q2.2.2.2⟩

