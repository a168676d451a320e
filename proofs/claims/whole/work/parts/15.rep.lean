/-! 15: the common state, and how class and reference hold it -/
/-- tables (0 BODIES, 1 PEOPLE, 2 STEPS, 3 PAPERS, 4 LISTS, 5 MESSAGES, 6 ORDERS): rows, cells; SIGHT -/
abbrev vw : Type := (Nat → Nat) × (Nat → Nat → Nat → Int32) × Int32
def vn (v : vw) (j : Nat) : Nat := v.1 j
def vc (v : vw) (j r c : Nat) : Int32 := v.2.1 j r c
def vs (v : vw) : Int32 := v.2.2
def vadd (v : vw) (j : Nat) (row : List Int32) : vw := (fun i => if i = j then v.1 i + 1 else v.1 i, fun i r c => if i = j ∧ r = v.1 j then row.getD c 0 else v.2.1 i r c, v.2.2)
def vset (v : vw) (j r c : Nat) (x : Int32) : vw := (v.1, fun i r' c' => if i = j ∧ r' = r ∧ c' = c then x else v.2.1 i r' c', v.2.2)
def vsig (v : vw) (x : Int32) : vw := (v.1, v.2.1, x)
theorem vn_vadd (v : vw) (j : Nat) (row : List Int32) (i : Nat) : vn (vadd v j row) i = if i = j then vn v i + 1 else vn v i := rfl
theorem vc_vadd (v : vw) (j : Nat) (row : List Int32) (i r c : Nat) : vc (vadd v j row) i r c = if i = j ∧ r = vn v j then row.getD c 0 else vc v i r c := rfl
theorem vs_vadd (v : vw) (j : Nat) (row : List Int32) : vs (vadd v j row) = vs v := rfl
theorem vn_vset (v : vw) (j r c : Nat) (x : Int32) (i : Nat) : vn (vset v j r c x) i = vn v i := rfl
theorem vc_vset (v : vw) (j r c : Nat) (x : Int32) (i r' c' : Nat) : vc (vset v j r c x) i r' c' = if i = j ∧ r' = r ∧ c' = c then x else vc v i r' c' := rfl
theorem vs_vset (v : vw) (j r c : Nat) (x : Int32) : vs (vset v j r c x) = vs v := rfl
theorem vn_vsig (v : vw) (x : Int32) (i : Nat) : vn (vsig v x) i = vn v i := rfl
theorem vc_vsig (v : vw) (x : Int32) (i r c : Nat) : vc (vsig v x) i r c = vc v i r c := rfl
theorem vs_vsig (v : vw) (x : Int32) : vs (vsig v x) = x := rfl
/-- a cell by an int: -1 if there is no such row -/
def vg (v : vw) (j : Nat) (r : Int32) (c : Nat) : Int32 := if inR (vn v j) r then vc v j r.toNatClampNeg c else -1
theorem vg_nI {v : vw} {j k c : Nat} (h : k < vn v j) (h2 : k < 2147483648) : vg v j (nI k) c = vc v j k c := by
  unfold vg
  rw [if_pos (inR_nI h h2), nI_tn h2]
/-- only ints and longs of the cells P have changed -/
def Chg (P : Nat → Prop) (h h' : hp) : Prop := hZ h' = hZ h ∧ hK h' = hK h ∧ hN h' = hN h ∧ hR h' = hR h ∧ ∀ b, ¬ P b → hI h' b = hI h b ∧ hJ h' b = hJ h b
theorem Chg.rf {P : Nat → Prop} {h : hp} : Chg P h h := ⟨rfl, rfl, rfl, rfl, fun _ _ => ⟨rfl, rfl⟩⟩
theorem Chg.tr {P : Nat → Prop} {h h1 h2 : hp} (a : Chg P h h1) (b : Chg P h1 h2) : Chg P h h2 := ⟨b.1.trans a.1, b.2.1.trans a.2.1, b.2.2.1.trans a.2.2.1, b.2.2.2.1.trans a.2.2.2.1, fun q hq => ⟨(b.2.2.2.2 q hq).1.trans (a.2.2.2.2 q hq).1, (b.2.2.2.2 q hq).2.trans (a.2.2.2.2 q hq).2⟩⟩
theorem Chg.wk {P P' : Nat → Prop} {h h1 : hp} (a : Chg P h h1) (hp : ∀ b, P b → P' b) : Chg P' h h1 := ⟨a.1, a.2.1, a.2.2.1, a.2.2.2.1, fun q hq => a.2.2.2.2 q (fun hh => hq (hp q hh))⟩
theorem hI_row (h : hp) (a k : Nat) (x : Int32) (b : Nat) (hb : b ≠ a) : hI (setI h a k x) b = hI h b := funext fun j => by rw [hI_setI, if_neg (fun q => hb q.1)]
theorem hJ_row (h : hp) (a k : Nat) (x : Int64) (b : Nat) (hb : b ≠ a) : hJ (setJ h a k x) b = hJ h b := funext fun j => by rw [hJ_setJ, if_neg (fun q => hb q.1)]
theorem Chg.sI {P : Nat → Prop} {h : hp} {a k : Nat} {x : Int32} (ha : P a) : Chg P h (setI h a k x) := ⟨rfl, rfl, rfl, rfl, fun b hb => ⟨hI_row h a k x b (fun e => hb (by rw [e]; exact ha)), rfl⟩⟩
theorem Chg.sJ {P : Nat → Prop} {h : hp} {a k : Nat} {x : Int64} (ha : P a) : Chg P h (setJ h a k x) := ⟨rfl, rfl, rfl, rfl, fun b hb => ⟨rfl, hJ_row h a k x b (fun e => hb (by rw [e]; exact ha))⟩⟩
theorem Chg.hrr {P : Nat → Prop} {h h1 : hp} (a : Chg P h h1) : hr h1 = hr h := by
  funext x y
  unfold hr
  rw [a.2.2.2.1]
/-- a table of rows -/
def TabAt (h : hp) (o c w m : Nat) (v : vw) (j : Nat) : Prop := RowsAt h o c w m (vn v j) ∧ ∀ r, r < vn v j → ∀ k, k < w → hI h c (r * w + k) = vc v j r k
/-- a World object at a holds v -/
def WRep (h : hp) (a : Nat) (v : vw) : Prop := (hK h a = 8 ∧ hI h a 7 = vs v ∧ hR h a 0 = some (a + 1) ∧ hR h a 1 = some (a + 3) ∧ hR h a 2 = some (a + 5) ∧ hR h a 3 = some (a + 7) ∧ hR h a 4 = some (a + 9) ∧ hR h a 5 = some (a + 11) ∧ hR h a 6 = some (a + 13)) ∧
  TabAt h (a + 1) (a + 2) 5 12 v 0 ∧ TabAt h (a + 3) (a + 4) 6 24 v 1 ∧ TabAt h (a + 5) (a + 6) 4 200 v 2 ∧ TabAt h (a + 7) (a + 8) 4 24 v 3 ∧ TabAt h (a + 9) (a + 10) 2 96 v 4 ∧ TabAt h (a + 11) (a + 12) 4 200 v 5 ∧ TabAt h (a + 13) (a + 14) 6 60 v 6
def inW (a : Nat) : Nat → Prop := fun b => a ≤ b ∧ b ≤ a + 14
theorem RowsAt.kept {h h' : hp} {P : Nat → Prop} {a c w m s : Nat} (H : RowsAt h a c w m s) (k : Chg P h h') (ha : ¬ P a) : RowsAt h' a c w m s := by
  obtain ⟨h1, h2, h3, h4, h5, h6, h7, h8⟩ := H
  obtain ⟨k1, k2, k3, k4, k5⟩ := k
  exact ⟨by rw [k2]; exact h1, by rw [k4]; exact h2, by rw [k2]; exact h3, by rw [k3]; exact h4, by rw [(k5 a ha).1]; exact h5, by rw [(k5 a ha).1]; exact h6, by rw [(k5 a ha).1]; exact h7, h8⟩
theorem TabAt.kept {h h' : hp} {P : Nat → Prop} {a c w m j : Nat} {v : vw} (H : TabAt h a c w m v j) (k : Chg P h h') (ha : ¬ P a) (hc : ¬ P c) : TabAt h' a c w m v j :=
  ⟨H.1.kept k ha, fun r hr q hq => by rw [(k.2.2.2.2 c hc).1]; exact H.2 r hr q hq⟩
theorem WRep.kept {h h' : hp} {P : Nat → Prop} {a : Nat} {v : vw} (H : WRep h a v) (k : Chg P h h') (hn : ∀ b, inW a b → ¬ P b) : WRep h' a v := by
  obtain ⟨⟨g0, g1, g2, g3, g4, g5, g6, g7, g8⟩, t0, t1, t2, t3, t4, t5, t6⟩ := H
  obtain ⟨k1, k2, k3, k4, k5⟩ := id k
  refine ⟨⟨by rw [k2]; exact g0, by rw [(k5 a (hn a ⟨by omega, by omega⟩)).1]; exact g1, by rw [k4]; exact g2, by rw [k4]; exact g3, by rw [k4]; exact g4, by rw [k4]; exact g5, by rw [k4]; exact g6, by rw [k4]; exact g7, by rw [k4]; exact g8⟩, ?_⟩
  exact ⟨t0.kept k (hn _ ⟨by omega, by omega⟩) (hn _ ⟨by omega, by omega⟩), t1.kept k (hn _ ⟨by omega, by omega⟩) (hn _ ⟨by omega, by omega⟩), t2.kept k (hn _ ⟨by omega, by omega⟩) (hn _ ⟨by omega, by omega⟩), t3.kept k (hn _ ⟨by omega, by omega⟩) (hn _ ⟨by omega, by omega⟩), t4.kept k (hn _ ⟨by omega, by omega⟩) (hn _ ⟨by omega, by omega⟩), t5.kept k (hn _ ⟨by omega, by omega⟩) (hn _ ⟨by omega, by omega⟩), t6.kept k (hn _ ⟨by omega, by omega⟩) (hn _ ⟨by omega, by omega⟩)⟩
theorem getV_tab {h : hp} {o c w m j : Nat} {v : vw} (H : TabAt h o c w m v j) (r : Int32) {k : Nat} (hk : k < w) (hk2 : k < 2147483648) : getV h c w (vn v j) r (nI k) = vg v j r k := by
  unfold getV vg
  by_cases hr : inR (vn v j) r
  · rw [if_pos ⟨hr, inR_nI hk hk2⟩, if_pos hr, nI_tn hk2]
    obtain ⟨i, hi, rfl, h2⟩ := inR_of hr
    rw [nI_tn h2]
    exact H.2 i hi k hk
  · rw [if_neg (fun q => hr q.1), if_neg hr]
/-- Rows.get of a table -/
theorem c_get (g : gx) (n : Nat) {h : hp} {o c w m j : Nat} {v : vw} (H : TabAt h o c w m v j) (r x : Int32) (k : Nat) (hx : x = nI k) (hk : k < w) : Call g n 0 0 m_X6_get [.ref o, .int r, .int x] h (fun rv h' => rv = some (.int (vg v j r k)) ∧ h' = h) := by
  have hw := H.1.2.2.2.2.2.2.2.2.2.2.2
  subst hx
  rw [← getV_tab H r hk (by omega)]
  exact c_X6_get g n H.1 r (nI k)

/-- the reference: where its rows lie, their kinds and lengths -/
def mo_ (k : Nat) : Nat := match k with
  | 8 => 1
  | 9 => 2
  | 10 => 3
  | 11 => 4
  | 12 => 5
  | 13 => 6
  | 14 => 7
  | 15 => 8
  | 16 => 9
  | 17 => 10
  | 18 => 11
  | 19 => 12
  | 20 => 13
  | 21 => 14
  | 22 => 15
  | 23 => 16
  | 24 => 17
  | 25 => 18
  | 26 => 19
  | 27 => 20
  | 28 => 21
  | 37 => 22
  | 38 => 23
  | 39 => 24
  | 40 => 25
  | 41 => 26
  | 42 => 27
  | 43 => 28
  | 44 => 29
  | 45 => 30
  | 46 => 31
  | 47 => 32
  | 48 => 33
  | 49 => 34
  | 50 => 35
  | 51 => 36
  | 52 => 37
  | 53 => 38
  | 54 => 39
  | 56 => 40
  | 57 => 41
  | 58 => 42
  | 59 => 43
  | 60 => 44
  | 61 => 45
  | 62 => 46
  | 65 => 47
  | 66 => 48
  | 67 => 49
  | 68 => 50
  | _ => 0
def mkd_ (k : Nat) : Nat := match k with
  | 8 => 20
  | 9 => 20
  | 10 => 20
  | 11 => 20
  | 12 => 20
  | 13 => 20
  | 14 => 20
  | 15 => 20
  | 16 => 20
  | 17 => 20
  | 18 => 20
  | 19 => 20
  | 20 => 20
  | 21 => 20
  | 22 => 20
  | 23 => 20
  | 24 => 20
  | 25 => 20
  | 26 => 20
  | 27 => 20
  | 28 => 20
  | 37 => 21
  | 38 => 20
  | 39 => 20
  | 40 => 20
  | 41 => 20
  | 42 => 20
  | 43 => 20
  | 44 => 20
  | 45 => 20
  | 46 => 23
  | 47 => 23
  | 48 => 22
  | 49 => 22
  | 50 => 23
  | 51 => 22
  | 52 => 20
  | 53 => 20
  | 54 => 20
  | 56 => 22
  | 57 => 20
  | 58 => 20
  | 59 => 20
  | 60 => 20
  | 61 => 20
  | 62 => 20
  | 65 => 20
  | 66 => 20
  | 67 => 20
  | 68 => 22
  | _ => 0
def mln_ (k : Nat) : Nat := match k with
  | 8 => 12
  | 9 => 12
  | 10 => 12
  | 11 => 12
  | 12 => 12
  | 13 => 12
  | 14 => 96
  | 15 => 24
  | 16 => 24
  | 17 => 24
  | 18 => 24
  | 19 => 24
  | 20 => 24
  | 21 => 200
  | 22 => 200
  | 23 => 200
  | 24 => 200
  | 25 => 24
  | 26 => 24
  | 27 => 24
  | 28 => 24
  | 37 => 400
  | 38 => 2400
  | 39 => 2400
  | 40 => 8
  | 41 => 96
  | 42 => 96
  | 43 => 96
  | 44 => 96
  | 45 => 402
  | 46 => 13
  | 47 => 300
  | 48 => 24
  | 49 => 24
  | 50 => 288
  | 51 => 200
  | 52 => 200
  | 53 => 200
  | 54 => 200
  | 56 => 24
  | 57 => 60
  | 58 => 60
  | 59 => 60
  | 60 => 60
  | 61 => 60
  | 62 => 60
  | 65 => 10000
  | 66 => 8
  | 67 => 200
  | 68 => 4
  | _ => 0
def MLay (h : hp) (M : Nat) : Prop := hK h M = 10 ∧ ∀ k, mo_ k ≠ 0 → hR h M k = some (M + mo_ k) ∧ hK h (M + mo_ k) = mkd_ k ∧ hN h (M + mo_ k) = mln_ k
theorem MLay.r8 {h : hp} {M : Nat} (H : MLay h M) : hR h M 8 = some (M + 1) := (H.2 8 (by decide)).1
theorem MLay.q8 {h : hp} {M : Nat} (H : MLay h M) : hr h M 8 = M + 1 := hr_of H.r8
theorem MLay.k8 {h : hp} {M : Nat} (H : MLay h M) : hK h (M + 1) = 20 := (H.2 8 (by decide)).2.1
theorem MLay.n8 {h : hp} {M : Nat} (H : MLay h M) : hN h (M + 1) = 12 := (H.2 8 (by decide)).2.2
theorem MLay.r9 {h : hp} {M : Nat} (H : MLay h M) : hR h M 9 = some (M + 2) := (H.2 9 (by decide)).1
theorem MLay.q9 {h : hp} {M : Nat} (H : MLay h M) : hr h M 9 = M + 2 := hr_of H.r9
theorem MLay.k9 {h : hp} {M : Nat} (H : MLay h M) : hK h (M + 2) = 20 := (H.2 9 (by decide)).2.1
theorem MLay.n9 {h : hp} {M : Nat} (H : MLay h M) : hN h (M + 2) = 12 := (H.2 9 (by decide)).2.2
theorem MLay.r10 {h : hp} {M : Nat} (H : MLay h M) : hR h M 10 = some (M + 3) := (H.2 10 (by decide)).1
theorem MLay.q10 {h : hp} {M : Nat} (H : MLay h M) : hr h M 10 = M + 3 := hr_of H.r10
theorem MLay.k10 {h : hp} {M : Nat} (H : MLay h M) : hK h (M + 3) = 20 := (H.2 10 (by decide)).2.1
theorem MLay.n10 {h : hp} {M : Nat} (H : MLay h M) : hN h (M + 3) = 12 := (H.2 10 (by decide)).2.2
theorem MLay.r11 {h : hp} {M : Nat} (H : MLay h M) : hR h M 11 = some (M + 4) := (H.2 11 (by decide)).1
theorem MLay.q11 {h : hp} {M : Nat} (H : MLay h M) : hr h M 11 = M + 4 := hr_of H.r11
theorem MLay.k11 {h : hp} {M : Nat} (H : MLay h M) : hK h (M + 4) = 20 := (H.2 11 (by decide)).2.1
theorem MLay.n11 {h : hp} {M : Nat} (H : MLay h M) : hN h (M + 4) = 12 := (H.2 11 (by decide)).2.2
theorem MLay.r12 {h : hp} {M : Nat} (H : MLay h M) : hR h M 12 = some (M + 5) := (H.2 12 (by decide)).1
theorem MLay.q12 {h : hp} {M : Nat} (H : MLay h M) : hr h M 12 = M + 5 := hr_of H.r12
theorem MLay.k12 {h : hp} {M : Nat} (H : MLay h M) : hK h (M + 5) = 20 := (H.2 12 (by decide)).2.1
theorem MLay.n12 {h : hp} {M : Nat} (H : MLay h M) : hN h (M + 5) = 12 := (H.2 12 (by decide)).2.2
theorem MLay.r13 {h : hp} {M : Nat} (H : MLay h M) : hR h M 13 = some (M + 6) := (H.2 13 (by decide)).1
theorem MLay.q13 {h : hp} {M : Nat} (H : MLay h M) : hr h M 13 = M + 6 := hr_of H.r13
theorem MLay.k13 {h : hp} {M : Nat} (H : MLay h M) : hK h (M + 6) = 20 := (H.2 13 (by decide)).2.1
theorem MLay.n13 {h : hp} {M : Nat} (H : MLay h M) : hN h (M + 6) = 12 := (H.2 13 (by decide)).2.2
theorem MLay.r14 {h : hp} {M : Nat} (H : MLay h M) : hR h M 14 = some (M + 7) := (H.2 14 (by decide)).1
theorem MLay.q14 {h : hp} {M : Nat} (H : MLay h M) : hr h M 14 = M + 7 := hr_of H.r14
theorem MLay.k14 {h : hp} {M : Nat} (H : MLay h M) : hK h (M + 7) = 20 := (H.2 14 (by decide)).2.1
theorem MLay.n14 {h : hp} {M : Nat} (H : MLay h M) : hN h (M + 7) = 96 := (H.2 14 (by decide)).2.2
theorem MLay.r15 {h : hp} {M : Nat} (H : MLay h M) : hR h M 15 = some (M + 8) := (H.2 15 (by decide)).1
theorem MLay.q15 {h : hp} {M : Nat} (H : MLay h M) : hr h M 15 = M + 8 := hr_of H.r15
theorem MLay.k15 {h : hp} {M : Nat} (H : MLay h M) : hK h (M + 8) = 20 := (H.2 15 (by decide)).2.1
theorem MLay.n15 {h : hp} {M : Nat} (H : MLay h M) : hN h (M + 8) = 24 := (H.2 15 (by decide)).2.2
theorem MLay.r16 {h : hp} {M : Nat} (H : MLay h M) : hR h M 16 = some (M + 9) := (H.2 16 (by decide)).1
theorem MLay.q16 {h : hp} {M : Nat} (H : MLay h M) : hr h M 16 = M + 9 := hr_of H.r16
theorem MLay.k16 {h : hp} {M : Nat} (H : MLay h M) : hK h (M + 9) = 20 := (H.2 16 (by decide)).2.1
theorem MLay.n16 {h : hp} {M : Nat} (H : MLay h M) : hN h (M + 9) = 24 := (H.2 16 (by decide)).2.2
theorem MLay.r17 {h : hp} {M : Nat} (H : MLay h M) : hR h M 17 = some (M + 10) := (H.2 17 (by decide)).1
theorem MLay.q17 {h : hp} {M : Nat} (H : MLay h M) : hr h M 17 = M + 10 := hr_of H.r17
theorem MLay.k17 {h : hp} {M : Nat} (H : MLay h M) : hK h (M + 10) = 20 := (H.2 17 (by decide)).2.1
theorem MLay.n17 {h : hp} {M : Nat} (H : MLay h M) : hN h (M + 10) = 24 := (H.2 17 (by decide)).2.2
theorem MLay.r18 {h : hp} {M : Nat} (H : MLay h M) : hR h M 18 = some (M + 11) := (H.2 18 (by decide)).1
theorem MLay.q18 {h : hp} {M : Nat} (H : MLay h M) : hr h M 18 = M + 11 := hr_of H.r18
theorem MLay.k18 {h : hp} {M : Nat} (H : MLay h M) : hK h (M + 11) = 20 := (H.2 18 (by decide)).2.1
theorem MLay.n18 {h : hp} {M : Nat} (H : MLay h M) : hN h (M + 11) = 24 := (H.2 18 (by decide)).2.2
theorem MLay.r19 {h : hp} {M : Nat} (H : MLay h M) : hR h M 19 = some (M + 12) := (H.2 19 (by decide)).1
theorem MLay.q19 {h : hp} {M : Nat} (H : MLay h M) : hr h M 19 = M + 12 := hr_of H.r19
theorem MLay.k19 {h : hp} {M : Nat} (H : MLay h M) : hK h (M + 12) = 20 := (H.2 19 (by decide)).2.1
theorem MLay.n19 {h : hp} {M : Nat} (H : MLay h M) : hN h (M + 12) = 24 := (H.2 19 (by decide)).2.2
theorem MLay.r20 {h : hp} {M : Nat} (H : MLay h M) : hR h M 20 = some (M + 13) := (H.2 20 (by decide)).1
theorem MLay.q20 {h : hp} {M : Nat} (H : MLay h M) : hr h M 20 = M + 13 := hr_of H.r20
theorem MLay.k20 {h : hp} {M : Nat} (H : MLay h M) : hK h (M + 13) = 20 := (H.2 20 (by decide)).2.1
theorem MLay.n20 {h : hp} {M : Nat} (H : MLay h M) : hN h (M + 13) = 24 := (H.2 20 (by decide)).2.2
theorem MLay.r21 {h : hp} {M : Nat} (H : MLay h M) : hR h M 21 = some (M + 14) := (H.2 21 (by decide)).1
theorem MLay.q21 {h : hp} {M : Nat} (H : MLay h M) : hr h M 21 = M + 14 := hr_of H.r21
theorem MLay.k21 {h : hp} {M : Nat} (H : MLay h M) : hK h (M + 14) = 20 := (H.2 21 (by decide)).2.1
theorem MLay.n21 {h : hp} {M : Nat} (H : MLay h M) : hN h (M + 14) = 200 := (H.2 21 (by decide)).2.2
theorem MLay.r22 {h : hp} {M : Nat} (H : MLay h M) : hR h M 22 = some (M + 15) := (H.2 22 (by decide)).1
theorem MLay.q22 {h : hp} {M : Nat} (H : MLay h M) : hr h M 22 = M + 15 := hr_of H.r22
theorem MLay.k22 {h : hp} {M : Nat} (H : MLay h M) : hK h (M + 15) = 20 := (H.2 22 (by decide)).2.1
theorem MLay.n22 {h : hp} {M : Nat} (H : MLay h M) : hN h (M + 15) = 200 := (H.2 22 (by decide)).2.2
theorem MLay.r23 {h : hp} {M : Nat} (H : MLay h M) : hR h M 23 = some (M + 16) := (H.2 23 (by decide)).1
theorem MLay.q23 {h : hp} {M : Nat} (H : MLay h M) : hr h M 23 = M + 16 := hr_of H.r23
theorem MLay.k23 {h : hp} {M : Nat} (H : MLay h M) : hK h (M + 16) = 20 := (H.2 23 (by decide)).2.1
theorem MLay.n23 {h : hp} {M : Nat} (H : MLay h M) : hN h (M + 16) = 200 := (H.2 23 (by decide)).2.2
theorem MLay.r24 {h : hp} {M : Nat} (H : MLay h M) : hR h M 24 = some (M + 17) := (H.2 24 (by decide)).1
theorem MLay.q24 {h : hp} {M : Nat} (H : MLay h M) : hr h M 24 = M + 17 := hr_of H.r24
theorem MLay.k24 {h : hp} {M : Nat} (H : MLay h M) : hK h (M + 17) = 20 := (H.2 24 (by decide)).2.1
theorem MLay.n24 {h : hp} {M : Nat} (H : MLay h M) : hN h (M + 17) = 200 := (H.2 24 (by decide)).2.2
theorem MLay.r25 {h : hp} {M : Nat} (H : MLay h M) : hR h M 25 = some (M + 18) := (H.2 25 (by decide)).1
theorem MLay.q25 {h : hp} {M : Nat} (H : MLay h M) : hr h M 25 = M + 18 := hr_of H.r25
theorem MLay.k25 {h : hp} {M : Nat} (H : MLay h M) : hK h (M + 18) = 20 := (H.2 25 (by decide)).2.1
theorem MLay.n25 {h : hp} {M : Nat} (H : MLay h M) : hN h (M + 18) = 24 := (H.2 25 (by decide)).2.2
theorem MLay.r26 {h : hp} {M : Nat} (H : MLay h M) : hR h M 26 = some (M + 19) := (H.2 26 (by decide)).1
theorem MLay.q26 {h : hp} {M : Nat} (H : MLay h M) : hr h M 26 = M + 19 := hr_of H.r26
theorem MLay.k26 {h : hp} {M : Nat} (H : MLay h M) : hK h (M + 19) = 20 := (H.2 26 (by decide)).2.1
theorem MLay.n26 {h : hp} {M : Nat} (H : MLay h M) : hN h (M + 19) = 24 := (H.2 26 (by decide)).2.2
theorem MLay.r27 {h : hp} {M : Nat} (H : MLay h M) : hR h M 27 = some (M + 20) := (H.2 27 (by decide)).1
theorem MLay.q27 {h : hp} {M : Nat} (H : MLay h M) : hr h M 27 = M + 20 := hr_of H.r27
theorem MLay.k27 {h : hp} {M : Nat} (H : MLay h M) : hK h (M + 20) = 20 := (H.2 27 (by decide)).2.1
theorem MLay.n27 {h : hp} {M : Nat} (H : MLay h M) : hN h (M + 20) = 24 := (H.2 27 (by decide)).2.2
theorem MLay.r28 {h : hp} {M : Nat} (H : MLay h M) : hR h M 28 = some (M + 21) := (H.2 28 (by decide)).1
theorem MLay.q28 {h : hp} {M : Nat} (H : MLay h M) : hr h M 28 = M + 21 := hr_of H.r28
theorem MLay.k28 {h : hp} {M : Nat} (H : MLay h M) : hK h (M + 21) = 20 := (H.2 28 (by decide)).2.1
theorem MLay.n28 {h : hp} {M : Nat} (H : MLay h M) : hN h (M + 21) = 24 := (H.2 28 (by decide)).2.2
theorem MLay.r37 {h : hp} {M : Nat} (H : MLay h M) : hR h M 37 = some (M + 22) := (H.2 37 (by decide)).1
theorem MLay.q37 {h : hp} {M : Nat} (H : MLay h M) : hr h M 37 = M + 22 := hr_of H.r37
theorem MLay.k37 {h : hp} {M : Nat} (H : MLay h M) : hK h (M + 22) = 21 := (H.2 37 (by decide)).2.1
theorem MLay.n37 {h : hp} {M : Nat} (H : MLay h M) : hN h (M + 22) = 400 := (H.2 37 (by decide)).2.2
theorem MLay.r38 {h : hp} {M : Nat} (H : MLay h M) : hR h M 38 = some (M + 23) := (H.2 38 (by decide)).1
theorem MLay.q38 {h : hp} {M : Nat} (H : MLay h M) : hr h M 38 = M + 23 := hr_of H.r38
theorem MLay.k38 {h : hp} {M : Nat} (H : MLay h M) : hK h (M + 23) = 20 := (H.2 38 (by decide)).2.1
theorem MLay.n38 {h : hp} {M : Nat} (H : MLay h M) : hN h (M + 23) = 2400 := (H.2 38 (by decide)).2.2
theorem MLay.r39 {h : hp} {M : Nat} (H : MLay h M) : hR h M 39 = some (M + 24) := (H.2 39 (by decide)).1
theorem MLay.q39 {h : hp} {M : Nat} (H : MLay h M) : hr h M 39 = M + 24 := hr_of H.r39
theorem MLay.k39 {h : hp} {M : Nat} (H : MLay h M) : hK h (M + 24) = 20 := (H.2 39 (by decide)).2.1
theorem MLay.n39 {h : hp} {M : Nat} (H : MLay h M) : hN h (M + 24) = 2400 := (H.2 39 (by decide)).2.2
theorem MLay.r40 {h : hp} {M : Nat} (H : MLay h M) : hR h M 40 = some (M + 25) := (H.2 40 (by decide)).1
theorem MLay.q40 {h : hp} {M : Nat} (H : MLay h M) : hr h M 40 = M + 25 := hr_of H.r40
theorem MLay.k40 {h : hp} {M : Nat} (H : MLay h M) : hK h (M + 25) = 20 := (H.2 40 (by decide)).2.1
theorem MLay.n40 {h : hp} {M : Nat} (H : MLay h M) : hN h (M + 25) = 8 := (H.2 40 (by decide)).2.2
theorem MLay.r41 {h : hp} {M : Nat} (H : MLay h M) : hR h M 41 = some (M + 26) := (H.2 41 (by decide)).1
theorem MLay.q41 {h : hp} {M : Nat} (H : MLay h M) : hr h M 41 = M + 26 := hr_of H.r41
theorem MLay.k41 {h : hp} {M : Nat} (H : MLay h M) : hK h (M + 26) = 20 := (H.2 41 (by decide)).2.1
theorem MLay.n41 {h : hp} {M : Nat} (H : MLay h M) : hN h (M + 26) = 96 := (H.2 41 (by decide)).2.2
theorem MLay.r42 {h : hp} {M : Nat} (H : MLay h M) : hR h M 42 = some (M + 27) := (H.2 42 (by decide)).1
theorem MLay.q42 {h : hp} {M : Nat} (H : MLay h M) : hr h M 42 = M + 27 := hr_of H.r42
theorem MLay.k42 {h : hp} {M : Nat} (H : MLay h M) : hK h (M + 27) = 20 := (H.2 42 (by decide)).2.1
theorem MLay.n42 {h : hp} {M : Nat} (H : MLay h M) : hN h (M + 27) = 96 := (H.2 42 (by decide)).2.2
theorem MLay.r43 {h : hp} {M : Nat} (H : MLay h M) : hR h M 43 = some (M + 28) := (H.2 43 (by decide)).1
theorem MLay.q43 {h : hp} {M : Nat} (H : MLay h M) : hr h M 43 = M + 28 := hr_of H.r43
theorem MLay.k43 {h : hp} {M : Nat} (H : MLay h M) : hK h (M + 28) = 20 := (H.2 43 (by decide)).2.1
theorem MLay.n43 {h : hp} {M : Nat} (H : MLay h M) : hN h (M + 28) = 96 := (H.2 43 (by decide)).2.2
theorem MLay.r44 {h : hp} {M : Nat} (H : MLay h M) : hR h M 44 = some (M + 29) := (H.2 44 (by decide)).1
theorem MLay.q44 {h : hp} {M : Nat} (H : MLay h M) : hr h M 44 = M + 29 := hr_of H.r44
theorem MLay.k44 {h : hp} {M : Nat} (H : MLay h M) : hK h (M + 29) = 20 := (H.2 44 (by decide)).2.1
theorem MLay.n44 {h : hp} {M : Nat} (H : MLay h M) : hN h (M + 29) = 96 := (H.2 44 (by decide)).2.2
theorem MLay.r45 {h : hp} {M : Nat} (H : MLay h M) : hR h M 45 = some (M + 30) := (H.2 45 (by decide)).1
theorem MLay.q45 {h : hp} {M : Nat} (H : MLay h M) : hr h M 45 = M + 30 := hr_of H.r45
theorem MLay.k45 {h : hp} {M : Nat} (H : MLay h M) : hK h (M + 30) = 20 := (H.2 45 (by decide)).2.1
theorem MLay.n45 {h : hp} {M : Nat} (H : MLay h M) : hN h (M + 30) = 402 := (H.2 45 (by decide)).2.2
theorem MLay.r46 {h : hp} {M : Nat} (H : MLay h M) : hR h M 46 = some (M + 31) := (H.2 46 (by decide)).1
theorem MLay.q46 {h : hp} {M : Nat} (H : MLay h M) : hr h M 46 = M + 31 := hr_of H.r46
theorem MLay.k46 {h : hp} {M : Nat} (H : MLay h M) : hK h (M + 31) = 23 := (H.2 46 (by decide)).2.1
theorem MLay.n46 {h : hp} {M : Nat} (H : MLay h M) : hN h (M + 31) = 13 := (H.2 46 (by decide)).2.2
theorem MLay.r47 {h : hp} {M : Nat} (H : MLay h M) : hR h M 47 = some (M + 32) := (H.2 47 (by decide)).1
theorem MLay.q47 {h : hp} {M : Nat} (H : MLay h M) : hr h M 47 = M + 32 := hr_of H.r47
theorem MLay.k47 {h : hp} {M : Nat} (H : MLay h M) : hK h (M + 32) = 23 := (H.2 47 (by decide)).2.1
theorem MLay.n47 {h : hp} {M : Nat} (H : MLay h M) : hN h (M + 32) = 300 := (H.2 47 (by decide)).2.2
theorem MLay.r48 {h : hp} {M : Nat} (H : MLay h M) : hR h M 48 = some (M + 33) := (H.2 48 (by decide)).1
theorem MLay.q48 {h : hp} {M : Nat} (H : MLay h M) : hr h M 48 = M + 33 := hr_of H.r48
theorem MLay.k48 {h : hp} {M : Nat} (H : MLay h M) : hK h (M + 33) = 22 := (H.2 48 (by decide)).2.1
theorem MLay.n48 {h : hp} {M : Nat} (H : MLay h M) : hN h (M + 33) = 24 := (H.2 48 (by decide)).2.2
theorem MLay.r49 {h : hp} {M : Nat} (H : MLay h M) : hR h M 49 = some (M + 34) := (H.2 49 (by decide)).1
theorem MLay.q49 {h : hp} {M : Nat} (H : MLay h M) : hr h M 49 = M + 34 := hr_of H.r49
theorem MLay.k49 {h : hp} {M : Nat} (H : MLay h M) : hK h (M + 34) = 22 := (H.2 49 (by decide)).2.1
theorem MLay.n49 {h : hp} {M : Nat} (H : MLay h M) : hN h (M + 34) = 24 := (H.2 49 (by decide)).2.2
theorem MLay.r50 {h : hp} {M : Nat} (H : MLay h M) : hR h M 50 = some (M + 35) := (H.2 50 (by decide)).1
theorem MLay.q50 {h : hp} {M : Nat} (H : MLay h M) : hr h M 50 = M + 35 := hr_of H.r50
theorem MLay.k50 {h : hp} {M : Nat} (H : MLay h M) : hK h (M + 35) = 23 := (H.2 50 (by decide)).2.1
theorem MLay.n50 {h : hp} {M : Nat} (H : MLay h M) : hN h (M + 35) = 288 := (H.2 50 (by decide)).2.2
theorem MLay.r51 {h : hp} {M : Nat} (H : MLay h M) : hR h M 51 = some (M + 36) := (H.2 51 (by decide)).1
theorem MLay.q51 {h : hp} {M : Nat} (H : MLay h M) : hr h M 51 = M + 36 := hr_of H.r51
theorem MLay.k51 {h : hp} {M : Nat} (H : MLay h M) : hK h (M + 36) = 22 := (H.2 51 (by decide)).2.1
theorem MLay.n51 {h : hp} {M : Nat} (H : MLay h M) : hN h (M + 36) = 200 := (H.2 51 (by decide)).2.2
theorem MLay.r52 {h : hp} {M : Nat} (H : MLay h M) : hR h M 52 = some (M + 37) := (H.2 52 (by decide)).1
theorem MLay.q52 {h : hp} {M : Nat} (H : MLay h M) : hr h M 52 = M + 37 := hr_of H.r52
theorem MLay.k52 {h : hp} {M : Nat} (H : MLay h M) : hK h (M + 37) = 20 := (H.2 52 (by decide)).2.1
theorem MLay.n52 {h : hp} {M : Nat} (H : MLay h M) : hN h (M + 37) = 200 := (H.2 52 (by decide)).2.2
theorem MLay.r53 {h : hp} {M : Nat} (H : MLay h M) : hR h M 53 = some (M + 38) := (H.2 53 (by decide)).1
theorem MLay.q53 {h : hp} {M : Nat} (H : MLay h M) : hr h M 53 = M + 38 := hr_of H.r53
theorem MLay.k53 {h : hp} {M : Nat} (H : MLay h M) : hK h (M + 38) = 20 := (H.2 53 (by decide)).2.1
theorem MLay.n53 {h : hp} {M : Nat} (H : MLay h M) : hN h (M + 38) = 200 := (H.2 53 (by decide)).2.2
theorem MLay.r54 {h : hp} {M : Nat} (H : MLay h M) : hR h M 54 = some (M + 39) := (H.2 54 (by decide)).1
theorem MLay.q54 {h : hp} {M : Nat} (H : MLay h M) : hr h M 54 = M + 39 := hr_of H.r54
theorem MLay.k54 {h : hp} {M : Nat} (H : MLay h M) : hK h (M + 39) = 20 := (H.2 54 (by decide)).2.1
theorem MLay.n54 {h : hp} {M : Nat} (H : MLay h M) : hN h (M + 39) = 200 := (H.2 54 (by decide)).2.2
theorem MLay.r56 {h : hp} {M : Nat} (H : MLay h M) : hR h M 56 = some (M + 40) := (H.2 56 (by decide)).1
theorem MLay.q56 {h : hp} {M : Nat} (H : MLay h M) : hr h M 56 = M + 40 := hr_of H.r56
theorem MLay.k56 {h : hp} {M : Nat} (H : MLay h M) : hK h (M + 40) = 22 := (H.2 56 (by decide)).2.1
theorem MLay.n56 {h : hp} {M : Nat} (H : MLay h M) : hN h (M + 40) = 24 := (H.2 56 (by decide)).2.2
theorem MLay.r57 {h : hp} {M : Nat} (H : MLay h M) : hR h M 57 = some (M + 41) := (H.2 57 (by decide)).1
theorem MLay.q57 {h : hp} {M : Nat} (H : MLay h M) : hr h M 57 = M + 41 := hr_of H.r57
theorem MLay.k57 {h : hp} {M : Nat} (H : MLay h M) : hK h (M + 41) = 20 := (H.2 57 (by decide)).2.1
theorem MLay.n57 {h : hp} {M : Nat} (H : MLay h M) : hN h (M + 41) = 60 := (H.2 57 (by decide)).2.2
theorem MLay.r58 {h : hp} {M : Nat} (H : MLay h M) : hR h M 58 = some (M + 42) := (H.2 58 (by decide)).1
theorem MLay.q58 {h : hp} {M : Nat} (H : MLay h M) : hr h M 58 = M + 42 := hr_of H.r58
theorem MLay.k58 {h : hp} {M : Nat} (H : MLay h M) : hK h (M + 42) = 20 := (H.2 58 (by decide)).2.1
theorem MLay.n58 {h : hp} {M : Nat} (H : MLay h M) : hN h (M + 42) = 60 := (H.2 58 (by decide)).2.2
theorem MLay.r59 {h : hp} {M : Nat} (H : MLay h M) : hR h M 59 = some (M + 43) := (H.2 59 (by decide)).1
theorem MLay.q59 {h : hp} {M : Nat} (H : MLay h M) : hr h M 59 = M + 43 := hr_of H.r59
theorem MLay.k59 {h : hp} {M : Nat} (H : MLay h M) : hK h (M + 43) = 20 := (H.2 59 (by decide)).2.1
theorem MLay.n59 {h : hp} {M : Nat} (H : MLay h M) : hN h (M + 43) = 60 := (H.2 59 (by decide)).2.2
theorem MLay.r60 {h : hp} {M : Nat} (H : MLay h M) : hR h M 60 = some (M + 44) := (H.2 60 (by decide)).1
theorem MLay.q60 {h : hp} {M : Nat} (H : MLay h M) : hr h M 60 = M + 44 := hr_of H.r60
theorem MLay.k60 {h : hp} {M : Nat} (H : MLay h M) : hK h (M + 44) = 20 := (H.2 60 (by decide)).2.1
theorem MLay.n60 {h : hp} {M : Nat} (H : MLay h M) : hN h (M + 44) = 60 := (H.2 60 (by decide)).2.2
theorem MLay.r61 {h : hp} {M : Nat} (H : MLay h M) : hR h M 61 = some (M + 45) := (H.2 61 (by decide)).1
theorem MLay.q61 {h : hp} {M : Nat} (H : MLay h M) : hr h M 61 = M + 45 := hr_of H.r61
theorem MLay.k61 {h : hp} {M : Nat} (H : MLay h M) : hK h (M + 45) = 20 := (H.2 61 (by decide)).2.1
theorem MLay.n61 {h : hp} {M : Nat} (H : MLay h M) : hN h (M + 45) = 60 := (H.2 61 (by decide)).2.2
theorem MLay.r62 {h : hp} {M : Nat} (H : MLay h M) : hR h M 62 = some (M + 46) := (H.2 62 (by decide)).1
theorem MLay.q62 {h : hp} {M : Nat} (H : MLay h M) : hr h M 62 = M + 46 := hr_of H.r62
theorem MLay.k62 {h : hp} {M : Nat} (H : MLay h M) : hK h (M + 46) = 20 := (H.2 62 (by decide)).2.1
theorem MLay.n62 {h : hp} {M : Nat} (H : MLay h M) : hN h (M + 46) = 60 := (H.2 62 (by decide)).2.2
theorem MLay.r65 {h : hp} {M : Nat} (H : MLay h M) : hR h M 65 = some (M + 47) := (H.2 65 (by decide)).1
theorem MLay.q65 {h : hp} {M : Nat} (H : MLay h M) : hr h M 65 = M + 47 := hr_of H.r65
theorem MLay.k65 {h : hp} {M : Nat} (H : MLay h M) : hK h (M + 47) = 20 := (H.2 65 (by decide)).2.1
theorem MLay.n65 {h : hp} {M : Nat} (H : MLay h M) : hN h (M + 47) = 10000 := (H.2 65 (by decide)).2.2
theorem MLay.r66 {h : hp} {M : Nat} (H : MLay h M) : hR h M 66 = some (M + 48) := (H.2 66 (by decide)).1
theorem MLay.q66 {h : hp} {M : Nat} (H : MLay h M) : hr h M 66 = M + 48 := hr_of H.r66
theorem MLay.k66 {h : hp} {M : Nat} (H : MLay h M) : hK h (M + 48) = 20 := (H.2 66 (by decide)).2.1
theorem MLay.n66 {h : hp} {M : Nat} (H : MLay h M) : hN h (M + 48) = 8 := (H.2 66 (by decide)).2.2
theorem MLay.r67 {h : hp} {M : Nat} (H : MLay h M) : hR h M 67 = some (M + 49) := (H.2 67 (by decide)).1
theorem MLay.q67 {h : hp} {M : Nat} (H : MLay h M) : hr h M 67 = M + 49 := hr_of H.r67
theorem MLay.k67 {h : hp} {M : Nat} (H : MLay h M) : hK h (M + 49) = 20 := (H.2 67 (by decide)).2.1
theorem MLay.n67 {h : hp} {M : Nat} (H : MLay h M) : hN h (M + 49) = 200 := (H.2 67 (by decide)).2.2
theorem MLay.r68 {h : hp} {M : Nat} (H : MLay h M) : hR h M 68 = some (M + 50) := (H.2 68 (by decide)).1
theorem MLay.q68 {h : hp} {M : Nat} (H : MLay h M) : hr h M 68 = M + 50 := hr_of H.r68
theorem MLay.k68 {h : hp} {M : Nat} (H : MLay h M) : hK h (M + 50) = 22 := (H.2 68 (by decide)).2.1
theorem MLay.n68 {h : hp} {M : Nat} (H : MLay h M) : hN h (M + 50) = 4 := (H.2 68 (by decide)).2.2
theorem MLay.kept {h h' : hp} {P : Nat → Prop} {M : Nat} (H : MLay h M) (k : Chg P h h') : MLay h' M := ⟨by rw [k.2.1]; exact H.1, fun q hq => by rw [k.2.2.2.1, k.2.1, k.2.2.1]; exact H.2 q hq⟩
/-- the reference at M holds v (LISTS apart) -/
def MRep (h : hp) (M : Nat) (v : vw) : Prop := MLay h M ∧ (hI h M 1 = nI (vn v 0) ∧ hI h M 2 = nI (vn v 1) ∧ hI h M 3 = nI (vn v 2) ∧ hI h M 4 = nI (vn v 3) ∧ hI h M 5 = nI (vn v 5) ∧ hI h M 6 = nI (vn v 6) ∧ hI h M 7 = vs v) ∧
  (vn v 0 ≤ 12 ∧ vn v 1 ≤ 24 ∧ vn v 2 ≤ 200 ∧ vn v 3 ≤ 24 ∧ vn v 4 ≤ 96 ∧ vn v 5 ≤ 200 ∧ vn v 6 ≤ 60) ∧
  (∀ r, r < vn v 0 → ∀ c, c < 5 → hI h (M + 1 + c) r = vc v 0 r c) ∧
  (∀ r, r < vn v 1 → ∀ c, c < 6 → hI h (M + 8 + c) r = vc v 1 r c) ∧
  (∀ r, r < vn v 2 → ∀ c, c < 4 → hI h (M + 14 + c) r = vc v 2 r c) ∧
  (∀ r, r < vn v 3 → ∀ c, c < 4 → hI h (M + 18 + c) r = vc v 3 r c) ∧
  (∀ r, r < vn v 5 → ∀ c, c < 4 → hI h (M + 36 + c) r = vc v 5 r c) ∧
  (∀ r, r < vn v 6 → ∀ c, c < 6 → hI h (M + 41 + c) r = vc v 6 r c)
