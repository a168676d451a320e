/-! 12: numbers; calls with a known answer -/
def bz (P : Prop) [Decidable P] : Int32 := if P then 1 else 0
theorem bz_0 {P : Prop} [Decidable P] : bz P = 0 ↔ ¬ P := by unfold bz; split <;> simp [*]
theorem bz_1 {P : Prop} [Decidable P] : bz P = 1 ↔ P := by unfold bz; split <;> simp [*]
theorem bz_or {P : Prop} [Decidable P] : bz P = 0 ∨ bz P = 1 := by unfold bz; split <;> simp
theorem bz_t {P : Prop} [Decidable P] (h : P) : bz P = 1 := if_pos h
theorem bz_f {P : Prop} [Decidable P] (h : ¬ P) : bz P = 0 := if_neg h
theorem Call.ret {g : gx} {n mc ms : Nat} {M : md_} {av : List Value} {h h1 : hp} {v : Option Value} {Q : Option Value → hp → Prop} (k : Call g n mc ms M av h (fun r h' => r = v ∧ h' = h1)) (kk : Q v h1) : Call g n mc ms M av h Q :=
  k.mono (fun r h' q => by obtain ⟨rfl, rfl⟩ := q; exact kk)
theorem i_lt {x y : Int32} : x < y ↔ x.toInt < y.toInt := Int32.lt_iff_toInt_lt
theorem i_le {x y : Int32} : x ≤ y ↔ x.toInt ≤ y.toInt := Int32.le_iff_toInt_le
theorem i_eq {x y : Int32} : x = y ↔ x.toInt = y.toInt := Int32.toInt_inj.symm
theorem i_0 : (0 : Int32).toInt = 0 := rfl
theorem i_m1 : (-1 : Int32).toInt = -1 := rfl
theorem i_1 : (1 : Int32).toInt = 1 := rfl
theorem tn_ {x : Int32} : x.toNatClampNeg = x.toInt.toNat := rfl
theorem i_hi (x : Int32) : x.toInt < 2147483648 := by have := Int32.toInt_lt x; omega
theorem i_lo (x : Int32) : -2147483648 ≤ x.toInt := by have := Int32.le_toInt x; omega
/-- an int that is not below 0 is a number -/
theorem i_nat {x : Int32} (h : 0 ≤ x) : ∃ k : Nat, x = nI k ∧ k < 2147483648 ∧ x.toInt = k := by
  rw [i_le, i_0] at h
  have := i_hi x
  refine ⟨x.toInt.toNat, ?_, by omega, by omega⟩
  rw [i_eq, nI_toInt (by omega)]
  omega
theorem nI_inj {a b : Nat} (ha : a < 2147483648) (hb : b < 2147483648) : nI a = nI b ↔ a = b := by
  rw [i_eq, nI_toInt (by omega), nI_toInt (by omega)]
  omega
theorem i_add {x y : Int32} (h1 : -2147483648 ≤ x.toInt + y.toInt) (h2 : x.toInt + y.toInt < 2147483648) : (x + y).toInt = x.toInt + y.toInt := by
  rw [Int32.toInt_add, Int.bmod_eq_of_le (by omega) (by omega)]
theorem i_sub {x y : Int32} (h1 : -2147483648 ≤ x.toInt - y.toInt) (h2 : x.toInt - y.toInt < 2147483648) : (x - y).toInt = x.toInt - y.toInt := by
  rw [Int32.toInt_sub, Int.bmod_eq_of_le (by omega) (by omega)]
theorem i_mul {x y : Int32} (h1 : -2147483648 ≤ x.toInt * y.toInt) (h2 : x.toInt * y.toInt < 2147483648) : (x * y).toInt = x.toInt * y.toInt := by
  rw [Int32.toInt_mul, Int.bmod_eq_of_le (by omega) (by omega)]
theorem nI_plus {a b : Nat} : nI a + nI b = nI (a + b) := by
  unfold nI
  rw [Int32.ofNat_add]
theorem nI_mul {a b : Nat} : nI a * nI b = nI (a * b) := by
  unfold nI
  rw [Int32.ofNat_mul]
theorem nI_tn {a : Nat} (h : a < 2147483648) : (nI a).toNatClampNeg = a := by
  rw [tn_, nI_toInt (by omega)]
  omega
theorem in_nI {a N : Nat} (h : a < N) (h2 : a < 2147483648) : vp_in (nI a) N := by
  unfold vp_in
  rw [nI_tn h2, i_lt, nI_toInt (by omega), i_0]
  omega
theorem nI_lt_ {a b : Nat} (ha : a < 2147483648) (hb : b < 2147483648) : nI a < nI b ↔ a < b := by
  rw [i_lt, nI_toInt (by omega), nI_toInt (by omega)]
  omega
theorem nI_le_ {a b : Nat} (ha : a < 2147483648) (hb : b < 2147483648) : nI a ≤ nI b ↔ a ≤ b := by
  rw [i_le, nI_toInt (by omega), nI_toInt (by omega)]
  omega
theorem nI_nn {a : Nat} (ha : a < 2147483648) : ¬ nI a < 0 := by
  rw [i_lt, nI_toInt (by omega), i_0]
  omega
