/-! 51: orders by keys; the first, the k-th of a sorted row -/
theorem prt_eq (f g : Nat → Int) : ∀ d c i, c ≤ i → i < prt f g d c → f i = g i
  | 0, c, i, h1, h2 => by rw [prt] at h2; omega
  | d + 1, c, i, h1, h2 => by
    rw [prt] at h2
    split at h2
    · next q =>
      by_cases e : i = c
      · rw [e]; exact q
      · exact prt_eq f g d (c + 1) i (by omega) h2
    · omega
theorem prt_ne (f g : Nat → Int) : ∀ d c, prt f g d c < c + d → ¬ f (prt f g d c) = g (prt f g d c)
  | 0, c, h => by rw [prt] at h; omega
  | d + 1, c, h => by
    rw [prt] at h ⊢
    split
    · next q => rw [if_pos q] at h; exact prt_ne f g d (c + 1) (by omega)
    · next q => exact q
/-- f is less than g, by the first c of n where they are unlike, else by numbers -/
def lx (f g : Nat → Int) (n a b : Nat) : Prop := (∃ c, c < n ∧ (∀ i, i < c → f i = g i) ∧ f c < g c) ∨ ((∀ i, i < n → f i = g i) ∧ a < b)
theorem ahB_lx {f g : Nat → Int} {n a b : Nat} : ahB f g n a b = true ↔ lx f g n a b := by
  have h1 := prt_eq f g n 0
  have h2 := prt_ne f g n 0
  have h3 := prt_le f g n 0
  unfold ahB
  generalize prt f g n 0 = c at *
  constructor
  · intro h
    split at h
    · next q => exact Or.inr ⟨fun i hi => h1 i (by omega) (by omega), of_decide_eq_true h⟩
    · next q => exact Or.inl ⟨c, by omega, fun i hi => h1 i (by omega) hi, of_decide_eq_true h⟩
  · rintro (⟨d, d1, d2, d3⟩ | ⟨d1, d2⟩)
    · have e : d = c := by
        by_cases z : d < c
        · have := h1 d (by omega) z; omega
        · by_cases z2 : c < d
          · exact absurd (d2 c z2) (h2 (by omega))
          · omega
      subst e
      rw [if_neg (by omega)]
      exact decide_eq_true d3
    · have e : c = n := by
        by_cases z : c < n
        · exact absurd (d1 c z) (h2 (by omega))
        · omega
      rw [if_pos e]
      exact decide_eq_true d2
theorem lx_tr {f g k : Nat → Int} {n a b c : Nat} (h1 : lx f g n a b) (h2 : lx g k n b c) : lx f k n a c := by
  rcases h1 with ⟨d, d1, d2, d3⟩ | ⟨d1, d2⟩
  · rcases h2 with ⟨e, e1, e2, e3⟩ | ⟨e1, e2⟩
    · by_cases z : d < e
      · exact Or.inl ⟨d, d1, fun i hi => (d2 i hi).trans (e2 i (by omega)), by rw [← e2 d z]; exact d3⟩
      · by_cases z2 : e < d
        · exact Or.inl ⟨e, e1, fun i hi => (d2 i (by omega)).trans (e2 i hi), by rw [d2 e z2]; exact e3⟩
        · have : d = e := by omega
          subst this
          exact Or.inl ⟨d, d1, fun i hi => (d2 i hi).trans (e2 i hi), by omega⟩
    · exact Or.inl ⟨d, d1, fun i hi => (d2 i hi).trans (e1 i (by omega)), by rw [← e1 d d1]; exact d3⟩
  · rcases h2 with ⟨e, e1, e2, e3⟩ | ⟨e1, e2⟩
    · exact Or.inl ⟨e, e1, fun i hi => (d1 i (by omega)).trans (e2 i hi), by rw [d1 e e1]; exact e3⟩
    · exact Or.inr ⟨fun i hi => (d1 i hi).trans (e1 i hi), by omega⟩
theorem lx_ir {f : Nat → Int} {n a : Nat} (h : lx f f n a a) : False := by
  rcases h with ⟨d, d1, d2, d3⟩ | ⟨d1, d2⟩ <;> omega
theorem lx_tot {f g : Nat → Int} {n a b : Nat} (hab : ¬ a = b) : lx f g n a b ∨ lx g f n b a := by
  have h1 := prt_eq f g n 0
  have h2 := prt_ne f g n 0
  have h3 := prt_le f g n 0
  generalize prt f g n 0 = c at *
  by_cases z : c < n
  · have hne := h2 (by omega)
    by_cases y : f c < g c
    · exact Or.inl (Or.inl ⟨c, z, fun i hi => h1 i (by omega) hi, y⟩)
    · exact Or.inr (Or.inl ⟨c, z, fun i hi => (h1 i (by omega) hi).symm, by omega⟩)
  · have : ∀ i, i < n → f i = g i := fun i hi => h1 i (by omega) (by omega)
    by_cases y : a < b
    · exact Or.inl (Or.inr ⟨this, y⟩)
    · exact Or.inr (Or.inr ⟨fun i hi => (this i hi).symm, by omega⟩)
/-- the order of two by their own keys -/
def bf (kf : Nat → Nat → Int) (N x y : Nat) : Bool := ahB (kf x) (kf y) N x y
theorem bf_tr {kf : Nat → Nat → Int} {N x y z : Nat} (h1 : bf kf N x y = true) (h2 : bf kf N y z = true) : bf kf N x z = true := ahB_lx.mpr (lx_tr (ahB_lx.mp h1) (ahB_lx.mp h2))
theorem bf_ir {kf : Nat → Nat → Int} {N x : Nat} (h : bf kf N x x = true) : False := lx_ir (ahB_lx.mp h)
theorem bf_tot {kf : Nat → Nat → Int} {N x y : Nat} (h : ¬ x = y) (h2 : ¬ bf kf N x y = true) : bf kf N y x = true := by
  rcases lx_tot (f := kf x) (g := kf y) (n := N) h with e | e
  · exact absurd (ahB_lx.mpr e) h2
  · exact ahB_lx.mpr e
/-- the first of those of whom B holds goes ahead of all others -/
theorem fs_sp {B : Nat → Bool} {kf : Nat → Nat → Int} {N : Nat} : ∀ {n : Nat}, (∀ q, fs B (bf kf N) n = some q → ∀ k, k < n → B k = true → k = q ∨ bf kf N q k = true) ∧ (fs B (bf kf N) n = none → ∀ k, k < n → B k = false)
  | 0 => ⟨fun q h => (by cases h), fun _ k hk => absurd hk (by omega)⟩
  | n + 1 => by
    have ih := fs_sp (B := B) (kf := kf) (N := N) (n := n)
    rw [fs]
    by_cases c : B n = true ∧ ∀ q, fs B (bf kf N) n = some q → bf kf N n q = true
    · rw [if_pos c]
      refine ⟨fun q h k hk hB => ?_, fun h => (by cases h)⟩
      cases h
      by_cases e : k = n
      · exact Or.inl e
      · refine Or.inr ?_
        cases hq : fs B (bf kf N) n with
        | none => rw [ih.2 hq k (by omega)] at hB; cases hB
        | some q =>
          have h1 := c.2 q hq
          rcases ih.1 q hq k (by omega) hB with e2 | e2
          · rw [e2]; exact h1
          · exact bf_tr h1 e2
    · rw [if_neg c]
      refine ⟨fun q h k hk hB => ?_, fun h k hk => ?_⟩
      · by_cases e : k = n
        · subst e
          refine Or.inr ?_
          have hne : ¬ k = q := fun z => by have := (fs_in h).1; omega
          refine bf_tot hne (fun z => c ⟨hB, fun q' hq' => ?_⟩)
          rw [h] at hq'
          cases hq'
          exact z
        · exact ih.1 q h k (by omega) hB
      · by_cases e : k = n
        · subst e
          cases hB : B k
          · rfl
          · exact absurd ⟨hB, fun q hq => by rw [h] at hq; cases hq⟩ c
        · exact ih.2 h k (by omega)
/-- the k-th of those of L from i on, d of them, that fit -/
def ipR (L : Nat → Nat) (ft : Nat → Bool) : Nat → Nat → Nat → Option Nat
  | 0, _, _ => none
  | d + 1, i, k => if ft (L i) = true then (if k = 0 then some (L i) else ipR L ft d (i + 1) (k - 1)) else ipR L ft d (i + 1) k
theorem ipR_none {L : Nat → Nat} {ft : Nat → Bool} : ∀ {d i : Nat}, ipR L ft d i 0 = none → ∀ j, i ≤ j → j < i + d → ft (L j) = false
  | 0, i, _, j, h1, h2 => by omega
  | d + 1, i, h, j, h1, h2 => by
    rw [ipR] at h
    split at h
    · rw [if_pos rfl] at h; cases h
    · next q =>
      by_cases e : j = i
      · rw [e]; cases hh : ft (L i); rfl; exact absurd hh q
      · exact ipR_none h j (by omega) (by omega)
theorem ipR_some {L : Nat → Nat} {ft : Nat → Bool} : ∀ {d i x : Nat}, ipR L ft d i 0 = some x → ∃ j, i ≤ j ∧ j < i + d ∧ L j = x ∧ ft x = true ∧ ∀ j', i ≤ j' → j' < j → ft (L j') = false
  | 0, i, x, h => by cases h
  | d + 1, i, x, h => by
    rw [ipR] at h
    split at h
    · next q =>
      rw [if_pos rfl] at h
      cases h
      exact ⟨i, by omega, by omega, rfl, q, fun j' h1 h2 => by omega⟩
    · next q =>
      obtain ⟨j, h1, h2, h3, h4, h5⟩ := ipR_some h
      refine ⟨j, by omega, by omega, h3, h4, fun j' z1 z2 => ?_⟩
      by_cases e : j' = i
      · rw [e]; cases hh : ft (L i); rfl; exact absurd hh q
      · exact h5 j' (by omega) z2
theorem ipR_cg {L : Nat → Nat} {ft ft' : Nat → Bool} : ∀ {d i k : Nat}, (∀ j, i ≤ j → j < i + d → ft (L j) = ft' (L j)) → ipR L ft d i k = ipR L ft' d i k
  | 0, _, _, _ => rfl
  | d + 1, i, k, h => by
    have ih : ∀ k, ipR L ft d (i + 1) k = ipR L ft' d (i + 1) k := fun k => ipR_cg (fun j h1 h2 => h j (by omega) (by omega))
    rw [ipR, ipR, h i (by omega) (by omega), ih, ih]
/-- the next one is the first of the rest -/
theorem ipR_s {L : Nat → Nat} {ft : Nat → Bool} : ∀ {d i k : Nat}, (∀ j j', i ≤ j → j < i + d → i ≤ j' → j' < i + d → L j = L j' → j = j') → ipR L ft d i (k + 1) = ipR L (fun x => ft x && !(decide (ipR L ft d i 0 = some x))) d i k
  | 0, _, _, _ => rfl
  | d + 1, i, k, hinj => by
    by_cases q : ft (L i) = true
    · have e0 : ipR L ft (d + 1) i 0 = some (L i) := by rw [ipR, if_pos q, if_pos rfl]
      rw [e0, ipR, if_pos q, if_neg (by omega), Nat.add_sub_cancel, ipR]
      have e1 : (ft (L i) && !(decide (some (L i) = some (L i)))) = false := by rw [decide_eq_true rfl]; simp
      rw [e1, if_neg (by decide)]
      refine ipR_cg (fun j h1 h2 => ?_)
      have : ¬ L i = L j := fun e => by have := hinj i j (by omega) (by omega) (by omega) (by omega) e; omega
      rw [decide_eq_false (fun e => this (Option.some.inj e))]
      simp
    · have e0 : ipR L ft (d + 1) i 0 = ipR L ft d (i + 1) 0 := by rw [ipR, if_neg q]
      have q' : ft (L i) = false := by cases hh : ft (L i); rfl; exact absurd hh q
      rw [e0, ipR, if_neg q, ipR, q', Bool.false_and, if_neg (by decide)]
      exact ipR_s (fun j j' h1 h2 h3 h4 => hinj j j' (by omega) (by omega) (by omega) (by omega))
/-- a sorted row of those of whom E holds -/
def Srt (kf : Nat → Nat → Int) (N n : Nat) (L : Nat → Nat) (E : Nat → Prop) : Prop := (∀ i j, i < j → j < n → bf kf N (L i) (L j) = true) ∧ ∀ x, (∃ i, i < n ∧ L i = x) ↔ E x
theorem Srt.inj {kf : Nat → Nat → Int} {N n : Nat} {L : Nat → Nat} {E : Nat → Prop} (S : Srt kf N n L E) : ∀ j j', 0 ≤ j → j < 0 + n → 0 ≤ j' → j' < 0 + n → L j = L j' → j = j' := by
  intro j j' _ h1 _ h2 e
  by_cases z : j < j'
  · have := S.1 j j' z (by omega)
    rw [e] at this
    exact (bf_ir this).elim
  · by_cases z2 : j' < j
    · have := S.1 j' j z2 (by omega)
      rw [e] at this
      exact (bf_ir this).elim
    · omega
/-- the first that fits is the least of those that fit -/
theorem Srt.fst {kf : Nat → Nat → Int} {N n : Nat} {L : Nat → Nat} {E : Nat → Prop} (S : Srt kf N n L E) (ft : Nat → Bool) {n1 : Nat} (B : Nat → Bool) (kp : Nat → Nat → Int) (fm : Nat → Nat) (hfm : ∀ p q, p < n1 → q < n1 → B p = true → B q = true → bf kf N (fm p) (fm q) = true → bf kp N p q = true) (hB : ∀ x, (E x ∧ ft x = true) ↔ ∃ p, p < n1 ∧ B p = true ∧ x = fm p) : ipR L ft n 0 0 = (fs B (bf kp N) n1).map fm := by
  cases hi : ipR L ft n 0 0 with
  | none =>
    have h0 := ipR_none hi
    cases hf : fs B (bf kp N) n1 with
    | none => rfl
    | some q =>
      obtain ⟨h1, h2⟩ := fs_in hf
      obtain ⟨z1, z2⟩ := (hB (fm q)).mpr ⟨q, h1, h2, rfl⟩
      obtain ⟨i, hi, e⟩ := (S.2 _).mpr z1
      have := h0 i (by omega) (by omega)
      rw [e, z2] at this
      cases this
  | some x =>
    obtain ⟨j, j1, j2, j3, j4, j5⟩ := ipR_some hi
    obtain ⟨p, p1, p2, p3⟩ := (hB x).mp ⟨(S.2 x).mp ⟨j, by omega, j3⟩, j4⟩
    cases hf : fs B (bf kp N) n1 with
    | none =>
      have := (fs_sp (n := n1)).2 hf p p1
      rw [p2] at this
      cases this
    | some q =>
      obtain ⟨h1, h2⟩ := fs_in hf
      rcases (fs_sp (n := n1)).1 q hf p p1 p2 with e | e
      · rw [p3, e]; rfl
      · obtain ⟨z1, z2⟩ := (hB (fm q)).mpr ⟨q, h1, h2, rfl⟩
        obtain ⟨i, hi, ei⟩ := (S.2 _).mpr z1
        by_cases z : i < j
        · have := j5 i (by omega) z
          rw [ei, z2] at this
          cases this
        · by_cases z3 : i = j
          · subst z3
            rw [j3] at ei
            show some x = some (fm q)
            rw [ei]
          · have := S.1 j i (by omega) hi
            rw [j3, ei, p3] at this
            exact (bf_ir (bf_tr (hfm p q p1 h1 p2 h2 this) e)).elim
/-- the k-th that fits -/
theorem Srt.kth {kf : Nat → Nat → Int} {N n : Nat} {L : Nat → Nat} {E : Nat → Prop} (S : Srt kf N n L E) {n1 : Nat} (kp : Nat → Nat → Int) (fm : Nat → Nat) (hinj : ∀ p q, fm p = fm q → p = q) (hfm : ∀ p q, bf kf N (fm p) (fm q) = true → bf kp N p q = true) (Bk : Nat → Nat → Bool) (hBk : ∀ k j, Bk (k + 1) j = (Bk k j && !(decide (fs (Bk k) (bf kp N) n1 = some j)))) : ∀ (k k0 : Nat) (ft : Nat → Bool), (∀ x, (E x ∧ ft x = true) ↔ ∃ p, p < n1 ∧ Bk k0 p = true ∧ x = fm p) → ipR L ft n 0 k = (fs (Bk (k0 + k)) (bf kp N) n1).map fm
  | 0, k0, ft, hB => S.fst ft (Bk k0) kp fm (fun p q _ _ _ _ h => hfm p q h) hB
  | k + 1, k0, ft, hB => by
    have e0 := S.fst ft (Bk k0) kp fm (fun p q _ _ _ _ h => hfm p q h) hB
    rw [ipR_s S.inj, Srt.kth S kp fm hinj hfm Bk hBk k (k0 + 1) _ (fun x => ?_), show k0 + 1 + k = k0 + (k + 1) by omega]
    rw [e0]
    constructor
    · rintro ⟨z1, z2⟩
      rw [Bool.and_eq_true] at z2
      obtain ⟨p, p1, p2, p3⟩ := (hB x).mp ⟨z1, z2.1⟩
      refine ⟨p, p1, ?_, p3⟩
      rw [hBk, p2, Bool.true_and]
      cases hd : decide (fs (Bk k0) (bf kp N) n1 = some p)
      · rfl
      · have hd := of_decide_eq_true hd
        rw [hd, p3] at z2
        simp at z2
    · rintro ⟨p, p1, p2, p3⟩
      rw [hBk, Bool.and_eq_true] at p2
      obtain ⟨z1, z2⟩ := (hB x).mpr ⟨p, p1, p2.1, p3⟩
      refine ⟨z1, ?_⟩
      rw [z2, Bool.true_and]
      cases hd : decide (Option.map fm (fs (Bk k0) (bf kp N) n1) = some x)
      · rfl
      · have hd := of_decide_eq_true hd
        cases hf : fs (Bk k0) (bf kp N) n1 with
        | none => rw [hf] at hd; cases hd
        | some q =>
          rw [hf] at hd
          have e : fm q = x := Option.some.inj hd
          rw [p3] at e
          have := hinj _ _ e
          rw [hf, this] at p2
          simp at p2
/-- one more is put where it belongs -/
theorem Srt.ins {kf : Nat → Nat → Int} {N n : Nat} {L : Nat → Nat} {E : Nat → Prop} (S : Srt kf N n L E) {x p : Nat} (hx : ¬ E x) (hpn : p ≤ n) (h1 : ∀ j, p ≤ j → j < n → bf kf N x (L j) = true) (h2 : p = 0 ∨ ¬ bf kf N x (L (p - 1)) = true) : Srt kf N (n + 1) (fun i => if i < p then L i else if i = p then x else L (i - 1)) (fun y => E y ∨ y = x) := by
  have hb : ∀ j, j < p → bf kf N (L j) x = true := fun j hj => by
    rcases h2 with e | e
    · omega
    · have hne : ¬ x = L (p - 1) := fun z => hx ((S.2 x).mp ⟨p - 1, by omega, z.symm⟩)
      have := bf_tot hne e
      by_cases z : j = p - 1
      · rw [z]; exact this
      · exact bf_tr (S.1 j (p - 1) (by omega) (by omega)) this
  refine ⟨fun i j hij hj => ?_, fun y => ?_⟩
  · dsimp only
    by_cases a : j < p
    · rw [if_pos a, if_pos (by omega)]; exact S.1 i j hij (by omega)
    · rw [if_neg a]
      by_cases b : j = p
      · rw [if_pos b, if_pos (by omega)]; exact hb i (by omega)
      · rw [if_neg b]
        by_cases c : i < p
        · rw [if_pos c]; exact S.1 i (j - 1) (by omega) (by omega)
        · rw [if_neg c]
          by_cases d : i = p
          · rw [if_pos d]; exact h1 (j - 1) (by omega) (by omega)
          · rw [if_neg d]; exact S.1 (i - 1) (j - 1) (by omega) (by omega)
  · constructor
    · rintro ⟨i, hi, e⟩
      dsimp only at e
      by_cases a : i < p
      · rw [if_pos a] at e; exact Or.inl ((S.2 y).mp ⟨i, by omega, e⟩)
      · rw [if_neg a] at e
        by_cases b : i = p
        · rw [if_pos b] at e; exact Or.inr e.symm
        · rw [if_neg b] at e; exact Or.inl ((S.2 y).mp ⟨i - 1, by omega, e⟩)
    · rintro (h | h)
      · obtain ⟨i, hi, e⟩ := (S.2 y).mpr h
        by_cases a : i < p
        · exact ⟨i, by omega, by dsimp only; rw [if_pos a]; exact e⟩
        · exact ⟨i + 1, by omega, by dsimp only; rw [if_neg (by omega), if_neg (by omega)]; exact e⟩
      · exact ⟨p, by omega, by dsimp only; rw [if_neg (by omega), if_pos rfl]; exact h.symm⟩

