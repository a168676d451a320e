/-! 58: how a view picks from the ranking -/
def mkL (v : vw) (ln : lwt) (b : Nat) (m : Int32) (dn th : Nat → Bool) (k : Nat) : Bool := memB v b k && (!(dn k) && mayB ln (wF v th b m k) ln.1)
def kyL (v : vw) (ln : lwt) (b : Nat) (m : Int32) (th : Nat → Bool) (k : Nat) : Nat → Int := keyV ln (wF v th b m k)
/-- who is chosen by a LAW -/
def chL (v : vw) (ln : lwt) (b : Nat) (m : Int32) (dn th : Nat → Bool) : Option Nat := fs (mkL v ln b m dn th) (bf (kyL v ln b m th) ln.1) (vn v 1)
theorem fs_no {B : Nat → Bool} {ah : Nat → Nat → Bool} : ∀ n, (∀ k, k < n → B k = false) → fs B ah n = none
  | 0, _ => rfl
  | n + 1, h => by
    rw [fs, if_neg (fun e => by rw [h n (by omega)] at e; cases e.1)]
    exact fs_no n (fun k hk => h k (by omega))
theorem fs_cg {B B' : Nat → Bool} {ah ah' : Nat → Nat → Bool} : ∀ n, (∀ k, k < n → B k = B' k) → (∀ k q, k < n → q < n → ah k q = ah' k q) → fs B ah n = fs B' ah' n
  | 0, _, _ => rfl
  | n + 1, h1, h2 => by
    have ih := fs_cg (B := B) (B' := B') (ah := ah) (ah' := ah') n (fun k hk => h1 k (by omega)) (fun k q a b => h2 k q (by omega) (by omega))
    rw [fs, fs, ih, h1 n (by omega)]
    have : (B' n = true ∧ ∀ q, fs B' ah' n = some q → ah n q = true) ↔ (B' n = true ∧ ∀ q, fs B' ah' n = some q → ah' n q = true) := by
      constructor
      · rintro ⟨a, b⟩; exact ⟨a, fun q hq => by rw [← h2 n q (by omega) (by have := (fs_in hq).1; omega)]; exact b q hq⟩
      · rintro ⟨a, b⟩; exact ⟨a, fun q hq => by rw [h2 n q (by omega) (by have := (fs_in hq).1; omega)]; exact b q hq⟩
    by_cases c : B' n = true ∧ ∀ q, fs B' ah' n = some q → ah' n q = true
    · rw [if_pos c, if_pos (this.mpr c)]
    · rw [if_neg c, if_neg (fun z => c (this.mp z))]
theorem chO_L {v : vw} {ls : lws} {b : Nat} {m : Int32} {dn th : Nat → Bool} (h : ¬ vc v 0 b 4 = -1) : chO v ls b m dn th = chL v (ln0 v ls b) b m dn th := by
  unfold chO chL
  refine fs_cg _ (fun k hk => ?_) (fun k q _ _ => rfl)
  unfold mkB mkL memB
  rw [decide_eq_false h]
  rfl
theorem chO_0 {v : vw} {ls : lws} {b : Nat} {m : Int32} {dn th : Nat → Bool} (h : vc v 0 b 4 = -1) : chO v ls b m dn th = none := by
  unfold chO
  refine fs_no _ (fun k hk => ?_)
  unfold mkB
  rw [decide_eq_true h]
  rfl
def hhB (v : vw) (b : Nat) (m : Int32) (th : Nat → Bool) (p : Nat) : Bool := ppB v th (nI p) (nI b) m (vn v 3)
def fmN (hh : Nat → Bool) (p : Nat) : Nat := 2 * p + (if hh p = true then 1 else 0)
theorem fmN_2 (hh : Nat → Bool) (p : Nat) : fmN hh p / 2 = p ∧ decide (fmN hh p % 2 = 1) = hh p := by
  unfold fmN
  cases hh p
  · exact ⟨by simp, decide_eq_false (by simp)⟩
  · refine ⟨by rw [if_pos rfl]; omega, decide_eq_true ?_⟩
    rw [if_pos rfl]; omega
theorem ppB_mono {v : vw} {th th' : Nat → Bool} {p b m : Int32} : ∀ {k : Nat}, (∀ j, th j = true → th' j = true) → ppB v th p b m k = true → ppB v th' p b m k = true
  | 0, _, h => by cases h
  | k + 1, ht, h => by
    rw [ppB, Bool.or_eq_true] at h ⊢
    rcases h with h | h
    · exact Or.inl (ppB_mono ht h)
    · rw [Bool.and_eq_true] at h ⊢
      exact Or.inr ⟨ht k h.1, h.2⟩
/-- those who are gone, and those who have a PAPER, by a view -/
def View (v : vw) (b : Nat) (m : Int32) (dn th : Nat → Bool) (gn hl : Int32) : Prop := (∀ p, p < vn v 1 → tb gn p = dn p) ∧ ∀ p, p < vn v 1 → tb hl p = hhB v b m th p
abbrev Efp (v : vw) (ln : lwt) (b : Nat) (m : Int32) : Nat → Prop := fun x => x < 48 ∧ EfB v ln b m x = true
theorem bf_fm {v : vw} {ln : lwt} {b : Nat} {m : Int32} {th : Nat → Bool} (p q : Nat) (h : bf (kfF v ln b m) ln.1 (fmN (hhB v b m th) p) (fmN (hhB v b m th) q) = true) : bf (kyL v ln b m th) ln.1 p q = true := by
  have e : ∀ p, kfF v ln b m (fmN (hhB v b m th) p) = kyL v ln b m th p := fun p => by
    unfold kfF kyL wF
    rw [(fmN_2 _ p).1, (fmN_2 _ p).2]
    rfl
  have h := ahB_lx.mp h
  rw [e, e] at h
  refine ahB_lx.mpr ?_
  rcases h with h | ⟨h1, h2⟩
  · exact Or.inl h
  · refine Or.inr ⟨h1, ?_⟩
    have a := (fmN_2 (hhB v b m th) p).1
    have b' := (fmN_2 (hhB v b m th) q).1
    by_cases z : p < q
    · exact z
    · by_cases y : p = q
      · rw [y] at h2; omega
      · omega
theorem fit_fm {v : vw} {L0 : Nat} (V : VOK v L0) {ln : lwt} {b : Nat} {m : Int32} {dn th : Nat → Bool} {gn hl : Int32} (hv : View v b m dn th gn hl) (x : Nat) : (Efp v ln b m x ∧ fitB gn hl x = true) ↔ ∃ p, p < vn v 1 ∧ mkL v ln b m dn th p = true ∧ x = fmN (hhB v b m th) p := by
  have c1 : vn v 1 ≤ 24 := V.1.2.1
  constructor
  · rintro ⟨⟨h1, h2⟩, h3⟩
    unfold EfB at h2
    unfold fitB at h3
    rw [Bool.and_eq_true, Bool.and_eq_true, Bool.and_eq_true] at h2
    obtain ⟨e1, e2, e3, e4⟩ := h2
    have e1 := of_decide_eq_true e1
    rw [Bool.and_eq_true] at h3
    obtain ⟨f1, f2⟩ := h3
    rw [hv.1 _ e1] at f1
    rw [hv.2 _ e1] at f2
    have f2 := eq_of_beq f2
    refine ⟨x / 2, e1, ?_, ?_⟩
    · unfold mkL wF
      change (memB v b (x / 2) && (!(dn (x / 2)) && mayB ln (wv v (x / 2) b m (hhB v b m th (x / 2))) ln.1)) = true
      rw [e2, f1, f2, e4]
      rfl
    · unfold fmN
      rw [f2]
      by_cases z : x % 2 = 1
      · rw [decide_eq_true z, if_pos rfl]; omega
      · rw [decide_eq_false z, if_neg (by decide)]; omega
  · rintro ⟨p, h1, h2, rfl⟩
    obtain ⟨a1, a2⟩ := fmN_2 (hhB v b m th) p
    have hlt : fmN (hhB v b m th) p < 48 := by omega
    unfold mkL wF at h2
    change (memB v b p && (!(dn p) && mayB ln (wv v p b m (hhB v b m th p)) ln.1)) = true at h2
    rw [Bool.and_eq_true, Bool.and_eq_true] at h2
    refine ⟨⟨hlt, ?_⟩, ?_⟩
    · unfold EfB
      rw [a1, a2, decide_eq_true h1, h2.1, h2.2.2, Bool.true_and, Bool.true_and, Bool.and_true]
      cases hh : hhB v b m th p
      · rw [hh] at a2
        have a2 := of_decide_eq_false a2
        rw [decide_eq_true (show fmN (hhB v b m th) p % 2 = 0 by omega)]; rfl
      · have : ppT v b m p (vn v 3) = true := ppB_mono (fun _ _ => rfl) hh
        rw [this, Bool.or_true]
    · unfold fitB
      rw [a1, a2, hv.1 p h1, hv.2 p h1, h2.2.1]
      simp
/-- the first by a view is who is chosen -/
theorem view_1 {v : vw} {L0 : Nat} (V : VOK v L0) {ln : lwt} {b n0 : Nat} {L : Nat → Nat} {m : Int32} {dn th : Nat → Bool} {gn hl : Int32} (S : Srt (kfF v ln b m) ln.1 n0 L (Efp v ln b m)) (hv : View v b m dn th gn hl) : (ipR L (fitB gn hl) n0 0 0).map (fun x => x / 2) = chL v ln b m dn th := by
  rw [S.fst (fitB gn hl) (mkL v ln b m dn th) (kyL v ln b m th) (fmN (hhB v b m th)) (fun p q _ _ _ _ h => bf_fm p q h) (fun x => fit_fm V hv x)]
  unfold chL
  rw [Option.map_map]
  cases fs (mkL v ln b m dn th) (bf (kyL v ln b m th) ln.1) (vn v 1) with
  | none => rfl
  | some p => exact congrArg some (fmN_2 _ p).1
/-- all by a view -/
theorem view_all {v : vw} {L0 : Nat} (V : VOK v L0) {ln : lwt} {b n0 : Nat} {L : Nat → Nat} {m : Int32} {dn th : Nat → Bool} {gn hl : Int32} (h48 : ∀ i, i < n0 → L i < 48) (S : Srt (kfF v ln b m) ln.1 n0 L (Efp v ln b m)) (hv : View v b m dn th gn hl) : ebM L (fitB gn hl) n0 = sb (mkL v ln b m dn th) (vn v 1) := by
  have c1 : vn v 1 ≤ 24 := V.1.2.1
  apply tb_ext
  intro j hj
  rw [tb_sb _ _ _ (by omega) hj, Bool.eq_iff_iff, tb_ebM h48 j hj, Bool.and_eq_true, decide_eq_true_iff]
  constructor
  · rintro ⟨i, h1, h2, h3⟩
    obtain ⟨p, p1, p2, p3⟩ := (fit_fm V hv (L i)).mp ⟨(S.2 _).mp ⟨i, h1, rfl⟩, h2⟩
    have := (fmN_2 (hhB v b m th) p).1
    rw [← p3, h3] at this
    rw [this]
    exact ⟨p1, p2⟩
  · rintro ⟨h1, h2⟩
    obtain ⟨z1, z2⟩ := (fit_fm V hv _).mpr ⟨j, h1, h2, rfl⟩
    obtain ⟨i, i1, i2⟩ := (S.2 _).mpr z1
    exact ⟨i, i1, by rw [i2]; exact z2, by rw [i2]; exact (fmN_2 _ j).1⟩
/-- the k-th -/
theorem view_k {v : vw} {L0 : Nat} (V : VOK v L0) {ls : lws} {b n0 : Nat} {L : Nat → Nat} {m : Int32} {gn hl : Int32} (hl4 : ¬ vc v 0 b 4 = -1) (S : Srt (kfF v (ln0 v ls b) b m) (ln0 v ls b).1 n0 L (Efp v (ln0 v ls b) b m)) (hv : View v b m (fun k => flB v k m) (fun _ => true) gn hl) (k : Nat) : (ipR L (fitB gn hl) n0 0 k).map (fun x => x / 2) = fs (brB v ls b m k) (brA v ls b m) (vn v 1) := by
  have e0 : ∀ j, brB v ls b m 0 j = mkL v (ln0 v ls b) b m (fun k => flB v k m) (fun _ => true) j := fun j => by
    show mkB v ls b m (fun k => flB v k m) (fun _ => true) j = _
    unfold mkB mkL memB
    rw [decide_eq_false hl4]
    rfl
  have := S.kth (kyL v (ln0 v ls b) b m (fun _ => true)) (fmN (hhB v b m (fun _ => true))) (fun p q e => by have a := (fmN_2 (hhB v b m (fun _ => true)) p).1; have b' := (fmN_2 (hhB v b m (fun _ => true)) q).1; rw [e] at a; omega) (fun p q h => bf_fm p q h) (n1 := vn v 1) (brB v ls b m) (fun k j => rfl) k 0 (fitB gn hl) (fun x => by
    rw [fit_fm V hv]
    constructor
    · rintro ⟨p, p1, p2, p3⟩; exact ⟨p, p1, by rw [e0]; exact p2, p3⟩
    · rintro ⟨p, p1, p2, p3⟩; exact ⟨p, p1, by rw [← e0]; exact p2, p3⟩)
  rw [this, Nat.zero_add, Option.map_map]
  change Option.map _ (fs (brB v ls b m k) (brA v ls b m) (vn v 1)) = _
  cases fs (brB v ls b m k) (brA v ls b m) (vn v 1) with
  | none => rfl
  | some p => exact congrArg some (fmN_2 _ p).1

