/-! 98zi: the law's start: the heap as it is found -/
def sOw (i : Nat) : String := if i = 0 then "WhoCommands$LawReader" else "WhoCommandsModel"
def sKy : List Nat := [104, 236, 238, 239, 240, 241, 242, 244, 246, 247, 249, 251, 253, 255, 257, 259, 261, 263, 341, 355, 357, 365]
def tmS (i : Nat) : Term := .string (sOw i) (sKy.getD i 0)
def sLn : List Nat := [111, 6, 4, 3, 7, 4, 4, 5, 6, 3, 5, 6, 5, 5, 5, 3, 5, 4, 3, 3, 2, 2]
def sBy : List (List Int32) := [[109, 105, 110, 117, 116, 101, 32, 114, 97, 110, 107, 32, 100, 97, 121, 32, 115, 101, 114, 118, 105, 99, 101, 32, 112, 111, 115, 116, 32, 110, 101, 97, 114, 32, 112, 97, 112, 101, 114, 32, 108, 105, 115, 116, 101, 100, 32, 111, 119, 110, 32, 100, 101, 112, 116, 104, 32, 102, 97, 108, 108, 101, 110, 32, 115, 105, 110, 99, 101, 32, 100, 111, 105, 110, 103, 32, 108, 105, 115, 116, 32, 102, 105, 114, 115, 116, 32, 98, 97, 114, 32, 108, 97, 112, 115, 101, 32, 105, 102, 32, 97, 110, 100, 32, 111, 114, 32, 110, 111, 116, 32], [109, 105, 110, 117, 116, 101], [114, 97, 110, 107], [100, 97, 121], [115, 101, 114, 118, 105, 99, 101], [112, 111, 115, 116], [110, 101, 97, 114], [112, 97, 112, 101, 114], [108, 105, 115, 116, 101, 100], [111, 119, 110], [100, 101, 112, 116, 104], [102, 97, 108, 108, 101, 110], [115, 105, 110, 99, 101], [100, 111, 105, 110, 103], [102, 105, 114, 115, 116], [98, 97, 114], [108, 97, 112, 115, 101], [108, 105, 115, 116], [110, 111, 116], [97, 110, 100], [111, 114], [105, 102]]
def stI : List Nat := [29, 315, 215, 230, 338, 201, 245, 175, 363, 262, 388, 413, 440, 467, 144, 154, 163, 188, 296, 495, 522, 279]
def poI : List Nat := [0, 13, 7, 8, 14, 6, 9, 4, 15, 10, 16, 17, 18, 19, 1, 2, 3, 5, 12, 20, 21, 11]
set_option maxRecDepth 100000 in
theorem ln_ok : ∀ i : Fin 22, sLn.getD i.val 0 = (stx i.val).length ∧ sLn.getD i.val 0 < 200 := by decide +kernel
set_option maxRecDepth 100000 in
theorem by_ok : ∀ i : Fin 22, ∀ j : Fin 111, (sBy.getD i.val []).getD j.val 0 = nI ((stx i.val).getD j.val 0) := by decide +kernel
set_option maxRecDepth 100000 in
theorem f_ex : ∀ i : Fin 22, (flatC (Jvm.Cond.and given_1 narrow_1))[stI.getD i.val 0]? = some (Cond.exactly (tmS i.val) "java/lang/String") := by decide +kernel
set_option maxRecDepth 100000 in
theorem f_co : ∀ i : Fin 22, (flatC (Jvm.Cond.and given_1 narrow_1))[stI.getD i.val 0 + 1]? = some (Cond.eq (.field (tmS i.val) "java/lang/String" "coder" "B") (.int 0)) := by decide +kernel
set_option maxRecDepth 100000 in
theorem f_ar : ∀ i : Fin 22, (flatC (Jvm.Cond.and given_1 narrow_1))[stI.getD i.val 0 + 2]? = some (Cond.arrayOf (.field (tmS i.val) "java/lang/String" "value" "[B") .byte) := by decide +kernel
set_option maxRecDepth 100000 in
theorem f_le : ∀ i : Fin 22, (flatC (Jvm.Cond.and given_1 narrow_1))[stI.getD i.val 0 + 3]? = some (Cond.eq (.length (.field (tmS i.val) "java/lang/String" "value" "[B")) (.int (Int32.ofNat (sLn.getD i.val 0)))) := by decide +kernel
set_option maxRecDepth 100000 in
theorem f_el : ∀ i : Fin 22, ∀ j : Fin 111, j.val < sLn.getD i.val 0 → (flatC (Jvm.Cond.and given_1 narrow_1))[stI.getD i.val 0 + 4 + j.val]? = some (Cond.eq (.elem (.field (tmS i.val) "java/lang/String" "value" "[B") (.int (Int32.ofNat j.val))) (.int ((sBy.getD i.val []).getD j.val 0))) := by decide +kernel
set_option maxRecDepth 100000 in
theorem f_ne : ∀ i j : Fin 22, i ≠ j → (flatC (Jvm.Cond.and given_1 narrow_1))[stI.getD j.val 0 + 4 + sLn.getD j.val 0 + poI.getD i.val 0]? = some (Cond.not (Cond.eq (tmS i.val) (tmS j.val))) ∨ (flatC (Jvm.Cond.and given_1 narrow_1))[stI.getD i.val 0 + 4 + sLn.getD i.val 0 + poI.getD j.val 0]? = some (Cond.not (Cond.eq (tmS j.val) (tmS i.val))) := by decide +kernel
set_option maxRecDepth 100000 in
theorem f_z1 : (flatC (Jvm.Cond.and given_1 narrow_1))[4]? = some (Cond.eq (.static "java/lang/String" "COMPACT_STRINGS" "Z") (.int 1)) := by decide +kernel
set_option maxRecDepth 100000 in
theorem f_z2 : (flatC (Jvm.Cond.and given_1 narrow_1))[5]? = some (Cond.isRef (.static "jdk/internal/util/Preconditions" "SIOOBE_FORMATTER" "Ljava/util/function/BiFunction;")) := by decide +kernel
theorem tb_in {i : Nat} {w : Cond} (h : tables_1[i]? = some w) : w ∈ lw_tbl := List.mem_append_right _ (List.mem_of_getElem? h)
/-- an int in a cell of the heap -/
def rdI (s : State) (a j : Nat) : Int32 := match s.heap[a]? with
  | some ce => (match ce.slots[j]? with
    | some (.int x) => x
    | _ => 0)
  | none => 0
theorem rdI_of {s : State} {a j : Nat} {cell : Cell} {x : Int32} (h1 : s.heap[a]? = some cell) (h2 : cell.slots[j]? = some (.int x)) : rdI s a j = x := by
  unfold rdI
  rw [h1]
  dsimp only
  rw [h2]

theorem ln_111 : ∀ i : Nat, i < 22 → sLn.getD i 0 ≤ 111 := fun i hi => (by decide +kernel : ∀ i : Fin 22, sLn.getD i.val 0 ≤ 111) ⟨i, hi⟩

set_option maxRecDepth 100000 in
set_option maxHeartbeats 4000000 in
theorem l_start {p : Program} {s : State} {m : MethodId} {meth : Method} {c : Code} {b L : Nat} {xs : Nat → Int32} (l : Launch) (C0 : lw_At p s m meth c b L xs) : ∃ (g : gx) (h0 : hp), g.1 = l ∧ LwE p s m meth c g h0 b L xs ∧ hp_Rel g.2.1 s h0 s.heap ∧ SHp g h0 (hZ h0) ∧ (∀ k, k < 22 → g.2.2 k < hZ h0) ∧ ∀ q, ¬ (hK h0 q ≠ 0 ∧ hK h0 q < 40) := by
  obtain ⟨hx, hb, hr, hml, hown, hts, hX, hbl, hlocks, hgv⟩ := id C0
  have hs := flat_of_before _ hgv
  have mem : ∀ {i : Nat} {w : Cond}, (flatC (Jvm.Cond.and given_1 narrow_1))[i]? = some w → w.before #[Value.ref b] s = true := fun h => hs _ (List.mem_of_getElem? h)
  have ok : ∀ w ∈ lw_good, w.before #[Value.ref b] s = true := fun w hw => hts w (lg_tbl hw)
  obtain ⟨adK, adV, VS, ev⟩ := vk_Sof (args := #[Value.ref b]) (s := s) (N := 22) (tm := tmS) (len := sLn) (byt := sBy) (A := fun _ => False) (fun i hi => Nat.lt_trans (ln_ok ⟨i, hi⟩).2 (by decide)) (fun i hi => mem (f_ex ⟨i, hi⟩)) (fun i hi => mem (f_co ⟨i, hi⟩)) (fun i hi => mem (f_ar ⟨i, hi⟩)) (fun i hi => mem (f_le ⟨i, hi⟩)) (fun i hi j hj => mem (f_el ⟨i, hi⟩ ⟨j, Nat.lt_of_lt_of_le hj (ln_111 i hi)⟩ hj)) (fun i j hi hj e => (f_ne ⟨i, hi⟩ ⟨j, hj⟩ (fun z => e (congrArg Fin.val z))).imp (fun z => mem z) (fun z => mem z)) (fun _ _ h => h)
  have d0 : ∀ k : Nat, ∃ d : ClassId × (Nat → Nat), ∀ q, vwCl[k]? = some q → u_Kn s q.1 q.2.1 q.2.2 d.1 d.2 := by
    intro k
    obtain ⟨cD, iD, -⟩ := u_known (C := RX0) (T := TX0) (N := 6) (n := 6) ok clx_0.1 (ok _ (lg_in (i := 165) rfl rfl))
    match k with
    | 0 =>
      obtain ⟨cC, iS, hh⟩ := u_known (C := RX0) (T := TX0) (N := 6) (n := 6) ok clx_0.1 (ok _ (lg_in (i := 165) rfl rfl))
      exact ⟨(cC, iS), fun q hq => by cases hq; exact hh⟩
    | 1 =>
      obtain ⟨cC, iS, hh⟩ := u_known (C := RX1) (T := TX1) (N := 5) (n := 5) ok clx_1.1 (ok _ (lg_in (i := 230) rfl rfl))
      exact ⟨(cC, iS), fun q hq => by cases hq; exact hh⟩
    | 2 =>
      obtain ⟨cC, iS, hh⟩ := u_known (C := RX2) (T := TX2) (N := 5) (n := 5) ok clx_2.1 (ok _ (lg_in (i := 549) rfl rfl))
      exact ⟨(cC, iS), fun q hq => by cases hq; exact hh⟩
    | 3 =>
      obtain ⟨cC, iS, hh⟩ := u_known (C := RX3) (T := TX3) (N := 14) (n := 14) ok clx_3.1 (ok _ (lg_in (i := 109) rfl rfl))
      exact ⟨(cC, iS), fun q hq => by cases hq; exact hh⟩
    | 4 =>
      obtain ⟨cC, iS, hh⟩ := u_known (C := RX4) (T := TX4) (N := 3) (n := 3) ok clx_4.1 (ok _ (lg_in (i := 171) rfl rfl))
      exact ⟨(cC, iS), fun q hq => by cases hq; exact hh⟩
    | 5 =>
      obtain ⟨cC, iS, hh⟩ := u_known (C := RX5) (T := TX5) (N := 4) (n := 4) ok clx_5.1 (ok _ (lg_in (i := 211) rfl rfl))
      exact ⟨(cC, iS), fun q hq => by cases hq; exact hh⟩
    | 6 =>
      obtain ⟨cC, iS, hh⟩ := u_known (C := RX6) (T := TX6) (N := 4) (n := 4) ok clx_6.1 (ok _ (lg_in (i := 34) rfl rfl))
      exact ⟨(cC, iS), fun q hq => by cases hq; exact hh⟩
    | 7 =>
      obtain ⟨cC, iS, hh⟩ := u_known (C := RX7) (T := TX7) (N := 8) (n := 8) ok clx_7.1 (ok _ (lg_in (i := 28) rfl rfl))
      exact ⟨(cC, iS), fun q hq => by cases hq; exact hh⟩
    | 8 =>
      obtain ⟨cC, iS, hh⟩ := u_known (C := RX8) (T := TX8) (N := 11) (n := 11) ok clx_8.1 (ok _ (lg_in (i := 20) rfl rfl))
      exact ⟨(cC, iS), fun q hq => by cases hq; exact hh⟩
    | 9 =>
      obtain ⟨cC, iS, hh⟩ := u_known (C := RX9) (T := TX9) (N := 71) (n := 71) ok clx_9.1 (ok _ (lg_in (i := 877) rfl rfl))
      exact ⟨(cC, iS), fun q hq => by cases hq; exact hh⟩
    | k + 10 => exact ⟨(cD, iD), fun q hq => absurd (vwCl_lt hq) (by omega)⟩
  obtain ⟨d, hd⟩ := Classical.axiomOfChoice d0
  have kx : ∀ a : Nat, ∃ q : Nat × Nat × Option Nat, (q.1 = 40 ∧ ∃ i, i < 22 ∧ adK i = a ∧ q.2.1 = (stx i).length ∧ q.2.2 = some (adV i)) ∨ (q.1 = 41 ∧ (∀ i, i < 22 → ¬ adK i = a) ∧ ∃ i, i < 22 ∧ adV i = a) ∨ (q.1 = 0 ∧ (∀ i, i < 22 → ¬ adK i = a) ∧ ∀ i, i < 22 → ¬ adV i = a) := by
    intro a
    by_cases h1 : ∃ i, i < 22 ∧ adK i = a
    · obtain ⟨i, hi, ea⟩ := h1
      exact ⟨(40, (stx i).length, some (adV i)), Or.inl ⟨rfl, i, hi, ea, rfl, rfl⟩⟩
    · have h1' : ∀ i, i < 22 → ¬ adK i = a := fun i hi ea => h1 ⟨i, hi, ea⟩
      by_cases h2 : ∃ i, i < 22 ∧ adV i = a
      · exact ⟨(41, 0, none), Or.inr (Or.inl ⟨rfl, h1', h2⟩)⟩
      · exact ⟨(0, 0, none), Or.inr (Or.inr ⟨rfl, h1', fun i hi ea => h2 ⟨i, hi, ea⟩⟩)⟩
  obtain ⟨q, hq⟩ := Classical.axiomOfChoice kx
  obtain ⟨h0, eh⟩ : ∃ h0 : hp, h0 = (s.heap.size, fun a => (q a).1, fun a => (q a).2.1, fun a j => rdI s a j, fun _ _ => 0, fun a _ => (q a).2.2) := ⟨_, rfl⟩
  have z0 : hZ h0 = s.heap.size := by rw [eh]; rfl
  have k0 : ∀ a, hK h0 a = (q a).1 := fun a => by rw [eh]; rfl
  have n0 : ∀ a, hN h0 a = (q a).2.1 := fun a => by rw [eh]; rfl
  have i0 : ∀ a j, hI h0 a j = rdI s a j := fun a j => by rw [eh]; rfl
  have r0 : ∀ a j, hR h0 a j = (q a).2.2 := fun a j => by rw [eh]; rfl
  have vlt : ∀ i, i < 22 → adV i < s.heap.size := fun i hi => by
    obtain ⟨cell, t1, -⟩ := (VS.1 i hi).2.2.2
    exact (Array.getElem?_eq_some_iff.mp t1).1
  have klt : ∀ i, i < 22 → adK i < s.heap.size := fun i hi => by
    obtain ⟨cell, t1, -⟩ := (VS.1 i hi).1
    exact (Array.getElem?_eq_some_iff.mp t1).1
  have kK : ∀ i, i < 22 → hK h0 (adK i) = 40 ∧ hN h0 (adK i) = (stx i).length ∧ hR h0 (adK i) 0 = some (adV i) := fun i hi => by
    rw [k0, n0, r0]
    rcases hq (adK i) with ⟨e1, j, hj, ej, e2, e3⟩ | ⟨-, e1, -⟩ | ⟨-, e1, -⟩
    · have ij : j = i := VS.2 j i hj hi ej
      subst ij
      exact ⟨e1, e2, e3⟩
    · exact absurd rfl (e1 i hi)
    · exact absurd rfl (e1 i hi)
  have kV : ∀ i, i < 22 → hK h0 (adV i) = 40 ∨ hK h0 (adV i) = 41 := fun i hi => by
    rw [k0]
    rcases hq (adV i) with ⟨e1, -⟩ | ⟨e1, -⟩ | ⟨-, -, e1⟩
    · exact Or.inl e1
    · exact Or.inr e1
    · exact absurd rfl (e1 i hi)
  have vT : ∀ i, i < 22 → ∃ cell : Cell, s.heap[adV i]? = some cell ∧ s.isArrayOf cell .byte ∧ cell.vm ≠ .unknown ∧ (stx i).length ≤ cell.slots.size ∧ cell.slots.size.toInt32 = Int32.ofNat (stx i).length ∧ ∀ j : Nat, j < (stx i).length → cell.slots[j]? = some (.int (hI h0 (adV i) j)) ∧ hI h0 (adV i) j = nI ((stx i).getD j 0) := fun i hi => by
    obtain ⟨cell, t1, t2, t3, t4, t5, t6, -⟩ := (VS.1 i hi).2.2.2
    have el : sLn.getD i 0 = (stx i).length := (ln_ok ⟨i, hi⟩).1
    rw [el] at t4 t5 t6
    refine ⟨cell, t1, t2, t3, t4, t5, fun j hj => ?_⟩
    have e1 := rdI_of t1 (t6 j hj)
    have e2 : (sBy.getD i []).getD j 0 = nI ((stx i).getD j 0) := by_ok ⟨i, hi⟩ ⟨j, by have := ln_111 i hi; rw [el] at this; omega⟩
    rw [i0, e1]
    exact ⟨t6 j hj, e2⟩
  have nk : ∀ q, ¬ (hK h0 q ≠ 0 ∧ hK h0 q < 40) := fun a z => by
    rw [k0] at z
    rcases hq a with ⟨e1, -⟩ | ⟨e1, -⟩ | ⟨e1, -⟩ <;> omega
  refine ⟨(l, (fun k => (d k).1, fun k => (d k).2), adK), h0, rfl, ⟨C0, ⟨⟨fun k q hq => hd k q hq, fun k q h => by simp at h⟩, ?_, fun w hw => va_Nw.of (nw_on hw) (hts w (nw_tbl hw)), va_AO.of (hts _ (tb_in (i := 105) rfl)), va_AO.of (hts _ (tb_in (i := 107) rfl))⟩, z0.symm, fun a z => z.resolve_left (nk a)⟩, ⟨z0.symm, fun a ha => ?_, fun a => ⟨fun ci r hk hc => ?_, fun t ht hk => ?_, fun hk => ?_, fun _ => trivial⟩, ?_⟩, fun k hk => ?_, fun k hk => by rw [z0]; exact klt k hk, nk⟩
  · unfold strTab
    exact List.forall_mem_cons.mpr ⟨vk_R.of (hts _ (tb_in (i := 443) rfl)) (ev 0 (by omega)), List.forall_mem_cons.mpr ⟨vk_R.of (hts _ (tb_in (i := 1273) rfl)) (ev 1 (by omega)), List.forall_mem_cons.mpr ⟨vk_R.of (hts _ (tb_in (i := 1217) rfl)) (ev 2 (by omega)), List.forall_mem_cons.mpr ⟨vk_R.of (hts _ (tb_in (i := 1218) rfl)) (ev 3 (by omega)), List.forall_mem_cons.mpr ⟨vk_R.of (hts _ (tb_in (i := 1274) rfl)) (ev 4 (by omega)), List.forall_mem_cons.mpr ⟨vk_R.of (hts _ (tb_in (i := 1216) rfl)) (ev 5 (by omega)), List.forall_mem_cons.mpr ⟨vk_R.of (hts _ (tb_in (i := 1219) rfl)) (ev 6 (by omega)), List.forall_mem_cons.mpr ⟨vk_R.of (hts _ (tb_in (i := 1214) rfl)) (ev 7 (by omega)), List.forall_mem_cons.mpr ⟨vk_R.of (hts _ (tb_in (i := 1275) rfl)) (ev 8 (by omega)), List.forall_mem_cons.mpr ⟨vk_R.of (hts _ (tb_in (i := 1220) rfl)) (ev 9 (by omega)), List.forall_mem_cons.mpr ⟨vk_R.of (hts _ (tb_in (i := 1276) rfl)) (ev 10 (by omega)), List.forall_mem_cons.mpr ⟨vk_R.of (hts _ (tb_in (i := 1277) rfl)) (ev 11 (by omega)), List.forall_mem_cons.mpr ⟨vk_R.of (hts _ (tb_in (i := 1278) rfl)) (ev 12 (by omega)), List.forall_mem_cons.mpr ⟨vk_R.of (hts _ (tb_in (i := 1279) rfl)) (ev 13 (by omega)), List.forall_mem_cons.mpr ⟨vk_R.of (hts _ (tb_in (i := 1198) rfl)) (ev 14 (by omega)), List.forall_mem_cons.mpr ⟨vk_R.of (hts _ (tb_in (i := 1199) rfl)) (ev 15 (by omega)), List.forall_mem_cons.mpr ⟨vk_R.of (hts _ (tb_in (i := 1200) rfl)) (ev 16 (by omega)), List.forall_mem_cons.mpr ⟨vk_R.of (hts _ (tb_in (i := 1215) rfl)) (ev 17 (by omega)), List.forall_mem_cons.mpr ⟨vk_R.of (hts _ (tb_in (i := 1234) rfl)) (ev 18 (by omega)), List.forall_mem_cons.mpr ⟨vk_R.of (hts _ (tb_in (i := 1288) rfl)) (ev 19 (by omega)), List.forall_mem_cons.mpr ⟨vk_R.of (hts _ (tb_in (i := 1289) rfl)) (ev 20 (by omega)), List.forall_mem_cons.mpr ⟨vk_R.of (hts _ (tb_in (i := 1221) rfl)) (ev 21 (by omega)), fun _ h => absurd h List.not_mem_nil⟩⟩⟩⟩⟩⟩⟩⟩⟩⟩⟩⟩⟩⟩⟩⟩⟩⟩⟩⟩⟩⟩
  · rw [z0]
    rw [k0] at ha
    rcases hq a with ⟨-, i, hi, ea, -⟩ | ⟨-, -, i, hi, ea⟩ | ⟨e1, -⟩
    · rw [← ea]; exact klt i hi
    · rw [← ea]; exact vlt i hi
    · exact absurd e1 ha
  · have := vwCl_lt hc
    rw [k0] at hk
    rcases hq a with ⟨e1, -⟩ | ⟨e1, -⟩ | ⟨e1, -⟩ <;> omega
  · rw [k0] at hk
    rcases hq a with ⟨e1, -⟩ | ⟨e1, -⟩ | ⟨e1, -⟩ <;> omega
  · have hk' := hk
    rw [k0] at hk'
    rcases hq a with ⟨e1, i, hi, ea, -⟩ | ⟨e1, -⟩ | ⟨e1, -⟩
    · subst ea
      obtain ⟨v1, v2, v3, -⟩ := VS.1 i hi
      obtain ⟨w1, w2, w3⟩ := kK i hi
      obtain ⟨cell, t1, t2, t3, t4, t5, t6⟩ := vT i hi
      exact ⟨v1, v2, adV i, w3, kV i hi, v3, cell, t1, t2, t3, by rw [w2]; exact t4, by rw [w2]; exact t5, fun j hj => (t6 j (by rw [w2] at hj; exact hj)).1, fun h => h⟩
    · omega
    · omega
  · exact ⟨va_Zof (args := #[Value.ref b]) (hts _ (tb_in (i := 453) rfl)) (hts _ (tb_in (i := 12) rfl)) (va_eqt (mem f_z1)) (fun a _ => nk a), va_Zqof (args := #[Value.ref b]) (hts _ (tb_in (i := 469) rfl)) (hts _ (tb_in (i := 14) rfl)) (mem f_z2) (fun a _ => nk a)⟩
  · obtain ⟨w1, w2, w3⟩ := kK k hk
    obtain ⟨cell, t1, t2, t3, t4, t5, t6⟩ := vT k hk
    exact ⟨w1, w2, adV k, w3, by rw [z0]; exact vlt k hk, fun j hj => (t6 j hj).2⟩

theorem iv_start {g : gx} {h0 h1 h2 : hp} {X : Nat} (S0 : SHp g h0 X) (sa : ∀ k, k < 22 → g.2.2 k < X) (zx : hZ h0 = X) (z1 : hZ h1 = X + 48) (q1 : ∀ b, b < X → hp_eq (mkC h0 9 0) h1 b) (L1 : XLay h1 X) (W1 : ∀ v, vE v → WRep h1 (X + 1) v) (i3 : hI h1 X 3 = 0) (i5 : hI h1 X 5 = 0) (m1 : ∀ j, hR h1 (X + 16) j = none) (z2 : hZ h2 = X + 48 + 51) (M2 : MiS (mkC h1 10 0) (X + 48) 50 (-1) h2) : IV g X h2 X := by
  obtain ⟨v0, E0⟩ := vE0
  have e : ∀ b, b < X + 48 → hp_eq h1 h2 b := fun b hb => hp_eq.tr (hp_eq_mkC (by omega)) (M2.2.2.2.1 b hb)
  have e0 : ∀ b, b < X → hp_eq h0 h2 b := fun b hb => hp_eq.tr (hp_eq_mkC (by omega)) (hp_eq.tr (q1 b hb) (e b (by omega)))
  have m2 : ∀ j, hR h2 (X + 16) j = none := fun j => ((e (X + 16) (by omega)).2.2.2.2 j).trans (m1 j)
  obtain ⟨f1, f2, f3, f4, f5⟩ := M2.fin E0
  have en : ∀ j r, ¬ r < vn v0 j := fun j r => by rw [E0.1]; omega
  have mk0 : ∀ k, mkx h2 X k = false := fun k => by unfold mkx; rw [m2]; rfl
  refine ⟨S0.cg2 sa e0, Nat.le_refl _, sa, v0, 0, fun _ => (0, fun _ => (0, 0, 0, 0), fun _ => (0, 0)), fun _ => 0, 0, fun _ => 0, fun _ => v0, ⟨⟨L1.cg4 (fun b h1 h2 => (e b (by omega)).1) (fun b h1 h2 => (e b (by omega)).2.1) (fun b h1 h2 _ => (e b (by omega)).2.2.2.2), (W1 v0 E0).cg2 (fun b h1 h2 => e b (by omega)), ((e X (by omega)).2.2.1 3).trans i3, fun r hr => absurd hr (by omega)⟩, ⟨((e X (by omega)).2.2.1 5).trans i5, by omega, fun j hj => absurd hj (by omega)⟩, by omega, fun r hr => absurd hr (by omega), fun k hk w hw => ?_⟩, ⟨⟨f1, f2, f3, fun r hr => absurd hr (by omega)⟩, ⟨f4, by omega, fun j hj => absurd hj (by omega)⟩, M2.1, fun k hk => ?_, fun k hk ek => ?_⟩, ⟨⟨⟨?_, fun r hr => absurd hr (en _ _), fun r hr => absurd hr (en _ _), fun r hr => absurd hr (en _ _), fun r hr => absurd hr (en _ _), fun r hr => absurd hr (en _ _), fun r hr => absurd hr (en _ _), fun r hr => absurd hr (en _ _)⟩, by omega, fun r hr => absurd hr (by omega)⟩, fun b hb => absurd hb (en _ _)⟩, fun k hk ek => ?_⟩
  · rw [m2] at hw
    cases hw
  · rw [f5, mk0]; rfl
  · rw [mk0] at ek
    cases ek
  · simp only [E0.1, E0.2]
    decide
  · rw [mk0] at ek
    cases ek

