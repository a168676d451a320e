/-! 07: new arrays, calls, over Wp -/
section WC
variable {g : gx} {n mc ms : Nat} {M : md_} {h0 : hp} {Q : Option Value → hp → Prop} {cs sl pc : Nat} {ls : List (Option Value)} {st : List Value} {h : hp}
def nat_ (t : Nat) : ArrayType := match t with
  | 0 => .int | 1 => .byte | 2 => .boolean | _ => .long
theorem nat_ty {t : Nat} (ht : t < 4) : newarray.typeOf (nat_ t) = aty t := by
  have : t = 0 ∨ t = 1 ∨ t = 2 ∨ t = 3 := by omega
  rcases this with rfl | rfl | rfl | rfl <;> rfl
theorem mkC_I (h : hp) (q N : Nat) : hI (mkC h q N) (hZ h) = fun _ => 0 := funext fun j => by rw [hI_mkC, if_pos rfl]
theorem mkC_J (h : hp) (q N : Nat) : hJ (mkC h q N) (hZ h) = fun _ => 0 := funext fun j => by rw [hJ_mkC, if_pos rfl]
theorem mkC_R (h : hp) (q N : Nat) : hR (mkC h q N) (hZ h) = fun _ => none := funext fun j => by rw [hR_mkC, if_pos rfl]
theorem mk_act {t : Nat} (ht : t < 4) {h : hp} {q N N' : Nat} {cA : ClassId} : vp_cell cA (N', act t (mkC h q N) (hZ h)) = arrV cA N' (fun _ => defaultValue (aty t)) := by
  have : t = 0 ∨ t = 1 ∨ t = 2 ∨ t = 3 := by omega
  rcases this with rfl | rfl | rfl | rfl
  · show vp_cell cA (N', .inl (hI (mkC h q N) (hZ h))) = _
    rw [mkC_I]; rfl
  · show vp_cell cA (N', .inl (hI (mkC h q N) (hZ h))) = _
    rw [mkC_I]; rfl
  · show vp_cell cA (N', .inl (hI (mkC h q N) (hZ h))) = _
    rw [mkC_I]; rfl
  · show vp_cell cA (N', .inr (.inl (hJ (mkC h q N) (hZ h)))) = _
    rw [mkC_J]; rfl
theorem wr_newarray {t : Nat} {x : Int32} (hd : decode M.2.1 pc = .ok (.newarray (nat_ t), 2)) (ht : t < 4) (hw : Cond.arrayClass (aty t) ∈ lw_good) (hx : ¬ x < 0) (hb : x.toNatClampNeg ≤ 67108864) (hcs : cs + 1 ≤ mc) (hsl : sl + x.toNatClampNeg ≤ ms)
    (kk : Wp g n mc ms M h0 Q (cs + 1) (sl + x.toNatClampNeg) (pc + 2) ls (.ref (hZ h) :: st) (mkC h (20 + t) x.toNatClampNeg)) : Wp g n mc ms M h0 Q cs sl pc ls (.int x :: st) h := by
  intro p e s m args below meth c H locs lsA hX hE hz hr hS hA hl
  have hts := hX.2.2.2.2.2.1
  have hby : x.toNatClampNeg * componentBytes (newarray.typeOf (nat_ t)) ≤ 536870912 := by
    have h8 : componentBytes (newarray.typeOf (nat_ t)) ≤ 8 := by
      have : t = 0 ∨ t = 1 ∨ t = 2 ∨ t = 3 := by omega
      rcases this with rfl | rfl | rfl | rfl <;> decide
    calc x.toNatClampNeg * componentBytes (newarray.typeOf (nat_ t)) ≤ 67108864 * 8 := Nat.mul_le_mul hb h8
      _ = 536870912 := by decide
  refine va_newaK hX.1 hX.2.1 (by rw [nat_ty ht]; exact hts _ (List.mem_cons_of_mem _ hw)) rfl hd rfl hx rfl hby hcs hsl hr.1 fun H1 cA e1 e2 e3 e4 e5 => ?_
  rw [nat_ty ht] at e1 e4 e5
  have hRA : va_RA s cA (aty t) := by
    have : t = 0 ∨ t = 1 ∨ t = 2 ∨ t = 3 := by omega
    rcases this with rfl | rfl | rfl | rfl <;> exact e5
  have hat : hp_at g.2.1 s (mkC h (20 + t) x.toNatClampNeg) H1 (hZ h) := by
    refine hp_at.arr (by omega) (by rw [hK_mkC, if_pos rfl]) e4 hRA ?_
    rw [e1, hN_mkC, if_pos rfl, mk_act ht]
  have z : H1.size = H.size + 1 := by rw [e2, hr.1]
  have oq : ∀ b : Nat, b < H.size → H1[b]? = H[b]? := fun b hb => e3 b (by rw [← hr.1]; exact hb)
  exact kk p e s m args below meth c H1 locs lsA hX hE hz (hr.mk z oq hat) (vS_mk hS z oq) (fr_mk hz hr.1 hS hA) hl
theorem wr_anewarray {i t ci : Nat} {x : Int32} {r : vw_C} (hd : decode M.2.1 pc = .ok (.anewarray i, 3)) (hct : (t = 4 ∧ ci = 7) ∨ (t = 5 ∧ ci = 2)) (hc : vwCl[ci]? = some r) (hw : Cond.classLink M.1.cls i r.1 ∈ lw_good) (hx : ¬ x < 0) (hb : x.toNatClampNeg ≤ 67108864) (hcs : cs + 1 ≤ mc) (hsl : sl + x.toNatClampNeg ≤ ms)
    (kk : Wp g n mc ms M h0 Q (cs + 1) (sl + x.toNatClampNeg) (pc + 3) ls (.ref (hZ h) :: st) (mkC h (20 + t) x.toNatClampNeg)) : Wp g n mc ms M h0 Q cs sl pc ls (.int x :: st) h := by
  intro p e s m args below meth c H locs lsA hX hE hz hr hS hA hl
  have hts := hX.2.2.2.2.2.1
  have hao : va_AO r.1 s := by
    rcases hct with ⟨rfl, rfl⟩ | ⟨rfl, rfl⟩
    · cases hc; exact hE.2.2.2.1
    · cases hc; exact hE.2.2.2.2
  have hty : aty t = .object r.1 := by
    rcases hct with ⟨rfl, rfl⟩ | ⟨rfl, rfl⟩
    · cases hc; rfl
    · cases hc; rfl
  have hact : ∀ (hh : hp) (a : Nat), act t hh a = .inr (.inr (.inr (.inr (hR hh a)))) := by
    rcases hct with ⟨rfl, rfl⟩ | ⟨rfl, rfl⟩ <;> exact fun _ _ => rfl
  have ht6 : t < 6 := by omega
  refine W.anew hX.1 hX.2.1 hX.2.2.2.2.1 (hts _ (List.mem_cons_of_mem _ hw)) (va_AO.use hao) rfl hd rfl hx (by omega) hcs hsl fun cA kA comp f1 f2 f3 f4 => ?_
  rw [arrV_new]
  obtain ⟨p1, p2, p3⟩ := push_get H (arrV cA x.toNatClampNeg (fun _ => .null))
  have hRA : va_RA s cA (aty t) := by rw [hty]; exact ⟨kA, comp, f2, f3, f4, f1⟩
  have hAr : ArrOfT s cA (aty t) := by
    rw [hty]
    exact fun N z => ⟨(fun q hh => by cases hh), kA, f2, comp, f3⟩
  have hat : hp_at g.2.1 s (mkC h (20 + t) x.toNatClampNeg) (H.push (arrV cA x.toNatClampNeg (fun _ => .null))) (hZ h) := by
    refine hp_at.arr ht6 (by rw [hK_mkC, if_pos rfl]) hAr hRA ?_
    rw [hN_mkC, if_pos rfl, hact, mkC_R, ← hr.1, p2]
    rfl
  have := kk p e s m args below meth c _ locs lsA hX hE hz (hr.mk p3 p1 hat) (vS_mk hS p3 p1) (fr_mk hz hr.1 hS hA) hl
  rw [← hr.1] at this
  exact this
/-- behind a call -/
theorem wp_after {g : gx} {n mc ms mc' ms' : Nat} {M : md_} {h0 h : hp} {Q : Option Value → hp → Prop} {cs sl pc : Nat} {ls : List (Option Value)} {rest st0 : List Value} {p : Program} {e : Env} {s : State} {m : MethodId} {args a' : Array Value} {below : List Frame} {meth : Method} {c : Code} {H : Heap} {locs : List Loc} {lsA : Array Slot}
    (hX : wp_X M p s m args meth c) (hE : hp_E g.2.1 g.2.2 s) (hz : s.heap.size = hZ h0) (hr : hp_Rel g.2.1 s h H) (hS : va_S (fr_ h0) s.heap H locs) (hA : ∀ q, (hK h q ≠ 0 ∧ hK h q < 40) → fr_ h0 q) (hl : lc_has lsA M.2.2.1 ls)
    (hrun : va_Run p g.1 e (md_R n mc ms) s m args below meth c H locs cs sl mc' ms' (F0 m pc lsA st0) rest (wpQ g h (fun rv h' => Wp g n mc ms M h0 Q (cs + mc') (sl + ms') (pc + 3) ls (rv.toList ++ rest) h') a') (fr_ h)) :
    W p g.1 e (md_R n mc ms) s m args below meth c H locs cs sl (MQ below (wpQ g h0 Q) args s mc ms (fr_ h0)) (F0 m pc lsA st0) := by
  have hsub : ∀ q, fr_ h q → fr_ h0 q := by
    intro q hq
    rcases hq with hq | hq
    · exact hA q hq
    · right
      have := hS.1
      rw [hr.1, hz] at this
      exact Nat.le_trans this hq
  intro T hT X
  obtain ⟨v, st₀, t, T', L, e0, X', hL, e1, e2, ⟨⟨r, h', er, hq, hr', hf'⟩, hF⟩, hgo⟩ := hrun T hT X
  cases er
  have hvm : s.vm.Alike t.vm := by rw [← e2]; exact X'.warmed.alike
  have hS' : va_S (fr_ h0) s.heap T'.heap (locs ++ L) := by
    refine ⟨?_, fun q hq hn => ?_, fun l hl' => ?_⟩
    · rw [e1]; exact Nat.le_trans hS.1 (by rw [← e0]; exact hF.1)
    · have hlt : q < st₀.heap.size := by rw [e0]; exact Nat.lt_of_lt_of_le hq hS.1
      rw [e1, hF.2 q hlt (fun hh => hn (hsub q hh)), e0]
      exact hS.2.1 q hq hn
    · rcases List.mem_append.mp hl' with hh | hh
      · exact hS.2.2 l hh
      · exact hsub _ (hL l hh)
  have hrr : hp_Rel g.2.1 s h' T'.heap := by rw [e1]; exact hr'.moved hvm.symm
  obtain ⟨t2, a1, b1⟩ := hq p e s m args below meth c T'.heap (locs ++ L) lsA hX hE hz hrr hS' (fun q hq => hsub q (hf' q hq)) hl T' rfl X'
  exact ⟨t2, hgo t2 a1, b1⟩
def plain_ (y : MethodName) : Prop := y.cls ≠ "java/lang/invoke/MethodHandle" ∧ y.cls ≠ "java/lang/invoke/VarHandle"
/-- the words of a callee -/
def cw_ok (M' : md_) : Prop := Cond.code M'.1 M'.2.1 M'.2.2.1 M'.2.2.2 ∈ lw_good ∧ Cond.initialized M'.1.cls ∈ lw_good ∧ plain_ M'.1 ∧ M'.2.2.1 ≤ 80
def ar_ok (M' : md_) (k : Nat) : Prop := (parseMethodDescriptor M'.1.desc).map (fun d => d.parameters.length) = some k
/-- the link of a method: plain, or by the nest -/
def ml_ok (own : String) (i : Nat) (M' : md_) : Prop := Cond.methodLink own i M'.1 ∈ lw_good ∨ ∃ host, Cond.methodLinkNest own i M'.1 host ∈ nestW
theorem good_in {M' : md_} (hc : cw_ok M') : GoodIn (md_ws M) (md_ws M') := by
  intro w hw
  have hg : w ∈ lw_good := by
    rcases List.mem_cons.mp hw with rfl | hw
    · exact hc.1
    · exact hw
  exact ⟨List.mem_cons_of_mem _ hg, lg_ok hg⟩
theorem blind_ {av : List Value} : FrameBlind (fun a U => a = av.toArray ∧ hp_E g.2.1 g.2.2 U ∧ hp_Rel g.2.1 U h U.heap) := fun a U gg mk q => ⟨q.1, hp_E.same (s := U) (U := U.calling gg mk a) rfl q.2.1, q.2.2.moved (U := U.calling gg mk a) (Vm.Alike.refl U.vm)⟩
theorem pre_ {av : List Value} {s : State} {H : Heap} (hE : hp_E g.2.1 g.2.2 s) (hr : hp_Rel g.2.1 s h H) : ∀ U : State, U.heap = H → s.WarmedH U.vm → av.toArray = av.toArray ∧ hp_E g.2.1 g.2.2 U ∧ hp_Rel g.2.1 U h U.heap := fun U hU hW => ⟨rfl, hE.warm hW, by rw [hU]; exact hr.moved hW.alike⟩
theorem room_ {n mc ms mc' ms' k : Nat} (hk : k ≤ 80) : (md_R n mc' ms').frames + 1 ≤ (md_R (n + 1) mc ms).frames ∧ 8 + (k + 11) + (md_R n mc' ms').locals ≤ (md_R (n + 1) mc ms).locals := by
  simp only [md_R]
  omega
theorem wr_callS {i mc' ms' : Nat} {M' : md_} {As rest : List Value} (hd : decode M.2.1 pc = .ok (.invokestatic i, 3)) (hm : ml_ok M.1.cls i M') (hw : cw_ok M') (hst : Cond.static M'.1 ∈ lw_good) (hlen : ar_ok M' As.length) (h8 : (rest.map fun v => v.category).sum ≤ 8) (hcs : cs + mc' ≤ mc) (hsl : sl + ms' ≤ ms)
    (k : Call g n mc' ms' M' As h (fun rv h' => Wp g (n + 1) mc ms M h0 Q (cs + mc') (sl + ms') (pc + 3) ls (rv.toList ++ rest) h')) : Wp g (n + 1) mc ms M h0 Q cs sl pc ls (As.reverse ++ rest) h := by
  intro p e s m args below meth c H locs lsA hX hE hz hr hS hA hl
  have hts := hX.2.2.2.2.2.1
  have S : CallFix p m c M.2.1 M.2.2.1 s args (md_ws M) M.1.cls := ⟨hX.1, hX.2.1, hX.2.2.2.1, hX.2.2.2.2.1, hts⟩
  have ok : ∀ w ∈ lw_good, w.before args s = true := fun w hw => hts w (List.mem_cons_of_mem _ hw)
  refine wp_after (rest := rest) (mc' := mc') (ms' := ms') (a' := As.toArray) hX hE hz hr hS hA hl ?_
  rcases hm with hm | ⟨host, hm⟩
  · exact va_runS S k ⟨callB_of As.length hts (good_in hw) rfl rfl rfl (ok _ hw.2.1) (ok _ hm) ⟨hw.2.2.1.1, hw.2.2.1.2, hlen⟩ (room_ hw.2.2.2), ok _ hst⟩ ⟨blind_, pre_ hE hr⟩ rfl rfl hl.1 rfl (lv_room h8) hd ⟨hcs, hsl⟩
  · exact va_runSN S k ⟨va_cnB As.length hts (good_in hw) rfl rfl rfl (hE.2.2.1 _ hm) (ok _ hw.2.1) ⟨hw.2.2.1.1, hw.2.2.1.2, hlen⟩ (room_ hw.2.2.2), ok _ hst, trivial⟩ ⟨blind_, pre_ hE hr⟩ rfl rfl hl.1 rfl (lv_room h8) hd ⟨hcs, hsl⟩
/-- the class of an object -/
theorem recv_ {D : va_G} {sa : Nat → Nat} {s : State} {H : Heap} {b ci : Nat} {r : vw_C} (hE : hp_E D sa s) (hr : hp_Rel D s h H) (hc : vwCl[ci]? = some r) (hb : hK h b = ci + 1) : ∃ cellB : Cell, H[b]? = some cellB ∧ cellB.vm.isStatics = false ∧ s.vm.findClass r.1 = some cellB.cls := by
  obtain ⟨cell, q1, q2, q3, q4⟩ := (hr.2.2.1 b).1 ci r hb hc
  exact ⟨cell, q1, by rw [q3]; rfl, by rw [q2]; exact (hE.1.1 ci _ hc).2.1⟩
theorem wr_callV {i mc' ms' b : Nat} {M' : md_} {As rest : List Value} (hd : decode M.2.1 pc = .ok (.invokevirtual i, 3)) (hm : ml_ok M.1.cls i M') (hw : cw_ok M') (hin : Cond.instanceMethod M'.1 ∈ lw_good) (hse : Cond.selects M'.1.cls M'.1 M'.1 ∈ lw_good) (hlen : ar_ok M' As.length) (h8 : (rest.map fun v => v.category).sum ≤ 8) (hcs : cs + mc' ≤ mc) (hsl : sl + ms' ≤ ms)
    (hb : (∃ (ci : Nat) (r : vw_C), vwCl[ci]? = some r ∧ hK h b = ci + 1 ∧ M'.1.cls = r.1) ∨ (hK h b = 40 ∧ M'.1.cls = "java/lang/String"))
    (k : Call g n mc' ms' M' (.ref b :: As) h (fun rv h' => Wp g (n + 1) mc ms M h0 Q (cs + mc') (sl + ms') (pc + 3) ls (rv.toList ++ rest) h')) : Wp g (n + 1) mc ms M h0 Q cs sl pc ls (As.reverse ++ .ref b :: rest) h := by
  intro p e s m args below meth c H locs lsA hX hE hz hr hS hA hl
  have hts := hX.2.2.2.2.2.1
  have S : CallFix p m c M.2.1 M.2.2.1 s args (md_ws M) M.1.cls := ⟨hX.1, hX.2.1, hX.2.2.2.1, hX.2.2.2.2.1, hts⟩
  have ok : ∀ w ∈ lw_good, w.before args s = true := fun w hw => hts w (List.mem_cons_of_mem _ hw)
  have hrc : ∃ cellB : Cell, H[b]? = some cellB ∧ cellB.vm.isStatics = false ∧ s.vm.findClass M'.1.cls = some cellB.cls := by
    rcases hb with ⟨ci, r, hc, hb, e⟩ | ⟨hb, e⟩
    · rw [e]; exact recv_ hE hr hc hb
    · obtain ⟨⟨cell, q1, q2, q3, -⟩, -⟩ := (hr.2.2.1 b).2.2.1 hb
      rw [e]; exact ⟨cell, q1, q2, q3⟩
  refine wp_after (rest := rest) (mc' := mc') (ms' := ms') (a' := (Value.ref b :: As).toArray) hX hE hz hr hS hA hl ?_
  rcases hm with hm | ⟨host, hm⟩
  · exact va_runV (C := M'.1.cls) S k ⟨callB_of As.length hts (good_in hw) rfl rfl rfl (ok _ hw.2.1) (ok _ hm) ⟨hw.2.2.1.1, hw.2.2.1.2, hlen⟩ (room_ hw.2.2.2), ok _ hin, ok _ hse⟩ ⟨blind_, hrc, pre_ hE hr⟩ rfl rfl hl.1 rfl (lv_room h8) hd ⟨hcs, hsl⟩
  · exact va_runVN (C := M'.1.cls) S k ⟨va_cnB As.length hts (good_in hw) rfl rfl rfl (hE.2.2.1 _ hm) (ok _ hw.2.1) ⟨hw.2.2.1.1, hw.2.2.1.2, hlen⟩ (room_ hw.2.2.2), ok _ hin, ok _ hse⟩ ⟨blind_, hrc, pre_ hE hr⟩ rfl rfl hl.1 rfl (lv_room h8) hd ⟨hcs, hsl⟩
theorem wr_callI {i mc' ms' b : Nat} {M' : md_} {As rest : List Value} (hd : decode M.2.1 pc = .ok (.invokespecial i, 3)) (hm : ml_ok M.1.cls i M') (hw : cw_ok M') (hin : Cond.instanceMethod M'.1 ∈ lw_good) (hrn : M'.2.2.2 = none) (hnm : M'.1.name = "<init>") (hlen : ar_ok M' As.length) (h8 : (rest.map fun v => v.category).sum ≤ 8) (hcs : cs + mc' ≤ mc) (hsl : sl + ms' ≤ ms)
    (k : Call g n mc' ms' M' (.ref b :: As) h (fun rv h' => Wp g (n + 1) mc ms M h0 Q (cs + mc') (sl + ms') (pc + 3) ls (rv.toList ++ rest) h')) : Wp g (n + 1) mc ms M h0 Q cs sl pc ls (As.reverse ++ .ref b :: rest) h := by
  intro p e s m args below meth c H locs lsA hX hE hz hr hS hA hl
  have hts := hX.2.2.2.2.2.1
  have S : CallFix p m c M.2.1 M.2.2.1 s args (md_ws M) M.1.cls := ⟨hX.1, hX.2.1, hX.2.2.2.1, hX.2.2.2.2.1, hts⟩
  have ok : ∀ w ∈ lw_good, w.before args s = true := fun w hw => hts w (List.mem_cons_of_mem _ hw)
  have hcode : md_ws M' = Cond.code M'.1 M'.2.1 M'.2.2.1 none :: lw_good := by unfold md_ws; rw [hrn]
  refine wp_after (rest := rest) (mc' := mc') (ms' := ms') (a' := (Value.ref b :: As).toArray) hX hE hz hr hS hA hl ?_
  rcases hm with hm | ⟨host, hm⟩
  · exact va_runI S k ⟨callB_of As.length hts (good_in hw) hcode rfl rfl (ok _ hw.2.1) (ok _ hm) ⟨hw.2.2.1.1, hw.2.2.1.2, hlen⟩ (room_ hw.2.2.2), hnm, ok _ hin⟩ ⟨blind_, pre_ hE hr⟩ rfl rfl hl.1 rfl (lv_room h8) hd ⟨hcs, hsl⟩
  · exact va_runIN S k ⟨va_cnB As.length hts (good_in hw) hcode rfl rfl (hE.2.2.1 _ hm) (ok _ hw.2.1) ⟨hw.2.2.1.1, hw.2.2.1.2, hlen⟩ (room_ hw.2.2.2), hnm, ok _ hin⟩ ⟨blind_, pre_ hE hr⟩ rfl rfl hl.1 rfl (lv_room h8) hd ⟨hcs, hsl⟩
theorem wr_objInit {i b : Nat} {rest : List Value} (hd : decode M.2.1 pc = .ok (.invokespecial i, 3)) (hm : Cond.methodLink M.1.cls i Lib.objectInit ∈ lw_good) (hin : Cond.instanceMethod Lib.objectInit ∈ lw_good) (hc : Cond.code Lib.objectInit ⟨#[0xb1]⟩ 1 none ∈ lw_good) (h8 : (rest.map fun v => v.category).sum ≤ 8)
    (k : Wp g n mc ms M h0 Q cs sl (pc + 3) ls rest h) : Wp g n mc ms M h0 Q cs sl pc ls (.ref b :: rest) h := by
  intro p e s m args below meth c H locs lsA hX hE hz hr hS hA hl
  have hts := hX.2.2.2.2.2.1
  have ok : ∀ w ∈ lw_good, w.before args s = true := fun w hw => hts w (List.mem_cons_of_mem _ hw)
  have h9 := lv_room (m := m) (pc := pc) (ls := lsA) (rest := rest) h8
  have h10 : 2 * (F0 m pc lsA (Value.ref b :: rest)).monitorRoom + (rest.map fun v => v.category).sum + 12 ≤ (md_R n mc ms).locals := by
    have h11 : (F0 m pc lsA (Value.ref b :: rest)).monitorRoom = (F0 m pc lsA rest).monitorRoom := rfl
    rw [h11]
    simp only [md_R]
    omega
  exact W.objInit hX.1 hX.2.1 hX.2.2.2.2.1 (ok _ hm) (ok _ hin) (ok _ hc) rfl (hl.1.trans hX.2.2.2.1.symm) rfl hd (by simp [md_R]) h10 (k p e s m args below meth c H locs lsA hX hE hz hr hS hA hl)
theorem wr_mmax {i : Nat} {x y : Int32} {rest : List Value} (hd : decode M.2.1 pc = .ok (.invokestatic i, 3)) (hm : Cond.methodLink M.1.cls i Lib.Math.max.name ∈ lw_good) (hst : Cond.static Lib.Math.max.name ∈ lw_good) (hini : Cond.initialized "java/lang/Math" ∈ lw_good) (hco : Cond.code Lib.Math.max.name Lib.Math.max.code 2 (some .int) ∈ lw_good) (h8 : (rest.map fun v => v.category).sum ≤ 8) (hc : cs ≤ mc) (hs : sl ≤ ms)
    (k : Wp g n mc ms M h0 Q cs sl (pc + 3) ls (.int (if x < y then y else x) :: rest) h) : Wp g n mc ms M h0 Q cs sl pc ls (.int y :: .int x :: rest) h := by
  intro p e s m args below meth c H locs lsA hX hE hz hr hS hA hl
  have hts := hX.2.2.2.2.2.1
  have ok : ∀ w ∈ lw_good, w.before args s = true := fun w hw => hts w (List.mem_cons_of_mem _ hw)
  exact va_mmax hX.1 hX.2.1 (hX.2.2.2.1.trans hl.1.symm) hX.2.2.2.2.1 (ok _ hm) (ok _ hst) (ok _ hini) (ok _ hco) (by simp [md_R]) (by simp only [md_R]; omega) hc hs hd (k p e s m args below meth c H locs lsA hX hE hz hr hS hA hl)
theorem wr_mmin {i : Nat} {x y : Int32} {rest : List Value} (hd : decode M.2.1 pc = .ok (.invokestatic i, 3)) (hm : Cond.methodLink M.1.cls i Lib.Math.min.name ∈ lw_good) (hst : Cond.static Lib.Math.min.name ∈ lw_good) (hini : Cond.initialized "java/lang/Math" ∈ lw_good) (hco : Cond.code Lib.Math.min.name Lib.Math.min.code 2 (some .int) ∈ lw_good) (h8 : (rest.map fun v => v.category).sum ≤ 8) (hc : cs ≤ mc) (hs : sl ≤ ms)
    (k : Wp g n mc ms M h0 Q cs sl (pc + 3) ls (.int (if y < x then y else x) :: rest) h) : Wp g n mc ms M h0 Q cs sl pc ls (.int y :: .int x :: rest) h := by
  intro p e s m args below meth c H locs lsA hX hE hz hr hS hA hl
  have hts := hX.2.2.2.2.2.1
  have ok : ∀ w ∈ lw_good, w.before args s = true := fun w hw => hts w (List.mem_cons_of_mem _ hw)
  exact va_mmin hX.1 hX.2.1 (hX.2.2.2.1.trans hl.1.symm) hX.2.2.2.2.1 (ok _ hm) (ok _ hst) (ok _ hini) (ok _ hco) (by simp [md_R]) (by simp only [md_R]; omega) hc hs hd (k p e s m args below meth c H locs lsA hX hE hz hr hS hA hl)
theorem wr_mabs {i : Nat} {x : Int32} {rest : List Value} (hd : decode M.2.1 pc = .ok (.invokestatic i, 3)) (hm : Cond.methodLink M.1.cls i Lib.Math.abs.name ∈ lw_good) (hst : Cond.static Lib.Math.abs.name ∈ lw_good) (hini : Cond.initialized "java/lang/Math" ∈ lw_good) (hco : Cond.code Lib.Math.abs.name Lib.Math.abs.code 1 (some .int) ∈ lw_good) (h8 : (rest.map fun v => v.category).sum ≤ 8) (hc : cs ≤ mc) (hs : sl ≤ ms)
    (k : Wp g n mc ms M h0 Q cs sl (pc + 3) ls (.int (if 0 ≤ x then x else 0 - x) :: rest) h) : Wp g n mc ms M h0 Q cs sl pc ls (.int x :: rest) h := by
  intro p e s m args below meth c H locs lsA hX hE hz hr hS hA hl
  have hts := hX.2.2.2.2.2.1
  have ok : ∀ w ∈ lw_good, w.before args s = true := fun w hw => hts w (List.mem_cons_of_mem _ hw)
  exact va_mabs hX.1 hX.2.1 (hX.2.2.2.1.trans hl.1.symm) hX.2.2.2.2.1 (ok _ hm) (ok _ hst) (ok _ hini) (ok _ hco) (by simp [md_R]) (by simp only [md_R]; omega) hc hs hd (k p e s m args below meth c H locs lsA hX hE hz hr hS hA hl)
end WC
