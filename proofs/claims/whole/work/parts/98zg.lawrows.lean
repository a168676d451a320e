/-! THE CLAIM OUT OF ONE WALK OF THE LAW'S BODY. Your part is whole_start (and what it stands on); all else here is the same for every law, but numbers. -/
def R_law : String := "WhoCommandsLaw"
def lw_P (b : Addr) (xs : List Int32) (args : Array Value) (s : State) : Prop := args = #[.ref b] ∧ s.IntsAt b xs ∧ xs.length ≤ 3584 ∧ (Jvm.Cond.and given_1 narrow_1).before args s = true
def lw_Q (_ : Array Value) (s : State) (o : Outcome) (t : State) : Prop := o = .returned (some (.int 1)) ∧ Framed s o t [] 600000 7302250
def lw_Z (below : List Frame) (a : Array Value) (s : State) : State → Prop := fun t => ∃ o, t.status = .running ∧ Ended t below o ∧ lw_Q a s o t
/-- the law's own end, with 1 on the stack, nothing written that was there before, its room as the claim has it -/
theorem lw_ret {p : Program} {l : Launch} {e : Env} {s : State} {m : MethodId} {below : List Frame} {meth : Method} {c : Code} {b : Nat} (hx : p.tables.exec = Jvm.exec) (hb : c.code = code) (hr : meth.sig.returnType = ret) (hlocks : meth.locks = false) {pc : Nat} {H : Heap} {ls : Array Slot} (hdg : decode code pc = .ok (.ireturn, 1)) : W p l e room_1 s m #[Value.ref b] below meth c H [] 600000 7302250 (lw_Z below #[Value.ref b] s) (F0 m pc ls [.int 1]) := by
  intro T hT X
  obtain ⟨fs, hret, hrun, hended, hW, hframe⟩ := X.leave (v := some (.int 1)) (hlocks := hlocks) (fun h => by rw [hr] at h; cases h)
  have hmeth' : T.vm.method? m = some meth := X.method'
  refine ⟨T.setFrames fs, ?_, .returned (some (.int 1)), hrun, hended, rfl, ⟨_, rfl⟩, hW, hframe⟩
  jvm_step X.here [X.here.top, hx, hb, hdg, hmeth', hr, ret, narrow_b1]
  (try refine ⟨rfl, ?_⟩); (try refine ⟨rfl, ?_⟩)
  first | (intro acts; rw [hret _ acts rfl rfl rfl]) | rw [hret _ _ rfl rfl rfl]
  exact Steps.refl _
/-- what holds at the law's entry: the machine, the code, the tables' words (any of lw_tbl by 'hts w (by decide +kernel)'), the script of L ints xs at the cell b, what the Statement gives of the start (any of its parts by flat_of_before) -/
def lw_At (p : Program) (s : State) (m : MethodId) (meth : Method) (c : Code) (b L : Nat) (xs : Nat → Int32) : Prop :=
  p.tables.exec = Jvm.exec ∧ c.code = code ∧ meth.sig.returnType = ret ∧ c.maxLocals = 4 ∧ s.vm.findClass R_law = some m.cls ∧ (∀ w ∈ lw_tbl, w.before #[Value.ref b] s = true) ∧ va_X b L xs s s.heap ∧ b < s.heap.size ∧ meth.locks = false ∧ (Jvm.Cond.and given_1 narrow_1).before #[Value.ref b] s = true

/-! 98zg: the law's own body, a row an instruction -/
/-- what holds of the law's own run -/
def LwE (p : Program) (s : State) (m : MethodId) (meth : Method) (c : Code) (g : gx) (h0 : hp) (b L : Nat) (xs : Nat → Int32) : Prop := lw_At p s m meth c b L xs ∧ hp_E g.2.1 g.2.2 s ∧ s.heap.size = hZ h0 ∧ ∀ q, fr_ h0 q → hZ h0 ≤ q
/-- the law at pc comes to its end with true -/
def Wl (p : Program) (e : Env) (s : State) (m : MethodId) (below : List Frame) (meth : Method) (c : Code) (g : gx) (h0 : hp) (b cs sl pc : Nat) (ls : List (Option Value)) (st : List Value) (h : hp) : Prop := ∀ (H : Heap) (locs : List Loc) (lsA : Array Slot), hp_Rel g.2.1 s h H → va_S (fr_ h0) s.heap H locs → (∀ q, (hK h q ≠ 0 ∧ hK h q < 40) → fr_ h0 q) → lc_has lsA 4 ls → W p g.1 e room_1 s m #[Value.ref b] below meth c H locs cs sl (lw_Z below #[Value.ref b] s) (F0 m pc lsA st)
section LWR
variable {p : Program} {e : Env} {s : State} {m : MethodId} {below : List Frame} {meth : Method} {c : Code} {g : gx} {h0 : hp} {b L : Nat} {xs : Nat → Int32} {cs sl pc : Nat} {ls : List (Option Value)} {st : List Value} {h : hp}
theorem LwE.nb (B : LwE p s m meth c g h0 b L xs) : ¬ fr_ h0 b := fun q => by
  have h1 := B.2.2.2 b q
  have h2 := B.1.2.2.2.2.2.2.2.1
  have h3 := B.2.2.1
  omega
theorem Wl.widen {k n : Nat} (h1 : cs ≤ k) (h2 : sl ≤ n) (kk : Wl p e s m below meth c g h0 b k n pc ls st h) : Wl p e s m below meth c g h0 b cs sl pc ls st h := fun H locs lsA hr hS hA hl => W.widen h1 h2 (kk H locs lsA hr hS hA hl)
theorem wl_aload_n {j : Fin 4} {i x : Nat} (B : LwE p s m meth c g h0 b L xs) (hd : decode code pc = .ok (.aload_n j, 1)) (hi : (j : Nat) = i) (hl0 : ls[i]? = some (some (.ref x))) (k : Wl p e s m below meth c g h0 b cs sl (pc + 1) ls (.ref x :: st) h) : Wl p e s m below meth c g h0 b cs sl pc ls st h :=
  fun H locs lsA hr hS hA hl => lv_aload_n B.1.1 B.1.2.1 hd hi (hl.at hl0) (k H locs lsA hr hS hA hl)
theorem wl_iload_n {j : Fin 4} {i : Nat} {x : Int32} (B : LwE p s m meth c g h0 b L xs) (hd : decode code pc = .ok (.iload_n j, 1)) (hi : (j : Nat) = i) (hl0 : ls[i]? = some (some (.int x))) (k : Wl p e s m below meth c g h0 b cs sl (pc + 1) ls (.int x :: st) h) : Wl p e s m below meth c g h0 b cs sl pc ls st h :=
  fun H locs lsA hr hS hA hl => lv_iload_n B.1.1 B.1.2.1 hd hi (hl.at hl0) (k H locs lsA hr hS hA hl)
theorem wl_iconst {i : Int} {v : Int32} (B : LwE p s m meth c g h0 b L xs) (hd : decode code pc = .ok (.iconst i, 1)) (hv : Int32.ofInt i = v) (k : Wl p e s m below meth c g h0 b cs sl (pc + 1) ls (.int v :: st) h) : Wl p e s m below meth c g h0 b cs sl pc ls st h :=
  fun H locs lsA hr hS hA hl => lv_iconst B.1.1 B.1.2.1 hd hv (k H locs lsA hr hS hA hl)
theorem wl_bipush {i : Int} {v : Int32} (B : LwE p s m meth c g h0 b L xs) (hd : decode code pc = .ok (.bipush i, 2)) (hv : (Int8.ofInt i).toInt32 = v) (k : Wl p e s m below meth c g h0 b cs sl (pc + 2) ls (.int v :: st) h) : Wl p e s m below meth c g h0 b cs sl pc ls st h :=
  fun H locs lsA hr hS hA hl => lv_bipush B.1.1 B.1.2.1 hd hv (k H locs lsA hr hS hA hl)
theorem wl_iadd {x y : Int32} (B : LwE p s m meth c g h0 b L xs) (hd : decode code pc = .ok (.iadd, 1)) (k : Wl p e s m below meth c g h0 b cs sl (pc + 1) ls (.int (x + y) :: st) h) : Wl p e s m below meth c g h0 b cs sl pc ls (.int y :: .int x :: st) h :=
  fun H locs lsA hr hS hA hl => lv_iadd B.1.1 B.1.2.1 hd (k H locs lsA hr hS hA hl)
theorem wl_isub {x y : Int32} (B : LwE p s m meth c g h0 b L xs) (hd : decode code pc = .ok (.isub, 1)) (k : Wl p e s m below meth c g h0 b cs sl (pc + 1) ls (.int (x - y) :: st) h) : Wl p e s m below meth c g h0 b cs sl pc ls (.int y :: .int x :: st) h :=
  fun H locs lsA hr hS hA hl => lv_isub B.1.1 B.1.2.1 hd (k H locs lsA hr hS hA hl)
theorem wl_iand {x y : Int32} (B : LwE p s m meth c g h0 b L xs) (hd : decode code pc = .ok (.iand, 1)) (k : Wl p e s m below meth c g h0 b cs sl (pc + 1) ls (.int (x &&& y) :: st) h) : Wl p e s m below meth c g h0 b cs sl pc ls (.int y :: .int x :: st) h :=
  fun H locs lsA hr hS hA hl => lv_iand B.1.1 B.1.2.1 hd (k H locs lsA hr hS hA hl)
theorem wl_dup {v : Value} (B : LwE p s m meth c g h0 b L xs) (hd : decode code pc = .ok (.dup, 1)) (hc : v.category = 1) (k : Wl p e s m below meth c g h0 b cs sl (pc + 1) ls (v :: v :: st) h) : Wl p e s m below meth c g h0 b cs sl pc ls (v :: st) h :=
  fun H locs lsA hr hS hA hl => lv_dup B.1.1 B.1.2.1 hd hc (k H locs lsA hr hS hA hl)
theorem wl_goto {off : Int} {t : Nat} (B : LwE p s m meth c g h0 b L xs) (hd : decode code pc = .ok (.goto off, 3)) (ht : (pc : Int) + off = (t : Int)) (k : Wl p e s m below meth c g h0 b cs sl t ls st h) : Wl p e s m below meth c g h0 b cs sl pc ls st h :=
  fun H locs lsA hr hS hA hl => lv_goto B.1.1 B.1.2.1 hd ht (k H locs lsA hr hS hA hl)
theorem wl_if_eq {x : Int32} {off : Int} {t : Nat} (B : LwE p s m meth c g h0 b L xs) (hd : decode code pc = .ok (.ifCond .eq off, 3)) (ht : (pc : Int) + off = (t : Int)) (k1 : x = 0 → Wl p e s m below meth c g h0 b cs sl t ls st h) (k2 : ¬ x = 0 → Wl p e s m below meth c g h0 b cs sl (pc + 3) ls st h) : Wl p e s m below meth c g h0 b cs sl pc ls (.int x :: st) h :=
  fun H locs lsA hr hS hA hl => lv_if_eq B.1.1 B.1.2.1 hd ht (fun q => k1 q H locs lsA hr hS hA hl) (fun q => k2 q H locs lsA hr hS hA hl)
theorem wl_icmp_eq {x y : Int32} {off : Int} {t : Nat} (B : LwE p s m meth c g h0 b L xs) (hd : decode code pc = .ok (.if_icmp .eq off, 3)) (ht : (pc : Int) + off = (t : Int)) (k1 : x = y → Wl p e s m below meth c g h0 b cs sl t ls st h) (k2 : ¬ x = y → Wl p e s m below meth c g h0 b cs sl (pc + 3) ls st h) : Wl p e s m below meth c g h0 b cs sl pc ls (.int y :: .int x :: st) h :=
  fun H locs lsA hr hS hA hl => lv_icmp_eq B.1.1 B.1.2.1 hd ht (fun q => k1 q H locs lsA hr hS hA hl) (fun q => k2 q H locs lsA hr hS hA hl)
theorem wl_icmp_gt {x y : Int32} {off : Int} {t : Nat} (B : LwE p s m meth c g h0 b L xs) (hd : decode code pc = .ok (.if_icmp .gt off, 3)) (ht : (pc : Int) + off = (t : Int)) (k1 : y < x → Wl p e s m below meth c g h0 b cs sl t ls st h) (k2 : ¬ y < x → Wl p e s m below meth c g h0 b cs sl (pc + 3) ls st h) : Wl p e s m below meth c g h0 b cs sl pc ls (.int y :: .int x :: st) h :=
  fun H locs lsA hr hS hA hl => lv_icmp_gt B.1.1 B.1.2.1 hd ht (fun q => k1 q H locs lsA hr hS hA hl) (fun q => k2 q H locs lsA hr hS hA hl)
theorem wl_istore_n {j : Fin 4} {i : Nat} {x : Int32} (B : LwE p s m meth c g h0 b L xs) (hd : decode code pc = .ok (.istore_n j, 1)) (hi : (j : Nat) = i) (hn : i < 4) (k : Wl p e s m below meth c g h0 b cs sl (pc + 1) (lc_set1 ls i (.int x)) st h) : Wl p e s m below meth c g h0 b cs sl pc ls (.int x :: st) h :=
  fun H locs lsA hr hS hA hl => lv_istore_n B.1.1 B.1.2.1 hd hi hl hn rfl (fun ls2 h2 => k H locs ls2 hr hS hA (lc_has.set1 (lsA := lsA) h2))
theorem wl_astore_n {j : Fin 4} {i : Nat} {x : Nat} (B : LwE p s m meth c g h0 b L xs) (hd : decode code pc = .ok (.astore_n j, 1)) (hi : (j : Nat) = i) (hn : i < 4) (k : Wl p e s m below meth c g h0 b cs sl (pc + 1) (lc_set1 ls i (.ref x)) st h) : Wl p e s m below meth c g h0 b cs sl pc ls (.ref x :: st) h :=
  fun H locs lsA hr hS hA hl => lv_astore_n B.1.1 B.1.2.1 hd hi hl hn rfl (fun ls2 h2 => k H locs ls2 hr hS hA (lc_has.set1 (lsA := lsA) h2))
theorem wl_iinc {i : Nat} {z : Int} {x v : Int32} (B : LwE p s m meth c g h0 b L xs) (hd : decode code pc = .ok (.iinc i z, 3)) (hl0 : ls[i]? = some (some (.int x))) (hv : Int32.ofInt z = v) (hn : i < 4) (k : Wl p e s m below meth c g h0 b cs sl (pc + 3) (lc_set1 ls i (.int (x + v))) st h) : Wl p e s m below meth c g h0 b cs sl pc ls st h :=
  fun H locs lsA hr hS hA hl => by
    obtain ⟨kk, hk⟩ := List.getElem?_of_mem (lc_mem0.mpr hl0)
    exact lv_iinc B.1.1 B.1.2.1 hd hl hk (by rw [hv]) hn rfl (fun ls2 h2 => k H locs ls2 hr hS hA (lc_has.set1 (lsA := lsA) h2))
theorem wl_slen (B : LwE p s m meth c g h0 b L xs) (hd : decode code pc = .ok (.arraylength, 1)) (k : Wl p e s m below meth c g h0 b cs sl (pc + 1) ls (.int (nI L) :: st) h) : Wl p e s m below meth c g h0 b cs sl pc ls (.ref b :: st) h :=
  fun H locs lsA hr hS hA hl => va_slen B.1.1 B.1.2.1 B.1.2.2.2.2.2.2.1 B.1.2.2.2.2.2.2.2.1 B.nb hS hd (k H locs lsA hr hS hA hl)
theorem wl_sld {i : Int32} (B : LwE p s m meth c g h0 b L xs) (hin : vp_in i L) (hd : decode code pc = .ok (.iaload, 1)) (k : Wl p e s m below meth c g h0 b cs sl (pc + 1) ls (.int (xs i.toNatClampNeg) :: st) h) : Wl p e s m below meth c g h0 b cs sl pc ls (.int i :: .ref b :: st) h :=
  fun H locs lsA hr hS hA hl => va_sld B.1.1 B.1.2.1 B.1.2.2.2.2.2.2.1 B.1.2.2.2.2.2.2.2.1 B.nb hS hin hd (k H locs lsA hr hS hA hl)
theorem wl_tblO {dflt lo hi : Int} {offs : Array Int} {len : Nat} {x : Int32} {t : Nat} (B : LwE p s m meth c g h0 b L xs) (hd : decode code pc = .ok (.tableswitch dflt lo hi offs, len)) (hx : x.toInt < lo ∨ hi < x.toInt) (ht : (pc : Int) + dflt = (t : Int)) (k : Wl p e s m below meth c g h0 b cs sl t ls st h) : Wl p e s m below meth c g h0 b cs sl pc ls (.int x :: st) h :=
  fun H locs lsA hr hS hA hl => lv_tableOut B.1.1 B.1.2.1 hd hx ht (k H locs lsA hr hS hA hl)
theorem wl_tblI {dflt lo hi : Int} {offs : Array Int} {len : Nat} {x : Int32} {off : Int} {t : Nat} (B : LwE p s m meth c g h0 b L xs) (hd : decode code pc = .ok (.tableswitch dflt lo hi offs, len)) (h1 : ¬ x.toInt < lo) (h2 : ¬ hi < x.toInt) (ho : offs[(x.toInt - lo).toNat]? = some off) (ht : (pc : Int) + off = (t : Int)) (k : Wl p e s m below meth c g h0 b cs sl t ls st h) : Wl p e s m below meth c g h0 b cs sl pc ls (.int x :: st) h :=
  fun H locs lsA hr hS hA hl => lv_tableIn B.1.1 B.1.2.1 hd h1 h2 ho ht (k H locs lsA hr hS hA hl)
/-- behind a call -/
theorem wl_after {mc' ms' : Nat} {rest st0 : List Value} {a' : Array Value} {H : Heap} {locs : List Loc} {lsA : Array Slot} (B : LwE p s m meth c g h0 b L xs) (hr : hp_Rel g.2.1 s h H) (hS : va_S (fr_ h0) s.heap H locs) (hA : ∀ q, (hK h q ≠ 0 ∧ hK h q < 40) → fr_ h0 q) (hl : lc_has lsA 4 ls)
    (hrun : va_Run p g.1 e room_1 s m #[Value.ref b] below meth c H locs cs sl mc' ms' (F0 m pc lsA st0) rest (wpQ g h (fun rv h' => Wl p e s m below meth c g h0 b (cs + mc') (sl + ms') (pc + 3) ls (rv.toList ++ rest) h') a') (fr_ h)) :
    W p g.1 e room_1 s m #[Value.ref b] below meth c H locs cs sl (lw_Z below #[Value.ref b] s) (F0 m pc lsA st0) := by
  have hz := B.2.2.1
  have hsub : ∀ q, fr_ h q → fr_ h0 q := by
    intro q hq
    rcases hq with hq | hq
    · exact hA q hq
    · right
      have := hS.1
      rw [hr.1, hz] at this
      exact Nat.le_trans this hq
  intro T hT X
  obtain ⟨v, st₀, t, T', L', e0, X', hL, e1, e2, ⟨⟨r, h', er, hq, hr', hf'⟩, hF⟩, hgo⟩ := hrun T hT X
  cases er
  have hvm : s.vm.Alike t.vm := by rw [← e2]; exact X'.warmed.alike
  have hS' : va_S (fr_ h0) s.heap T'.heap (locs ++ L') := by
    refine ⟨?_, fun q hq hn => ?_, fun l hl' => ?_⟩
    · rw [e1]; exact Nat.le_trans hS.1 (by rw [← e0]; exact hF.1)
    · have hlt : q < st₀.heap.size := by rw [e0]; exact Nat.lt_of_lt_of_le hq hS.1
      rw [e1, hF.2 q hlt (fun hh => hn (hsub q hh)), e0]
      exact hS.2.1 q hq hn
    · rcases List.mem_append.mp hl' with hh | hh
      · exact hS.2.2 l hh
      · exact hsub _ (hL l hh)
  have hrr : hp_Rel g.2.1 s h' T'.heap := by rw [e1]; exact hr'.moved hvm.symm
  obtain ⟨t2, a1, b1⟩ := hq T'.heap (locs ++ L') lsA hrr hS' (fun q hq => hsub q (hf' q hq)) hl T' rfl X'
  exact ⟨t2, hgo t2 a1, b1⟩
theorem good_L {M' : md_} (hc : cw_ok M') : GoodIn lw_good (md_ws M') := by
  intro w hw
  have hg : w ∈ lw_good := by
    rcases List.mem_cons.mp hw with rfl | hw
    · exact hc.1
    · exact hw
  exact ⟨hg, lg_ok hg⟩
theorem room_L {mc' ms' k : Nat} (hk : k ≤ 80) : (md_R 200 mc' ms').frames + 1 ≤ room_1.frames ∧ 8 + (k + 11) + (md_R 200 mc' ms').locals ≤ room_1.locals := by
  simp only [md_R, room_1]
  omega
theorem LwE.fix (B : LwE p s m meth c g h0 b L xs) : CallFix p m c code 4 s #[Value.ref b] lw_good R_law := ⟨B.1.1, B.1.2.1, B.1.2.2.2.1, B.1.2.2.2.2.1, fun w hw => B.1.2.2.2.2.2.1 w (lg_tbl hw)⟩
theorem wl_callV {i mc' ms' o ci : Nat} {r : vw_C} {M' : md_} {As rest : List Value} (B : LwE p s m meth c g h0 b L xs) (hd : decode code pc = .ok (.invokevirtual i, 3)) (hm : Cond.methodLink R_law i M'.1 ∈ lw_good) (hw : cw_ok M') (hin : Cond.instanceMethod M'.1 ∈ lw_good) (hse : Cond.selects M'.1.cls M'.1 M'.1 ∈ lw_good) (hlen : ar_ok M' As.length) (h8 : (rest.map fun v => v.category).sum ≤ 8) (hcs : cs + mc' ≤ 600000) (hsl : sl + ms' ≤ 7302250) (hc : vwCl[ci]? = some r) (hb : hK h o = ci + 1) (hcl : M'.1.cls = r.1)
    (k : Call g 200 mc' ms' M' (.ref o :: As) h (fun rv h' => Wl p e s m below meth c g h0 b (cs + mc') (sl + ms') (pc + 3) ls (rv.toList ++ rest) h')) : Wl p e s m below meth c g h0 b cs sl pc ls (As.reverse ++ .ref o :: rest) h := by
  intro H locs lsA hr hS hA hl
  have S := B.fix
  have ok : ∀ w ∈ lw_good, w.before #[Value.ref b] s = true := S.2.2.2.2
  have hE := B.2.1
  have hrc : ∃ cellB : Cell, H[o]? = some cellB ∧ cellB.vm.isStatics = false ∧ s.vm.findClass M'.1.cls = some cellB.cls := by
    rw [hcl]; exact recv_ hE hr hc hb
  refine wl_after (rest := rest) (mc' := mc') (ms' := ms') (a' := (Value.ref o :: As).toArray) B hr hS hA hl ?_
  exact va_runV (C := M'.1.cls) S k ⟨callB_of As.length ok (good_L hw) rfl rfl rfl (ok _ hw.2.1) (ok _ hm) ⟨hw.2.2.1.1, hw.2.2.1.2, hlen⟩ (room_L hw.2.2.2), ok _ hin, ok _ hse⟩ ⟨blind_, hrc, pre_ hE hr⟩ rfl rfl hl.1 rfl (lv_room h8) hd ⟨hcs, hsl⟩
theorem wl_callI {i mc' ms' o : Nat} {M' : md_} {As rest : List Value} (B : LwE p s m meth c g h0 b L xs) (hd : decode code pc = .ok (.invokespecial i, 3)) (hm : Cond.methodLink R_law i M'.1 ∈ lw_good) (hw : cw_ok M') (hin : Cond.instanceMethod M'.1 ∈ lw_good) (hrn : M'.2.2.2 = none) (hnm : M'.1.name = "<init>") (hlen : ar_ok M' As.length) (h8 : (rest.map fun v => v.category).sum ≤ 8) (hcs : cs + mc' ≤ 600000) (hsl : sl + ms' ≤ 7302250)
    (k : Call g 200 mc' ms' M' (.ref o :: As) h (fun rv h' => Wl p e s m below meth c g h0 b (cs + mc') (sl + ms') (pc + 3) ls (rv.toList ++ rest) h')) : Wl p e s m below meth c g h0 b cs sl pc ls (As.reverse ++ .ref o :: rest) h := by
  intro H locs lsA hr hS hA hl
  have S := B.fix
  have ok : ∀ w ∈ lw_good, w.before #[Value.ref b] s = true := S.2.2.2.2
  have hE := B.2.1
  have hcode : md_ws M' = Cond.code M'.1 M'.2.1 M'.2.2.1 none :: lw_good := by unfold md_ws; rw [hrn]
  refine wl_after (rest := rest) (mc' := mc') (ms' := ms') (a' := (Value.ref o :: As).toArray) B hr hS hA hl ?_
  exact va_runI S k ⟨callB_of As.length ok (good_L hw) hcode rfl rfl (ok _ hw.2.1) (ok _ hm) ⟨hw.2.2.1.1, hw.2.2.1.2, hlen⟩ (room_L hw.2.2.2), hnm, ok _ hin⟩ ⟨blind_, pre_ hE hr⟩ rfl rfl hl.1 rfl (lv_room h8) hd ⟨hcs, hsl⟩
theorem wl_new {i ci : Nat} {r : vw_C} (B : LwE p s m meth c g h0 b L xs) (hd : decode code pc = .ok (.new i, 3)) (hc : vwCl[ci]? = some r) (hok : clX_ok ci r) (hw1 : Cond.classLink R_law i r.1 ∈ lw_good) (hw2 : Cond.instantiable r.1 r.2.2 ∈ lw_good) (hw3 : Cond.initialized r.1 ∈ lw_good) (hcs : cs + 1 ≤ 600000) (hsl : sl + r.2.2 ≤ 7302250)
    (kk : Wl p e s m below meth c g h0 b (cs + 1) (sl + r.2.2) (pc + 3) ls (.ref (hZ h) :: st) (mkC h (ci + 1) 0)) : Wl p e s m below meth c g h0 b cs sl pc ls st h := by
  intro H locs lsA hr hS hA hl
  have S := B.fix
  have hts : ∀ w ∈ lw_good, w.before #[Value.ref b] s = true := S.2.2.2.2
  have hE := B.2.1
  have hz := B.2.2.1
  obtain ⟨hSl, hfc, kC0, hkC0, hkind0⟩ := hE.1.1 ci _ hc
  refine W.newc B.1.1 B.1.2.1 B.1.2.2.2.2.1 (hts _ hw1) (hts _ hw2) (hts _ hw3) rfl hd hcs hsl fun cC kC e1 e2 e3 e4 => ?_
  have ecC : cC = g.2.1.1 ci := Option.some.inj (e1.symm.trans hfc)
  subst ecC
  obtain ⟨p1, p2, p3⟩ := push_get H (blank (g.2.1.1 ci) kC)
  have hcell : (H.push (blank (g.2.1.1 ci) kC))[hZ h]? = some (blank (g.2.1.1 ci) kC) := by rw [← hr.1]; exact p2
  have hb := u_born (ftX ci) hts hok.1 (hE.1.1 ci _ hc) e2 hcell hok.2.1
  have hat : hp_at g.2.1 s (mkC h (ci + 1) 0) (H.push (blank (g.2.1.1 ci) kC)) (hZ h) := by
    refine hp_at.obj (ci := ci) (r := r) (by rw [hK_mkC, if_pos rfl]) hc (hb.to fun k hk => ?_)
    show defaultValue (ftX ci k) = vcode (fcode (ftX ci k)) _ _ _
    have hfd := hok.2.2.2 k hk
    revert hfd
    cases ftX ci k <;> simp [defaultValue, fcode, vcode, hI_mkC, hJ_mkC, hR_mkC, va_rf]
  have := kk (H.push (blank (g.2.1.1 ci) kC)) locs lsA (hr.mk p3 p1 hat) (vS_mk hS p3 p1) (fr_mk hz hr.1 hS hA) hl
  rw [← hr.1] at this
  exact this
theorem wl_end (B : LwE p s m meth c g h0 b L xs) (hd : decode code pc = .ok (.ireturn, 1)) (hcs : cs ≤ 600000) (hsl : sl ≤ 7302250) : Wl p e s m below meth c g h0 b cs sl pc ls ([.int 1]) h := by
  intro H locs lsA hr hS hA hl
  refine va_forget (fun q hq => ?_) ?_
  · rw [B.2.2.1]; exact B.2.2.2 _ (hS.2.2 q hq)
  · exact W.widen hcs hsl (lw_ret B.1.1 B.1.2.1 B.1.2.2.1 B.1.2.2.2.2.2.2.2.2.1 hd)
end LWR

/-! loads of the script, a case of the switch -/
def ld1 (k pc : Nat) : Bool := decide (decode code pc = .ok (.aload_n 0, 1)) && decide (decode code (pc + 1) = .ok (.iload_n 3, 1)) && (if k ≤ 5 then decide (decode code (pc + 2) = .ok (.iconst (k : Int), 1)) && decide (decode code (pc + 3) = .ok (.iadd, 1)) && decide (decode code (pc + 4) = .ok (.iaload, 1)) else decide (decode code (pc + 2) = .ok (.bipush 6, 2)) && decide (decode code (pc + 4) = .ok (.iadd, 1)) && decide (decode code (pc + 5) = .ok (.iaload, 1)))
def ln1 (k : Nat) : Nat := if k ≤ 5 then 5 else 6
def ldf (q : Nat) : Bool := decide (decode code q = .ok (.ifCond .eq 7, 3)) && decide (decode code (q + 3) = .ok (.iconst 1, 1)) && decide (decode code (q + 4) = .ok (.goto 4, 3)) && decide (decode code (q + 7) = .ok (.iconst 0, 1))
def nz_ (x : Int32) : Int32 := if x = 0 then 0 else 1
def ldc_ : List (Nat × Bool) → Nat → Bool
  | [], _ => true
  | (k, f) :: r, pc => decide (k ≤ 6) && ld1 k pc && (if f then ldf (pc + ln1 k) && ldc_ r (pc + ln1 k + 8) else ldc_ r (pc + ln1 k))
def ldp_ : List (Nat × Bool) → Nat → Nat
  | [], pc => pc
  | (k, f) :: r, pc => if f then ldp_ r (pc + ln1 k + 8) else ldp_ r (pc + ln1 k)
def ldv_ (xs : Nat → Int32) (i : Nat) : List (Nat × Bool) → List Value
  | [] => []
  | (k, f) :: r => .int (if f then nz_ (xs (i + k)) else xs (i + k)) :: ldv_ xs i r
section LWC
variable {p : Program} {e : Env} {s : State} {m : MethodId} {below : List Frame} {meth : Method} {c : Code} {g : gx} {h0 : hp} {b L : Nat} {xs : Nat → Int32} {cs sl pc : Nat} {ls : List (Option Value)} {st : List Value} {h : hp}
theorem wl_ld1 {i k : Nat} (B : LwE p s m meth c g h0 b L xs) (hk : k ≤ 6) (hi : i + 6 < L) (hL : L ≤ 3584) (c1 : ld1 k pc = true) (l0 : ls[0]? = some (some (.ref b))) (l3 : ls[3]? = some (some (.int (nI i)))) (kk : Wl p e s m below meth c g h0 b cs sl (pc + ln1 k) ls (.int (xs (i + k)) :: st) h) : Wl p e s m below meth c g h0 b cs sl pc ls st h := by
  have t : (nI (i + k)).toNatClampNeg = i + k := nI_tn (by omega)
  unfold ld1 at c1
  unfold ln1 at kk
  by_cases k5 : k ≤ 5
  · rw [if_pos k5] at c1 kk
    simp only [Bool.and_eq_true, decide_eq_true_eq] at c1
    obtain ⟨⟨d0, d1⟩, ⟨d2, d3⟩, d4⟩ := c1
    have hv : Int32.ofInt (k : Int) = nI k := by
      have : k = 0 ∨ k = 1 ∨ k = 2 ∨ k = 3 ∨ k = 4 ∨ k = 5 := by omega
      rcases this with rfl | rfl | rfl | rfl | rfl | rfl <;> rfl
    refine wl_aload_n B d0 rfl l0 (wl_iload_n B d1 rfl l3 (wl_iconst B d2 hv (wl_iadd B d3 ?_)))
    rw [nI_plus]
    refine wl_sld B (in_nI (by omega) (by omega)) d4 ?_
    rw [t]
    exact kk
  · rw [if_neg k5] at c1 kk
    simp only [Bool.and_eq_true, decide_eq_true_eq] at c1
    obtain ⟨⟨d0, d1⟩, ⟨d2, d3⟩, d4⟩ := c1
    have e6 : k = 6 := by omega
    subst e6
    refine wl_aload_n B d0 rfl l0 (wl_iload_n B d1 rfl l3 (wl_bipush (v := nI 6) B d2 rfl (wl_iadd B d3 ?_)))
    rw [nI_plus]
    refine wl_sld B (in_nI (by omega) (by omega)) d4 ?_
    rw [t]
    exact kk
theorem wl_ldf {x : Int32} (B : LwE p s m meth c g h0 b L xs) (c1 : ldf pc = true) (kk : Wl p e s m below meth c g h0 b cs sl (pc + 8) ls (.int (nz_ x) :: st) h) : Wl p e s m below meth c g h0 b cs sl pc ls (.int x :: st) h := by
  unfold ldf at c1
  simp only [Bool.and_eq_true, decide_eq_true_eq] at c1
  obtain ⟨⟨⟨d0, d1⟩, d2⟩, d3⟩ := c1
  refine wl_if_eq (t := pc + 7) B d0 (by omega) (fun q => ?_) (fun q => ?_)
  · have e : nz_ x = 0 := by unfold nz_; rw [if_pos q]
    rw [e] at kk
    exact wl_iconst B d3 rfl kk
  · have e : nz_ x = 1 := by unfold nz_; rw [if_neg q]
    rw [e] at kk
    exact wl_iconst B d1 rfl (wl_goto (t := pc + 8) B d2 (by omega) kk)
theorem wl_lds {i : Nat} (B : LwE p s m meth c g h0 b L xs) (hi : i + 6 < L) (hL : L ≤ 3584) (l0 : ls[0]? = some (some (.ref b))) (l3 : ls[3]? = some (some (.int (nI i)))) : ∀ (ds : List (Nat × Bool)) (pc : Nat) (st : List Value), ldc_ ds pc = true → Wl p e s m below meth c g h0 b cs sl (ldp_ ds pc) ls ((ldv_ xs i ds).reverse ++ st) h → Wl p e s m below meth c g h0 b cs sl pc ls st h
  | [], pc, st, _, kk => kk
  | (k, true) :: r, pc, st, c1, kk => by
    unfold ldc_ at c1
    simp only [Bool.and_eq_true, decide_eq_true_eq, if_true] at c1
    obtain ⟨⟨k6, a1⟩, a2, a3⟩ := c1
    refine wl_ld1 B k6 hi hL a1 l0 l3 (wl_ldf B a2 (wl_lds B hi hL l0 l3 r _ _ a3 ?_))
    unfold ldp_ ldv_ at kk
    simp only [if_true, List.reverse_cons, List.append_assoc, List.cons_append, List.nil_append] at kk
    exact kk
  | (k, false) :: r, pc, st, c1, kk => by
    unfold ldc_ at c1
    simp only [Bool.and_eq_true, decide_eq_true_eq, Bool.false_eq_true, if_false] at c1
    obtain ⟨⟨k6, a1⟩, a3⟩ := c1
    refine wl_ld1 B k6 hi hL a1 l0 l3 (wl_lds B hi hL l0 l3 r _ _ a3 ?_)
    unfold ldp_ ldv_ at kk
    simp only [Bool.false_eq_true, if_false, List.reverse_cons, List.append_assoc, List.cons_append, List.nil_append] at kk
    exact kk
def cck (ds : List (Nat × Bool)) (pc i8 i9 : Nat) : Bool := decide (decode code pc = .ok (.aload_n 1, 1)) && ldc_ ds (pc + 1) && decide (decode code (ldp_ ds (pc + 1)) = .ok (.invokevirtual i8, 3)) && decide (decode code (ldp_ ds (pc + 1) + 3) = .ok (.aload_n 2, 1)) && ldc_ ds (ldp_ ds (pc + 1) + 4) && decide (decode code (ldp_ ds (ldp_ ds (pc + 1) + 4)) = .ok (.invokevirtual i9, 3)) && decide (decode code (ldp_ ds (ldp_ ds (pc + 1) + 4) + 3) = .ok (.if_icmp .eq ((1746 : Int) - ((ldp_ ds (ldp_ ds (pc + 1) + 4) + 3 : Nat) : Int)), 3))
theorem off_t (a : Nat) : (a : Int) + ((1746 : Int) - (a : Int)) = ((1746 : Nat) : Int) := by omega
/-- a case of the law's switch -/
theorem wl_case {Z X i i8 i9 mc' ms' : Nat} {ds : List (Nat × Bool)} {M8 M9 : md_} (B : LwE p s m meth c g h0 b L xs) (hi : i + 6 < L) (hL : L ≤ 3584) (ck : cck ds pc i8 i9 = true) (a8 : Cond.methodLink R_law i8 M8.1 ∈ lw_good) (b8 : cw_ok M8) (c8 : Cond.instanceMethod M8.1 ∈ lw_good) (d8 : Cond.selects M8.1.cls M8.1 M8.1 ∈ lw_good) (e8 : ar_ok M8 (ldv_ xs i ds).length) (f8 : M8.1.cls = RX8) (a9 : Cond.methodLink R_law i9 M9.1 ∈ lw_good) (b9 : cw_ok M9) (c9 : Cond.instanceMethod M9.1 ∈ lw_good) (d9 : Cond.selects M9.1.cls M9.1 M9.1 ∈ lw_good) (e9 : ar_ok M9 (ldv_ xs i ds).length) (f9 : M9.1.cls = RX9) (hcs : cs + mc' ≤ 600000) (hsl : sl + ms' ≤ 7302250) (I : IV g Z h X) (k8 : Call g 200 mc' ms' M8 (.ref X :: ldv_ xs i ds) h (StQ g Z X M9 (ldv_ xs i ds))) (kk : ∀ h2, IV g Z h2 X → Wl p e s m below meth c g h0 b (cs + mc') (sl + ms') 1746 [some (.ref b), some (.ref X), some (.ref (X + 48)), some (.int (nI i))] [] h2) : Wl p e s m below meth c g h0 b cs sl pc [some (.ref b), some (.ref X), some (.ref (X + 48)), some (.int (nI i))] [] h := by
  unfold cck at ck
  simp only [Bool.and_eq_true, decide_eq_true_eq] at ck
  obtain ⟨⟨⟨⟨⟨⟨d0, d1⟩, d2⟩, d3⟩, d4⟩, d5⟩, d6⟩ := ck
  obtain ⟨S, zx, sa, v, Lw, lw, la, n, t, mv, C, D, V, U⟩ := id I
  have kX : hK h X = 8 + 1 := C.1.1.1
  refine wl_aload_n B d0 rfl rfl (wl_lds B hi hL rfl rfl ds _ _ d1 ?_)
  refine wl_callV (ci := 8) (r := (RX8, TX8, 11)) (o := X) (As := ldv_ xs i ds) (rest := []) B d2 a8 b8 c8 d8 e8 (Nat.zero_le _) hcs hsl rfl kX f8 (k8.mono ?_)
  rintro rv h1 ⟨y, rfl, kM, k9⟩
  refine wl_aload_n B d3 rfl rfl (wl_lds B hi hL rfl rfl ds _ _ d4 ?_)
  refine wl_callV (mc' := 0) (ms' := 0) (ci := 9) (r := (RX9, TX9, 71)) (o := X + 48) (As := ldv_ xs i ds) (rest := [.int y]) B d5 a9 b9 c9 d9 e9 (Nat.le_of_ble_eq_true rfl) hcs hsl rfl kM f9 (k9.mono ?_)
  rintro rv h2 ⟨rfl, I2⟩
  exact wl_icmp_eq (t := 1746) B d6 (off_t _) (fun _ => kk h2 I2) (fun q => absurd rfl q)
end LWC

