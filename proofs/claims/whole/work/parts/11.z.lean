/-! 11.z: the abstract machine by lemmas (not by rfl: the kernel then need not search) -/
section LZ
variable {g : gx} {n mc ms : Nat} {M : md_} {h0 : hp} {Q : Option Value → hp → Prop} {cs sl pc : Nat} {ls : List (Option Value)} {st : List Value} {h : hp} {K L : Nat → Nat → Nat → List (Option Value) → List Value → hp → Prop} {len t a b c mc2 ms2 : Nat} {v : Int32} {w : Int64} {sw : List (Int32 × Nat)}
theorem sq_aconst_null  : stp g n mc ms Q K L (.aconst_null, len, t, v, w, a, b, c, mc2, ms2, sw) cs sl pc ls st h = (K cs sl (pc + 1) ls (.null :: st) h) := Eq.trans rfl rfl
theorem sq_iconst (x : Int) : stp g n mc ms Q K L (.iconst x, len, t, v, w, a, b, c, mc2, ms2, sw) cs sl pc ls st h = (K cs sl (pc + 1) ls (.int v :: st) h) := Eq.trans rfl rfl
theorem sq_bipush (x : Int) : stp g n mc ms Q K L (.bipush x, len, t, v, w, a, b, c, mc2, ms2, sw) cs sl pc ls st h = (K cs sl (pc + 2) ls (.int v :: st) h) := Eq.trans rfl rfl
theorem sq_sipush (x : Int) : stp g n mc ms Q K L (.sipush x, len, t, v, w, a, b, c, mc2, ms2, sw) cs sl pc ls st h = (K cs sl (pc + 3) ls (.int v :: st) h) := Eq.trans rfl rfl
theorem sq_lconst (x : Fin 2) : stp g n mc ms Q K L (.lconst x, len, t, v, w, a, b, c, mc2, ms2, sw) cs sl pc ls st h = (K cs sl (pc + 1) ls (.long w :: st) h) := Eq.trans rfl rfl
theorem sq_ldc (x : Nat) : stp g n mc ms Q K L (.ldc x, len, t, v, w, a, b, c, mc2, ms2, sw) cs sl pc ls st h = (K cs sl (pc + 2) ls (ldv a v (g.2.2 b) :: st) h) := Eq.trans rfl rfl
theorem sq_ldc_w (x : Nat) : stp g n mc ms Q K L (.ldc_w x, len, t, v, w, a, b, c, mc2, ms2, sw) cs sl pc ls st h = (K cs sl (pc + 3) ls (.int v :: st) h) := Eq.trans rfl rfl
theorem sq_ldc2_w (x : Nat) : stp g n mc ms Q K L (.ldc2_w x, len, t, v, w, a, b, c, mc2, ms2, sw) cs sl pc ls st h = (K cs sl (pc + 3) ls (.long w :: st) h) := Eq.trans rfl rfl
theorem sq_iload_n (x : Fin 4) : stp g n mc ms Q K L (.iload_n x, len, t, v, w, a, b, c, mc2, ms2, sw) cs sl pc ls st h = (lI ls t fun y => K cs sl (pc + 1) ls (.int y :: st) h) := Eq.trans rfl rfl
theorem sq_iload (x : Nat) : stp g n mc ms Q K L (.iload x, len, t, v, w, a, b, c, mc2, ms2, sw) cs sl pc ls st h = (lI ls t fun y => K cs sl (pc + 2) ls (.int y :: st) h) := Eq.trans rfl rfl
theorem sq_lload_n (x : Fin 4) : stp g n mc ms Q K L (.lload_n x, len, t, v, w, a, b, c, mc2, ms2, sw) cs sl pc ls st h = (lJ ls t fun y => K cs sl (pc + 1) ls (.long y :: st) h) := Eq.trans rfl rfl
theorem sq_lload (x : Nat) : stp g n mc ms Q K L (.lload x, len, t, v, w, a, b, c, mc2, ms2, sw) cs sl pc ls st h = (lJ ls t fun y => K cs sl (pc + 2) ls (.long y :: st) h) := Eq.trans rfl rfl
theorem sq_aload_n (x : Fin 4) : stp g n mc ms Q K L (.aload_n x, len, t, v, w, a, b, c, mc2, ms2, sw) cs sl pc ls st h = (lA ls t fun y => K cs sl (pc + 1) ls (y :: st) h) := Eq.trans rfl rfl
theorem sq_aload (x : Nat) : stp g n mc ms Q K L (.aload x, len, t, v, w, a, b, c, mc2, ms2, sw) cs sl pc ls st h = (lA ls t fun y => K cs sl (pc + 2) ls (y :: st) h) := Eq.trans rfl rfl
theorem sq_istore_n (x : Fin 4) : stp g n mc ms Q K L (.istore_n x, len, t, v, w, a, b, c, mc2, ms2, sw) cs sl pc ls st h = (pI st fun y s => K cs sl (pc + 1) (lc_set1 ls t (.int y)) s h) := Eq.trans rfl rfl
theorem sq_istore (x : Nat) : stp g n mc ms Q K L (.istore x, len, t, v, w, a, b, c, mc2, ms2, sw) cs sl pc ls st h = (pI st fun y s => K cs sl (pc + 2) (lc_set1 ls t (.int y)) s h) := Eq.trans rfl rfl
theorem sq_lstore_n (x : Fin 4) : stp g n mc ms Q K L (.lstore_n x, len, t, v, w, a, b, c, mc2, ms2, sw) cs sl pc ls st h = (pJ st fun y s => K cs sl (pc + 1) (lc_set2 ls t (.long y)) s h) := Eq.trans rfl rfl
theorem sq_lstore (x : Nat) : stp g n mc ms Q K L (.lstore x, len, t, v, w, a, b, c, mc2, ms2, sw) cs sl pc ls st h = (pJ st fun y s => K cs sl (pc + 2) (lc_set2 ls t (.long y)) s h) := Eq.trans rfl rfl
theorem sq_astore_n (x : Fin 4) : stp g n mc ms Q K L (.astore_n x, len, t, v, w, a, b, c, mc2, ms2, sw) cs sl pc ls st h = (pN st fun y s => K cs sl (pc + 1) (lc_set1 ls t y) s h) := Eq.trans rfl rfl
theorem sq_astore (x : Nat) : stp g n mc ms Q K L (.astore x, len, t, v, w, a, b, c, mc2, ms2, sw) cs sl pc ls st h = (pN st fun y s => K cs sl (pc + 2) (lc_set1 ls t y) s h) := Eq.trans rfl rfl
theorem sq_iinc (x : Nat) (z : Int) : stp g n mc ms Q K L (.iinc x z, len, t, v, w, a, b, c, mc2, ms2, sw) cs sl pc ls st h = (lI ls t fun y => K cs sl (pc + 3) (lc_set1 ls t (.int (y + v))) st h) := Eq.trans rfl rfl
theorem sq_iadd  : stp g n mc ms Q K L (.iadd, len, t, v, w, a, b, c, mc2, ms2, sw) cs sl pc ls st h = (pI st fun y s0 => pI s0 fun x s1 => K cs sl (pc + 1) ls (.int (x + y) :: s1) h) := Eq.trans rfl rfl
theorem sq_isub  : stp g n mc ms Q K L (.isub, len, t, v, w, a, b, c, mc2, ms2, sw) cs sl pc ls st h = (pI st fun y s0 => pI s0 fun x s1 => K cs sl (pc + 1) ls (.int (x - y) :: s1) h) := Eq.trans rfl rfl
theorem sq_imul  : stp g n mc ms Q K L (.imul, len, t, v, w, a, b, c, mc2, ms2, sw) cs sl pc ls st h = (pI st fun y s0 => pI s0 fun x s1 => K cs sl (pc + 1) ls (.int (x * y) :: s1) h) := Eq.trans rfl rfl
theorem sq_iand  : stp g n mc ms Q K L (.iand, len, t, v, w, a, b, c, mc2, ms2, sw) cs sl pc ls st h = (pI st fun y s0 => pI s0 fun x s1 => K cs sl (pc + 1) ls (.int (x &&& y) :: s1) h) := Eq.trans rfl rfl
theorem sq_ior  : stp g n mc ms Q K L (.ior, len, t, v, w, a, b, c, mc2, ms2, sw) cs sl pc ls st h = (pI st fun y s0 => pI s0 fun x s1 => K cs sl (pc + 1) ls (.int (x ||| y) :: s1) h) := Eq.trans rfl rfl
theorem sq_ixor  : stp g n mc ms Q K L (.ixor, len, t, v, w, a, b, c, mc2, ms2, sw) cs sl pc ls st h = (pI st fun y s0 => pI s0 fun x s1 => K cs sl (pc + 1) ls (.int (x ^^^ y) :: s1) h) := Eq.trans rfl rfl
theorem sq_ishl  : stp g n mc ms Q K L (.ishl, len, t, v, w, a, b, c, mc2, ms2, sw) cs sl pc ls st h = (pI st fun y s0 => pI s0 fun x s1 => K cs sl (pc + 1) ls (.int (x <<< (y &&& 31)) :: s1) h) := Eq.trans rfl rfl
theorem sq_ishr  : stp g n mc ms Q K L (.ishr, len, t, v, w, a, b, c, mc2, ms2, sw) cs sl pc ls st h = (pI st fun y s0 => pI s0 fun x s1 => K cs sl (pc + 1) ls (.int (x >>> (y &&& 31)) :: s1) h) := Eq.trans rfl rfl
theorem sq_iushr  : stp g n mc ms Q K L (.iushr, len, t, v, w, a, b, c, mc2, ms2, sw) cs sl pc ls st h = (pI st fun y s0 => pI s0 fun x s1 => K cs sl (pc + 1) ls (.int ((x.toUInt32 >>> (y.toUInt32 &&& Int32.toUInt32 31)).toInt32) :: s1) h) := Eq.trans rfl rfl
theorem sq_ladd  : stp g n mc ms Q K L (.ladd, len, t, v, w, a, b, c, mc2, ms2, sw) cs sl pc ls st h = (pJ st fun y s0 => pJ s0 fun x s1 => K cs sl (pc + 1) ls (.long (x + y) :: s1) h) := Eq.trans rfl rfl
theorem sq_lsub  : stp g n mc ms Q K L (.lsub, len, t, v, w, a, b, c, mc2, ms2, sw) cs sl pc ls st h = (pJ st fun y s0 => pJ s0 fun x s1 => K cs sl (pc + 1) ls (.long (x - y) :: s1) h) := Eq.trans rfl rfl
theorem sq_lmul  : stp g n mc ms Q K L (.lmul, len, t, v, w, a, b, c, mc2, ms2, sw) cs sl pc ls st h = (pJ st fun y s0 => pJ s0 fun x s1 => K cs sl (pc + 1) ls (.long (x * y) :: s1) h) := Eq.trans rfl rfl
theorem sq_land  : stp g n mc ms Q K L (.land, len, t, v, w, a, b, c, mc2, ms2, sw) cs sl pc ls st h = (pJ st fun y s0 => pJ s0 fun x s1 => K cs sl (pc + 1) ls (.long (x &&& y) :: s1) h) := Eq.trans rfl rfl
theorem sq_lor  : stp g n mc ms Q K L (.lor, len, t, v, w, a, b, c, mc2, ms2, sw) cs sl pc ls st h = (pJ st fun y s0 => pJ s0 fun x s1 => K cs sl (pc + 1) ls (.long (x ||| y) :: s1) h) := Eq.trans rfl rfl
theorem sq_ldiv  : stp g n mc ms Q K L (.ldiv, len, t, v, w, a, b, c, mc2, ms2, sw) cs sl pc ls st h = (pJ st fun y s0 => pJ s0 fun x s1 => (¬ y = 0) ∧ K cs sl (pc + 1) ls (.long (x / y) :: s1) h) := Eq.trans rfl rfl
theorem sq_lrem  : stp g n mc ms Q K L (.lrem, len, t, v, w, a, b, c, mc2, ms2, sw) cs sl pc ls st h = (pJ st fun y s0 => pJ s0 fun x s1 => (¬ y = 0) ∧ K cs sl (pc + 1) ls (.long (x - x / y * y) :: s1) h) := Eq.trans rfl rfl
theorem sq_lcmp  : stp g n mc ms Q K L (.lcmp, len, t, v, w, a, b, c, mc2, ms2, sw) cs sl pc ls st h = (pJ st fun y s0 => pJ s0 fun x s1 => K cs sl (pc + 1) ls (.int (lg_cmp x y) :: s1) h) := Eq.trans rfl rfl
theorem sq_i2l  : stp g n mc ms Q K L (.i2l, len, t, v, w, a, b, c, mc2, ms2, sw) cs sl pc ls st h = (pI st fun x s0 => K cs sl (pc + 1) ls (.long x.toInt64 :: s0) h) := Eq.trans rfl rfl
theorem sq_l2i  : stp g n mc ms Q K L (.l2i, len, t, v, w, a, b, c, mc2, ms2, sw) cs sl pc ls st h = (pJ st fun x s0 => K cs sl (pc + 1) ls (.int x.toInt32 :: s0) h) := Eq.trans rfl rfl
theorem sq_i2b  : stp g n mc ms Q K L (.i2b, len, t, v, w, a, b, c, mc2, ms2, sw) cs sl pc ls st h = (pI st fun x s0 => K cs sl (pc + 1) ls (.int x.toInt8.toInt32 :: s0) h) := Eq.trans rfl rfl
theorem sq_dup  : stp g n mc ms Q K L (.dup, len, t, v, w, a, b, c, mc2, ms2, sw) cs sl pc ls st h = (p1 st fun y s => K cs sl (pc + 1) ls (y :: y :: s) h) := Eq.trans rfl rfl
theorem sq_pop  : stp g n mc ms Q K L (.pop, len, t, v, w, a, b, c, mc2, ms2, sw) cs sl pc ls st h = (p1 st fun y s => K cs sl (pc + 1) ls s h) := Eq.trans rfl rfl
theorem sq_dup2  : stp g n mc ms Q K L (.dup2, len, t, v, w, a, b, c, mc2, ms2, sw) cs sl pc ls st h = (p1 st fun y s0 => p1 s0 fun x s => K cs sl (pc + 1) ls (y :: x :: y :: x :: s) h) := Eq.trans rfl rfl
theorem sq_goto (off : Int) : stp g n mc ms Q K L (.goto off, len, t, v, w, a, b, c, mc2, ms2, sw) cs sl pc ls st h = (K cs sl t ls st h) := Eq.trans rfl rfl
theorem sq_ifCond_eq (off : Int) : stp g n mc ms Q K L (.ifCond .eq off, len, t, v, w, a, b, c, mc2, ms2, sw) cs sl pc ls st h = (pI st fun x s => (x = 0 → K cs sl t ls s h) ∧ (¬ x = 0 → K cs sl (pc + 3) ls s h)) := Eq.trans rfl rfl
theorem sq_ifCond_ne (off : Int) : stp g n mc ms Q K L (.ifCond .ne off, len, t, v, w, a, b, c, mc2, ms2, sw) cs sl pc ls st h = (pI st fun x s => (¬ x = 0 → K cs sl t ls s h) ∧ (x = 0 → K cs sl (pc + 3) ls s h)) := Eq.trans rfl rfl
theorem sq_ifCond_lt (off : Int) : stp g n mc ms Q K L (.ifCond .lt off, len, t, v, w, a, b, c, mc2, ms2, sw) cs sl pc ls st h = (pI st fun x s => (x < 0 → K cs sl t ls s h) ∧ (¬ x < 0 → K cs sl (pc + 3) ls s h)) := Eq.trans rfl rfl
theorem sq_ifCond_ge (off : Int) : stp g n mc ms Q K L (.ifCond .ge off, len, t, v, w, a, b, c, mc2, ms2, sw) cs sl pc ls st h = (pI st fun x s => (0 ≤ x → K cs sl t ls s h) ∧ (¬ 0 ≤ x → K cs sl (pc + 3) ls s h)) := Eq.trans rfl rfl
theorem sq_ifCond_gt (off : Int) : stp g n mc ms Q K L (.ifCond .gt off, len, t, v, w, a, b, c, mc2, ms2, sw) cs sl pc ls st h = (pI st fun x s => (0 < x → K cs sl t ls s h) ∧ (¬ 0 < x → K cs sl (pc + 3) ls s h)) := Eq.trans rfl rfl
theorem sq_ifCond_le (off : Int) : stp g n mc ms Q K L (.ifCond .le off, len, t, v, w, a, b, c, mc2, ms2, sw) cs sl pc ls st h = (pI st fun x s => (x ≤ 0 → K cs sl t ls s h) ∧ (¬ x ≤ 0 → K cs sl (pc + 3) ls s h)) := Eq.trans rfl rfl
theorem sq_if_icmp_eq (off : Int) : stp g n mc ms Q K L (.if_icmp .eq off, len, t, v, w, a, b, c, mc2, ms2, sw) cs sl pc ls st h = (pI st fun y s0 => pI s0 fun x s => (x = y → K cs sl t ls s h) ∧ (¬ x = y → K cs sl (pc + 3) ls s h)) := Eq.trans rfl rfl
theorem sq_if_icmp_ne (off : Int) : stp g n mc ms Q K L (.if_icmp .ne off, len, t, v, w, a, b, c, mc2, ms2, sw) cs sl pc ls st h = (pI st fun y s0 => pI s0 fun x s => (¬ x = y → K cs sl t ls s h) ∧ (x = y → K cs sl (pc + 3) ls s h)) := Eq.trans rfl rfl
theorem sq_if_icmp_lt (off : Int) : stp g n mc ms Q K L (.if_icmp .lt off, len, t, v, w, a, b, c, mc2, ms2, sw) cs sl pc ls st h = (pI st fun y s0 => pI s0 fun x s => (x < y → K cs sl t ls s h) ∧ (¬ x < y → K cs sl (pc + 3) ls s h)) := Eq.trans rfl rfl
theorem sq_if_icmp_ge (off : Int) : stp g n mc ms Q K L (.if_icmp .ge off, len, t, v, w, a, b, c, mc2, ms2, sw) cs sl pc ls st h = (pI st fun y s0 => pI s0 fun x s => (y ≤ x → K cs sl t ls s h) ∧ (¬ y ≤ x → K cs sl (pc + 3) ls s h)) := Eq.trans rfl rfl
theorem sq_if_icmp_gt (off : Int) : stp g n mc ms Q K L (.if_icmp .gt off, len, t, v, w, a, b, c, mc2, ms2, sw) cs sl pc ls st h = (pI st fun y s0 => pI s0 fun x s => (y < x → K cs sl t ls s h) ∧ (¬ y < x → K cs sl (pc + 3) ls s h)) := Eq.trans rfl rfl
theorem sq_if_icmp_le (off : Int) : stp g n mc ms Q K L (.if_icmp .le off, len, t, v, w, a, b, c, mc2, ms2, sw) cs sl pc ls st h = (pI st fun y s0 => pI s0 fun x s => (x ≤ y → K cs sl t ls s h) ∧ (¬ x ≤ y → K cs sl (pc + 3) ls s h)) := Eq.trans rfl rfl
theorem sq_ifnull (off : Int) : stp g n mc ms Q K L (.ifnull off, len, t, v, w, a, b, c, mc2, ms2, sw) cs sl pc ls st h = (pN st fun y s => nl_ y (K cs sl t ls s h) (K cs sl (pc + 3) ls s h)) := Eq.trans rfl rfl
theorem sq_ifnonnull (off : Int) : stp g n mc ms Q K L (.ifnonnull off, len, t, v, w, a, b, c, mc2, ms2, sw) cs sl pc ls st h = (pN st fun y s => nl_ y (K cs sl (pc + 3) ls s h) (K cs sl t ls s h)) := Eq.trans rfl rfl
theorem sq_tableswitch (d lo hi : Int) (offs : Array Int) : stp g n mc ms Q K L (.tableswitch d lo hi offs, len, t, v, w, a, b, c, mc2, ms2, sw) cs sl pc ls st h = (pI st fun x s => swc x sw (fun t => K cs sl t ls s h) (K cs sl t ls s h)) := Eq.trans rfl rfl
theorem sq_lookupswitch (d : Int) (ps : Array (Int × Int)) : stp g n mc ms Q K L (.lookupswitch d ps, len, t, v, w, a, b, c, mc2, ms2, sw) cs sl pc ls st h = (pI st fun x s => swc x sw (fun t => K cs sl t ls s h) (K cs sl t ls s h)) := Eq.trans rfl rfl
theorem sq_getfield (x : Nat) : stp g n mc ms Q K L (.getfield x, len, t, v, w, a, b, c, mc2, ms2, sw) cs sl pc ls st h = (pA st fun o s => hK h o = a + 1 ∧ gtf t h o b (fun y => K cs sl (pc + 3) ls (y :: s) h)) := Eq.trans rfl rfl
theorem sq_putfield (x : Nat) : stp g n mc ms Q K L (.putfield x, len, t, v, w, a, b, c, mc2, ms2, sw) cs sl pc ls st h = (pV st fun y s0 => pA s0 fun o s => hK h o = a + 1 ∧ ptf t a b y ∧ K cs sl (pc + 3) ls s (setV t h o b y)) := Eq.trans rfl rfl
theorem sq_iaload  : stp g n mc ms Q K L (.iaload, len, t, v, w, a, b, c, mc2, ms2, sw) cs sl pc ls st h = (pI st fun i s0 => pA s0 fun o s => hK h o = 20 ∧ vp_in i (hN h o) ∧ K cs sl (pc + 1) ls (.int (hI h o i.toNatClampNeg) :: s) h) := Eq.trans rfl rfl
theorem sq_baload  : stp g n mc ms Q K L (.baload, len, t, v, w, a, b, c, mc2, ms2, sw) cs sl pc ls st h = (pI st fun i s0 => pA s0 fun o s => (hK h o = 21 ∨ hK h o = 22) ∧ vp_in i (hN h o) ∧ K cs sl (pc + 1) ls (.int (hI h o i.toNatClampNeg) :: s) h) := Eq.trans rfl rfl
theorem sq_laload  : stp g n mc ms Q K L (.laload, len, t, v, w, a, b, c, mc2, ms2, sw) cs sl pc ls st h = (pI st fun i s0 => pA s0 fun o s => hK h o = 23 ∧ vp_in i (hN h o) ∧ K cs sl (pc + 1) ls (.long (hJ h o i.toNatClampNeg) :: s) h) := Eq.trans rfl rfl
theorem sq_aaload  : stp g n mc ms Q K L (.aaload, len, t, v, w, a, b, c, mc2, ms2, sw) cs sl pc ls st h = (pI st fun i s0 => pA s0 fun o s => (hK h o = 24 ∨ hK h o = 25) ∧ vp_in i (hN h o) ∧ rfc (hR h o i.toNatClampNeg) (fun y => K cs sl (pc + 1) ls (y :: s) h)) := Eq.trans rfl rfl
theorem sq_arraylength  : stp g n mc ms Q K L (.arraylength, len, t, v, w, a, b, c, mc2, ms2, sw) cs sl pc ls st h = (pA st fun o s => (20 ≤ hK h o ∧ hK h o < 26) ∧ K cs sl (pc + 1) ls (.int (Int32.ofNat (hN h o)) :: s) h) := Eq.trans rfl rfl
theorem sq_iastore  : stp g n mc ms Q K L (.iastore, len, t, v, w, a, b, c, mc2, ms2, sw) cs sl pc ls st h = (pI st fun x s0 => pI s0 fun i s1 => pA s1 fun o s => hK h o = 20 ∧ vp_in i (hN h o) ∧ K cs sl (pc + 1) ls s (setI h o i.toNatClampNeg x)) := Eq.trans rfl rfl
theorem sq_bastore  : stp g n mc ms Q K L (.bastore, len, t, v, w, a, b, c, mc2, ms2, sw) cs sl pc ls st h = (pI st fun x s0 => pI s0 fun i s1 => pA s1 fun o s => ((a = 1 ∧ hK h o = 21) ∨ (a = 2 ∧ hK h o = 22)) ∧ vp_in i (hN h o) ∧ K cs sl (pc + 1) ls s (setI h o i.toNatClampNeg (nb_ a x))) := Eq.trans rfl rfl
theorem sq_lastore  : stp g n mc ms Q K L (.lastore, len, t, v, w, a, b, c, mc2, ms2, sw) cs sl pc ls st h = (pJ st fun x s0 => pI s0 fun i s1 => pA s1 fun o s => hK h o = 23 ∧ vp_in i (hN h o) ∧ K cs sl (pc + 1) ls s (setJ h o i.toNatClampNeg x)) := Eq.trans rfl rfl
theorem sq_aastore  : stp g n mc ms Q K L (.aastore, len, t, v, w, a, b, c, mc2, ms2, sw) cs sl pc ls st h = (pA st fun y s0 => pI s0 fun i s1 => pA s1 fun o s => ((hK h o = 24 ∧ hK h y = 8) ∨ (hK h o = 25 ∧ hK h y = 3)) ∧ vp_in i (hN h o) ∧ K cs sl (pc + 1) ls s (setR h o i.toNatClampNeg (some y))) := Eq.trans rfl rfl
theorem sq_new (x : Nat) : stp g n mc ms Q K L (.new x, len, t, v, w, a, b, c, mc2, ms2, sw) cs sl pc ls st h = (cs + 1 ≤ mc ∧ sl + b ≤ ms ∧ K (cs + 1) (sl + b) (pc + 3) ls (.ref (hZ h) :: st) (mkC h (a + 1) 0)) := Eq.trans rfl rfl
theorem sq_newarray (x : ArrayType) : stp g n mc ms Q K L (.newarray x, len, t, v, w, a, b, c, mc2, ms2, sw) cs sl pc ls st h = (pI st fun y s => (¬ y < 0) ∧ y.toNatClampNeg ≤ 67108864 ∧ cs + 1 ≤ mc ∧ sl + y.toNatClampNeg ≤ ms ∧ K (cs + 1) (sl + y.toNatClampNeg) (pc + 2) ls (.ref (hZ h) :: s) (mkC h (20 + a) y.toNatClampNeg)) := Eq.trans rfl rfl
theorem sq_anewarray (x : Nat) : stp g n mc ms Q K L (.anewarray x, len, t, v, w, a, b, c, mc2, ms2, sw) cs sl pc ls st h = (pI st fun y s => (¬ y < 0) ∧ y.toNatClampNeg ≤ 67108864 ∧ cs + 1 ≤ mc ∧ sl + y.toNatClampNeg ≤ ms ∧ K (cs + 1) (sl + y.toNatClampNeg) (pc + 3) ls (.ref (hZ h) :: s) (mkC h (20 + a) y.toNatClampNeg)) := Eq.trans rfl rfl
theorem sq_invokestatic (x : Nat) : stp g n mc ms Q K L (.invokestatic x, len, t, v, w, a, b, c, mc2, ms2, sw) cs sl pc ls st h = (scl a st (0 < n ∧ ((st.drop t).map fun v => v.category).sum ≤ 8 ∧ cs + mc2 ≤ mc ∧ sl + ms2 ≤ ms ∧ t ≤ st.length ∧ Call g (n - 1) mc2 ms2 (mtab b) (st.take t).reverse h (fun rv h2 => L (cs + mc2) (sl + ms2) (pc + 3) ls (rv.toList ++ st.drop t) h2)) (fun y s => (s.map fun v => v.category).sum ≤ 8 ∧ cs ≤ mc ∧ sl ≤ ms ∧ K cs sl (pc + 3) ls (y :: s) h)) := Eq.trans rfl rfl
theorem sq_invokevirtual (x : Nat) : stp g n mc ms Q K L (.invokevirtual x, len, t, v, w, a, b, c, mc2, ms2, sw) cs sl pc ls st h = (0 < n ∧ pA (st.drop t) fun o s => hK h o = c ∧ (s.map fun v => v.category).sum ≤ 8 ∧ cs + mc2 ≤ mc ∧ sl + ms2 ≤ ms ∧ t ≤ st.length ∧ Call g (n - 1) mc2 ms2 (mtab b) (.ref o :: (st.take t).reverse) h (fun rv h2 => L (cs + mc2) (sl + ms2) (pc + 3) ls (rv.toList ++ s) h2)) := Eq.trans rfl rfl
theorem sq_invokespecial (x : Nat) : stp g n mc ms Q K L (.invokespecial x, len, t, v, w, a, b, c, mc2, ms2, sw) cs sl pc ls st h = (icl a st ((st.map fun v => v.category).sum ≤ 8 ∧ pA st fun _ s => K cs sl (pc + 3) ls s h) (0 < n ∧ pA (st.drop t) fun o s => (s.map fun v => v.category).sum ≤ 8 ∧ cs + mc2 ≤ mc ∧ sl + ms2 ≤ ms ∧ t ≤ st.length ∧ Call g (n - 1) mc2 ms2 (mtab b) (.ref o :: (st.take t).reverse) h (fun rv h2 => L (cs + mc2) (sl + ms2) (pc + 3) ls (rv.toList ++ s) h2))) := Eq.trans rfl rfl
theorem sq_ireturn  : stp g n mc ms Q K L (.ireturn, len, t, v, w, a, b, c, mc2, ms2, sw) cs sl pc ls st h = (pE st fun y => cs ≤ mc ∧ sl ≤ ms ∧ rti a y (fun x => Q (some (.int x)) h)) := Eq.trans rfl rfl
theorem sq_lreturn  : stp g n mc ms Q K L (.lreturn, len, t, v, w, a, b, c, mc2, ms2, sw) cs sl pc ls st h = (pE st fun y => cs ≤ mc ∧ sl ≤ ms ∧ pJ [y] fun x _ => Q (some (.long x)) h) := Eq.trans rfl rfl
theorem sq_areturn  : stp g n mc ms Q K L (.areturn, len, t, v, w, a, b, c, mc2, ms2, sw) cs sl pc ls st h = (pE st fun y => cs ≤ mc ∧ sl ≤ ms ∧ pN [y] fun z _ => Q (some z) h) := Eq.trans rfl rfl
theorem sq_return_  : stp g n mc ms Q K L (.return_, len, t, v, w, a, b, c, mc2, ms2, sw) cs sl pc ls st h = (p0 st (cs ≤ mc ∧ sl ≤ ms ∧ Q none h)) := Eq.trans rfl rfl
theorem pI_c {x : Int32} {r : List Value} {k : Int32 → List Value → Prop} : pI (.int x :: r) k = k x r := Eq.trans rfl rfl
theorem pJ_c {x : Int64} {r : List Value} {k : Int64 → List Value → Prop} : pJ (.long x :: r) k = k x r := Eq.trans rfl rfl
theorem pA_c {x : Nat} {r : List Value} {k : Nat → List Value → Prop} : pA (.ref x :: r) k = k x r := Eq.trans rfl rfl
theorem pN_c {x : Nat} {r : List Value} {k : Value → List Value → Prop} : pN (.ref x :: r) k = k (.ref x) r := Eq.trans rfl rfl
theorem pN_n {r : List Value} {k : Value → List Value → Prop} : pN (.null :: r) k = k .null r := Eq.trans rfl rfl
theorem pV_c {x : Value} {r : List Value} {k : Value → List Value → Prop} : pV (x :: r) k = k x r := Eq.trans rfl rfl
theorem p1_i {x : Int32} {r : List Value} {k : Value → List Value → Prop} : p1 (.int x :: r) k = k (.int x) r := Eq.trans rfl rfl
theorem p1_r {x : Nat} {r : List Value} {k : Value → List Value → Prop} : p1 (.ref x :: r) k = k (.ref x) r := Eq.trans rfl rfl
theorem p1_n {r : List Value} {k : Value → List Value → Prop} : p1 (.null :: r) k = k .null r := Eq.trans rfl rfl
theorem pE_c {x : Value} {k : Value → Prop} : pE [x] k = k x := Eq.trans rfl rfl
theorem p0_c {k : Prop} : p0 [] k = k := Eq.trans rfl rfl
theorem nl_n {kn kr : Prop} : nl_ .null kn kr = kn := Eq.trans rfl rfl
theorem nl_r {x : Nat} {kn kr : Prop} : nl_ (.ref x) kn kr = kr := Eq.trans rfl rfl
theorem lI_0 {x : Int32} {r : List (Option Value)} {k : Int32 → Prop} : lI (some (.int x) :: r) 0 k = k x := Eq.trans rfl rfl
theorem lI_s {y : Option Value} {r : List (Option Value)} {t : Nat} {k : Int32 → Prop} : lI (y :: r) (t + 1) k = lI r t k := Eq.trans rfl rfl
theorem lJ_0 {x : Int64} {r : List (Option Value)} {k : Int64 → Prop} : lJ (some (.long x) :: r) 0 k = k x := Eq.trans rfl rfl
theorem lJ_s {y : Option Value} {r : List (Option Value)} {t : Nat} {k : Int64 → Prop} : lJ (y :: r) (t + 1) k = lJ r t k := Eq.trans rfl rfl
theorem lA_0 {x : Nat} {r : List (Option Value)} {k : Value → Prop} : lA (some (.ref x) :: r) 0 k = k (.ref x) := Eq.trans rfl rfl
theorem lA_n {r : List (Option Value)} {k : Value → Prop} : lA (some .null :: r) 0 k = k .null := Eq.trans rfl rfl
theorem lA_s {y : Option Value} {r : List (Option Value)} {t : Nat} {k : Value → Prop} : lA (y :: r) (t + 1) k = lA r t k := Eq.trans rfl rfl
theorem gtf_0 {o : Nat} {k : Value → Prop} : gtf 0 h o b k = k (.int (hI h o b)) := Eq.trans rfl rfl
theorem gtf_1 {o : Nat} {k : Value → Prop} : gtf 1 h o b k = k (.long (hJ h o b)) := Eq.trans rfl rfl
theorem gtf_2 {o : Nat} {k : Value → Prop} : gtf 2 h o b k = (hR h o b ≠ none ∧ k (.ref (hr h o b))) := Eq.trans rfl rfl
theorem rfc_s {x : Nat} {k : Value → Prop} : rfc (some x) k = k (.ref x) := by simp [rfc]
theorem rfc_n {k : Value → Prop} : rfc none k = k .null := by simp [rfc]
theorem setV_0 {o : Nat} {x : Int32} : setV 0 h o b (.int x) = setI h o b x := Eq.trans rfl rfl
theorem setV_1 {o : Nat} {x : Int64} : setV 1 h o b (.long x) = setJ h o b x := Eq.trans rfl rfl
theorem setV_2 {o x : Nat} : setV 2 h o b (.ref x) = setR h o b (some x) := Eq.trans rfl rfl
theorem ptf_1 {x : Int64} : ptf 1 a b (.long x) = True := Eq.trans rfl rfl
theorem ptf_2 {x : Nat} : ptf 2 a b (.ref x) = True := Eq.trans rfl rfl
theorem ptf_0 {x : Int32} (hf : ftX a b = .int) : ptf 0 a b (.int x) = True := by unfold ptf; rw [hf]; rfl
theorem ptf_z {x : Int32} (hf : ftX a b = .boolean) : ptf 0 a b (.int x) = (x = 0 ∨ x = 1) := by unfold ptf; rw [hf]; rfl
theorem nb_1 {x : Int32} : nb_ 1 x = vp_nar .byte x := Eq.trans rfl rfl
theorem nb_2 {x : Int32} : nb_ 2 x = vp_nar .boolean x := Eq.trans rfl rfl
theorem swc_n {x : Int32} {k : Nat → Prop} {d : Prop} : swc x [] k d = d := Eq.trans rfl rfl
theorem swc_c {x : Int32} {q : Int32 × Nat} {r : List (Int32 × Nat)} {k : Nat → Prop} {d : Prop} : swc x (q :: r) k d = ((x = q.1 → k q.2) ∧ (¬ x = q.1 → swc x r k d)) := Eq.trans rfl rfl
theorem rti_0 {x : Int32} {k : Int32 → Prop} : rti 0 (.int x) k = (True ∧ k x) := Eq.trans rfl rfl
theorem rti_1 {x : Int32} {k : Int32 → Prop} : rti 1 (.int x) k = ((x = 0 ∨ x = 1) ∧ k x) := Eq.trans rfl rfl
theorem rti_2 {x : Int32} {k : Int32 → Prop} : rti 2 (.int x) k = (narrow .byte (.int x) = .int x ∧ k x) := Eq.trans rfl rfl
theorem rti_3 {x : Int32} {k : Int32 → Prop} : rti 3 (.int x) k = (narrow .char (.int x) = .int x ∧ k x) := Eq.trans rfl rfl
theorem scl_0 {kc : Prop} {km : Value → List Value → Prop} : scl 0 st kc km = kc := Eq.trans rfl rfl
theorem scl_7 {kc : Prop} {km : Value → List Value → Prop} : scl 7 st kc km = (pI st fun y s => pI s fun x s => km (.int (if x < y then y else x)) s) := Eq.trans rfl rfl
theorem scl_8 {kc : Prop} {km : Value → List Value → Prop} : scl 8 st kc km = (pI st fun y s => pI s fun x s => km (.int (if y < x then y else x)) s) := Eq.trans rfl rfl
theorem scl_9 {kc : Prop} {km : Value → List Value → Prop} : scl 9 st kc km = (pI st fun x s => km (.int (if 0 ≤ x then x else 0 - x)) s) := Eq.trans rfl rfl
theorem icl_0 {ko kc : Prop} : icl 0 st ko kc = kc := Eq.trans rfl rfl
theorem icl_6 {ko kc : Prop} : icl 6 st ko kc = ko := Eq.trans rfl rfl
theorem ldv_0 {q : Nat} : ldv 0 v q = .int v := Eq.trans rfl rfl
theorem ldv_1 {q : Nat} : ldv 1 v q = .ref q := Eq.trans rfl rfl
/-- the locals: set -/
def ls1 (ls : List (Option Value)) (i : Nat) (x : Value) : List (Option Value) := lc_set1 ls i x
theorem ls1_0 {y : Option Value} {r : List (Option Value)} {x : Value} : lc_set1 (y :: r) 0 x = some x :: r := Eq.trans rfl rfl
theorem ls1_ni {i : Int32} {y : Option Value} {r : List (Option Value)} {x : Value} : lc_set1 (some (.int i) :: y :: r) 1 x = some (.int i) :: some x :: r := Eq.trans rfl rfl
theorem ls1_nr {i : Nat} {y : Option Value} {r : List (Option Value)} {x : Value} : lc_set1 (some (.ref i) :: y :: r) 1 x = some (.ref i) :: some x :: r := Eq.trans rfl rfl
theorem ls1_nn {y : Option Value} {r : List (Option Value)} {x : Value} : lc_set1 (none :: y :: r) 1 x = none :: some x :: r := Eq.trans rfl rfl
theorem ls1_nu {y : Option Value} {r : List (Option Value)} {x : Value} : lc_set1 (some .null :: y :: r) 1 x = some .null :: some x :: r := Eq.trans rfl rfl
theorem ls1_nl {i : Int64} {y : Option Value} {r : List (Option Value)} {x : Value} : lc_set1 (some (.long i) :: y :: r) 1 x = none :: some x :: r := Eq.trans rfl rfl
theorem ls1_s {z : Option Value} {r : List (Option Value)} {i : Nat} {x : Value} : lc_set1 (z :: r) (i + 2) x = z :: lc_set1 r (i + 1) x := by
  unfold lc_set1 lc_kill
  simp only [List.getElem?_cons_succ]
  split <;> rfl
theorem ls2_0 {y z : Option Value} {r : List (Option Value)} {x : Value} : lc_set2 (y :: z :: r) 0 x = some x :: none :: r := Eq.trans rfl rfl
theorem ls2_ni {i : Int32} {y z : Option Value} {r : List (Option Value)} {x : Value} : lc_set2 (some (.int i) :: y :: z :: r) 1 x = some (.int i) :: some x :: none :: r := Eq.trans rfl rfl
theorem ls2_nr {i : Nat} {y z : Option Value} {r : List (Option Value)} {x : Value} : lc_set2 (some (.ref i) :: y :: z :: r) 1 x = some (.ref i) :: some x :: none :: r := Eq.trans rfl rfl
theorem ls2_nn {y z : Option Value} {r : List (Option Value)} {x : Value} : lc_set2 (none :: y :: z :: r) 1 x = none :: some x :: none :: r := Eq.trans rfl rfl
theorem ls2_s {z : Option Value} {r : List (Option Value)} {i : Nat} {x : Value} : lc_set2 (z :: r) (i + 2) x = z :: lc_set2 r (i + 1) x := by
  unfold lc_set2 lc_kill
  simp only [List.getElem?_cons_succ]
  split <;> rfl
def oel (x : Option rw_) (k : rw_ → Prop) : Prop := match x with
  | some r => k r
  | none => False
theorem oel_s {r : rw_} {k : rw_ → Prop} : oel (some r) k = k r := Eq.trans rfl rfl
def cnd (x : Bool) (p q : Prop) : Prop := match x with
  | true => p
  | false => q
theorem cnd_t {p q : Prop} : cnd true p q = p := Eq.trans rfl rfl
theorem cnd_f {p q : Prop} : cnd false p q = q := Eq.trans rfl rfl
def lf (g : gx) (n mc ms : Nat) (M : md_) (h0 : hp) (Q : Option Value → hp → Prop) : Nat → Nat → Nat → List (Option Value) → List Value → hp → Prop := fun cs sl pc ls st h => Wp g n mc ms M h0 Q cs sl pc ls st h
def nx (g : gx) (n mc ms : Nat) (M : md_) (h0 : hp) (Q : Option Value → hp → Prop) (tb : Nat → Option rw_) (cut : Nat → Bool) (f : Nat) : Nat → Nat → Nat → List (Option Value) → List Value → hp → Prop := fun cs sl pc ls st h => cnd (cut pc) (Wp g n mc ms M h0 Q cs sl pc ls st h) (wpc g n mc ms M h0 Q tb cut f cs sl pc ls st h)
theorem nx_e {tb : Nat → Option rw_} {cut : Nat → Bool} {f : Nat} : nx g n mc ms M h0 Q tb cut f cs sl pc ls st h = cnd (cut pc) (Wp g n mc ms M h0 Q cs sl pc ls st h) (wpc g n mc ms M h0 Q tb cut f cs sl pc ls st h) := Eq.trans rfl rfl
theorem nx_t {tb : Nat → Option rw_} {cut : Nat → Bool} {f : Nat} (e : cut pc = true) : nx g n mc ms M h0 Q tb cut f cs sl pc ls st h = Wp g n mc ms M h0 Q cs sl pc ls st h := by rw [nx_e, e, cnd_t]
theorem nx_f {tb : Nat → Option rw_} {cut : Nat → Bool} {f : Nat} (e : cut pc = false) : nx g n mc ms M h0 Q tb cut f cs sl pc ls st h = wpc g n mc ms M h0 Q tb cut f cs sl pc ls st h := by rw [nx_e, e, cnd_f]
theorem lf_e : lf g n mc ms M h0 Q cs sl pc ls st h = Wp g n mc ms M h0 Q cs sl pc ls st h := Eq.trans rfl rfl
theorem wq {tb : Nat → Option rw_} {cut : Nat → Bool} {f : Nat} : wpc g n mc ms M h0 Q tb cut (f + 1) cs sl pc ls st h = oel (tb pc) (fun r => stp g n mc ms Q (nx g n mc ms M h0 Q tb cut f) (lf g n mc ms M h0 Q) r cs sl pc ls st h) := by
  rw [wpc]
  unfold oel nx lf cnd
  rfl
end LZ
theorem ft_0_3 {x : Int32} : ptf 0 0 3 (.int x) = True := ptf_0 rfl
theorem ft_0_4 {x : Int32} : ptf 0 0 4 (.int x) = True := ptf_0 rfl
theorem ft_0_5 {x : Int32} : ptf 0 0 5 (.int x) = True := ptf_0 rfl
theorem ft_3_3 {x : Int32} : ptf 0 3 3 (.int x) = True := ptf_0 rfl
theorem ft_3_4 {x : Int32} : ptf 0 3 4 (.int x) = True := ptf_0 rfl
theorem ft_3_5 {x : Int32} : ptf 0 3 5 (.int x) = True := ptf_0 rfl
theorem ft_3_6 {x : Int32} : ptf 0 3 6 (.int x) = True := ptf_0 rfl
theorem ft_3_11 {x : Int32} : ptf 0 3 11 (.int x) = True := ptf_0 rfl
theorem ft_3_13 {x : Int32} : ptf 0 3 13 (.int x) = True := ptf_0 rfl
theorem ft_5_2 {x : Int32} : ptf 0 5 2 (.int x) = True := ptf_0 rfl
theorem ft_5_3 {x : Int32} : ptf 0 5 3 (.int x) = True := ptf_0 rfl
theorem ft_6_0 {x : Int32} : ptf 0 6 0 (.int x) = True := ptf_0 rfl
theorem ft_6_1 {x : Int32} : ptf 0 6 1 (.int x) = True := ptf_0 rfl
theorem ft_6_3 {x : Int32} : ptf 0 6 3 (.int x) = True := ptf_0 rfl
theorem ft_7_7 {x : Int32} : ptf 0 7 7 (.int x) = True := ptf_0 rfl
theorem ft_8_3 {x : Int32} : ptf 0 8 3 (.int x) = True := ptf_0 rfl
theorem ft_8_5 {x : Int32} : ptf 0 8 5 (.int x) = True := ptf_0 rfl
theorem ft_9_0 {x : Int32} : ptf 0 9 0 (.int x) = True := ptf_0 rfl
theorem ft_9_1 {x : Int32} : ptf 0 9 1 (.int x) = True := ptf_0 rfl
theorem ft_9_2 {x : Int32} : ptf 0 9 2 (.int x) = True := ptf_0 rfl
theorem ft_9_3 {x : Int32} : ptf 0 9 3 (.int x) = True := ptf_0 rfl
theorem ft_9_4 {x : Int32} : ptf 0 9 4 (.int x) = True := ptf_0 rfl
theorem ft_9_5 {x : Int32} : ptf 0 9 5 (.int x) = True := ptf_0 rfl
theorem ft_9_6 {x : Int32} : ptf 0 9 6 (.int x) = True := ptf_0 rfl
theorem ft_9_7 {x : Int32} : ptf 0 9 7 (.int x) = True := ptf_0 rfl
theorem ft_9_29 {x : Int32} : ptf 0 9 29 (.int x) = True := ptf_0 rfl
theorem ft_9_30 {x : Int32} : ptf 0 9 30 (.int x) = True := ptf_0 rfl
theorem ft_9_31 {x : Int32} : ptf 0 9 31 (.int x) = True := ptf_0 rfl
theorem ft_9_32 {x : Int32} : ptf 0 9 32 (.int x) = True := ptf_0 rfl
theorem ft_9_33 {x : Int32} : ptf 0 9 33 (.int x) = True := ptf_0 rfl
theorem ft_9_34 {x : Int32} : ptf 0 9 34 (.int x) = True := ptf_0 rfl
theorem ft_9_35 {x : Int32} : ptf 0 9 35 (.int x) = True := ptf_0 rfl
theorem ft_9_36 {x : Int32} : ptf 0 9 36 (.int x) = True := ptf_0 rfl
theorem ft_9_55 {x : Int32} : ptf 0 9 55 (.int x) = True := ptf_0 rfl
theorem ft_9_63 {x : Int32} : ptf 0 9 63 (.int x) = True := ptf_0 rfl
theorem ft_9_69 {x : Int32} : ptf 0 9 69 (.int x) = True := ptf_0 rfl
theorem ft_9_70 {x : Int32} : ptf 0 9 70 (.int x) = (x = 0 ∨ x = 1) := ptf_z rfl
