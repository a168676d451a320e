/-! 98zh: the law's switch and its loop -/
theorem nz_01 (x : Int32) : nz_ x = 0 ∨ nz_ x = 1 := by
  unfold nz_
  split
  · exact Or.inl rfl
  · exact Or.inr rfl
section LWL
variable {p : Program} {e : Env} {s : State} {m : MethodId} {below : List Frame} {meth : Method} {c : Code} {g : gx} {h0 : hp} {b L : Nat} {xs : Nat → Int32} {cs sl pc : Nat} {ls : List (Option Value)} {st : List Value} {h : hp}
set_option maxRecDepth 100000 in
theorem cck_0 : cck [(1, false), (2, false), (3, false), (4, false)] 192 13 17 = true := by decide +kernel
set_option maxRecDepth 100000 in
theorem cs_0 {Z X i : Nat} (B : LwE p s m meth c g h0 b L xs) (hi : i + 6 < L) (hL : L ≤ 3584) (hcs : cs + 15 ≤ 600000) (hsl : sl + 5708 ≤ 7302250) (I : IV g Z h X) (kk : ∀ h2, IV g Z h2 X → Wl p e s m below meth c g h0 b (cs + 15) (sl + 5708) 1746 [some (.ref b), some (.ref X), some (.ref (X + 48)), some (.int (nI i))] [] h2) : Wl p e s m below meth c g h0 b cs sl 192 [some (.ref b), some (.ref X), some (.ref (X + 48)), some (.int (nI i))] [] h :=
  wl_case (ds := [(1, false), (2, false), (3, false), (4, false)]) (mc' := 0) (ms' := 0) (M8 := m_X8_body) (M9 := m_X9_body) B hi hL cck_0 (lg_in (i := 287) rfl rfl) cw_X8_body im_X8_body se_X8_body ar_X8_body rfl (lg_in (i := 1097) rfl rfl) cw_X9_body im_X9_body se_X9_body ar_X9_body rfl (by omega) (by omega) I (st_body I (xs (i + 1)) (xs (i + 2)) (xs (i + 3)) (xs (i + 4))) (fun h2 I2 => Wl.widen (by omega) (by omega) (kk h2 I2))
set_option maxRecDepth 100000 in
theorem cck_1 : cck [(1, false), (2, false), (3, false), (4, false), (5, false)] 245 18 22 = true := by decide +kernel
set_option maxRecDepth 100000 in
theorem cs_1 {Z X i : Nat} (B : LwE p s m meth c g h0 b L xs) (hi : i + 6 < L) (hL : L ≤ 3584) (hcs : cs + 15 ≤ 600000) (hsl : sl + 5708 ≤ 7302250) (I : IV g Z h X) (kk : ∀ h2, IV g Z h2 X → Wl p e s m below meth c g h0 b (cs + 15) (sl + 5708) 1746 [some (.ref b), some (.ref X), some (.ref (X + 48)), some (.int (nI i))] [] h2) : Wl p e s m below meth c g h0 b cs sl 245 [some (.ref b), some (.ref X), some (.ref (X + 48)), some (.int (nI i))] [] h :=
  wl_case (ds := [(1, false), (2, false), (3, false), (4, false), (5, false)]) (mc' := 0) (ms' := 0) (M8 := m_X8_person) (M9 := m_X9_person) B hi hL cck_1 (lg_in (i := 309) rfl rfl) cw_X8_person im_X8_person se_X8_person ar_X8_person rfl (lg_in (i := 1110) rfl rfl) cw_X9_person im_X9_person se_X9_person ar_X9_person rfl (by omega) (by omega) I (st_person I (xs (i + 1)) (xs (i + 2)) (xs (i + 3)) (xs (i + 4)) (xs (i + 5))) (fun h2 I2 => Wl.widen (by omega) (by omega) (kk h2 I2))
set_option maxRecDepth 100000 in
theorem cck_2 : cck [(1, false), (2, false), (3, false), (4, false)] 308 23 26 = true := by decide +kernel
set_option maxRecDepth 100000 in
theorem cs_2 {Z X i : Nat} (B : LwE p s m meth c g h0 b L xs) (hi : i + 6 < L) (hL : L ≤ 3584) (hcs : cs + 15 ≤ 600000) (hsl : sl + 5708 ≤ 7302250) (I : IV g Z h X) (kk : ∀ h2, IV g Z h2 X → Wl p e s m below meth c g h0 b (cs + 15) (sl + 5708) 1746 [some (.ref b), some (.ref X), some (.ref (X + 48)), some (.int (nI i))] [] h2) : Wl p e s m below meth c g h0 b cs sl 308 [some (.ref b), some (.ref X), some (.ref (X + 48)), some (.int (nI i))] [] h :=
  wl_case (ds := [(1, false), (2, false), (3, false), (4, false)]) (mc' := 0) (ms' := 0) (M8 := m_X8_step) (M9 := m_X9_step) B hi hL cck_2 (lg_in (i := 313) rfl rfl) cw_X8_step im_X8_step se_X8_step ar_X8_step rfl (lg_in (i := 1116) rfl rfl) cw_X9_step im_X9_step se_X9_step ar_X9_step rfl (by omega) (by omega) I (st_step I (xs (i + 1)) (xs (i + 2)) (xs (i + 3)) (xs (i + 4))) (fun h2 I2 => Wl.widen (by omega) (by omega) (kk h2 I2))
set_option maxRecDepth 100000 in
theorem cck_3 : cck [(1, false), (2, false), (3, false)] 361 27 31 = true := by decide +kernel
set_option maxRecDepth 100000 in
theorem cs_3 {Z X i : Nat} (B : LwE p s m meth c g h0 b L xs) (hi : i + 6 < L) (hL : L ≤ 3584) (hcs : cs + 15 ≤ 600000) (hsl : sl + 5708 ≤ 7302250) (I : IV g Z h X) (kk : ∀ h2, IV g Z h2 X → Wl p e s m below meth c g h0 b (cs + 15) (sl + 5708) 1746 [some (.ref b), some (.ref X), some (.ref (X + 48)), some (.int (nI i))] [] h2) : Wl p e s m below meth c g h0 b cs sl 361 [some (.ref b), some (.ref X), some (.ref (X + 48)), some (.int (nI i))] [] h :=
  wl_case (ds := [(1, false), (2, false), (3, false)]) (mc' := 0) (ms' := 0) (M8 := m_X8_near) (M9 := m_X9_near) B hi hL cck_3 (lg_in (i := 320) rfl rfl) cw_X8_near im_X8_near se_X8_near ar_X8_near rfl (lg_in (i := 1128) rfl rfl) cw_X9_near im_X9_near se_X9_near ar_X9_near rfl (by omega) (by omega) I (st_near I (xs (i + 1)) (xs (i + 2)) (xs (i + 3))) (fun h2 I2 => Wl.widen (by omega) (by omega) (kk h2 I2))
set_option maxRecDepth 100000 in
theorem cck_4 : cck [(1, false), (2, false), (3, false), (4, false)] 404 32 35 = true := by decide +kernel
set_option maxRecDepth 100000 in
theorem cs_4 {Z X i : Nat} (B : LwE p s m meth c g h0 b L xs) (hi : i + 6 < L) (hL : L ≤ 3584) (hcs : cs + 15 ≤ 600000) (hsl : sl + 5708 ≤ 7302250) (I : IV g Z h X) (kk : ∀ h2, IV g Z h2 X → Wl p e s m below meth c g h0 b (cs + 15) (sl + 5708) 1746 [some (.ref b), some (.ref X), some (.ref (X + 48)), some (.int (nI i))] [] h2) : Wl p e s m below meth c g h0 b cs sl 404 [some (.ref b), some (.ref X), some (.ref (X + 48)), some (.int (nI i))] [] h :=
  wl_case (ds := [(1, false), (2, false), (3, false), (4, false)]) (mc' := 0) (ms' := 0) (M8 := m_X8_paper) (M9 := m_X9_paper) B hi hL cck_4 (lg_in (i := 385) rfl rfl) cw_X8_paper im_X8_paper se_X8_paper ar_X8_paper rfl (lg_in (i := 1151) rfl rfl) cw_X9_paper im_X9_paper se_X9_paper ar_X9_paper rfl (by omega) (by omega) I (st_paper I (xs (i + 1)) (xs (i + 2)) (xs (i + 3)) (xs (i + 4))) (fun h2 I2 => Wl.widen (by omega) (by omega) (kk h2 I2))
set_option maxRecDepth 100000 in
theorem cck_5 : cck [(1, false), (2, false)] 457 36 40 = true := by decide +kernel
set_option maxRecDepth 100000 in
theorem cs_5 {Z X i : Nat} (B : LwE p s m meth c g h0 b L xs) (hi : i + 6 < L) (hL : L ≤ 3584) (hcs : cs + 15 ≤ 600000) (hsl : sl + 5708 ≤ 7302250) (I : IV g Z h X) (kk : ∀ h2, IV g Z h2 X → Wl p e s m below meth c g h0 b (cs + 15) (sl + 5708) 1746 [some (.ref b), some (.ref X), some (.ref (X + 48)), some (.int (nI i))] [] h2) : Wl p e s m below meth c g h0 b cs sl 457 [some (.ref b), some (.ref X), some (.ref (X + 48)), some (.int (nI i))] [] h :=
  wl_case (ds := [(1, false), (2, false)]) (mc' := 0) (ms' := 0) (M8 := m_X8_list) (M9 := m_X9_list) B hi hL cck_5 (lg_in (i := 389) rfl rfl) cw_X8_list im_X8_list se_X8_list ar_X8_list rfl (lg_in (i := 1155) rfl rfl) cw_X9_list im_X9_list se_X9_list ar_X9_list rfl (by omega) (by omega) I (st_list I (xs (i + 1)) (xs (i + 2))) (fun h2 I2 => Wl.widen (by omega) (by omega) (kk h2 I2))
set_option maxRecDepth 100000 in
theorem cck_6 : cck [(1, false), (2, false)] 490 41 45 = true := by decide +kernel
set_option maxRecDepth 100000 in
theorem cs_6 {Z X i : Nat} (B : LwE p s m meth c g h0 b L xs) (hi : i + 6 < L) (hL : L ≤ 3584) (hcs : cs + 15 ≤ 600000) (hsl : sl + 5708 ≤ 7302250) (I : IV g Z h X) (kk : ∀ h2, IV g Z h2 X → Wl p e s m below meth c g h0 b (cs + 15) (sl + 5708) 1746 [some (.ref b), some (.ref X), some (.ref (X + 48)), some (.int (nI i))] [] h2) : Wl p e s m below meth c g h0 b cs sl 490 [some (.ref b), some (.ref X), some (.ref (X + 48)), some (.int (nI i))] [] h :=
  wl_case (ds := [(1, false), (2, false)]) (mc' := 0) (ms' := 0) (M8 := m_X8_falls) (M9 := m_X9_falls) B hi hL cck_6 (lg_in (i := 401) rfl rfl) cw_X8_falls im_X8_falls se_X8_falls ar_X8_falls rfl (lg_in (i := 1163) rfl rfl) cw_X9_falls im_X9_falls se_X9_falls ar_X9_falls rfl (by omega) (by omega) I (st_falls I (xs (i + 1)) (xs (i + 2))) (fun h2 I2 => Wl.widen (by omega) (by omega) (kk h2 I2))
set_option maxRecDepth 100000 in
theorem cck_7 : cck [(1, false), (2, false), (3, false), (4, false), (5, false)] 523 46 49 = true := by decide +kernel
set_option maxRecDepth 100000 in
theorem cs_7 {Z X i : Nat} (B : LwE p s m meth c g h0 b L xs) (hi : i + 6 < L) (hL : L ≤ 3584) (hcs : cs + 15 ≤ 600000) (hsl : sl + 5708 ≤ 7302250) (I : IV g Z h X) (kk : ∀ h2, IV g Z h2 X → Wl p e s m below meth c g h0 b (cs + 15) (sl + 5708) 1746 [some (.ref b), some (.ref X), some (.ref (X + 48)), some (.int (nI i))] [] h2) : Wl p e s m below meth c g h0 b cs sl 523 [some (.ref b), some (.ref X), some (.ref (X + 48)), some (.int (nI i))] [] h :=
  wl_case (ds := [(1, false), (2, false), (3, false), (4, false), (5, false)]) (mc' := 0) (ms' := 0) (M8 := m_X8_feed) (M9 := m_X9_feed) B hi hL cck_7 (lg_in (i := 406) rfl rfl) cw_X8_feed im_X8_feed se_X8_feed ar_X8_feed rfl (lg_in (i := 1167) rfl rfl) cw_X9_feed im_X9_feed se_X9_feed ar_X9_feed rfl (by omega) (by omega) I (st_feed I (xs (i + 1)) (xs (i + 2)) (xs (i + 3)) (xs (i + 4)) (xs (i + 5))) (fun h2 I2 => Wl.widen (by omega) (by omega) (kk h2 I2))
set_option maxRecDepth 100000 in
theorem cck_8 : cck [(1, false)] 586 50 54 = true := by decide +kernel
set_option maxRecDepth 100000 in
theorem cs_8 {Z X i : Nat} (B : LwE p s m meth c g h0 b L xs) (hi : i + 6 < L) (hL : L ≤ 3584) (hcs : cs + 15 ≤ 600000) (hsl : sl + 5708 ≤ 7302250) (I : IV g Z h X) (kk : ∀ h2, IV g Z h2 X → Wl p e s m below meth c g h0 b (cs + 15) (sl + 5708) 1746 [some (.ref b), some (.ref X), some (.ref (X + 48)), some (.int (nI i))] [] h2) : Wl p e s m below meth c g h0 b cs sl 586 [some (.ref b), some (.ref X), some (.ref (X + 48)), some (.int (nI i))] [] h :=
  wl_case (ds := [(1, false)]) (mc' := 0) (ms' := 0) (M8 := m_X8_end) (M9 := m_X9_end) B hi hL cck_8 (lg_in (i := 414) rfl rfl) cw_X8_end im_X8_end se_X8_end ar_X8_end rfl (lg_in (i := 1175) rfl rfl) cw_X9_end im_X9_end se_X9_end ar_X9_end rfl (by omega) (by omega) I (st_end I (xs (i + 1))) (fun h2 I2 => Wl.widen (by omega) (by omega) (kk h2 I2))
set_option maxRecDepth 100000 in
theorem cck_9 : cck [] 609 55 59 = true := by decide +kernel
set_option maxRecDepth 100000 in
theorem cs_9 {Z X i : Nat} (B : LwE p s m meth c g h0 b L xs) (hi : i + 6 < L) (hL : L ≤ 3584) (hcs : cs + 15 ≤ 600000) (hsl : sl + 5708 ≤ 7302250) (I : IV g Z h X) (kk : ∀ h2, IV g Z h2 X → Wl p e s m below meth c g h0 b (cs + 15) (sl + 5708) 1746 [some (.ref b), some (.ref X), some (.ref (X + 48)), some (.int (nI i))] [] h2) : Wl p e s m below meth c g h0 b cs sl 609 [some (.ref b), some (.ref X), some (.ref (X + 48)), some (.int (nI i))] [] h :=
  wl_case (ds := []) (mc' := 6) (ms' := 2005) (M8 := m_X8_law) (M9 := m_X9_law) B hi hL cck_9 (lg_in (i := 418) rfl rfl) cw_X8_law im_X8_law se_X8_law ar_X8_law rfl (lg_in (i := 1179) rfl rfl) cw_X9_law im_X9_law se_X9_law ar_X9_law rfl (by omega) (by omega) I (st_law I) (fun h2 I2 => Wl.widen (by omega) (by omega) (kk h2 I2))
set_option maxRecDepth 100000 in
theorem cck_10 : cck [(1, false), (2, false)] 622 60 63 = true := by decide +kernel
set_option maxRecDepth 100000 in
theorem cs_10 {Z X i : Nat} (B : LwE p s m meth c g h0 b L xs) (hi : i + 6 < L) (hL : L ≤ 3584) (hcs : cs + 15 ≤ 600000) (hsl : sl + 5708 ≤ 7302250) (I : IV g Z h X) (kk : ∀ h2, IV g Z h2 X → Wl p e s m below meth c g h0 b (cs + 15) (sl + 5708) 1746 [some (.ref b), some (.ref X), some (.ref (X + 48)), some (.int (nI i))] [] h2) : Wl p e s m below meth c g h0 b cs sl 622 [some (.ref b), some (.ref X), some (.ref (X + 48)), some (.int (nI i))] [] h :=
  wl_case (ds := [(1, false), (2, false)]) (mc' := 0) (ms' := 0) (M8 := m_X8_rules) (M9 := m_X9_rules) B hi hL cck_10 (lg_in (i := 591) rfl rfl) cw_X8_rules im_X8_rules se_X8_rules ar_X8_rules rfl (lg_in (i := 1290) rfl rfl) cw_X9_rules im_X9_rules se_X9_rules ar_X9_rules rfl (by omega) (by omega) I (st_rules I (xs (i + 1)) (xs (i + 2))) (fun h2 I2 => Wl.widen (by omega) (by omega) (kk h2 I2))
set_option maxRecDepth 100000 in
theorem cck_11 : cck [(1, false), (2, false)] 655 64 67 = true := by decide +kernel
set_option maxRecDepth 100000 in
theorem cs_11 {Z X i : Nat} (B : LwE p s m meth c g h0 b L xs) (hi : i + 6 < L) (hL : L ≤ 3584) (hcs : cs + 15 ≤ 600000) (hsl : sl + 5708 ≤ 7302250) (I : IV g Z h X) (kk : ∀ h2, IV g Z h2 X → Wl p e s m below meth c g h0 b (cs + 15) (sl + 5708) 1746 [some (.ref b), some (.ref X), some (.ref (X + 48)), some (.int (nI i))] [] h2) : Wl p e s m below meth c g h0 b cs sl 655 [some (.ref b), some (.ref X), some (.ref (X + 48)), some (.int (nI i))] [] h :=
  wl_case (ds := [(1, false), (2, false)]) (mc' := 0) (ms' := 0) (M8 := m_X8_may) (M9 := m_X9_may) B hi hL cck_11 (lg_in (i := 595) rfl rfl) cw_X8_may im_X8_may se_X8_may ar_X8_may rfl (lg_in (i := 1295) rfl rfl) cw_X9_may im_X9_may se_X9_may ar_X9_may rfl (by omega) (by omega) I (st_may I (xs (i + 1)) (xs (i + 2))) (fun h2 I2 => Wl.widen (by omega) (by omega) (kk h2 I2))
set_option maxRecDepth 100000 in
theorem cck_12 : cck [(1, false), (2, false)] 688 68 71 = true := by decide +kernel
set_option maxRecDepth 100000 in
theorem cs_12 {Z X i : Nat} (B : LwE p s m meth c g h0 b L xs) (hi : i + 6 < L) (hL : L ≤ 3584) (hcs : cs + 15 ≤ 600000) (hsl : sl + 5708 ≤ 7302250) (I : IV g Z h X) (kk : ∀ h2, IV g Z h2 X → Wl p e s m below meth c g h0 b (cs + 15) (sl + 5708) 1746 [some (.ref b), some (.ref X), some (.ref (X + 48)), some (.int (nI i))] [] h2) : Wl p e s m below meth c g h0 b cs sl 688 [some (.ref b), some (.ref X), some (.ref (X + 48)), some (.int (nI i))] [] h :=
  wl_case (ds := [(1, false), (2, false)]) (mc' := 0) (ms' := 0) (M8 := m_X8_commands) (M9 := m_X9_commands) B hi hL cck_12 (lg_in (i := 661) rfl rfl) cw_X8_commands im_X8_commands se_X8_commands ar_X8_commands rfl (lg_in (i := 1337) rfl rfl) cw_X9_commands im_X9_commands se_X9_commands ar_X9_commands rfl (by omega) (by omega) I (st_commands I (xs (i + 1)) (xs (i + 2))) (fun h2 I2 => Wl.widen (by omega) (by omega) (kk h2 I2))
set_option maxRecDepth 100000 in
theorem cck_13 : cck [(1, false), (2, false), (3, false), (4, false), (5, false)] 721 72 75 = true := by decide +kernel
set_option maxRecDepth 100000 in
theorem cs_13 {Z X i : Nat} (B : LwE p s m meth c g h0 b L xs) (hi : i + 6 < L) (hL : L ≤ 3584) (hcs : cs + 15 ≤ 600000) (hsl : sl + 5708 ≤ 7302250) (I : IV g Z h X) (kk : ∀ h2, IV g Z h2 X → Wl p e s m below meth c g h0 b (cs + 15) (sl + 5708) 1746 [some (.ref b), some (.ref X), some (.ref (X + 48)), some (.int (nI i))] [] h2) : Wl p e s m below meth c g h0 b cs sl 721 [some (.ref b), some (.ref X), some (.ref (X + 48)), some (.int (nI i))] [] h :=
  wl_case (ds := [(1, false), (2, false), (3, false), (4, false), (5, false)]) (mc' := 0) (ms' := 0) (M8 := m_X8_ahead) (M9 := m_X9_ahead) B hi hL cck_13 (lg_in (i := 665) rfl rfl) cw_X8_ahead im_X8_ahead se_X8_ahead ar_X8_ahead rfl (lg_in (i := 1361) rfl rfl) cw_X9_ahead im_X9_ahead se_X9_ahead ar_X9_ahead rfl (by omega) (by omega) I (st_ahead I (xs (i + 1)) (xs (i + 2)) (xs (i + 3)) (xs (i + 4)) (xs (i + 5))) (fun h2 I2 => Wl.widen (by omega) (by omega) (kk h2 I2))
set_option maxRecDepth 100000 in
theorem cck_14 : cck [(1, true), (2, false), (3, false), (4, false)] 784 76 80 = true := by decide +kernel
set_option maxRecDepth 100000 in
theorem cs_14 {Z X i : Nat} (B : LwE p s m meth c g h0 b L xs) (hi : i + 6 < L) (hL : L ≤ 3584) (hcs : cs + 15 ≤ 600000) (hsl : sl + 5708 ≤ 7302250) (I : IV g Z h X) (kk : ∀ h2, IV g Z h2 X → Wl p e s m below meth c g h0 b (cs + 15) (sl + 5708) 1746 [some (.ref b), some (.ref X), some (.ref (X + 48)), some (.int (nI i))] [] h2) : Wl p e s m below meth c g h0 b cs sl 784 [some (.ref b), some (.ref X), some (.ref (X + 48)), some (.int (nI i))] [] h :=
  wl_case (ds := [(1, true), (2, false), (3, false), (4, false)]) (mc' := 0) (ms' := 0) (M8 := m_X8_message) (M9 := m_X9_message) B hi hL cck_14 (lg_in (i := 677) rfl rfl) cw_X8_message im_X8_message se_X8_message ar_X8_message rfl (lg_in (i := 1365) rfl rfl) cw_X9_message im_X9_message se_X9_message ar_X9_message rfl (by omega) (by omega) I (st_message I (nz_ (xs (i + 1))) (xs (i + 2)) (xs (i + 3)) (xs (i + 4)) (nz_01 _)) (fun h2 I2 => Wl.widen (by omega) (by omega) (kk h2 I2))
set_option maxRecDepth 100000 in
theorem cck_15 : cck [(1, false)] 853 81 84 = true := by decide +kernel
set_option maxRecDepth 100000 in
theorem cs_15 {Z X i : Nat} (B : LwE p s m meth c g h0 b L xs) (hi : i + 6 < L) (hL : L ≤ 3584) (hcs : cs + 15 ≤ 600000) (hsl : sl + 5708 ≤ 7302250) (I : IV g Z h X) (kk : ∀ h2, IV g Z h2 X → Wl p e s m below meth c g h0 b (cs + 15) (sl + 5708) 1746 [some (.ref b), some (.ref X), some (.ref (X + 48)), some (.int (nI i))] [] h2) : Wl p e s m below meth c g h0 b cs sl 853 [some (.ref b), some (.ref X), some (.ref (X + 48)), some (.int (nI i))] [] h :=
  wl_case (ds := [(1, false)]) (mc' := 0) (ms' := 0) (M8 := m_X8_sight) (M9 := m_X9_sight) B hi hL cck_15 (lg_in (i := 681) rfl rfl) cw_X8_sight im_X8_sight se_X8_sight ar_X8_sight rfl (lg_in (i := 1369) rfl rfl) cw_X9_sight im_X9_sight se_X9_sight ar_X9_sight rfl (by omega) (by omega) I (st_sight I (xs (i + 1))) (fun h2 I2 => Wl.widen (by omega) (by omega) (kk h2 I2))
set_option maxRecDepth 100000 in
theorem cck_16 : cck [(1, false), (2, true), (3, false), (4, false)] 876 85 89 = true := by decide +kernel
set_option maxRecDepth 100000 in
theorem cs_16 {Z X i : Nat} (B : LwE p s m meth c g h0 b L xs) (hi : i + 6 < L) (hL : L ≤ 3584) (hcs : cs + 15 ≤ 600000) (hsl : sl + 5708 ≤ 7302250) (I : IV g Z h X) (kk : ∀ h2, IV g Z h2 X → Wl p e s m below meth c g h0 b (cs + 15) (sl + 5708) 1746 [some (.ref b), some (.ref X), some (.ref (X + 48)), some (.int (nI i))] [] h2) : Wl p e s m below meth c g h0 b cs sl 876 [some (.ref b), some (.ref X), some (.ref (X + 48)), some (.int (nI i))] [] h :=
  wl_case (ds := [(1, false), (2, true), (3, false), (4, false)]) (mc' := 0) (ms' := 0) (M8 := m_X8_knows) (M9 := m_X9_knows) B hi hL cck_16 (lg_in (i := 685) rfl rfl) cw_X8_knows im_X8_knows se_X8_knows ar_X8_knows rfl (lg_in (i := 1373) rfl rfl) cw_X9_knows im_X9_knows se_X9_knows ar_X9_knows rfl (by omega) (by omega) I (st_knows I (xs (i + 1)) (nz_ (xs (i + 2))) (xs (i + 3)) (xs (i + 4)) (nz_01 _)) (fun h2 I2 => Wl.widen (by omega) (by omega) (kk h2 I2))
set_option maxRecDepth 100000 in
theorem cck_17 : cck [(1, false), (2, false), (3, false)] 945 90 93 = true := by decide +kernel
set_option maxRecDepth 100000 in
theorem cs_17 {Z X i : Nat} (B : LwE p s m meth c g h0 b L xs) (hi : i + 6 < L) (hL : L ≤ 3584) (hcs : cs + 15 ≤ 600000) (hsl : sl + 5708 ≤ 7302250) (I : IV g Z h X) (kk : ∀ h2, IV g Z h2 X → Wl p e s m below meth c g h0 b (cs + 15) (sl + 5708) 1746 [some (.ref b), some (.ref X), some (.ref (X + 48)), some (.int (nI i))] [] h2) : Wl p e s m below meth c g h0 b cs sl 945 [some (.ref b), some (.ref X), some (.ref (X + 48)), some (.int (nI i))] [] h :=
  wl_case (ds := [(1, false), (2, false), (3, false)]) (mc' := 0) (ms' := 0) (M8 := m_X8_thinks) (M9 := m_X9_thinks) B hi hL cck_17 (lg_in (i := 722) rfl rfl) cw_X8_thinks im_X8_thinks se_X8_thinks ar_X8_thinks rfl (lg_in (i := 1393) rfl rfl) cw_X9_thinks im_X9_thinks se_X9_thinks ar_X9_thinks rfl (by omega) (by omega) I (st_thinks I (xs (i + 1)) (xs (i + 2)) (xs (i + 3))) (fun h2 I2 => Wl.widen (by omega) (by omega) (kk h2 I2))
set_option maxRecDepth 100000 in
theorem cck_18 : cck [(1, false), (2, false)] 988 94 97 = true := by decide +kernel
set_option maxRecDepth 100000 in
theorem cs_18 {Z X i : Nat} (B : LwE p s m meth c g h0 b L xs) (hi : i + 6 < L) (hL : L ≤ 3584) (hcs : cs + 15 ≤ 600000) (hsl : sl + 5708 ≤ 7302250) (I : IV g Z h X) (kk : ∀ h2, IV g Z h2 X → Wl p e s m below meth c g h0 b (cs + 15) (sl + 5708) 1746 [some (.ref b), some (.ref X), some (.ref (X + 48)), some (.int (nI i))] [] h2) : Wl p e s m below meth c g h0 b cs sl 988 [some (.ref b), some (.ref X), some (.ref (X + 48)), some (.int (nI i))] [] h :=
  wl_case (ds := [(1, false), (2, false)]) (mc' := 0) (ms' := 0) (M8 := m_X8_wrong) (M9 := m_X9_wrong) B hi hL cck_18 (lg_in (i := 747) rfl rfl) cw_X8_wrong im_X8_wrong se_X8_wrong ar_X8_wrong rfl (lg_in (i := 1405) rfl rfl) cw_X9_wrong im_X9_wrong se_X9_wrong ar_X9_wrong rfl (by omega) (by omega) I (st_wrong I (xs (i + 1)) (xs (i + 2))) (fun h2 I2 => Wl.widen (by omega) (by omega) (kk h2 I2))
set_option maxRecDepth 100000 in
theorem cck_19 : cck [(1, false), (2, false), (3, false), (4, false), (5, false), (6, false)] 1021 98 102 = true := by decide +kernel
set_option maxRecDepth 100000 in
theorem cs_19 {Z X i : Nat} (B : LwE p s m meth c g h0 b L xs) (hi : i + 6 < L) (hL : L ≤ 3584) (hcs : cs + 15 ≤ 600000) (hsl : sl + 5708 ≤ 7302250) (I : IV g Z h X) (kk : ∀ h2, IV g Z h2 X → Wl p e s m below meth c g h0 b (cs + 15) (sl + 5708) 1746 [some (.ref b), some (.ref X), some (.ref (X + 48)), some (.int (nI i))] [] h2) : Wl p e s m below meth c g h0 b cs sl 1021 [some (.ref b), some (.ref X), some (.ref (X + 48)), some (.int (nI i))] [] h :=
  wl_case (ds := [(1, false), (2, false), (3, false), (4, false), (5, false), (6, false)]) (mc' := 0) (ms' := 0) (M8 := m_X8_order) (M9 := m_X9_order) B hi hL cck_19 (lg_in (i := 756) rfl rfl) cw_X8_order im_X8_order se_X8_order ar_X8_order rfl (lg_in (i := 1417) rfl rfl) cw_X9_order im_X9_order se_X9_order ar_X9_order rfl (by omega) (by omega) I (st_order I (xs (i + 1)) (xs (i + 2)) (xs (i + 3)) (xs (i + 4)) (xs (i + 5)) (xs (i + 6))) (fun h2 I2 => Wl.widen (by omega) (by omega) (kk h2 I2))
set_option maxRecDepth 100000 in
theorem cck_20 : cck [(1, false)] 1096 103 106 = true := by decide +kernel
set_option maxRecDepth 100000 in
theorem cs_20 {Z X i : Nat} (B : LwE p s m meth c g h0 b L xs) (hi : i + 6 < L) (hL : L ≤ 3584) (hcs : cs + 15 ≤ 600000) (hsl : sl + 5708 ≤ 7302250) (I : IV g Z h X) (kk : ∀ h2, IV g Z h2 X → Wl p e s m below meth c g h0 b (cs + 15) (sl + 5708) 1746 [some (.ref b), some (.ref X), some (.ref (X + 48)), some (.int (nI i))] [] h2) : Wl p e s m below meth c g h0 b cs sl 1096 [some (.ref b), some (.ref X), some (.ref (X + 48)), some (.int (nI i))] [] h :=
  wl_case (ds := [(1, false)]) (mc' := 0) (ms' := 0) (M8 := m_X8_seat) (M9 := m_X9_seat) B hi hL cck_20 (lg_in (i := 760) rfl rfl) cw_X8_seat im_X8_seat se_X8_seat ar_X8_seat rfl (lg_in (i := 1421) rfl rfl) cw_X9_seat im_X9_seat se_X9_seat ar_X9_seat rfl (by omega) (by omega) I (st_seat I (xs (i + 1))) (fun h2 I2 => Wl.widen (by omega) (by omega) (kk h2 I2))
set_option maxRecDepth 100000 in
theorem cck_21 : cck [(1, false), (2, false)] 1119 107 110 = true := by decide +kernel
set_option maxRecDepth 100000 in
theorem cs_21 {Z X i : Nat} (B : LwE p s m meth c g h0 b L xs) (hi : i + 6 < L) (hL : L ≤ 3584) (hcs : cs + 15 ≤ 600000) (hsl : sl + 5708 ≤ 7302250) (I : IV g Z h X) (kk : ∀ h2, IV g Z h2 X → Wl p e s m below meth c g h0 b (cs + 15) (sl + 5708) 1746 [some (.ref b), some (.ref X), some (.ref (X + 48)), some (.int (nI i))] [] h2) : Wl p e s m below meth c g h0 b cs sl 1119 [some (.ref b), some (.ref X), some (.ref (X + 48)), some (.int (nI i))] [] h :=
  wl_case (ds := [(1, false), (2, false)]) (mc' := 0) (ms' := 0) (M8 := m_X8_force) (M9 := m_X9_force) B hi hL cck_21 (lg_in (i := 768) rfl rfl) cw_X8_force im_X8_force se_X8_force ar_X8_force rfl (lg_in (i := 1433) rfl rfl) cw_X9_force im_X9_force se_X9_force ar_X9_force rfl (by omega) (by omega) I (st_force I (xs (i + 1)) (xs (i + 2))) (fun h2 I2 => Wl.widen (by omega) (by omega) (kk h2 I2))
set_option maxRecDepth 100000 in
theorem cck_22 : cck [(1, false), (2, false)] 1152 111 114 = true := by decide +kernel
set_option maxRecDepth 100000 in
theorem cs_22 {Z X i : Nat} (B : LwE p s m meth c g h0 b L xs) (hi : i + 6 < L) (hL : L ≤ 3584) (hcs : cs + 15 ≤ 600000) (hsl : sl + 5708 ≤ 7302250) (I : IV g Z h X) (kk : ∀ h2, IV g Z h2 X → Wl p e s m below meth c g h0 b (cs + 15) (sl + 5708) 1746 [some (.ref b), some (.ref X), some (.ref (X + 48)), some (.int (nI i))] [] h2) : Wl p e s m below meth c g h0 b cs sl 1152 [some (.ref b), some (.ref X), some (.ref (X + 48)), some (.int (nI i))] [] h :=
  wl_case (ds := [(1, false), (2, false)]) (mc' := 0) (ms' := 0) (M8 := m_X8_bound) (M9 := m_X9_bound) B hi hL cck_22 (lg_in (i := 778) rfl rfl) cw_X8_bound im_X8_bound se_X8_bound ar_X8_bound rfl (lg_in (i := 1445) rfl rfl) cw_X9_bound im_X9_bound se_X9_bound ar_X9_bound rfl (by omega) (by omega) I (st_bound I (xs (i + 1)) (xs (i + 2))) (fun h2 I2 => Wl.widen (by omega) (by omega) (kk h2 I2))
set_option maxRecDepth 100000 in
theorem cck_23 : cck [(1, false), (2, false)] 1185 115 118 = true := by decide +kernel
set_option maxRecDepth 100000 in
theorem cs_23 {Z X i : Nat} (B : LwE p s m meth c g h0 b L xs) (hi : i + 6 < L) (hL : L ≤ 3584) (hcs : cs + 15 ≤ 600000) (hsl : sl + 5708 ≤ 7302250) (I : IV g Z h X) (kk : ∀ h2, IV g Z h2 X → Wl p e s m below meth c g h0 b (cs + 15) (sl + 5708) 1746 [some (.ref b), some (.ref X), some (.ref (X + 48)), some (.int (nI i))] [] h2) : Wl p e s m below meth c g h0 b cs sl 1185 [some (.ref b), some (.ref X), some (.ref (X + 48)), some (.int (nI i))] [] h :=
  wl_case (ds := [(1, false), (2, false)]) (mc' := 0) (ms' := 0) (M8 := m_X8_cross) (M9 := m_X9_cross) B hi hL cck_23 (lg_in (i := 787) rfl rfl) cw_X8_cross im_X8_cross se_X8_cross ar_X8_cross rfl (lg_in (i := 1457) rfl rfl) cw_X9_cross im_X9_cross se_X9_cross ar_X9_cross rfl (by omega) (by omega) I (st_cross I (xs (i + 1)) (xs (i + 2))) (fun h2 I2 => Wl.widen (by omega) (by omega) (kk h2 I2))
set_option maxRecDepth 100000 in
theorem cck_24 : cck [(1, false), (2, false), (3, false)] 1218 119 122 = true := by decide +kernel
set_option maxRecDepth 100000 in
theorem cs_24 {Z X i : Nat} (B : LwE p s m meth c g h0 b L xs) (hi : i + 6 < L) (hL : L ≤ 3584) (hcs : cs + 15 ≤ 600000) (hsl : sl + 5708 ≤ 7302250) (I : IV g Z h X) (kk : ∀ h2, IV g Z h2 X → Wl p e s m below meth c g h0 b (cs + 15) (sl + 5708) 1746 [some (.ref b), some (.ref X), some (.ref (X + 48)), some (.int (nI i))] [] h2) : Wl p e s m below meth c g h0 b cs sl 1218 [some (.ref b), some (.ref X), some (.ref (X + 48)), some (.int (nI i))] [] h :=
  wl_case (ds := [(1, false), (2, false), (3, false)]) (mc' := 0) (ms' := 0) (M8 := m_X8_answers) (M9 := m_X9_answers_) B hi hL cck_24 (lg_in (i := 792) rfl rfl) cw_X8_answers im_X8_answers se_X8_answers ar_X8_answers rfl (lg_in (i := 1461) rfl rfl) cw_X9_answers_ im_X9_answers_ se_X9_answers_ ar_X9_answers_ rfl (by omega) (by omega) I (st_answers I (xs (i + 1)) (xs (i + 2)) (xs (i + 3))) (fun h2 I2 => Wl.widen (by omega) (by omega) (kk h2 I2))
set_option maxRecDepth 100000 in
theorem cck_25 : cck [(1, false), (2, false), (3, false), (4, false)] 1261 123 126 = true := by decide +kernel
set_option maxRecDepth 100000 in
theorem cs_25 {Z X i : Nat} (B : LwE p s m meth c g h0 b L xs) (hi : i + 6 < L) (hL : L ≤ 3584) (hcs : cs + 15 ≤ 600000) (hsl : sl + 5708 ≤ 7302250) (I : IV g Z h X) (kk : ∀ h2, IV g Z h2 X → Wl p e s m below meth c g h0 b (cs + 15) (sl + 5708) 1746 [some (.ref b), some (.ref X), some (.ref (X + 48)), some (.int (nI i))] [] h2) : Wl p e s m below meth c g h0 b cs sl 1261 [some (.ref b), some (.ref X), some (.ref (X + 48)), some (.int (nI i))] [] h :=
  wl_case (ds := [(1, false), (2, false), (3, false), (4, false)]) (mc' := 0) (ms' := 0) (M8 := m_X8_gaps) (M9 := m_X9_gaps) B hi hL cck_25 (lg_in (i := 796) rfl rfl) cw_X8_gaps im_X8_gaps se_X8_gaps ar_X8_gaps rfl (lg_in (i := 1465) rfl rfl) cw_X9_gaps im_X9_gaps se_X9_gaps ar_X9_gaps rfl (by omega) (by omega) I (st_gaps I (xs (i + 1)) (xs (i + 2)) (xs (i + 3)) (xs (i + 4))) (fun h2 I2 => Wl.widen (by omega) (by omega) (kk h2 I2))
set_option maxRecDepth 100000 in
theorem cck_26 : cck [(1, false), (2, false), (3, false)] 1314 127 130 = true := by decide +kernel
set_option maxRecDepth 100000 in
theorem cs_26 {Z X i : Nat} (B : LwE p s m meth c g h0 b L xs) (hi : i + 6 < L) (hL : L ≤ 3584) (hcs : cs + 15 ≤ 600000) (hsl : sl + 5708 ≤ 7302250) (I : IV g Z h X) (kk : ∀ h2, IV g Z h2 X → Wl p e s m below meth c g h0 b (cs + 15) (sl + 5708) 1746 [some (.ref b), some (.ref X), some (.ref (X + 48)), some (.int (nI i))] [] h2) : Wl p e s m below meth c g h0 b cs sl 1314 [some (.ref b), some (.ref X), some (.ref (X + 48)), some (.int (nI i))] [] h :=
  wl_case (ds := [(1, false), (2, false), (3, false)]) (mc' := 0) (ms' := 0) (M8 := m_X8_doubt) (M9 := m_X9_doubt) B hi hL cck_26 (lg_in (i := 804) rfl rfl) cw_X8_doubt im_X8_doubt se_X8_doubt ar_X8_doubt rfl (lg_in (i := 1469) rfl rfl) cw_X9_doubt im_X9_doubt se_X9_doubt ar_X9_doubt rfl (by omega) (by omega) I (st_doubt I (xs (i + 1)) (xs (i + 2)) (xs (i + 3))) (fun h2 I2 => Wl.widen (by omega) (by omega) (kk h2 I2))
set_option maxRecDepth 100000 in
theorem cck_27 : cck [(1, false), (2, false), (3, false), (4, false)] 1357 131 134 = true := by decide +kernel
set_option maxRecDepth 100000 in
theorem cs_27 {Z X i : Nat} (B : LwE p s m meth c g h0 b L xs) (hi : i + 6 < L) (hL : L ≤ 3584) (hcs : cs + 15 ≤ 600000) (hsl : sl + 5708 ≤ 7302250) (I : IV g Z h X) (kk : ∀ h2, IV g Z h2 X → Wl p e s m below meth c g h0 b (cs + 15) (sl + 5708) 1746 [some (.ref b), some (.ref X), some (.ref (X + 48)), some (.int (nI i))] [] h2) : Wl p e s m below meth c g h0 b cs sl 1357 [some (.ref b), some (.ref X), some (.ref (X + 48)), some (.int (nI i))] [] h :=
  wl_case (ds := [(1, false), (2, false), (3, false), (4, false)]) (mc' := 0) (ms' := 0) (M8 := m_X8_brief) (M9 := m_X9_brief) B hi hL cck_27 (lg_in (i := 822) rfl rfl) cw_X8_brief im_X8_brief se_X8_brief ar_X8_brief rfl (lg_in (i := 1496) rfl rfl) cw_X9_brief im_X9_brief se_X9_brief ar_X9_brief rfl (by omega) (by omega) I (st_brief I (xs (i + 1)) (xs (i + 2)) (xs (i + 3)) (xs (i + 4))) (fun h2 I2 => Wl.widen (by omega) (by omega) (kk h2 I2))
set_option maxRecDepth 100000 in
theorem cck_28 : cck [(1, false), (2, false), (3, false), (4, false), (5, false), (6, false)] 1410 135 138 = true := by decide +kernel
set_option maxRecDepth 100000 in
theorem cs_28 {Z X i : Nat} (B : LwE p s m meth c g h0 b L xs) (hi : i + 6 < L) (hL : L ≤ 3584) (hcs : cs + 15 ≤ 600000) (hsl : sl + 5708 ≤ 7302250) (I : IV g Z h X) (kk : ∀ h2, IV g Z h2 X → Wl p e s m below meth c g h0 b (cs + 15) (sl + 5708) 1746 [some (.ref b), some (.ref X), some (.ref (X + 48)), some (.int (nI i))] [] h2) : Wl p e s m below meth c g h0 b cs sl 1410 [some (.ref b), some (.ref X), some (.ref (X + 48)), some (.int (nI i))] [] h :=
  wl_case (ds := [(1, false), (2, false), (3, false), (4, false), (5, false), (6, false)]) (mc' := 0) (ms' := 0) (M8 := m_X8_fights) (M9 := m_X9_fights) B hi hL cck_28 (lg_in (i := 826) rfl rfl) cw_X8_fights im_X8_fights se_X8_fights ar_X8_fights rfl (lg_in (i := 1501) rfl rfl) cw_X9_fights im_X9_fights se_X9_fights ar_X9_fights rfl (by omega) (by omega) I (st_fights I (xs (i + 1)) (xs (i + 2)) (xs (i + 3)) (xs (i + 4)) (xs (i + 5)) (xs (i + 6))) (fun h2 I2 => Wl.widen (by omega) (by omega) (kk h2 I2))
set_option maxRecDepth 100000 in
theorem cck_29 : cck [(1, false), (2, false), (3, false), (4, false)] 1485 139 142 = true := by decide +kernel
set_option maxRecDepth 100000 in
theorem cs_29 {Z X i : Nat} (B : LwE p s m meth c g h0 b L xs) (hi : i + 6 < L) (hL : L ≤ 3584) (hcs : cs + 15 ≤ 600000) (hsl : sl + 5708 ≤ 7302250) (I : IV g Z h X) (kk : ∀ h2, IV g Z h2 X → Wl p e s m below meth c g h0 b (cs + 15) (sl + 5708) 1746 [some (.ref b), some (.ref X), some (.ref (X + 48)), some (.int (nI i))] [] h2) : Wl p e s m below meth c g h0 b cs sl 1485 [some (.ref b), some (.ref X), some (.ref (X + 48)), some (.int (nI i))] [] h :=
  wl_case (ds := [(1, false), (2, false), (3, false), (4, false)]) (mc' := 0) (ms' := 0) (M8 := m_X8_allied) (M9 := m_X9_allied) B hi hL cck_29 (lg_in (i := 835) rfl rfl) cw_X8_allied im_X8_allied se_X8_allied ar_X8_allied rfl (lg_in (i := 1480) rfl rfl) cw_X9_allied im_X9_allied se_X9_allied ar_X9_allied rfl (by omega) (by omega) I (st_allied I (xs (i + 1)) (xs (i + 2)) (xs (i + 3)) (xs (i + 4))) (fun h2 I2 => Wl.widen (by omega) (by omega) (kk h2 I2))
set_option maxRecDepth 100000 in
theorem cck_30 : cck [(1, false), (2, false), (3, false)] 1538 143 146 = true := by decide +kernel
set_option maxRecDepth 100000 in
theorem cs_30 {Z X i : Nat} (B : LwE p s m meth c g h0 b L xs) (hi : i + 6 < L) (hL : L ≤ 3584) (hcs : cs + 15 ≤ 600000) (hsl : sl + 5708 ≤ 7302250) (I : IV g Z h X) (kk : ∀ h2, IV g Z h2 X → Wl p e s m below meth c g h0 b (cs + 15) (sl + 5708) 1746 [some (.ref b), some (.ref X), some (.ref (X + 48)), some (.int (nI i))] [] h2) : Wl p e s m below meth c g h0 b cs sl 1538 [some (.ref b), some (.ref X), some (.ref (X + 48)), some (.int (nI i))] [] h :=
  wl_case (ds := [(1, false), (2, false), (3, false)]) (mc' := 0) (ms' := 0) (M8 := m_X8_mended) (M9 := m_X9_mended) B hi hL cck_30 (lg_in (i := 839) rfl rfl) cw_X8_mended im_X8_mended se_X8_mended ar_X8_mended rfl (lg_in (i := 1484) rfl rfl) cw_X9_mended im_X9_mended se_X9_mended ar_X9_mended rfl (by omega) (by omega) I (st_mended I (xs (i + 1)) (xs (i + 2)) (xs (i + 3))) (fun h2 I2 => Wl.widen (by omega) (by omega) (kk h2 I2))
set_option maxRecDepth 100000 in
theorem cck_31 : cck [(1, false), (2, false), (3, false), (4, false)] 1581 147 150 = true := by decide +kernel
set_option maxRecDepth 100000 in
theorem cs_31 {Z X i : Nat} (B : LwE p s m meth c g h0 b L xs) (hi : i + 6 < L) (hL : L ≤ 3584) (hcs : cs + 15 ≤ 600000) (hsl : sl + 5708 ≤ 7302250) (I : IV g Z h X) (kk : ∀ h2, IV g Z h2 X → Wl p e s m below meth c g h0 b (cs + 15) (sl + 5708) 1746 [some (.ref b), some (.ref X), some (.ref (X + 48)), some (.int (nI i))] [] h2) : Wl p e s m below meth c g h0 b cs sl 1581 [some (.ref b), some (.ref X), some (.ref (X + 48)), some (.int (nI i))] [] h :=
  wl_case (ds := [(1, false), (2, false), (3, false), (4, false)]) (mc' := 0) (ms' := 0) (M8 := m_X8_judge) (M9 := m_X9_judge) B hi hL cck_31 (lg_in (i := 843) rfl rfl) cw_X8_judge im_X8_judge se_X8_judge ar_X8_judge rfl (lg_in (i := 1488) rfl rfl) cw_X9_judge im_X9_judge se_X9_judge ar_X9_judge rfl (by omega) (by omega) I (st_judge I (xs (i + 1)) (xs (i + 2)) (xs (i + 3)) (xs (i + 4))) (fun h2 I2 => Wl.widen (by omega) (by omega) (kk h2 I2))
set_option maxRecDepth 100000 in
theorem cck_32 : cck [(1, false), (2, false), (3, false)] 1634 151 154 = true := by decide +kernel
set_option maxRecDepth 100000 in
theorem cs_32 {Z X i : Nat} (B : LwE p s m meth c g h0 b L xs) (hi : i + 6 < L) (hL : L ≤ 3584) (hcs : cs + 15 ≤ 600000) (hsl : sl + 5708 ≤ 7302250) (I : IV g Z h X) (kk : ∀ h2, IV g Z h2 X → Wl p e s m below meth c g h0 b (cs + 15) (sl + 5708) 1746 [some (.ref b), some (.ref X), some (.ref (X + 48)), some (.int (nI i))] [] h2) : Wl p e s m below meth c g h0 b cs sl 1634 [some (.ref b), some (.ref X), some (.ref (X + 48)), some (.int (nI i))] [] h :=
  wl_case (ds := [(1, false), (2, false), (3, false)]) (mc' := 0) (ms' := 0) (M8 := m_X8_hangs) (M9 := m_X9_hangs) B hi hL cck_32 (lg_in (i := 847) rfl rfl) cw_X8_hangs im_X8_hangs se_X8_hangs ar_X8_hangs rfl (lg_in (i := 1492) rfl rfl) cw_X9_hangs im_X9_hangs se_X9_hangs ar_X9_hangs rfl (by omega) (by omega) I (st_hangs I (xs (i + 1)) (xs (i + 2)) (xs (i + 3))) (fun h2 I2 => Wl.widen (by omega) (by omega) (kk h2 I2))
set_option maxRecDepth 100000 in
theorem cck_33 : cck [(1, false)] 1677 155 158 = true := by decide +kernel
set_option maxRecDepth 100000 in
theorem cs_33 {Z X i : Nat} (B : LwE p s m meth c g h0 b L xs) (hi : i + 6 < L) (hL : L ≤ 3584) (hcs : cs + 15 ≤ 600000) (hsl : sl + 5708 ≤ 7302250) (I : IV g Z h X) (kk : ∀ h2, IV g Z h2 X → Wl p e s m below meth c g h0 b (cs + 15) (sl + 5708) 1746 [some (.ref b), some (.ref X), some (.ref (X + 48)), some (.int (nI i))] [] h2) : Wl p e s m below meth c g h0 b cs sl 1677 [some (.ref b), some (.ref X), some (.ref (X + 48)), some (.int (nI i))] [] h :=
  wl_case (ds := [(1, false)]) (mc' := 15) (ms' := 5708) (M8 := m_X8_mark) (M9 := m_X9_mark) B hi hL cck_33 (lg_in (i := 851) rfl rfl) cw_X8_mark im_X8_mark se_X8_mark ar_X8_mark rfl (lg_in (i := 1511) rfl rfl) cw_X9_mark im_X9_mark se_X9_mark ar_X9_mark rfl (by omega) (by omega) I (st_mark I (xs (i + 1))) (fun h2 I2 => Wl.widen (by omega) (by omega) (kk h2 I2))
set_option maxRecDepth 100000 in
theorem cck_34 : cck [(1, false)] 1700 159 162 = true := by decide +kernel
set_option maxRecDepth 100000 in
theorem cs_34 {Z X i : Nat} (B : LwE p s m meth c g h0 b L xs) (hi : i + 6 < L) (hL : L ≤ 3584) (hcs : cs + 15 ≤ 600000) (hsl : sl + 5708 ≤ 7302250) (I : IV g Z h X) (kk : ∀ h2, IV g Z h2 X → Wl p e s m below meth c g h0 b (cs + 15) (sl + 5708) 1746 [some (.ref b), some (.ref X), some (.ref (X + 48)), some (.int (nI i))] [] h2) : Wl p e s m below meth c g h0 b cs sl 1700 [some (.ref b), some (.ref X), some (.ref (X + 48)), some (.int (nI i))] [] h :=
  wl_case (ds := [(1, false)]) (mc' := 0) (ms' := 0) (M8 := m_X8_back) (M9 := m_X9_back) B hi hL cck_34 (lg_in (i := 864) rfl rfl) cw_X8_back im_X8_back se_X8_back ar_X8_back rfl (lg_in (i := 1523) rfl rfl) cw_X9_back im_X9_back se_X9_back ar_X9_back rfl (by omega) (by omega) I (st_back I (xs (i + 1))) (fun h2 I2 => Wl.widen (by omega) (by omega) (kk h2 I2))
set_option maxRecDepth 100000 in
theorem cck_35 : cck [(1, false)] 1723 163 166 = true := by decide +kernel
set_option maxRecDepth 100000 in
theorem cs_35 {Z X i : Nat} (B : LwE p s m meth c g h0 b L xs) (hi : i + 6 < L) (hL : L ≤ 3584) (hcs : cs + 15 ≤ 600000) (hsl : sl + 5708 ≤ 7302250) (I : IV g Z h X) (kk : ∀ h2, IV g Z h2 X → Wl p e s m below meth c g h0 b (cs + 15) (sl + 5708) 1746 [some (.ref b), some (.ref X), some (.ref (X + 48)), some (.int (nI i))] [] h2) : Wl p e s m below meth c g h0 b cs sl 1723 [some (.ref b), some (.ref X), some (.ref (X + 48)), some (.int (nI i))] [] h :=
  wl_case (ds := [(1, false)]) (mc' := 0) (ms' := 0) (M8 := m_X8_count) (M9 := m_X9_count) B hi hL cck_35 (lg_in (i := 868) rfl rfl) cw_X8_count im_X8_count se_X8_count ar_X8_count rfl (lg_in (i := 1527) rfl rfl) cw_X9_count im_X9_count se_X9_count ar_X9_count rfl (by omega) (by omega) I (st_count I (xs (i + 1))) (fun h2 I2 => Wl.widen (by omega) (by omega) (kk h2 I2))
set_option maxRecDepth 100000 in
theorem dl_0 : decode code 0 = .ok (.new 7, 3) := by decide +kernel
set_option maxRecDepth 100000 in
theorem dl_3 : decode code 3 = .ok (.dup, 1) := by decide +kernel
set_option maxRecDepth 100000 in
theorem dl_4 : decode code 4 = .ok (.invokespecial 9, 3) := by decide +kernel
set_option maxRecDepth 100000 in
theorem dl_7 : decode code 7 = .ok (.astore_n 1, 1) := by decide +kernel
set_option maxRecDepth 100000 in
theorem dl_8 : decode code 8 = .ok (.new 10, 3) := by decide +kernel
set_option maxRecDepth 100000 in
theorem dl_11 : decode code 11 = .ok (.dup, 1) := by decide +kernel
set_option maxRecDepth 100000 in
theorem dl_12 : decode code 12 = .ok (.invokespecial 12, 3) := by decide +kernel
set_option maxRecDepth 100000 in
theorem dl_15 : decode code 15 = .ok (.astore_n 2, 1) := by decide +kernel
set_option maxRecDepth 100000 in
theorem dl_16 : decode code 16 = .ok (.iconst 0, 1) := by decide +kernel
set_option maxRecDepth 100000 in
theorem dl_17 : decode code 17 = .ok (.istore_n 3, 1) := by decide +kernel
set_option maxRecDepth 100000 in
theorem dl_18 : decode code 18 = .ok (.iload_n 3, 1) := by decide +kernel
set_option maxRecDepth 100000 in
theorem dl_19 : decode code 19 = .ok (.aload_n 0, 1) := by decide +kernel
set_option maxRecDepth 100000 in
theorem dl_20 : decode code 20 = .ok (.arraylength, 1) := by decide +kernel
set_option maxRecDepth 100000 in
theorem dl_21 : decode code 21 = .ok (.bipush 7, 2) := by decide +kernel
set_option maxRecDepth 100000 in
theorem dl_23 : decode code 23 = .ok (.isub, 1) := by decide +kernel
set_option maxRecDepth 100000 in
theorem dl_24 : decode code 24 = .ok (.if_icmp .gt 1728, 3) := by decide +kernel
set_option maxRecDepth 100000 in
theorem dl_27 : decode code 27 = .ok (.aload_n 0, 1) := by decide +kernel
set_option maxRecDepth 100000 in
theorem dl_28 : decode code 28 = .ok (.iload_n 3, 1) := by decide +kernel
set_option maxRecDepth 100000 in
theorem dl_29 : decode code 29 = .ok (.iaload, 1) := by decide +kernel
set_option maxRecDepth 100000 in
theorem dl_30 : decode code 30 = .ok (.bipush 63, 2) := by decide +kernel
set_option maxRecDepth 100000 in
theorem dl_32 : decode code 32 = .ok (.iand, 1) := by decide +kernel
set_option maxRecDepth 100000 in
theorem dl_33 : decode code 33 = .ok (.tableswitch 1713 0 35 #[159, 212, 275, 328, 371, 424, 457, 490, 553, 576, 589, 622, 655, 688, 751, 820, 843, 912, 955, 988, 1063, 1086, 1119, 1152, 1185, 1228, 1281, 1324, 1377, 1452, 1505, 1548, 1601, 1644, 1667, 1690], 159) := by decide +kernel
set_option maxRecDepth 100000 in
theorem dl_1746 : decode code 1746 = .ok (.iinc 3 7, 3) := by decide +kernel
set_option maxRecDepth 100000 in
theorem dl_1749 : decode code 1749 = .ok (.goto (-1731), 3) := by decide +kernel
set_option maxRecDepth 100000 in
theorem dl_1752 : decode code 1752 = .ok (.iconst 1, 1) := by decide +kernel
set_option maxRecDepth 100000 in
theorem dl_1753 : decode code 1753 = .ok (.ireturn, 1) := by decide +kernel
def tgs : List Nat := [192, 245, 308, 361, 404, 457, 490, 523, 586, 609, 622, 655, 688, 721, 784, 853, 876, 945, 988, 1021, 1096, 1119, 1152, 1185, 1218, 1261, 1314, 1357, 1410, 1485, 1538, 1581, 1634, 1677, 1700, 1723]
set_option maxRecDepth 100000 in
theorem tg_ok : ∀ r : Fin 36, (#[159, 212, 275, 328, 371, 424, 457, 490, 553, 576, 589, 622, 655, 688, 751, 820, 843, 912, 955, 988, 1063, 1086, 1119, 1152, 1185, 1228, 1281, 1324, 1377, 1452, 1505, 1548, 1601, 1644, 1667, 1690] : Array Int)[r.val]? = some ((tgs.getD r.val 0 : Int) - 33) := by decide +kernel
set_option maxRecDepth 100000 in
theorem cs_all {Z X i : Nat} (B : LwE p s m meth c g h0 b L xs) (hi : i + 6 < L) (hL : L ≤ 3584) (hcs : cs + 15 ≤ 600000) (hsl : sl + 5708 ≤ 7302250) (I : IV g Z h X) (kk : ∀ h2, IV g Z h2 X → Wl p e s m below meth c g h0 b (cs + 15) (sl + 5708) 1746 [some (.ref b), some (.ref X), some (.ref (X + 48)), some (.int (nI i))] [] h2) : ∀ r : Nat, r < 36 → Wl p e s m below meth c g h0 b cs sl ((tgs.getD r 0)) [some (.ref b), some (.ref X), some (.ref (X + 48)), some (.int (nI i))] [] h
  | 0, _ => cs_0 B hi hL hcs hsl I kk
  | 1, _ => cs_1 B hi hL hcs hsl I kk
  | 2, _ => cs_2 B hi hL hcs hsl I kk
  | 3, _ => cs_3 B hi hL hcs hsl I kk
  | 4, _ => cs_4 B hi hL hcs hsl I kk
  | 5, _ => cs_5 B hi hL hcs hsl I kk
  | 6, _ => cs_6 B hi hL hcs hsl I kk
  | 7, _ => cs_7 B hi hL hcs hsl I kk
  | 8, _ => cs_8 B hi hL hcs hsl I kk
  | 9, _ => cs_9 B hi hL hcs hsl I kk
  | 10, _ => cs_10 B hi hL hcs hsl I kk
  | 11, _ => cs_11 B hi hL hcs hsl I kk
  | 12, _ => cs_12 B hi hL hcs hsl I kk
  | 13, _ => cs_13 B hi hL hcs hsl I kk
  | 14, _ => cs_14 B hi hL hcs hsl I kk
  | 15, _ => cs_15 B hi hL hcs hsl I kk
  | 16, _ => cs_16 B hi hL hcs hsl I kk
  | 17, _ => cs_17 B hi hL hcs hsl I kk
  | 18, _ => cs_18 B hi hL hcs hsl I kk
  | 19, _ => cs_19 B hi hL hcs hsl I kk
  | 20, _ => cs_20 B hi hL hcs hsl I kk
  | 21, _ => cs_21 B hi hL hcs hsl I kk
  | 22, _ => cs_22 B hi hL hcs hsl I kk
  | 23, _ => cs_23 B hi hL hcs hsl I kk
  | 24, _ => cs_24 B hi hL hcs hsl I kk
  | 25, _ => cs_25 B hi hL hcs hsl I kk
  | 26, _ => cs_26 B hi hL hcs hsl I kk
  | 27, _ => cs_27 B hi hL hcs hsl I kk
  | 28, _ => cs_28 B hi hL hcs hsl I kk
  | 29, _ => cs_29 B hi hL hcs hsl I kk
  | 30, _ => cs_30 B hi hL hcs hsl I kk
  | 31, _ => cs_31 B hi hL hcs hsl I kk
  | 32, _ => cs_32 B hi hL hcs hsl I kk
  | 33, _ => cs_33 B hi hL hcs hsl I kk
  | 34, _ => cs_34 B hi hL hcs hsl I kk
  | 35, _ => cs_35 B hi hL hcs hsl I kk
  | r + 36, hr => absurd hr (by omega)
set_option maxRecDepth 100000 in
set_option maxHeartbeats 1000000 in
theorem wl_loop {Z X : Nat} (B : LwE p s m meth c g h0 b L xs) (hL : L ≤ 3584) : ∀ (d j : Nat) (h : hp), j + d = 600 → 7 * j ≤ L → IV g Z h X → Wl p e s m below meth c g h0 b (150 + 15 * j) (30000 + 5708 * j) 18 [some (.ref b), some (.ref X), some (.ref (X + 48)), some (.int (nI (7 * j)))] [] h := by
  intro d
  induction d with
  | zero =>
    intro j h h1 h2 I
    exact absurd h2 (by omega)
  | succ d ih =>
    intro j h h1 h2 I
    refine wl_iload_n B dl_18 rfl rfl (wl_aload_n B dl_19 rfl rfl (wl_slen B dl_20 (wl_bipush (v := 7) B dl_21 rfl (wl_isub B dl_23 ?_))))
    have e1 : (nI L - 7).toInt = (L : Int) - 7 := by
      have q1 : (nI L).toInt = (L : Int) := nI_toInt (by omega)
      have q2 : (7 : Int32).toInt = 7 := rfl
      rw [i_sub (by rw [q1, q2]; omega) (by rw [q1, q2]; omega), q1, q2]
    have e2 : (nI (7 * j)).toInt = ((7 * j : Nat) : Int) := nI_toInt (by omega)
    refine wl_icmp_gt (t := 1752) B dl_24 (by decide) (fun q => ?_) (fun q => ?_)
    · exact wl_iconst B dl_1752 rfl (wl_end B dl_1753 (by omega) (by omega))
    · rw [i_lt, e1, e2] at q
      have hi : 7 * j + 6 < L := by omega
      have tn : (nI (7 * j)).toNatClampNeg = 7 * j := nI_tn (by omega)
      refine wl_aload_n B dl_27 rfl rfl (wl_iload_n B dl_28 rfl rfl (wl_sld B (in_nI (by omega) (by omega)) dl_29 ?_))
      rw [tn]
      refine wl_bipush (v := 63) B dl_30 rfl (wl_iand B dl_32 ?_)
      have kk : ∀ h2, IV g Z h2 X → Wl p e s m below meth c g h0 b (150 + 15 * j + 15) (30000 + 5708 * j + 5708) 1746 [some (.ref b), some (.ref X), some (.ref (X + 48)), some (.int (nI (7 * j)))] [] h2 := by
        intro h2 I2
        refine wl_iinc (v := 7) B dl_1746 rfl rfl (by decide) (wl_goto (t := 18) B dl_1749 (by decide) ?_)
        have e7 : nI (7 * j) + 7 = nI (7 * (j + 1)) := (nI_plus (a := 7 * j) (b := 7)).trans rfl
        rw [e7]
        exact Wl.widen (by omega) (by omega) (ih (j + 1) h2 (by omega) (by omega) I2)
      generalize xs (7 * j) &&& 63 = v
      by_cases hv : inR 36 v
      · obtain ⟨r, hr, rfl, r31⟩ := inR_of hv
        have er : ((nI r).toInt - 0).toNat = r := by rw [nI_toInt r31]; omega
        have tr := tg_ok ⟨r, hr⟩
        refine wl_tblI (off := (tgs.getD r 0 : Int) - 33) (t := tgs.getD r 0) B dl_33 (by rw [nI_toInt r31]; omega) (by rw [nI_toInt r31]; omega) (by rw [er]; exact tr) (by omega) ?_
        exact cs_all B hi hL (by omega) (by omega) I kk r hr
      · refine wl_tblO (t := 1746) B dl_33 (by have hv2 : ¬ (0 ≤ v.toInt ∧ v.toInt < ((36 : Nat) : Int)) := hv; omega) (by decide) ?_
        exact Wl.widen (by omega) (by omega) (kk h I)
end LWL

