set_option maxHeartbeats 4000000 in
set_option maxRecDepth 100000 in
theorem ctx_testSkips (l : Launch) (a0 : Int32) (a1 : Int64) : gPi l yX_testSkips wX_testSkips (rmF 0 0) [.int a0, .long a1] (x_testSkips a0 a1) := by
  obtain ⟨z, hz⟩ : ∃ z, z = x_testSkips a0 a1 := ⟨_, rfl⟩
  rw [← hz]
  have hfin := hz.symm
  clear hz
  refine g_start (plainFor_of_name (by decide)) (Nat.le_of_ble_eq_true rfl) ?_
  intro p e s0 m args below meth c ls X hr hlk hB hl
  have hl : lv_has ls 3 [(0, .int a0), (1, .long a1)] := hl
  have hx := X.1
  have hb := X.2.1
  rw [x_testSkips] at hfin
  refine lv_iload_n hx hb dX_testSkips_0 rfl (lv_at hl 0 rfl) ?_
  by_cases hk1_0 : a0 = (1 : Int32)
  · rw [if_pos hk1_0] at hfin
    refine lv_tableIn hx hb dX_testSkips_1 (off := 27) (tgt := 28) (by rw [hk1_0]; decide) (by rw [hk1_0]; decide) (by rw [hk1_0]; rfl) (by decide) ?_
    refine lv_lload_n hx hb dX_testSkips_28 rfl (lv_at hl 1 rfl) ?_
    refine lv_lconst (v := (0 : Int64)) hx hb dX_testSkips_29 (by decide) ?_
    refine W.lcmp hx hb dX_testSkips_30 ?_
    refine lv_if_ne (tgt := 38) hx hb dX_testSkips_31 (by decide) (fun hc31 => ?_) (fun hc31 => ?_)
    · rw [if_neg hc31] at hfin
      refine lv_iconst (v := (0 : Int32)) hx hb dX_testSkips_38 (by decide) ?_
      exact g_zretP X hr hlk rfl hfin dX_testSkips_39
    rw [if_pos hc31] at hfin
    refine lv_iconst (v := (1 : Int32)) hx hb dX_testSkips_34 (by decide) ?_
    refine lv_goto (tgt := 39) hx hb dX_testSkips_35 (by decide) ?_
    exact g_zretP X hr hlk rfl hfin dX_testSkips_39
  rw [if_neg hk1_0] at hfin
  by_cases hk1_1 : a0 = (2 : Int32)
  · rw [if_pos hk1_1] at hfin
    refine lv_tableIn hx hb dX_testSkips_1 (off := 39) (tgt := 40) (by rw [hk1_1]; decide) (by rw [hk1_1]; decide) (by rw [hk1_1]; rfl) (by decide) ?_
    refine lv_iconst (v := (1 : Int32)) hx hb dX_testSkips_40 (by decide) ?_
    exact g_zretP X hr hlk rfl hfin dX_testSkips_41
  rw [if_neg hk1_1] at hfin
  by_cases hk1_2 : a0 = (3 : Int32)
  · rw [if_pos hk1_2] at hfin
    refine lv_tableIn hx hb dX_testSkips_1 (off := 41) (tgt := 42) (by rw [hk1_2]; decide) (by rw [hk1_2]; decide) (by rw [hk1_2]; rfl) (by decide) ?_
    refine lv_lload_n hx hb dX_testSkips_42 rfl (lv_at hl 1 rfl) ?_
    refine lv_lconst (v := (0 : Int64)) hx hb dX_testSkips_43 (by decide) ?_
    refine W.lcmp hx hb dX_testSkips_44 ?_
    refine lv_if_eq (tgt := 52) hx hb dX_testSkips_45 (by decide) (fun hc45 => ?_) (fun hc45 => ?_)
    · rw [if_pos hc45] at hfin
      refine lv_iconst (v := (0 : Int32)) hx hb dX_testSkips_52 (by decide) ?_
      exact g_zretP X hr hlk rfl hfin dX_testSkips_53
    rw [if_neg hc45] at hfin
    refine lv_iconst (v := (1 : Int32)) hx hb dX_testSkips_48 (by decide) ?_
    refine lv_goto (tgt := 53) hx hb dX_testSkips_49 (by decide) ?_
    exact g_zretP X hr hlk rfl hfin dX_testSkips_53
  rw [if_neg hk1_2] at hfin
  have hn1_0 := i32_ne (1 : Int32) 1 (by decide) hk1_0
  have hn1_1 := i32_ne (2 : Int32) 2 (by decide) hk1_1
  have hn1_2 := i32_ne (3 : Int32) 3 (by decide) hk1_2
  refine lv_tableOut hx hb dX_testSkips_1 (tgt := 54) (by omega) (by decide) ?_
  refine lv_iconst (v := (0 : Int32)) hx hb dX_testSkips_54 (by decide) ?_
  exact g_zretP X hr hlk rfl hfin dX_testSkips_55
set_option maxHeartbeats 4000000 in
set_option maxRecDepth 100000 in
theorem ctx_maskedChange (l : Launch) (a0 : Int32) (a1 : Int64) (a2 : Int64) : gPl l yX_maskedChange wX_maskedChange (rmF 0 0) [.int a0, .long a1, .long a2] (x_maskedChange a0 a1 a2) := by
  obtain ⟨z, hz⟩ : ∃ z, z = x_maskedChange a0 a1 a2 := ⟨_, rfl⟩
  rw [← hz]
  have hfin := hz.symm
  clear hz
  refine g_start (plainFor_of_name (by decide)) (Nat.le_of_ble_eq_true rfl) ?_
  intro p e s0 m args below meth c ls X hr hlk hB hl
  have hl : lv_has ls 5 [(0, .int a0), (1, .long a1), (3, .long a2)] := hl
  have hx := X.1
  have hb := X.2.1
  rw [x_maskedChange] at hfin
  refine lv_iload_n hx hb dX_maskedChange_0 rfl (lv_at hl 0 rfl) ?_
  by_cases hk1_0 : a0 = (1 : Int32)
  · rw [if_pos hk1_0] at hfin
    refine lv_tableIn hx hb dX_maskedChange_1 (off := 27) (tgt := 28) (by rw [hk1_0]; decide) (by rw [hk1_0]; decide) (by rw [hk1_0]; rfl) (by decide) ?_
    refine lv_lload_n hx hb dX_maskedChange_28 rfl (lv_at hl 1 rfl) ?_
    refine lv_lload_n hx hb dX_maskedChange_29 rfl (lv_at hl 2 rfl) ?_
    refine lv_ldc2 hx hb X.2.2.2.1 (X.2.2.2.2 _ hkX_19) dX_maskedChange_30 ?_
    refine lv_lxor hx hb dX_maskedChange_33 ?_
    refine lv_land hx hb dX_maskedChange_34 ?_
    exact g_lretP X hr hlk hfin dX_maskedChange_35
  rw [if_neg hk1_0] at hfin
  by_cases hk1_1 : a0 = (2 : Int32)
  · rw [if_pos hk1_1] at hfin
    refine lv_tableIn hx hb dX_maskedChange_1 (off := 35) (tgt := 36) (by rw [hk1_1]; decide) (by rw [hk1_1]; decide) (by rw [hk1_1]; rfl) (by decide) ?_
    refine lv_lload_n hx hb dX_maskedChange_36 rfl (lv_at hl 1 rfl) ?_
    refine lv_lload_n hx hb dX_maskedChange_37 rfl (lv_at hl 2 rfl) ?_
    refine lv_lxor hx hb dX_maskedChange_38 ?_
    exact g_lretP X hr hlk hfin dX_maskedChange_39
  rw [if_neg hk1_1] at hfin
  by_cases hk1_2 : a0 = (3 : Int32)
  · rw [if_pos hk1_2] at hfin
    refine lv_tableIn hx hb dX_maskedChange_1 (off := 39) (tgt := 40) (by rw [hk1_2]; decide) (by rw [hk1_2]; decide) (by rw [hk1_2]; rfl) (by decide) ?_
    refine lv_lload_n hx hb dX_maskedChange_40 rfl (lv_at hl 1 rfl) ?_
    refine lv_lload_n hx hb dX_maskedChange_41 rfl (lv_at hl 2 rfl) ?_
    refine lv_lor hx hb dX_maskedChange_42 ?_
    exact g_lretP X hr hlk hfin dX_maskedChange_43
  rw [if_neg hk1_2] at hfin
  have hn1_0 := i32_ne (1 : Int32) 1 (by decide) hk1_0
  have hn1_1 := i32_ne (2 : Int32) 2 (by decide) hk1_1
  have hn1_2 := i32_ne (3 : Int32) 3 (by decide) hk1_2
  refine lv_tableOut hx hb dX_maskedChange_1 (tgt := 44) (by omega) (by decide) ?_
  refine lv_lload_n hx hb dX_maskedChange_44 rfl (lv_at hl 1 rfl) ?_
  exact g_lretP X hr hlk hfin dX_maskedChange_45
set_option maxHeartbeats 4000000 in
set_option maxRecDepth 100000 in
theorem ctx_test (l : Launch) (D : va_G) (cA : ClassId) (o q : Nat) (hne : va_nd [o, q] = true) (u : XS) (a0 : Int32) (a1 : Int32) (a2 : Int32) (z : XS) (hfin : x_test u a0 a1 a2 = some z) : gMv l yX_test wX_test (rmF 2 44) D [(cA, .long)] (XW cA o q) (XA o q) [.ref o, .int a0, .int a1, .int a2] u z := by
  refine g_start (plainFor_of_name (by decide)) (Nat.le_of_ble_eq_true rfl) ?_
  intro p e s0 m args below meth c ls X hr hlk hB hl
  obtain ⟨hP0, hK⟩ := hB
  have hI : gI D (XW cA o q) (XA o q) s0.heap s0.heap [] u := ⟨hP0, va_S.rf⟩
  have hl : lv_has ls 8 [(0, .ref o), (1, .int a0), (2, .int a1), (3, .int a2)] := hl
  have hx := X.1
  have hb := X.2.1
  have B_32 : ∀ (u : XS) (v4 : Int64) (H : Heap) (locs : List Loc) (ls : Array Slot), lv_has ls 8 [(0, .ref o), (1, .int a0), (2, .int a1), (3, .int a2), (4, .long v4)] → gI D (XW cA o q) (XA o q) s0.heap H locs u → x_test_32 a0 a1 a2 u v4 = some z → W p l e (rmF 2 44) s0 m args below meth c H locs 0 0 (MQ below (va_Qv (fun x => x = z) (gB D [(cA, .long)] (XW cA o q)) (XA o q)) args s0 0 0 (XA o q)) (F0 m 32 ls []) := by
    intro u v4 H locs ls hl hI hfin
    rw [x_test_32] at hfin
    refine lv_aload_n hx hb dX_test_32 rfl (lv_at hl 0 rfl) ?_
    refine xg_words X hK hI.1 dX_test_33 ?_
    refine lv_iload_n hx hb dX_test_36 rfl (lv_at hl 2 rfl) ?_
    obtain ⟨hd37, hfin⟩ := ck_if hfin
    refine xl_words X hK hI.1 hd37 dX_test_37 ?_
    refine lv_topl (fun x38 e38 => ?_)
    replace hfin := nm_at hfin e38
    refine lv_lstore (lv' := [(6, .long x38), (0, .ref o), (1, .int a0), (2, .int a1), (3, .int a2), (4, .long v4)]) hx hb dX_test_38 hl (by decide) rfl (fun ls hl => ?_)
    refine lv_aload_n hx hb dX_test_40 rfl (lv_at hl 1 rfl) ?_
    refine lv_iload_n hx hb dX_test_41 rfl (lv_at hl 2 rfl) ?_
    refine lv_iconst (v := (1 : Int32)) hx hb dX_test_42 (by decide) ?_
    refine lv_ishr hx hb dX_test_43 ?_
    refine lv_iconst (v := (3 : Int32)) hx hb dX_test_44 (by decide) ?_
    refine lv_iand hx hb dX_test_45 ?_
    refine lv_lload hx hb dX_test_46 (lv_at hl 0 rfl) ?_
    refine lv_lload hx hb dX_test_48 (lv_at hl 5 rfl) ?_
    refine lv_land hx hb dX_test_50 ?_
    refine g_callPi [.int ((a0 >>> ((1 : Int32) &&& 31)) &&& (3 : Int32)), .long (x38 &&& v4)] [.ref o] X (ctx_testSkips l ((a0 >>> ((1 : Int32) &&& 31)) &&& (3 : Int32)) (x38 &&& v4)) (cwX_X_testSkips X.2.2.2.2 ⟨Nat.le_of_ble_eq_true rfl, Nat.le_of_ble_eq_true rfl⟩) rfl hl.1 rfl (Nat.le_of_ble_eq_true rfl) dX_test_51 ?_
    obtain ⟨z54, hz54, hfin⟩ := bd_ob hfin
    refine g_callMv [.int (x_testSkips ((a0 >>> ((1 : Int32) &&& 31)) &&& (3 : Int32)) (x38 &&& v4))] [] X hK x_rcv hI (ctx_skipIf l D cA o q hne u (x_testSkips ((a0 >>> ((1 : Int32) &&& 31)) &&& (3 : Int32)) (x38 &&& v4)) z54 hz54) (cwX_X_skipIf X.2.2.2.2 ⟨Nat.le_of_ble_eq_true rfl, Nat.le_of_ble_eq_true rfl⟩) rfl hl.1 rfl (Nat.le_of_ble_eq_true rfl) dX_test_54 (fun H locs hI => ?_)
    refine lv_aload_n hx hb dX_test_57 rfl (lv_at hl 1 rfl) ?_
    refine lv_iload_n hx hb dX_test_58 rfl (lv_at hl 3 rfl) ?_
    refine lv_iload_n hx hb dX_test_59 rfl (lv_at hl 2 rfl) ?_
    refine lv_iconst (v := (4 : Int32)) hx hb dX_test_60 (by decide) ?_
    refine lv_ishr hx hb dX_test_61 ?_
    refine lv_iconst (v := (3 : Int32)) hx hb dX_test_62 (by decide) ?_
    refine lv_iand hx hb dX_test_63 ?_
    refine lv_lload hx hb dX_test_64 (lv_at hl 0 rfl) ?_
    refine lv_lload hx hb dX_test_66 (lv_at hl 5 rfl) ?_
    refine g_callPl [.int ((a0 >>> ((4 : Int32) &&& 31)) &&& (3 : Int32)), .long x38, .long v4] [.int a1, .ref o] X (ctx_maskedChange l ((a0 >>> ((4 : Int32) &&& 31)) &&& (3 : Int32)) x38 v4) (cwX_X_maskedChange X.2.2.2.2 ⟨Nat.le_of_ble_eq_true rfl, Nat.le_of_ble_eq_true rfl⟩) rfl hl.1 rfl (Nat.le_of_ble_eq_true rfl) dX_test_68 ?_
    obtain ⟨z71, hz71, hfin⟩ := bd_ob hfin
    refine g_callMv [.int a1, .long (x_maskedChange ((a0 >>> ((4 : Int32) &&& 31)) &&& (3 : Int32)) x38 v4)] [] X hK x_rcv hI (ctx_setAccumulator l D cA o q hne z54 a1 (x_maskedChange ((a0 >>> ((4 : Int32) &&& 31)) &&& (3 : Int32)) x38 v4) z71 hz71) (cwX_X_setAccumulator X.2.2.2.2 ⟨Nat.le_of_ble_eq_true rfl, Nat.le_of_ble_eq_true rfl⟩) rfl hl.1 rfl (Nat.le_of_ble_eq_true rfl) dX_test_71 (fun H locs hI => ?_)
    exact g_vret X hr hlk hK hI hfin dX_test_74
  have B_17 : ∀ (u : XS) (t0 : Int64) (H : Heap) (locs : List Loc) (ls : Array Slot), lv_has ls 8 [(0, .ref o), (1, .int a0), (2, .int a1), (3, .int a2)] → gI D (XW cA o q) (XA o q) s0.heap H locs u → x_test_17 a0 a1 a2 u t0 = some z → W p l e (rmF 2 44) s0 m args below meth c H locs 0 0 (MQ below (va_Qv (fun x => x = z) (gB D [(cA, .long)] (XW cA o q)) (XA o q)) args s0 0 0 (XA o q)) (F0 m 17 ls [.long t0]) := by
    intro u t0 H locs ls hl hI hfin
    rw [x_test_17] at hfin
    refine lv_lstore (lv' := [(4, .long t0), (0, .ref o), (1, .int a0), (2, .int a1), (3, .int a2)]) hx hb dX_test_17 hl (by decide) rfl (fun ls hl => ?_)
    refine lv_iload_n hx hb dX_test_19 rfl (lv_at hl 2 rfl) ?_
    refine lv_iconst (v := (1 : Int32)) hx hb dX_test_20 (by decide) ?_
    refine lv_iand hx hb dX_test_21 ?_
    refine lv_if_eq (tgt := 32) hx hb dX_test_22 (by decide) (fun hc22 => ?_) (fun hc22 => ?_)
    · rw [if_pos hc22] at hfin
      exact B_32 u t0 H locs ls (lv_sub hl [1, 2, 3, 4, 0] rfl) hI hfin
    rw [if_neg hc22] at hfin
    refine lv_lload hx hb dX_test_25 (lv_at hl 0 rfl) ?_
    refine g_callPl [.long t0] [] X (ctx_swapped l t0) (cwX_X_swapped X.2.2.2.2 ⟨Nat.le_of_ble_eq_true rfl, Nat.le_of_ble_eq_true rfl⟩) rfl hl.1 rfl (Nat.le_of_ble_eq_true rfl) dX_test_27 ?_
    refine lv_topl (fun x30 e30 => ?_)
    replace hfin := nm_at hfin e30
    refine lv_lstore (lv' := [(4, .long x30), (0, .ref o), (1, .int a0), (2, .int a1), (3, .int a2)]) hx hb dX_test_30 hl (by decide) rfl (fun ls hl => ?_)
    exact B_32 u x30 H locs ls (lv_sub hl [1, 2, 3, 4, 0] rfl) hI hfin
  rw [x_test] at hfin
  refine lv_iload_n hx hb dX_test_0 rfl (lv_at hl 1 rfl) ?_
  refine lv_bipush (v := (8 : Int32)) hx hb dX_test_1 (by decide) ?_
  refine lv_iand hx hb dX_test_3 ?_
  refine lv_if_eq (tgt := 15) hx hb dX_test_4 (by decide) (fun hc4 => ?_) (fun hc4 => ?_)
  · rw [if_pos hc4] at hfin
    refine lv_iload_n hx hb dX_test_15 rfl (lv_at hl 3 rfl) ?_
    refine lv_i2l hx hb dX_test_16 rfl ?_
    exact B_17 u (a2.toInt64) s0.heap [] ls (lv_sub hl [0, 1, 2, 3] rfl) hI hfin
  rw [if_neg hc4] at hfin
  refine lv_aload_n hx hb dX_test_7 rfl (lv_at hl 0 rfl) ?_
  refine lv_iload_n hx hb dX_test_8 rfl (lv_at hl 3 rfl) ?_
  obtain ⟨z9, hz9, hfin⟩ := bd_ob hfin
  refine g_callMl [.int a2] [] X hK x_rcv hI (ctx_read l D cA o q hne u a2 z9 hz9) (cwX_X_read X.2.2.2.2 ⟨Nat.le_of_ble_eq_true rfl, Nat.le_of_ble_eq_true rfl⟩) rfl hl.1 rfl (Nat.le_of_ble_eq_true rfl) dX_test_9 (fun H locs hI => ?_)
  refine lv_goto (tgt := 17) hx hb dX_test_12 (by decide) ?_
  exact B_17 z9.2 z9.1 H locs ls (lv_sub hl [0, 1, 2, 3] rfl) hI hfin
set_option maxHeartbeats 4000000 in
set_option maxRecDepth 100000 in
theorem ctx_carryOut (l : Launch) (D : va_G) (cA : ClassId) (o q : Nat) (hne : va_nd [o, q] = true) (u : XS) (a0 : Int32) (a1 : Int32) (a2 : Int32) (z : XS) (hfin : x_carryOut u a0 a1 a2 = some z) : gMv l yX_carryOut wX_carryOut (rmF 5 122) D [(cA, .long)] (XW cA o q) (XA o q) [.ref o, .int a0, .int a1, .int a2] u z := by
  refine g_start (plainFor_of_name (by decide)) (Nat.le_of_ble_eq_true rfl) ?_
  intro p e s0 m args below meth c ls X hr hlk hB hl
  obtain ⟨hP0, hK⟩ := hB
  have hI : gI D (XW cA o q) (XA o q) s0.heap s0.heap [] u := ⟨hP0, va_S.rf⟩
  have hl : lv_has ls 4 [(0, .ref o), (1, .int a0), (2, .int a1), (3, .int a2)] := hl
  have hx := X.1
  have hb := X.2.1
  rw [x_carryOut] at hfin
  refine lv_iload_n hx hb dX_carryOut_0 rfl (lv_at hl 1 rfl) ?_
  refine lv_iconst (v := (3 : Int32)) hx hb dX_carryOut_1 (by decide) ?_
  refine lv_ishr hx hb dX_carryOut_2 ?_
  by_cases hk3_0 : (a0 >>> ((3 : Int32) &&& 31)) = (11 : Int32)
  · rw [if_pos hk3_0] at hfin
    refine lv_tableIn hx hb dX_carryOut_3 (off := 65) (tgt := 68) (by rw [hk3_0]; decide) (by rw [hk3_0]; decide) (by rw [hk3_0]; rfl) (by decide) ?_
    refine lv_aload_n hx hb dX_carryOut_68 rfl (lv_at hl 0 rfl) ?_
    refine lv_iload_n hx hb dX_carryOut_69 rfl (lv_at hl 1 rfl) ?_
    refine lv_iload_n hx hb dX_carryOut_70 rfl (lv_at hl 2 rfl) ?_
    refine lv_iload_n hx hb dX_carryOut_71 rfl (lv_at hl 3 rfl) ?_
    obtain ⟨z72, hz72, hfin⟩ := bd_ob hfin
    refine g_callMv [.int a0, .int a1, .int a2] [] X hK x_rcv hI (ctx_bytes l D cA o q hne u a0 a1 a2 z72 hz72) (cwX_X_bytes X.2.2.2.2 ⟨Nat.le_of_ble_eq_true rfl, Nat.le_of_ble_eq_true rfl⟩) rfl hl.1 rfl (Nat.le_of_ble_eq_true rfl) dX_carryOut_72 (fun H locs hI => ?_)
    exact g_vret X hr hlk hK hI hfin dX_carryOut_75
  rw [if_neg hk3_0] at hfin
  by_cases hk3_1 : (a0 >>> ((3 : Int32) &&& 31)) = (12 : Int32)
  · rw [if_pos hk3_1] at hfin
    refine lv_tableIn hx hb dX_carryOut_3 (off := 129) (tgt := 132) (by rw [hk3_1]; decide) (by rw [hk3_1]; decide) (by rw [hk3_1]; rfl) (by decide) ?_
    refine lv_iload_n hx hb dX_carryOut_132 rfl (lv_at hl 1 rfl) ?_
    refine lv_bipush (v := (6 : Int32)) hx hb dX_carryOut_133 (by decide) ?_
    refine lv_ishr hx hb dX_carryOut_135 ?_
    by_cases hk136_0 : (a0 >>> ((6 : Int32) &&& 31)) = (3 : Int32)
    · rw [if_pos hk136_0] at hfin
      refine lv_tableIn hx hb dX_carryOut_136 (off := 32) (tgt := 168) (by rw [hk136_0]; decide) (by rw [hk136_0]; decide) (by rw [hk136_0]; rfl) (by decide) ?_
      refine lv_aload_n hx hb dX_carryOut_168 rfl (lv_at hl 0 rfl) ?_
      refine lv_iload_n hx hb dX_carryOut_169 rfl (lv_at hl 1 rfl) ?_
      refine lv_iload_n hx hb dX_carryOut_170 rfl (lv_at hl 2 rfl) ?_
      refine lv_iload_n hx hb dX_carryOut_171 rfl (lv_at hl 3 rfl) ?_
      obtain ⟨z172, hz172, hfin⟩ := bd_ob hfin
      refine g_callMv [.int a0, .int a1, .int a2] [] X hK x_rcv hI (ctx_compare l D cA o q hne u a0 a1 a2 z172 hz172) (cwX_X_compare X.2.2.2.2 ⟨Nat.le_of_ble_eq_true rfl, Nat.le_of_ble_eq_true rfl⟩) rfl hl.1 rfl (Nat.le_of_ble_eq_true rfl) dX_carryOut_172 (fun H locs hI => ?_)
      exact g_vret X hr hlk hK hI hfin dX_carryOut_175
    rw [if_neg hk136_0] at hfin
    by_cases hk136_1 : (a0 >>> ((6 : Int32) &&& 31)) = (4 : Int32)
    · rw [if_pos hk136_1] at hfin
      refine lv_tableIn hx hb dX_carryOut_136 (off := 40) (tgt := 176) (by rw [hk136_1]; decide) (by rw [hk136_1]; decide) (by rw [hk136_1]; rfl) (by decide) ?_
      refine lv_aload_n hx hb dX_carryOut_176 rfl (lv_at hl 0 rfl) ?_
      refine lv_iload_n hx hb dX_carryOut_177 rfl (lv_at hl 1 rfl) ?_
      refine lv_iload_n hx hb dX_carryOut_178 rfl (lv_at hl 2 rfl) ?_
      refine lv_iload_n hx hb dX_carryOut_179 rfl (lv_at hl 3 rfl) ?_
      obtain ⟨z180, hz180, hfin⟩ := bd_ob hfin
      refine g_callMv [.int a0, .int a1, .int a2] [] X hK x_rcv hI (ctx_logic l D cA o q hne u a0 a1 a2 z180 hz180) (cwX_X_logic X.2.2.2.2 ⟨Nat.le_of_ble_eq_true rfl, Nat.le_of_ble_eq_true rfl⟩) rfl hl.1 rfl (Nat.le_of_ble_eq_true rfl) dX_carryOut_180 (fun H locs hI => ?_)
      exact g_vret X hr hlk hK hI hfin dX_carryOut_183
    rw [if_neg hk136_1] at hfin
    by_cases hk136_2 : (a0 >>> ((6 : Int32) &&& 31)) = (5 : Int32)
    · rw [if_pos hk136_2] at hfin
      refine lv_tableIn hx hb dX_carryOut_136 (off := 48) (tgt := 184) (by rw [hk136_2]; decide) (by rw [hk136_2]; decide) (by rw [hk136_2]; rfl) (by decide) ?_
      refine lv_aload_n hx hb dX_carryOut_184 rfl (lv_at hl 0 rfl) ?_
      refine lv_iload_n hx hb dX_carryOut_185 rfl (lv_at hl 1 rfl) ?_
      refine lv_iload_n hx hb dX_carryOut_186 rfl (lv_at hl 2 rfl) ?_
      refine lv_iload_n hx hb dX_carryOut_187 rfl (lv_at hl 3 rfl) ?_
      obtain ⟨z188, hz188, hfin⟩ := bd_ob hfin
      refine g_callMv [.int a0, .int a1, .int a2] [] X hK x_rcv hI (ctx_halves l D cA o q hne u a0 a1 a2 z188 hz188) (cwX_X_halves X.2.2.2.2 ⟨Nat.le_of_ble_eq_true rfl, Nat.le_of_ble_eq_true rfl⟩) rfl hl.1 rfl (Nat.le_of_ble_eq_true rfl) dX_carryOut_188 (fun H locs hI => ?_)
      exact g_vret X hr hlk hK hI hfin dX_carryOut_191
    rw [if_neg hk136_2] at hfin
    by_cases hk136_3 : (a0 >>> ((6 : Int32) &&& 31)) = (6 : Int32)
    · rw [if_pos hk136_3] at hfin
      refine lv_tableIn hx hb dX_carryOut_136 (off := 56) (tgt := 192) (by rw [hk136_3]; decide) (by rw [hk136_3]; decide) (by rw [hk136_3]; rfl) (by decide) ?_
      refine lv_aload_n hx hb dX_carryOut_192 rfl (lv_at hl 0 rfl) ?_
      refine lv_iload_n hx hb dX_carryOut_193 rfl (lv_at hl 1 rfl) ?_
      refine lv_iload_n hx hb dX_carryOut_194 rfl (lv_at hl 2 rfl) ?_
      refine lv_iload_n hx hb dX_carryOut_195 rfl (lv_at hl 3 rfl) ?_
      obtain ⟨z196, hz196, hfin⟩ := bd_ob hfin
      refine g_callMv [.int a0, .int a1, .int a2] [] X hK x_rcv hI (ctx_test l D cA o q hne u a0 a1 a2 z196 hz196) (cwX_X_test X.2.2.2.2 ⟨Nat.le_of_ble_eq_true rfl, Nat.le_of_ble_eq_true rfl⟩) rfl hl.1 rfl (Nat.le_of_ble_eq_true rfl) dX_carryOut_196 (fun H locs hI => ?_)
      exact g_vret X hr hlk hK hI hfin dX_carryOut_199
    rw [if_neg hk136_3] at hfin
    have hn136_0 := i32_ne (3 : Int32) 3 (by decide) hk136_0
    have hn136_1 := i32_ne (4 : Int32) 4 (by decide) hk136_1
    have hn136_2 := i32_ne (5 : Int32) 5 (by decide) hk136_2
    have hn136_3 := i32_ne (6 : Int32) 6 (by decide) hk136_3
    refine lv_tableOut hx hb dX_carryOut_136 (tgt := 200) (by omega) (by decide) ?_
    refine lv_aload_n hx hb dX_carryOut_200 rfl (lv_at hl 0 rfl) ?_
    refine lv_iconst (v := (2 : Int32)) hx hb dX_carryOut_201 (by decide) ?_
    obtain ⟨z202, hz202, hfin⟩ := bd_ob hfin
    refine g_callMv [.int (2 : Int32)] [] X hK x_rcv hI (ctx_raise l D cA o q hne u (2 : Int32) z202 hz202) (cwX_X_raise X.2.2.2.2 ⟨Nat.le_of_ble_eq_true rfl, Nat.le_of_ble_eq_true rfl⟩) rfl hl.1 rfl (Nat.le_of_ble_eq_true rfl) dX_carryOut_202 (fun H locs hI => ?_)
    exact g_vret X hr hlk hK hI hfin dX_carryOut_205
  rw [if_neg hk3_1] at hfin
  by_cases hk3_2 : (a0 >>> ((3 : Int32) &&& 31)) = (13 : Int32)
  · rw [if_pos hk3_2] at hfin
    refine lv_tableIn hx hb dX_carryOut_3 (off := 129) (tgt := 132) (by rw [hk3_2]; decide) (by rw [hk3_2]; decide) (by rw [hk3_2]; rfl) (by decide) ?_
    refine lv_iload_n hx hb dX_carryOut_132 rfl (lv_at hl 1 rfl) ?_
    refine lv_bipush (v := (6 : Int32)) hx hb dX_carryOut_133 (by decide) ?_
    refine lv_ishr hx hb dX_carryOut_135 ?_
    by_cases hk136_0 : (a0 >>> ((6 : Int32) &&& 31)) = (3 : Int32)
    · rw [if_pos hk136_0] at hfin
      refine lv_tableIn hx hb dX_carryOut_136 (off := 32) (tgt := 168) (by rw [hk136_0]; decide) (by rw [hk136_0]; decide) (by rw [hk136_0]; rfl) (by decide) ?_
      refine lv_aload_n hx hb dX_carryOut_168 rfl (lv_at hl 0 rfl) ?_
      refine lv_iload_n hx hb dX_carryOut_169 rfl (lv_at hl 1 rfl) ?_
      refine lv_iload_n hx hb dX_carryOut_170 rfl (lv_at hl 2 rfl) ?_
      refine lv_iload_n hx hb dX_carryOut_171 rfl (lv_at hl 3 rfl) ?_
      obtain ⟨z172, hz172, hfin⟩ := bd_ob hfin
      refine g_callMv [.int a0, .int a1, .int a2] [] X hK x_rcv hI (ctx_compare l D cA o q hne u a0 a1 a2 z172 hz172) (cwX_X_compare X.2.2.2.2 ⟨Nat.le_of_ble_eq_true rfl, Nat.le_of_ble_eq_true rfl⟩) rfl hl.1 rfl (Nat.le_of_ble_eq_true rfl) dX_carryOut_172 (fun H locs hI => ?_)
      exact g_vret X hr hlk hK hI hfin dX_carryOut_175
    rw [if_neg hk136_0] at hfin
    by_cases hk136_1 : (a0 >>> ((6 : Int32) &&& 31)) = (4 : Int32)
    · rw [if_pos hk136_1] at hfin
      refine lv_tableIn hx hb dX_carryOut_136 (off := 40) (tgt := 176) (by rw [hk136_1]; decide) (by rw [hk136_1]; decide) (by rw [hk136_1]; rfl) (by decide) ?_
      refine lv_aload_n hx hb dX_carryOut_176 rfl (lv_at hl 0 rfl) ?_
      refine lv_iload_n hx hb dX_carryOut_177 rfl (lv_at hl 1 rfl) ?_
      refine lv_iload_n hx hb dX_carryOut_178 rfl (lv_at hl 2 rfl) ?_
      refine lv_iload_n hx hb dX_carryOut_179 rfl (lv_at hl 3 rfl) ?_
      obtain ⟨z180, hz180, hfin⟩ := bd_ob hfin
      refine g_callMv [.int a0, .int a1, .int a2] [] X hK x_rcv hI (ctx_logic l D cA o q hne u a0 a1 a2 z180 hz180) (cwX_X_logic X.2.2.2.2 ⟨Nat.le_of_ble_eq_true rfl, Nat.le_of_ble_eq_true rfl⟩) rfl hl.1 rfl (Nat.le_of_ble_eq_true rfl) dX_carryOut_180 (fun H locs hI => ?_)
      exact g_vret X hr hlk hK hI hfin dX_carryOut_183
    rw [if_neg hk136_1] at hfin
    by_cases hk136_2 : (a0 >>> ((6 : Int32) &&& 31)) = (5 : Int32)
    · rw [if_pos hk136_2] at hfin
      refine lv_tableIn hx hb dX_carryOut_136 (off := 48) (tgt := 184) (by rw [hk136_2]; decide) (by rw [hk136_2]; decide) (by rw [hk136_2]; rfl) (by decide) ?_
      refine lv_aload_n hx hb dX_carryOut_184 rfl (lv_at hl 0 rfl) ?_
      refine lv_iload_n hx hb dX_carryOut_185 rfl (lv_at hl 1 rfl) ?_
      refine lv_iload_n hx hb dX_carryOut_186 rfl (lv_at hl 2 rfl) ?_
      refine lv_iload_n hx hb dX_carryOut_187 rfl (lv_at hl 3 rfl) ?_
      obtain ⟨z188, hz188, hfin⟩ := bd_ob hfin
      refine g_callMv [.int a0, .int a1, .int a2] [] X hK x_rcv hI (ctx_halves l D cA o q hne u a0 a1 a2 z188 hz188) (cwX_X_halves X.2.2.2.2 ⟨Nat.le_of_ble_eq_true rfl, Nat.le_of_ble_eq_true rfl⟩) rfl hl.1 rfl (Nat.le_of_ble_eq_true rfl) dX_carryOut_188 (fun H locs hI => ?_)
      exact g_vret X hr hlk hK hI hfin dX_carryOut_191
    rw [if_neg hk136_2] at hfin
    by_cases hk136_3 : (a0 >>> ((6 : Int32) &&& 31)) = (6 : Int32)
    · rw [if_pos hk136_3] at hfin
      refine lv_tableIn hx hb dX_carryOut_136 (off := 56) (tgt := 192) (by rw [hk136_3]; decide) (by rw [hk136_3]; decide) (by rw [hk136_3]; rfl) (by decide) ?_
      refine lv_aload_n hx hb dX_carryOut_192 rfl (lv_at hl 0 rfl) ?_
      refine lv_iload_n hx hb dX_carryOut_193 rfl (lv_at hl 1 rfl) ?_
      refine lv_iload_n hx hb dX_carryOut_194 rfl (lv_at hl 2 rfl) ?_
      refine lv_iload_n hx hb dX_carryOut_195 rfl (lv_at hl 3 rfl) ?_
      obtain ⟨z196, hz196, hfin⟩ := bd_ob hfin
      refine g_callMv [.int a0, .int a1, .int a2] [] X hK x_rcv hI (ctx_test l D cA o q hne u a0 a1 a2 z196 hz196) (cwX_X_test X.2.2.2.2 ⟨Nat.le_of_ble_eq_true rfl, Nat.le_of_ble_eq_true rfl⟩) rfl hl.1 rfl (Nat.le_of_ble_eq_true rfl) dX_carryOut_196 (fun H locs hI => ?_)
      exact g_vret X hr hlk hK hI hfin dX_carryOut_199
    rw [if_neg hk136_3] at hfin
    have hn136_0 := i32_ne (3 : Int32) 3 (by decide) hk136_0
    have hn136_1 := i32_ne (4 : Int32) 4 (by decide) hk136_1
    have hn136_2 := i32_ne (5 : Int32) 5 (by decide) hk136_2
    have hn136_3 := i32_ne (6 : Int32) 6 (by decide) hk136_3
    refine lv_tableOut hx hb dX_carryOut_136 (tgt := 200) (by omega) (by decide) ?_
    refine lv_aload_n hx hb dX_carryOut_200 rfl (lv_at hl 0 rfl) ?_
    refine lv_iconst (v := (2 : Int32)) hx hb dX_carryOut_201 (by decide) ?_
    obtain ⟨z202, hz202, hfin⟩ := bd_ob hfin
    refine g_callMv [.int (2 : Int32)] [] X hK x_rcv hI (ctx_raise l D cA o q hne u (2 : Int32) z202 hz202) (cwX_X_raise X.2.2.2.2 ⟨Nat.le_of_ble_eq_true rfl, Nat.le_of_ble_eq_true rfl⟩) rfl hl.1 rfl (Nat.le_of_ble_eq_true rfl) dX_carryOut_202 (fun H locs hI => ?_)
    exact g_vret X hr hlk hK hI hfin dX_carryOut_205
  rw [if_neg hk3_2] at hfin
  by_cases hk3_3 : (a0 >>> ((3 : Int32) &&& 31)) = (14 : Int32)
  · rw [if_pos hk3_3] at hfin
    refine lv_tableIn hx hb dX_carryOut_3 (off := 129) (tgt := 132) (by rw [hk3_3]; decide) (by rw [hk3_3]; decide) (by rw [hk3_3]; rfl) (by decide) ?_
    refine lv_iload_n hx hb dX_carryOut_132 rfl (lv_at hl 1 rfl) ?_
    refine lv_bipush (v := (6 : Int32)) hx hb dX_carryOut_133 (by decide) ?_
    refine lv_ishr hx hb dX_carryOut_135 ?_
    by_cases hk136_0 : (a0 >>> ((6 : Int32) &&& 31)) = (3 : Int32)
    · rw [if_pos hk136_0] at hfin
      refine lv_tableIn hx hb dX_carryOut_136 (off := 32) (tgt := 168) (by rw [hk136_0]; decide) (by rw [hk136_0]; decide) (by rw [hk136_0]; rfl) (by decide) ?_
      refine lv_aload_n hx hb dX_carryOut_168 rfl (lv_at hl 0 rfl) ?_
      refine lv_iload_n hx hb dX_carryOut_169 rfl (lv_at hl 1 rfl) ?_
      refine lv_iload_n hx hb dX_carryOut_170 rfl (lv_at hl 2 rfl) ?_
      refine lv_iload_n hx hb dX_carryOut_171 rfl (lv_at hl 3 rfl) ?_
      obtain ⟨z172, hz172, hfin⟩ := bd_ob hfin
      refine g_callMv [.int a0, .int a1, .int a2] [] X hK x_rcv hI (ctx_compare l D cA o q hne u a0 a1 a2 z172 hz172) (cwX_X_compare X.2.2.2.2 ⟨Nat.le_of_ble_eq_true rfl, Nat.le_of_ble_eq_true rfl⟩) rfl hl.1 rfl (Nat.le_of_ble_eq_true rfl) dX_carryOut_172 (fun H locs hI => ?_)
      exact g_vret X hr hlk hK hI hfin dX_carryOut_175
    rw [if_neg hk136_0] at hfin
    by_cases hk136_1 : (a0 >>> ((6 : Int32) &&& 31)) = (4 : Int32)
    · rw [if_pos hk136_1] at hfin
      refine lv_tableIn hx hb dX_carryOut_136 (off := 40) (tgt := 176) (by rw [hk136_1]; decide) (by rw [hk136_1]; decide) (by rw [hk136_1]; rfl) (by decide) ?_
      refine lv_aload_n hx hb dX_carryOut_176 rfl (lv_at hl 0 rfl) ?_
      refine lv_iload_n hx hb dX_carryOut_177 rfl (lv_at hl 1 rfl) ?_
      refine lv_iload_n hx hb dX_carryOut_178 rfl (lv_at hl 2 rfl) ?_
      refine lv_iload_n hx hb dX_carryOut_179 rfl (lv_at hl 3 rfl) ?_
      obtain ⟨z180, hz180, hfin⟩ := bd_ob hfin
      refine g_callMv [.int a0, .int a1, .int a2] [] X hK x_rcv hI (ctx_logic l D cA o q hne u a0 a1 a2 z180 hz180) (cwX_X_logic X.2.2.2.2 ⟨Nat.le_of_ble_eq_true rfl, Nat.le_of_ble_eq_true rfl⟩) rfl hl.1 rfl (Nat.le_of_ble_eq_true rfl) dX_carryOut_180 (fun H locs hI => ?_)
      exact g_vret X hr hlk hK hI hfin dX_carryOut_183
    rw [if_neg hk136_1] at hfin
    by_cases hk136_2 : (a0 >>> ((6 : Int32) &&& 31)) = (5 : Int32)
    · rw [if_pos hk136_2] at hfin
      refine lv_tableIn hx hb dX_carryOut_136 (off := 48) (tgt := 184) (by rw [hk136_2]; decide) (by rw [hk136_2]; decide) (by rw [hk136_2]; rfl) (by decide) ?_
      refine lv_aload_n hx hb dX_carryOut_184 rfl (lv_at hl 0 rfl) ?_
      refine lv_iload_n hx hb dX_carryOut_185 rfl (lv_at hl 1 rfl) ?_
      refine lv_iload_n hx hb dX_carryOut_186 rfl (lv_at hl 2 rfl) ?_
      refine lv_iload_n hx hb dX_carryOut_187 rfl (lv_at hl 3 rfl) ?_
      obtain ⟨z188, hz188, hfin⟩ := bd_ob hfin
      refine g_callMv [.int a0, .int a1, .int a2] [] X hK x_rcv hI (ctx_halves l D cA o q hne u a0 a1 a2 z188 hz188) (cwX_X_halves X.2.2.2.2 ⟨Nat.le_of_ble_eq_true rfl, Nat.le_of_ble_eq_true rfl⟩) rfl hl.1 rfl (Nat.le_of_ble_eq_true rfl) dX_carryOut_188 (fun H locs hI => ?_)
      exact g_vret X hr hlk hK hI hfin dX_carryOut_191
    rw [if_neg hk136_2] at hfin
    by_cases hk136_3 : (a0 >>> ((6 : Int32) &&& 31)) = (6 : Int32)
    · rw [if_pos hk136_3] at hfin
      refine lv_tableIn hx hb dX_carryOut_136 (off := 56) (tgt := 192) (by rw [hk136_3]; decide) (by rw [hk136_3]; decide) (by rw [hk136_3]; rfl) (by decide) ?_
      refine lv_aload_n hx hb dX_carryOut_192 rfl (lv_at hl 0 rfl) ?_
      refine lv_iload_n hx hb dX_carryOut_193 rfl (lv_at hl 1 rfl) ?_
      refine lv_iload_n hx hb dX_carryOut_194 rfl (lv_at hl 2 rfl) ?_
      refine lv_iload_n hx hb dX_carryOut_195 rfl (lv_at hl 3 rfl) ?_
      obtain ⟨z196, hz196, hfin⟩ := bd_ob hfin
      refine g_callMv [.int a0, .int a1, .int a2] [] X hK x_rcv hI (ctx_test l D cA o q hne u a0 a1 a2 z196 hz196) (cwX_X_test X.2.2.2.2 ⟨Nat.le_of_ble_eq_true rfl, Nat.le_of_ble_eq_true rfl⟩) rfl hl.1 rfl (Nat.le_of_ble_eq_true rfl) dX_carryOut_196 (fun H locs hI => ?_)
      exact g_vret X hr hlk hK hI hfin dX_carryOut_199
    rw [if_neg hk136_3] at hfin
    have hn136_0 := i32_ne (3 : Int32) 3 (by decide) hk136_0
    have hn136_1 := i32_ne (4 : Int32) 4 (by decide) hk136_1
    have hn136_2 := i32_ne (5 : Int32) 5 (by decide) hk136_2
    have hn136_3 := i32_ne (6 : Int32) 6 (by decide) hk136_3
    refine lv_tableOut hx hb dX_carryOut_136 (tgt := 200) (by omega) (by decide) ?_
    refine lv_aload_n hx hb dX_carryOut_200 rfl (lv_at hl 0 rfl) ?_
    refine lv_iconst (v := (2 : Int32)) hx hb dX_carryOut_201 (by decide) ?_
    obtain ⟨z202, hz202, hfin⟩ := bd_ob hfin
    refine g_callMv [.int (2 : Int32)] [] X hK x_rcv hI (ctx_raise l D cA o q hne u (2 : Int32) z202 hz202) (cwX_X_raise X.2.2.2.2 ⟨Nat.le_of_ble_eq_true rfl, Nat.le_of_ble_eq_true rfl⟩) rfl hl.1 rfl (Nat.le_of_ble_eq_true rfl) dX_carryOut_202 (fun H locs hI => ?_)
    exact g_vret X hr hlk hK hI hfin dX_carryOut_205
  rw [if_neg hk3_3] at hfin
  by_cases hk3_4 : (a0 >>> ((3 : Int32) &&& 31)) = (15 : Int32)
  · rw [if_pos hk3_4] at hfin
    refine lv_tableIn hx hb dX_carryOut_3 (off := 129) (tgt := 132) (by rw [hk3_4]; decide) (by rw [hk3_4]; decide) (by rw [hk3_4]; rfl) (by decide) ?_
    refine lv_iload_n hx hb dX_carryOut_132 rfl (lv_at hl 1 rfl) ?_
    refine lv_bipush (v := (6 : Int32)) hx hb dX_carryOut_133 (by decide) ?_
    refine lv_ishr hx hb dX_carryOut_135 ?_
    by_cases hk136_0 : (a0 >>> ((6 : Int32) &&& 31)) = (3 : Int32)
    · rw [if_pos hk136_0] at hfin
      refine lv_tableIn hx hb dX_carryOut_136 (off := 32) (tgt := 168) (by rw [hk136_0]; decide) (by rw [hk136_0]; decide) (by rw [hk136_0]; rfl) (by decide) ?_
      refine lv_aload_n hx hb dX_carryOut_168 rfl (lv_at hl 0 rfl) ?_
      refine lv_iload_n hx hb dX_carryOut_169 rfl (lv_at hl 1 rfl) ?_
      refine lv_iload_n hx hb dX_carryOut_170 rfl (lv_at hl 2 rfl) ?_
      refine lv_iload_n hx hb dX_carryOut_171 rfl (lv_at hl 3 rfl) ?_
      obtain ⟨z172, hz172, hfin⟩ := bd_ob hfin
      refine g_callMv [.int a0, .int a1, .int a2] [] X hK x_rcv hI (ctx_compare l D cA o q hne u a0 a1 a2 z172 hz172) (cwX_X_compare X.2.2.2.2 ⟨Nat.le_of_ble_eq_true rfl, Nat.le_of_ble_eq_true rfl⟩) rfl hl.1 rfl (Nat.le_of_ble_eq_true rfl) dX_carryOut_172 (fun H locs hI => ?_)
      exact g_vret X hr hlk hK hI hfin dX_carryOut_175
    rw [if_neg hk136_0] at hfin
    by_cases hk136_1 : (a0 >>> ((6 : Int32) &&& 31)) = (4 : Int32)
    · rw [if_pos hk136_1] at hfin
      refine lv_tableIn hx hb dX_carryOut_136 (off := 40) (tgt := 176) (by rw [hk136_1]; decide) (by rw [hk136_1]; decide) (by rw [hk136_1]; rfl) (by decide) ?_
      refine lv_aload_n hx hb dX_carryOut_176 rfl (lv_at hl 0 rfl) ?_
      refine lv_iload_n hx hb dX_carryOut_177 rfl (lv_at hl 1 rfl) ?_
      refine lv_iload_n hx hb dX_carryOut_178 rfl (lv_at hl 2 rfl) ?_
      refine lv_iload_n hx hb dX_carryOut_179 rfl (lv_at hl 3 rfl) ?_
      obtain ⟨z180, hz180, hfin⟩ := bd_ob hfin
      refine g_callMv [.int a0, .int a1, .int a2] [] X hK x_rcv hI (ctx_logic l D cA o q hne u a0 a1 a2 z180 hz180) (cwX_X_logic X.2.2.2.2 ⟨Nat.le_of_ble_eq_true rfl, Nat.le_of_ble_eq_true rfl⟩) rfl hl.1 rfl (Nat.le_of_ble_eq_true rfl) dX_carryOut_180 (fun H locs hI => ?_)
      exact g_vret X hr hlk hK hI hfin dX_carryOut_183
    rw [if_neg hk136_1] at hfin
    by_cases hk136_2 : (a0 >>> ((6 : Int32) &&& 31)) = (5 : Int32)
    · rw [if_pos hk136_2] at hfin
      refine lv_tableIn hx hb dX_carryOut_136 (off := 48) (tgt := 184) (by rw [hk136_2]; decide) (by rw [hk136_2]; decide) (by rw [hk136_2]; rfl) (by decide) ?_
      refine lv_aload_n hx hb dX_carryOut_184 rfl (lv_at hl 0 rfl) ?_
      refine lv_iload_n hx hb dX_carryOut_185 rfl (lv_at hl 1 rfl) ?_
      refine lv_iload_n hx hb dX_carryOut_186 rfl (lv_at hl 2 rfl) ?_
      refine lv_iload_n hx hb dX_carryOut_187 rfl (lv_at hl 3 rfl) ?_
      obtain ⟨z188, hz188, hfin⟩ := bd_ob hfin
      refine g_callMv [.int a0, .int a1, .int a2] [] X hK x_rcv hI (ctx_halves l D cA o q hne u a0 a1 a2 z188 hz188) (cwX_X_halves X.2.2.2.2 ⟨Nat.le_of_ble_eq_true rfl, Nat.le_of_ble_eq_true rfl⟩) rfl hl.1 rfl (Nat.le_of_ble_eq_true rfl) dX_carryOut_188 (fun H locs hI => ?_)
      exact g_vret X hr hlk hK hI hfin dX_carryOut_191
    rw [if_neg hk136_2] at hfin
    by_cases hk136_3 : (a0 >>> ((6 : Int32) &&& 31)) = (6 : Int32)
    · rw [if_pos hk136_3] at hfin
      refine lv_tableIn hx hb dX_carryOut_136 (off := 56) (tgt := 192) (by rw [hk136_3]; decide) (by rw [hk136_3]; decide) (by rw [hk136_3]; rfl) (by decide) ?_
      refine lv_aload_n hx hb dX_carryOut_192 rfl (lv_at hl 0 rfl) ?_
      refine lv_iload_n hx hb dX_carryOut_193 rfl (lv_at hl 1 rfl) ?_
      refine lv_iload_n hx hb dX_carryOut_194 rfl (lv_at hl 2 rfl) ?_
      refine lv_iload_n hx hb dX_carryOut_195 rfl (lv_at hl 3 rfl) ?_
      obtain ⟨z196, hz196, hfin⟩ := bd_ob hfin
      refine g_callMv [.int a0, .int a1, .int a2] [] X hK x_rcv hI (ctx_test l D cA o q hne u a0 a1 a2 z196 hz196) (cwX_X_test X.2.2.2.2 ⟨Nat.le_of_ble_eq_true rfl, Nat.le_of_ble_eq_true rfl⟩) rfl hl.1 rfl (Nat.le_of_ble_eq_true rfl) dX_carryOut_196 (fun H locs hI => ?_)
      exact g_vret X hr hlk hK hI hfin dX_carryOut_199
    rw [if_neg hk136_3] at hfin
    have hn136_0 := i32_ne (3 : Int32) 3 (by decide) hk136_0
    have hn136_1 := i32_ne (4 : Int32) 4 (by decide) hk136_1
    have hn136_2 := i32_ne (5 : Int32) 5 (by decide) hk136_2
    have hn136_3 := i32_ne (6 : Int32) 6 (by decide) hk136_3
    refine lv_tableOut hx hb dX_carryOut_136 (tgt := 200) (by omega) (by decide) ?_
    refine lv_aload_n hx hb dX_carryOut_200 rfl (lv_at hl 0 rfl) ?_
    refine lv_iconst (v := (2 : Int32)) hx hb dX_carryOut_201 (by decide) ?_
    obtain ⟨z202, hz202, hfin⟩ := bd_ob hfin
    refine g_callMv [.int (2 : Int32)] [] X hK x_rcv hI (ctx_raise l D cA o q hne u (2 : Int32) z202 hz202) (cwX_X_raise X.2.2.2.2 ⟨Nat.le_of_ble_eq_true rfl, Nat.le_of_ble_eq_true rfl⟩) rfl hl.1 rfl (Nat.le_of_ble_eq_true rfl) dX_carryOut_202 (fun H locs hI => ?_)
    exact g_vret X hr hlk hK hI hfin dX_carryOut_205
  rw [if_neg hk3_4] at hfin
  by_cases hk3_5 : (a0 >>> ((3 : Int32) &&& 31)) = (16 : Int32)
  · rw [if_pos hk3_5] at hfin
    refine lv_tableIn hx hb dX_carryOut_3 (off := 73) (tgt := 76) (by rw [hk3_5]; decide) (by rw [hk3_5]; decide) (by rw [hk3_5]; rfl) (by decide) ?_
    refine lv_aload_n hx hb dX_carryOut_76 rfl (lv_at hl 0 rfl) ?_
    refine lv_iload_n hx hb dX_carryOut_77 rfl (lv_at hl 1 rfl) ?_
    refine lv_iload_n hx hb dX_carryOut_78 rfl (lv_at hl 2 rfl) ?_
    refine lv_iload_n hx hb dX_carryOut_79 rfl (lv_at hl 3 rfl) ?_
    obtain ⟨z80, hz80, hfin⟩ := bd_ob hfin
    refine g_callMv [.int a0, .int a1, .int a2] [] X hK x_rcv hI (ctx_move l D cA o q hne u a0 a1 a2 z80 hz80) (cwX_X_move X.2.2.2.2 ⟨Nat.le_of_ble_eq_true rfl, Nat.le_of_ble_eq_true rfl⟩) rfl hl.1 rfl (Nat.le_of_ble_eq_true rfl) dX_carryOut_80 (fun H locs hI => ?_)
    exact g_vret X hr hlk hK hI hfin dX_carryOut_83
  rw [if_neg hk3_5] at hfin
  by_cases hk3_6 : (a0 >>> ((3 : Int32) &&& 31)) = (17 : Int32)
  · rw [if_pos hk3_6] at hfin
    refine lv_tableIn hx hb dX_carryOut_3 (off := 73) (tgt := 76) (by rw [hk3_6]; decide) (by rw [hk3_6]; decide) (by rw [hk3_6]; rfl) (by decide) ?_
    refine lv_aload_n hx hb dX_carryOut_76 rfl (lv_at hl 0 rfl) ?_
    refine lv_iload_n hx hb dX_carryOut_77 rfl (lv_at hl 1 rfl) ?_
    refine lv_iload_n hx hb dX_carryOut_78 rfl (lv_at hl 2 rfl) ?_
    refine lv_iload_n hx hb dX_carryOut_79 rfl (lv_at hl 3 rfl) ?_
    obtain ⟨z80, hz80, hfin⟩ := bd_ob hfin
    refine g_callMv [.int a0, .int a1, .int a2] [] X hK x_rcv hI (ctx_move l D cA o q hne u a0 a1 a2 z80 hz80) (cwX_X_move X.2.2.2.2 ⟨Nat.le_of_ble_eq_true rfl, Nat.le_of_ble_eq_true rfl⟩) rfl hl.1 rfl (Nat.le_of_ble_eq_true rfl) dX_carryOut_80 (fun H locs hI => ?_)
    exact g_vret X hr hlk hK hI hfin dX_carryOut_83
  rw [if_neg hk3_6] at hfin
  by_cases hk3_7 : (a0 >>> ((3 : Int32) &&& 31)) = (18 : Int32)
  · rw [if_pos hk3_7] at hfin
    refine lv_tableIn hx hb dX_carryOut_3 (off := 81) (tgt := 84) (by rw [hk3_7]; decide) (by rw [hk3_7]; decide) (by rw [hk3_7]; rfl) (by decide) ?_
    refine lv_aload_n hx hb dX_carryOut_84 rfl (lv_at hl 0 rfl) ?_
    refine lv_iload_n hx hb dX_carryOut_85 rfl (lv_at hl 1 rfl) ?_
    refine lv_iload_n hx hb dX_carryOut_86 rfl (lv_at hl 2 rfl) ?_
    refine lv_iload_n hx hb dX_carryOut_87 rfl (lv_at hl 3 rfl) ?_
    obtain ⟨z88, hz88, hfin⟩ := bd_ob hfin
    refine g_callMv [.int a0, .int a1, .int a2] [] X hK x_rcv hI (ctx_multiply l D cA o q hne u a0 a1 a2 z88 hz88) (cwX_X_multiply X.2.2.2.2 ⟨Nat.le_of_ble_eq_true rfl, Nat.le_of_ble_eq_true rfl⟩) rfl hl.1 rfl (Nat.le_of_ble_eq_true rfl) dX_carryOut_88 (fun H locs hI => ?_)
    exact g_vret X hr hlk hK hI hfin dX_carryOut_91
  rw [if_neg hk3_7] at hfin
  by_cases hk3_8 : (a0 >>> ((3 : Int32) &&& 31)) = (19 : Int32)
  · rw [if_pos hk3_8] at hfin
    refine lv_tableIn hx hb dX_carryOut_3 (off := 89) (tgt := 92) (by rw [hk3_8]; decide) (by rw [hk3_8]; decide) (by rw [hk3_8]; rfl) (by decide) ?_
    refine lv_aload_n hx hb dX_carryOut_92 rfl (lv_at hl 0 rfl) ?_
    refine lv_iload_n hx hb dX_carryOut_93 rfl (lv_at hl 1 rfl) ?_
    refine lv_iload_n hx hb dX_carryOut_94 rfl (lv_at hl 2 rfl) ?_
    refine lv_iload_n hx hb dX_carryOut_95 rfl (lv_at hl 3 rfl) ?_
    obtain ⟨z96, hz96, hfin⟩ := bd_ob hfin
    refine g_callMv [.int a0, .int a1, .int a2] [] X hK x_rcv hI (ctx_divide l D cA o q hne u a0 a1 a2 z96 hz96) (cwX_X_divide X.2.2.2.2 ⟨Nat.le_of_ble_eq_true rfl, Nat.le_of_ble_eq_true rfl⟩) rfl hl.1 rfl (Nat.le_of_ble_eq_true rfl) dX_carryOut_96 (fun H locs hI => ?_)
    exact g_vret X hr hlk hK hI hfin dX_carryOut_99
  rw [if_neg hk3_8] at hfin
  by_cases hk3_9 : (a0 >>> ((3 : Int32) &&& 31)) = (20 : Int32)
  · rw [if_pos hk3_9] at hfin
    refine lv_tableIn hx hb dX_carryOut_3 (off := 97) (tgt := 100) (by rw [hk3_9]; decide) (by rw [hk3_9]; decide) (by rw [hk3_9]; rfl) (by decide) ?_
    refine lv_aload_n hx hb dX_carryOut_100 rfl (lv_at hl 0 rfl) ?_
    refine lv_iload_n hx hb dX_carryOut_101 rfl (lv_at hl 1 rfl) ?_
    refine lv_iload_n hx hb dX_carryOut_102 rfl (lv_at hl 2 rfl) ?_
    refine lv_iload_n hx hb dX_carryOut_103 rfl (lv_at hl 3 rfl) ?_
    obtain ⟨z104, hz104, hfin⟩ := bd_ob hfin
    refine g_callMv [.int a0, .int a1, .int a2] [] X hK x_rcv hI (ctx_shift l D cA o q hne u a0 a1 a2 z104 hz104) (cwX_X_shift X.2.2.2.2 ⟨Nat.le_of_ble_eq_true rfl, Nat.le_of_ble_eq_true rfl⟩) rfl hl.1 rfl (Nat.le_of_ble_eq_true rfl) dX_carryOut_104 (fun H locs hI => ?_)
    exact g_vret X hr hlk hK hI hfin dX_carryOut_107
  rw [if_neg hk3_9] at hfin
  by_cases hk3_10 : (a0 >>> ((3 : Int32) &&& 31)) = (21 : Int32)
  · rw [if_pos hk3_10] at hfin
    refine lv_tableIn hx hb dX_carryOut_3 (off := 105) (tgt := 108) (by rw [hk3_10]; decide) (by rw [hk3_10]; decide) (by rw [hk3_10]; rfl) (by decide) ?_
    refine lv_aload_n hx hb dX_carryOut_108 rfl (lv_at hl 0 rfl) ?_
    refine lv_iload_n hx hb dX_carryOut_109 rfl (lv_at hl 1 rfl) ?_
    refine lv_iload_n hx hb dX_carryOut_110 rfl (lv_at hl 2 rfl) ?_
    refine lv_iload_n hx hb dX_carryOut_111 rfl (lv_at hl 3 rfl) ?_
    obtain ⟨z112, hz112, hfin⟩ := bd_ob hfin
    refine g_callMv [.int a0, .int a1, .int a2] [] X hK x_rcv hI (ctx_exchangeOrJump l D cA o q hne u a0 a1 a2 z112 hz112) (cwX_X_exchangeOrJump X.2.2.2.2 ⟨Nat.le_of_ble_eq_true rfl, Nat.le_of_ble_eq_true rfl⟩) rfl hl.1 rfl (Nat.le_of_ble_eq_true rfl) dX_carryOut_112 (fun H locs hI => ?_)
    exact g_vret X hr hlk hK hI hfin dX_carryOut_115
  rw [if_neg hk3_10] at hfin
  by_cases hk3_11 : (a0 >>> ((3 : Int32) &&& 31)) = (22 : Int32)
  · rw [if_pos hk3_11] at hfin
    refine lv_tableIn hx hb dX_carryOut_3 (off := 113) (tgt := 116) (by rw [hk3_11]; decide) (by rw [hk3_11]; decide) (by rw [hk3_11]; rfl) (by decide) ?_
    refine lv_aload_n hx hb dX_carryOut_116 rfl (lv_at hl 0 rfl) ?_
    refine lv_iload_n hx hb dX_carryOut_117 rfl (lv_at hl 1 rfl) ?_
    refine lv_iload_n hx hb dX_carryOut_118 rfl (lv_at hl 2 rfl) ?_
    refine lv_iload_n hx hb dX_carryOut_119 rfl (lv_at hl 3 rfl) ?_
    obtain ⟨z120, hz120, hfin⟩ := bd_ob hfin
    refine g_callMv [.int a0, .int a1, .int a2] [] X hK x_rcv hI (ctx_stack l D cA o q hne u a0 a1 a2 z120 hz120) (cwX_X_stack X.2.2.2.2 ⟨Nat.le_of_ble_eq_true rfl, Nat.le_of_ble_eq_true rfl⟩) rfl hl.1 rfl (Nat.le_of_ble_eq_true rfl) dX_carryOut_120 (fun H locs hI => ?_)
    exact g_vret X hr hlk hK hI hfin dX_carryOut_123
  rw [if_neg hk3_11] at hfin
  by_cases hk3_12 : (a0 >>> ((3 : Int32) &&& 31)) = (23 : Int32)
  · rw [if_pos hk3_12] at hfin
    refine lv_tableIn hx hb dX_carryOut_3 (off := 121) (tgt := 124) (by rw [hk3_12]; decide) (by rw [hk3_12]; decide) (by rw [hk3_12]; rfl) (by decide) ?_
    refine lv_aload_n hx hb dX_carryOut_124 rfl (lv_at hl 0 rfl) ?_
    refine lv_iload_n hx hb dX_carryOut_125 rfl (lv_at hl 1 rfl) ?_
    refine lv_iload_n hx hb dX_carryOut_126 rfl (lv_at hl 2 rfl) ?_
    refine lv_iload_n hx hb dX_carryOut_127 rfl (lv_at hl 3 rfl) ?_
    obtain ⟨z128, hz128, hfin⟩ := bd_ob hfin
    refine g_callMv [.int a0, .int a1, .int a2] [] X hK x_rcv hI (ctx_sum l D cA o q hne u a0 a1 a2 z128 hz128) (cwX_X_sum X.2.2.2.2 ⟨Nat.le_of_ble_eq_true rfl, Nat.le_of_ble_eq_true rfl⟩) rfl hl.1 rfl (Nat.le_of_ble_eq_true rfl) dX_carryOut_128 (fun H locs hI => ?_)
    exact g_vret X hr hlk hK hI hfin dX_carryOut_131
  rw [if_neg hk3_12] at hfin
  have hn3_0 := i32_ne (11 : Int32) 11 (by decide) hk3_0
  have hn3_1 := i32_ne (12 : Int32) 12 (by decide) hk3_1
  have hn3_2 := i32_ne (13 : Int32) 13 (by decide) hk3_2
  have hn3_3 := i32_ne (14 : Int32) 14 (by decide) hk3_3
  have hn3_4 := i32_ne (15 : Int32) 15 (by decide) hk3_4
  have hn3_5 := i32_ne (16 : Int32) 16 (by decide) hk3_5
  have hn3_6 := i32_ne (17 : Int32) 17 (by decide) hk3_6
  have hn3_7 := i32_ne (18 : Int32) 18 (by decide) hk3_7
  have hn3_8 := i32_ne (19 : Int32) 19 (by decide) hk3_8
  have hn3_9 := i32_ne (20 : Int32) 20 (by decide) hk3_9
  have hn3_10 := i32_ne (21 : Int32) 21 (by decide) hk3_10
  have hn3_11 := i32_ne (22 : Int32) 22 (by decide) hk3_11
  have hn3_12 := i32_ne (23 : Int32) 23 (by decide) hk3_12
  refine lv_tableOut hx hb dX_carryOut_3 (tgt := 132) (by omega) (by decide) ?_
  refine lv_iload_n hx hb dX_carryOut_132 rfl (lv_at hl 1 rfl) ?_
  refine lv_bipush (v := (6 : Int32)) hx hb dX_carryOut_133 (by decide) ?_
  refine lv_ishr hx hb dX_carryOut_135 ?_
  by_cases hk136_0 : (a0 >>> ((6 : Int32) &&& 31)) = (3 : Int32)
  · rw [if_pos hk136_0] at hfin
    refine lv_tableIn hx hb dX_carryOut_136 (off := 32) (tgt := 168) (by rw [hk136_0]; decide) (by rw [hk136_0]; decide) (by rw [hk136_0]; rfl) (by decide) ?_
    refine lv_aload_n hx hb dX_carryOut_168 rfl (lv_at hl 0 rfl) ?_
    refine lv_iload_n hx hb dX_carryOut_169 rfl (lv_at hl 1 rfl) ?_
    refine lv_iload_n hx hb dX_carryOut_170 rfl (lv_at hl 2 rfl) ?_
    refine lv_iload_n hx hb dX_carryOut_171 rfl (lv_at hl 3 rfl) ?_
    obtain ⟨z172, hz172, hfin⟩ := bd_ob hfin
    refine g_callMv [.int a0, .int a1, .int a2] [] X hK x_rcv hI (ctx_compare l D cA o q hne u a0 a1 a2 z172 hz172) (cwX_X_compare X.2.2.2.2 ⟨Nat.le_of_ble_eq_true rfl, Nat.le_of_ble_eq_true rfl⟩) rfl hl.1 rfl (Nat.le_of_ble_eq_true rfl) dX_carryOut_172 (fun H locs hI => ?_)
    exact g_vret X hr hlk hK hI hfin dX_carryOut_175
  rw [if_neg hk136_0] at hfin
  by_cases hk136_1 : (a0 >>> ((6 : Int32) &&& 31)) = (4 : Int32)
  · rw [if_pos hk136_1] at hfin
    refine lv_tableIn hx hb dX_carryOut_136 (off := 40) (tgt := 176) (by rw [hk136_1]; decide) (by rw [hk136_1]; decide) (by rw [hk136_1]; rfl) (by decide) ?_
    refine lv_aload_n hx hb dX_carryOut_176 rfl (lv_at hl 0 rfl) ?_
    refine lv_iload_n hx hb dX_carryOut_177 rfl (lv_at hl 1 rfl) ?_
    refine lv_iload_n hx hb dX_carryOut_178 rfl (lv_at hl 2 rfl) ?_
    refine lv_iload_n hx hb dX_carryOut_179 rfl (lv_at hl 3 rfl) ?_
    obtain ⟨z180, hz180, hfin⟩ := bd_ob hfin
    refine g_callMv [.int a0, .int a1, .int a2] [] X hK x_rcv hI (ctx_logic l D cA o q hne u a0 a1 a2 z180 hz180) (cwX_X_logic X.2.2.2.2 ⟨Nat.le_of_ble_eq_true rfl, Nat.le_of_ble_eq_true rfl⟩) rfl hl.1 rfl (Nat.le_of_ble_eq_true rfl) dX_carryOut_180 (fun H locs hI => ?_)
    exact g_vret X hr hlk hK hI hfin dX_carryOut_183
  rw [if_neg hk136_1] at hfin
  by_cases hk136_2 : (a0 >>> ((6 : Int32) &&& 31)) = (5 : Int32)
  · rw [if_pos hk136_2] at hfin
    refine lv_tableIn hx hb dX_carryOut_136 (off := 48) (tgt := 184) (by rw [hk136_2]; decide) (by rw [hk136_2]; decide) (by rw [hk136_2]; rfl) (by decide) ?_
    refine lv_aload_n hx hb dX_carryOut_184 rfl (lv_at hl 0 rfl) ?_
    refine lv_iload_n hx hb dX_carryOut_185 rfl (lv_at hl 1 rfl) ?_
    refine lv_iload_n hx hb dX_carryOut_186 rfl (lv_at hl 2 rfl) ?_
    refine lv_iload_n hx hb dX_carryOut_187 rfl (lv_at hl 3 rfl) ?_
    obtain ⟨z188, hz188, hfin⟩ := bd_ob hfin
    refine g_callMv [.int a0, .int a1, .int a2] [] X hK x_rcv hI (ctx_halves l D cA o q hne u a0 a1 a2 z188 hz188) (cwX_X_halves X.2.2.2.2 ⟨Nat.le_of_ble_eq_true rfl, Nat.le_of_ble_eq_true rfl⟩) rfl hl.1 rfl (Nat.le_of_ble_eq_true rfl) dX_carryOut_188 (fun H locs hI => ?_)
    exact g_vret X hr hlk hK hI hfin dX_carryOut_191
  rw [if_neg hk136_2] at hfin
  by_cases hk136_3 : (a0 >>> ((6 : Int32) &&& 31)) = (6 : Int32)
  · rw [if_pos hk136_3] at hfin
    refine lv_tableIn hx hb dX_carryOut_136 (off := 56) (tgt := 192) (by rw [hk136_3]; decide) (by rw [hk136_3]; decide) (by rw [hk136_3]; rfl) (by decide) ?_
    refine lv_aload_n hx hb dX_carryOut_192 rfl (lv_at hl 0 rfl) ?_
    refine lv_iload_n hx hb dX_carryOut_193 rfl (lv_at hl 1 rfl) ?_
    refine lv_iload_n hx hb dX_carryOut_194 rfl (lv_at hl 2 rfl) ?_
    refine lv_iload_n hx hb dX_carryOut_195 rfl (lv_at hl 3 rfl) ?_
    obtain ⟨z196, hz196, hfin⟩ := bd_ob hfin
    refine g_callMv [.int a0, .int a1, .int a2] [] X hK x_rcv hI (ctx_test l D cA o q hne u a0 a1 a2 z196 hz196) (cwX_X_test X.2.2.2.2 ⟨Nat.le_of_ble_eq_true rfl, Nat.le_of_ble_eq_true rfl⟩) rfl hl.1 rfl (Nat.le_of_ble_eq_true rfl) dX_carryOut_196 (fun H locs hI => ?_)
    exact g_vret X hr hlk hK hI hfin dX_carryOut_199
  rw [if_neg hk136_3] at hfin
  have hn136_0 := i32_ne (3 : Int32) 3 (by decide) hk136_0
  have hn136_1 := i32_ne (4 : Int32) 4 (by decide) hk136_1
  have hn136_2 := i32_ne (5 : Int32) 5 (by decide) hk136_2
  have hn136_3 := i32_ne (6 : Int32) 6 (by decide) hk136_3
  refine lv_tableOut hx hb dX_carryOut_136 (tgt := 200) (by omega) (by decide) ?_
  refine lv_aload_n hx hb dX_carryOut_200 rfl (lv_at hl 0 rfl) ?_
  refine lv_iconst (v := (2 : Int32)) hx hb dX_carryOut_201 (by decide) ?_
  obtain ⟨z202, hz202, hfin⟩ := bd_ob hfin
  refine g_callMv [.int (2 : Int32)] [] X hK x_rcv hI (ctx_raise l D cA o q hne u (2 : Int32) z202 hz202) (cwX_X_raise X.2.2.2.2 ⟨Nat.le_of_ble_eq_true rfl, Nat.le_of_ble_eq_true rfl⟩) rfl hl.1 rfl (Nat.le_of_ble_eq_true rfl) dX_carryOut_202 (fun H locs hI => ?_)
  exact g_vret X hr hlk hK hI hfin dX_carryOut_205
set_option maxHeartbeats 4000000 in
set_option maxRecDepth 100000 in
theorem ctx_enterTrap (l : Launch) (D : va_G) (cA : ClassId) (o q : Nat) (hne : va_nd [o, q] = true) (u : XS) (a0 : Int32) (z : XS) (hfin : x_enterTrap u a0 = some z) : gMv l yX_enterTrap wX_enterTrap (rmF 1 21) D [(cA, .long)] (XW cA o q) (XA o q) [.ref o, .int a0] u z := by
  refine g_start (plainFor_of_name (by decide)) (Nat.le_of_ble_eq_true rfl) ?_
  intro p e s0 m args below meth c ls X hr hlk hB hl
  obtain ⟨hP0, hK⟩ := hB
  have hI : gI D (XW cA o q) (XA o q) s0.heap s0.heap [] u := ⟨hP0, va_S.rf⟩
  have hl : lv_has ls 2 [(0, .ref o), (1, .int a0)] := hl
  have hx := X.1
  have hb := X.2.1
  rw [x_enterTrap] at hfin
  refine lv_aload_n hx hb dX_enterTrap_0 rfl (lv_at hl 0 rfl) ?_
  refine xg_words X hK hI.1 dX_enterTrap_1 ?_
  refine lv_bipush (v := (32 : Int32)) hx hb dX_enterTrap_4 (by decide) ?_
  refine lv_aload_n hx hb dX_enterTrap_6 rfl (lv_at hl 0 rfl) ?_
  refine g_callRi [] [.int (32 : Int32), .ref q] X hK x_rcv hI.1 (ctx_flags l D cA o q u) (cwX_X_flags X.2.2.2.2 ⟨Nat.le_of_ble_eq_true rfl, Nat.le_of_ble_eq_true rfl⟩) rfl hl.1 rfl (Nat.le_of_ble_eq_true rfl) dX_enterTrap_7 ?_
  refine lv_aload_n hx hb dX_enterTrap_10 rfl (lv_at hl 0 rfl) ?_
  refine xg_trap X hK hI.1 dX_enterTrap_11 ?_
  refine lv_ior hx hb dX_enterTrap_14 ?_
  refine lv_iload_n hx hb dX_enterTrap_15 rfl (lv_at hl 1 rfl) ?_
  refine g_callPl [.int ((x_flags u) ||| (X_trap u)), .int a0] [.int (32 : Int32), .ref q] X (ctx_joined l ((x_flags u) ||| (X_trap u)) a0) (cwX_X_joined X.2.2.2.2 ⟨Nat.le_of_ble_eq_true rfl, Nat.le_of_ble_eq_true rfl⟩) rfl hl.1 rfl (Nat.le_of_ble_eq_true rfl) dX_enterTrap_16 ?_
  refine xs_words X hK (x_D hne) hI (by decide) dX_enterTrap_19 (fun H locs hI => ?_)
  refine lv_aload_n hx hb dX_enterTrap_20 rfl (lv_at hl 0 rfl) ?_
  refine lv_iconst (v := (0 : Int32)) hx hb dX_enterTrap_21 (by decide) ?_
  refine xp_user X hK (x_D hne) hI (Or.inl rfl) dX_enterTrap_22 (fun H locs hI => ?_)
  refine lv_aload_n hx hb dX_enterTrap_25 rfl (lv_at hl 0 rfl) ?_
  refine lv_bipush (v := (33 : Int32)) hx hb dX_enterTrap_26 (by decide) ?_
  refine xp_pc X hK (x_D hne) hI dX_enterTrap_28 (fun H locs hI => ?_)
  refine lv_aload_n hx hb dX_enterTrap_31 rfl (lv_at hl 0 rfl) ?_
  refine lv_dup hx hb dX_enterTrap_32 rfl ?_
  refine xg_traps X hK hI.1 dX_enterTrap_33 ?_
  refine lv_iconst (v := (1 : Int32)) hx hb dX_enterTrap_36 (by decide) ?_
  refine lv_iadd hx hb dX_enterTrap_37 ?_
  refine xp_traps X hK (x_D hne) hI dX_enterTrap_38 (fun H locs hI => ?_)
  refine lv_aload_n hx hb dX_enterTrap_41 rfl (lv_at hl 0 rfl) ?_
  refine lv_aload_n hx hb dX_enterTrap_42 rfl (lv_at hl 0 rfl) ?_
  refine xg_trap X hK hI.1 dX_enterTrap_43 ?_
  refine xp_latestTrap X hK (x_D hne) hI dX_enterTrap_46 (fun H locs hI => ?_)
  exact g_vret X hr hlk hK hI hfin dX_enterTrap_49
set_option maxHeartbeats 4000000 in
set_option maxRecDepth 100000 in
theorem ctx_step (l : Launch) (D : va_G) (cA : ClassId) (o q : Nat) (hne : va_nd [o, q] = true) (u : XS)  (z : XS) (hfin : x_step u = some z) : gMv l yX_step wX_step (rmF 6 145) D [(cA, .long)] (XW cA o q) (XA o q) [.ref o] u z := by
  refine g_start (plainFor_of_name (by decide)) (Nat.le_of_ble_eq_true rfl) ?_
  intro p e s0 m args below meth c ls X hr hlk hB hl
  obtain ⟨hP0, hK⟩ := hB
  have hI : gI D (XW cA o q) (XA o q) s0.heap s0.heap [] u := ⟨hP0, va_S.rf⟩
  have hl : lv_has ls 6 [(0, .ref o)] := hl
  have hx := X.1
  have hb := X.2.1
  have B_122 : ∀ (u : XS) (v1 : Int32) (H : Heap) (locs : List Loc) (ls : Array Slot), lv_has ls 6 [(0, .ref o), (1, .int v1)] → gI D (XW cA o q) (XA o q) s0.heap H locs u → x_step_122 u v1 = some z → W p l e (rmF 6 145) s0 m args below meth c H locs 0 0 (MQ below (va_Qv (fun x => x = z) (gB D [(cA, .long)] (XW cA o q)) (XA o q)) args s0 0 0 (XA o q)) (F0 m 122 ls []) := by
    intro u v1 H locs ls hl hI hfin
    rw [x_step_122] at hfin
    refine lv_aload_n hx hb dX_step_122 rfl (lv_at hl 0 rfl) ?_
    refine xg_trap X hK hI.1 dX_step_123 ?_
    refine lv_if_eq (tgt := 134) hx hb dX_step_126 (by decide) (fun hc126 => ?_) (fun hc126 => ?_)
    · rw [if_pos hc126] at hfin
      exact g_vret X hr hlk hK hI hfin dX_step_134
    rw [if_neg hc126] at hfin
    refine lv_aload_n hx hb dX_step_129 rfl (lv_at hl 0 rfl) ?_
    refine lv_iload_n hx hb dX_step_130 rfl (lv_at hl 1 rfl) ?_
    obtain ⟨z131, hz131, hfin⟩ := bd_ob hfin
    refine g_callMv [.int v1] [] X hK x_rcv hI (ctx_enterTrap l D cA o q hne u v1 z131 hz131) (cwX_X_enterTrap X.2.2.2.2 ⟨Nat.le_of_ble_eq_true rfl, Nat.le_of_ble_eq_true rfl⟩) rfl hl.1 rfl (Nat.le_of_ble_eq_true rfl) dX_step_131 (fun H locs hI => ?_)
    exact g_vret X hr hlk hK hI hfin dX_step_134
  have B_101 : ∀ (u : XS) (v1 : Int32) (v2 : Int64) (v4 : Int32) (H : Heap) (locs : List Loc) (ls : Array Slot), lv_has ls 6 [(0, .ref o), (1, .int v1), (2, .long v2), (4, .int v4)] → gI D (XW cA o q) (XA o q) s0.heap H locs u → x_step_101 u v1 v2 v4 = some z → W p l e (rmF 6 145) s0 m args below meth c H locs 0 0 (MQ below (va_Qv (fun x => x = z) (gB D [(cA, .long)] (XW cA o q)) (XA o q)) args s0 0 0 (XA o q)) (F0 m 101 ls []) := by
    intro u v1 v2 v4 H locs ls hl hI hfin
    rw [x_step_101] at hfin
    refine lv_aload_n hx hb dX_step_101 rfl (lv_at hl 0 rfl) ?_
    refine xg_trap X hK hI.1 dX_step_102 ?_
    refine lv_if_ne (tgt := 122) hx hb dX_step_105 (by decide) (fun hc105 => ?_) (fun hc105 => ?_)
    · rw [if_neg hc105] at hfin
      exact B_122 u v1 H locs ls (lv_sub hl [0, 1] rfl) hI hfin
    rw [if_pos hc105] at hfin
    refine lv_aload_n hx hb dX_step_108 rfl (lv_at hl 0 rfl) ?_
    refine lv_lload_n hx hb dX_step_109 rfl (lv_at hl 2 rfl) ?_
    refine g_callPi [.long v2] [.ref o] X (ctx_operation l v2) (cwX_X_operation X.2.2.2.2 ⟨Nat.le_of_ble_eq_true rfl, Nat.le_of_ble_eq_true rfl⟩) rfl hl.1 rfl (Nat.le_of_ble_eq_true rfl) dX_step_110 ?_
    refine lv_lload_n hx hb dX_step_113 rfl (lv_at hl 2 rfl) ?_
    refine g_callPi [.long v2] [.int (x_operation v2), .ref o] X (ctx_accumulator l v2) (cwX_X_accumulator X.2.2.2.2 ⟨Nat.le_of_ble_eq_true rfl, Nat.le_of_ble_eq_true rfl⟩) rfl hl.1 rfl (Nat.le_of_ble_eq_true rfl) dX_step_114 ?_
    refine lv_iload hx hb dX_step_117 (lv_at hl 3 rfl) ?_
    obtain ⟨z119, hz119, hfin⟩ := bd_ob hfin
    refine g_callMv [.int (x_operation v2), .int (x_accumulator v2), .int v4] [] X hK x_rcv hI (ctx_carryOut l D cA o q hne u (x_operation v2) (x_accumulator v2) v4 z119 hz119) (cwX_X_carryOut X.2.2.2.2 ⟨Nat.le_of_ble_eq_true rfl, Nat.le_of_ble_eq_true rfl⟩) rfl hl.1 rfl (Nat.le_of_ble_eq_true rfl) dX_step_119 (fun H locs hI => ?_)
    exact B_122 z119 v1 H locs ls (lv_sub hl [0, 1] rfl) hI hfin
  have B_57 : ∀ (k : Nat) (u : XS) (v1 : Int32) (v2 : Int64) (v4 : Int32) (v5 : Int32) (H : Heap) (locs : List Loc) (ls : Array Slot), lv_has ls 6 [(0, .ref o), (1, .int v1), (2, .long v2), (4, .int v4), (5, .int v5)] → gI D (XW cA o q) (XA o q) s0.heap H locs u → x_step_57 k u v1 v2 v4 v5 = some z → W p l e (rmF 6 145) s0 m args below meth c H locs 0 0 (MQ below (va_Qv (fun x => x = z) (gB D [(cA, .long)] (XW cA o q)) (XA o q)) args s0 0 0 (XA o q)) (F0 m 57 ls []) := by
    intro k
    induction k with
    | zero =>
      intro u v1 v2 v4 v5 H locs ls hl hI hfin
      rw [x_step_57] at hfin
      cases hfin
    | succ k IH =>
      intro u v1 v2 v4 v5 H locs ls hl hI hfin
      rw [x_step_57] at hfin
      refine lv_iload hx hb dX_step_57 (lv_at hl 4 rfl) ?_
      refine lv_bipush (v := (8 : Int32)) hx hb dX_step_59 (by decide) ?_
      refine lv_icmp_gt (tgt := 101) hx hb dX_step_61 (by decide) (fun hc61 => ?_) (fun hc61 => ?_)
      · rw [if_pos hc61] at hfin
        exact B_101 u v1 v2 v4 H locs ls (lv_sub hl [0, 1, 2, 3] rfl) hI hfin
      rw [if_neg hc61] at hfin
      refine lv_aload_n hx hb dX_step_64 rfl (lv_at hl 0 rfl) ?_
      refine xg_trap X hK hI.1 dX_step_65 ?_
      refine lv_if_ne (tgt := 101) hx hb dX_step_68 (by decide) (fun hc68 => ?_) (fun hc68 => ?_)
      · rw [if_neg hc68] at hfin
        exact B_101 u v1 v2 v4 H locs ls (lv_sub hl [0, 1, 2, 3] rfl) hI hfin
      rw [if_pos hc68] at hfin
      refine lv_lload_n hx hb dX_step_71 rfl (lv_at hl 2 rfl) ?_
      refine g_callPi [.long v2] [] X (ctx_operation l v2) (cwX_X_operation X.2.2.2.2 ⟨Nat.le_of_ble_eq_true rfl, Nat.le_of_ble_eq_true rfl⟩) rfl hl.1 rfl (Nat.le_of_ble_eq_true rfl) dX_step_72 ?_
      refine lv_sipush (v := (174 : Int32)) hx hb dX_step_75 (by decide) ?_
      refine lv_icmp_ne (tgt := 101) hx hb dX_step_78 (by decide) (fun hc78 => ?_) (fun hc78 => ?_)
      · rw [if_neg hc78] at hfin
        exact B_101 u v1 v2 v4 H locs ls (lv_sub hl [0, 1, 2, 3] rfl) hI hfin
      rw [if_pos hc78] at hfin
      refine lv_aload_n hx hb dX_step_81 rfl (lv_at hl 0 rfl) ?_
      refine lv_iload hx hb dX_step_82 (lv_at hl 3 rfl) ?_
      obtain ⟨z84, hz84, hfin⟩ := bd_ob hfin
      refine g_callMl [.int v4] [] X hK x_rcv hI (ctx_take l D cA o q hne u v4 z84 hz84) (cwX_X_take X.2.2.2.2 ⟨Nat.le_of_ble_eq_true rfl, Nat.le_of_ble_eq_true rfl⟩) rfl hl.1 rfl (Nat.le_of_ble_eq_true rfl) dX_step_84 (fun H locs hI => ?_)
      refine lv_lstore_n (lv' := [(2, .long z84.1), (0, .ref o), (1, .int v1), (4, .int v4), (5, .int v5)]) hx hb dX_step_87 rfl hl (by decide) rfl (fun ls hl => ?_)
      refine lv_aload_n hx hb dX_step_88 rfl (lv_at hl 1 rfl) ?_
      refine lv_lload_n hx hb dX_step_89 rfl (lv_at hl 0 rfl) ?_
      obtain ⟨z90, hz90, hfin⟩ := bd_ob hfin
      refine g_callMi [.long z84.1] [] X hK x_rcv hI (ctx_effective l D cA o q hne z84.2 z84.1 z90 hz90) (cwX_X_effective X.2.2.2.2 ⟨Nat.le_of_ble_eq_true rfl, Nat.le_of_ble_eq_true rfl⟩) rfl hl.1 rfl (Nat.le_of_ble_eq_true rfl) dX_step_90 (fun H locs hI => ?_)
      refine lv_istore (lv' := [(4, .int z90.1), (2, .long z84.1), (0, .ref o), (1, .int v1), (5, .int v5)]) hx hb dX_step_93 hl (by decide) rfl (fun ls hl => ?_)
      refine lv_iinc (lv' := [(5, .int (v5 + Int32.ofInt 1)), (4, .int z90.1), (2, .long z84.1), (0, .ref o), (1, .int v1)]) (k := 4) hx hb dX_step_95 hl rfl rfl (by decide) rfl (fun ls hl => ?_)
      refine lv_goto (tgt := 57) hx hb dX_step_98 (by decide) ?_
      exact IH z90.2 v1 z84.1 z90.1 (v5 + Int32.ofInt 1) H locs ls (lv_sub hl [3, 4, 2, 1, 0] rfl) hI hfin
  rw [x_step] at hfin
  refine lv_aload_n hx hb dX_step_0 rfl (lv_at hl 0 rfl) ?_
  refine xg_pc X hK hI.1 dX_step_1 ?_
  refine lv_topi (fun x4 e4 => ?_)
  replace hfin := nm_at hfin e4
  refine lv_istore_n (lv' := [(1, .int x4), (0, .ref o)]) hx hb dX_step_4 rfl hl (by decide) rfl (fun ls hl => ?_)
  refine lv_aload_n hx hb dX_step_5 rfl (lv_at hl 1 rfl) ?_
  refine lv_dup hx hb dX_step_6 rfl ?_
  refine xg_steps X hK hI.1 dX_step_7 ?_
  refine lv_iconst (v := (1 : Int32)) hx hb dX_step_10 (by decide) ?_
  refine lv_iadd hx hb dX_step_11 ?_
  refine xp_steps X hK (x_D hne) hI dX_step_12 (fun H locs hI => ?_)
  refine lv_aload_n hx hb dX_step_15 rfl (lv_at hl 1 rfl) ?_
  refine lv_iconst (v := (0 : Int32)) hx hb dX_step_16 (by decide) ?_
  refine xp_trap X hK (x_D hne) hI dX_step_17 (fun H locs hI => ?_)
  refine lv_aload_n hx hb dX_step_20 rfl (lv_at hl 1 rfl) ?_
  refine lv_iconst (v := (0 : Int32)) hx hb dX_step_21 (by decide) ?_
  refine xp_taken X hK (x_D hne) hI dX_step_22 (fun H locs hI => ?_)
  refine lv_aload_n hx hb dX_step_25 rfl (lv_at hl 1 rfl) ?_
  refine lv_aload_n hx hb dX_step_26 rfl (lv_at hl 1 rfl) ?_
  refine xg_pc X hK hI.1 dX_step_27 ?_
  obtain ⟨z30, hz30, hfin⟩ := bd_ob hfin
  refine g_callMl [.int (X_pc (X_s_taken (X_s_trap (X_s_steps u ((X_steps u) + (1 : Int32))) (0 : Int32)) (0 : Int32)))] [] X hK x_rcv hI (ctx_read l D cA o q hne (X_s_taken (X_s_trap (X_s_steps u ((X_steps u) + (1 : Int32))) (0 : Int32)) (0 : Int32)) (X_pc (X_s_taken (X_s_trap (X_s_steps u ((X_steps u) + (1 : Int32))) (0 : Int32)) (0 : Int32))) z30 hz30) (cwX_X_read X.2.2.2.2 ⟨Nat.le_of_ble_eq_true rfl, Nat.le_of_ble_eq_true rfl⟩) rfl hl.1 rfl (Nat.le_of_ble_eq_true rfl) dX_step_30 (fun H locs hI => ?_)
  refine lv_lstore_n (lv' := [(2, .long z30.1), (1, .int x4), (0, .ref o)]) hx hb dX_step_33 rfl hl (by decide) rfl (fun ls hl => ?_)
  refine lv_aload_n hx hb dX_step_34 rfl (lv_at hl 2 rfl) ?_
  refine lv_aload_n hx hb dX_step_35 rfl (lv_at hl 2 rfl) ?_
  refine xg_pc X hK hI.1 dX_step_36 ?_
  refine lv_iconst (v := (1 : Int32)) hx hb dX_step_39 (by decide) ?_
  refine lv_iadd hx hb dX_step_40 ?_
  refine g_callPi [.int ((X_pc z30.2) + (1 : Int32))] [.ref o] X (ctx_wrapped l ((X_pc z30.2) + (1 : Int32))) (cwX_X_wrapped X.2.2.2.2 ⟨Nat.le_of_ble_eq_true rfl, Nat.le_of_ble_eq_true rfl⟩) rfl hl.1 rfl (Nat.le_of_ble_eq_true rfl) dX_step_41 ?_
  refine xp_pc X hK (x_D hne) hI dX_step_44 (fun H locs hI => ?_)
  refine lv_aload_n hx hb dX_step_47 rfl (lv_at hl 2 rfl) ?_
  refine lv_lload_n hx hb dX_step_48 rfl (lv_at hl 0 rfl) ?_
  obtain ⟨z49, hz49, hfin⟩ := bd_ob hfin
  refine g_callMi [.long z30.1] [] X hK x_rcv hI (ctx_effective l D cA o q hne (X_s_pc z30.2 (x_wrapped ((X_pc z30.2) + (1 : Int32)))) z30.1 z49 hz49) (cwX_X_effective X.2.2.2.2 ⟨Nat.le_of_ble_eq_true rfl, Nat.le_of_ble_eq_true rfl⟩) rfl hl.1 rfl (Nat.le_of_ble_eq_true rfl) dX_step_49 (fun H locs hI => ?_)
  refine lv_istore (lv' := [(4, .int z49.1), (2, .long z30.1), (1, .int x4), (0, .ref o)]) hx hb dX_step_52 hl (by decide) rfl (fun ls hl => ?_)
  refine lv_iconst (v := (0 : Int32)) hx hb dX_step_54 (by decide) ?_
  refine lv_istore (lv' := [(5, .int (0 : Int32)), (4, .int z49.1), (2, .long z30.1), (1, .int x4), (0, .ref o)]) hx hb dX_step_55 hl (by decide) rfl (fun ls hl => ?_)
  exact B_57 11 z49.2 x4 z30.1 z49.1 (0 : Int32) H locs ls (lv_sub hl [4, 3, 2, 1, 0] rfl) hI hfin
