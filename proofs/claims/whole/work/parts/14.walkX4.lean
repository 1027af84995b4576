set_option maxHeartbeats 4000000 in
set_option maxRecDepth 100000 in
theorem ctx_growStack (l : Launch) (D : va_G) (cA : ClassId) (o q : Nat) (hne : va_nd [o, q] = true) (u : XS) (a0 : Int32) (z : XS) (hfin : x_growStack u a0 = some z) : gMv l yX_growStack wX_growStack (rmF 2 47) D [(cA, .long)] (XW cA o q) (XA o q) [.ref o, .int a0] u z := by
  refine g_start (plainFor_of_name (by decide)) (Nat.le_of_ble_eq_true rfl) ?_
  intro p e s0 m args below meth c ls X hr hlk hB hl
  obtain ⟨hP0, hK⟩ := hB
  have hI : gI D (XW cA o q) (XA o q) s0.heap s0.heap [] u := ⟨hP0, va_S.rf⟩
  have hl : lv_has ls 2 [(0, .ref o), (1, .int a0)] := hl
  have hx := X.1
  have hb := X.2.1
  rw [x_growStack] at hfin
  refine lv_aload_n hx hb dX_growStack_0 rfl (lv_at hl 0 rfl) ?_
  refine lv_iload_n hx hb dX_growStack_1 rfl (lv_at hl 1 rfl) ?_
  refine lv_iconst (v := (1 : Int32)) hx hb dX_growStack_2 (by decide) ?_
  obtain ⟨z3, hz3, hfin⟩ := bd_ob hfin
  refine g_callMv [.int a0, .int (1 : Int32)] [] X hK x_rcv hI (ctx_moveHalves l D cA o q hne u a0 (1 : Int32) z3 hz3) (cwX_X_moveHalves X.2.2.2.2 ⟨Nat.le_of_ble_eq_true rfl, Nat.le_of_ble_eq_true rfl⟩) rfl hl.1 rfl (Nat.le_of_ble_eq_true rfl) dX_growStack_3 (fun H locs hI => ?_)
  refine lv_aload_n hx hb dX_growStack_6 rfl (lv_at hl 0 rfl) ?_
  refine xg_words X hK hI.1 dX_growStack_7 ?_
  refine lv_iload_n hx hb dX_growStack_10 rfl (lv_at hl 1 rfl) ?_
  obtain ⟨hd11, hfin⟩ := ck_if hfin
  refine xl_words X hK hI.1 hd11 dX_growStack_11 ?_
  refine g_callPi [.long (X_words z3 a0.toNatClampNeg)] [] X (ctx_left l (X_words z3 a0.toNatClampNeg)) (cwX_X_left X.2.2.2.2 ⟨Nat.le_of_ble_eq_true rfl, Nat.le_of_ble_eq_true rfl⟩) rfl hl.1 rfl (Nat.le_of_ble_eq_true rfl) dX_growStack_12 ?_
  refine lv_if_ne (tgt := 22) hx hb dX_growStack_15 (by decide) (fun hc15 => ?_) (fun hc15 => ?_)
  · rw [if_neg hc15] at hfin
    exact g_vret X hr hlk hK hI hfin dX_growStack_22
  rw [if_pos hc15] at hfin
  refine lv_aload_n hx hb dX_growStack_18 rfl (lv_at hl 0 rfl) ?_
  obtain ⟨z19, hz19, hfin⟩ := bd_ob hfin
  refine g_callMv [] [] X hK x_rcv hI (ctx_setOverflow l D cA o q hne z3 z19 hz19) (cwX_X_setOverflow X.2.2.2.2 ⟨Nat.le_of_ble_eq_true rfl, Nat.le_of_ble_eq_true rfl⟩) rfl hl.1 rfl (Nat.le_of_ble_eq_true rfl) dX_growStack_19 (fun H locs hI => ?_)
  exact g_vret X hr hlk hK hI hfin dX_growStack_22
set_option maxHeartbeats 4000000 in
set_option maxRecDepth 100000 in
theorem ctx_flags (l : Launch) (D : va_G) (cA : ClassId) (o q : Nat) (u : XS)  : gRi l yX_flags wX_flags (rmF 0 0) D [(cA, .long)] (XW cA o q) [.ref o] u (x_flags u) := by
  obtain ⟨z, hz⟩ : ∃ z, z = x_flags u := ⟨_, rfl⟩
  rw [← hz]
  have hfin := hz.symm
  clear hz
  refine g_start (plainFor_of_name (by decide)) (Nat.le_of_ble_eq_true rfl) ?_
  intro p e s0 m args below meth c ls X hr hlk hB hl
  obtain ⟨hP0, hK⟩ := hB
  have hl : lv_has ls 1 [(0, .ref o)] := hl
  have hx := X.1
  have hb := X.2.1
  have B_13 : ∀ (t0 : Int32) (ls : Array Slot), lv_has ls 1 [(0, .ref o)] → x_flags_13 u t0 = z → W p l e (rmF 0 0) s0 m args below meth c s0.heap [] 0 0 (MQ below (vp_Si (fun r => r = z)) args s0 0 0 (fun _ => False)) (F0 m 13 ls [.int t0]) := by
    intro t0 ls hl hfin
    rw [x_flags_13] at hfin
    refine lv_aload_n hx hb dX_flags_13 rfl (lv_at hl 0 rfl) ?_
    refine xg_user X hK hP0 dX_flags_14 ?_
    refine lv_if_eq (tgt := 26) hx hb dX_flags_17 (by decide) (fun hc17 => ?_) (fun hc17 => ?_)
    · rw [if_pos hc17] at hfin
      refine lv_iconst (v := (0 : Int32)) hx hb dX_flags_26 (by decide) ?_
      refine lv_ior hx hb dX_flags_27 ?_
      exact g_iretP X hr hlk hfin dX_flags_28
    rw [if_neg hc17] at hfin
    refine lv_sipush (v := (4096 : Int32)) hx hb dX_flags_20 (by decide) ?_
    refine lv_goto (tgt := 27) hx hb dX_flags_23 (by decide) ?_
    refine lv_ior hx hb dX_flags_27 ?_
    exact g_iretP X hr hlk hfin dX_flags_28
  rw [x_flags] at hfin
  refine lv_aload_n hx hb dX_flags_0 rfl (lv_at hl 0 rfl) ?_
  refine xg_overflow X hK hP0 dX_flags_1 ?_
  refine lv_if_eq (tgt := 12) hx hb dX_flags_4 (by decide) (fun hc4 => ?_) (fun hc4 => ?_)
  · rw [if_pos hc4] at hfin
    refine lv_iconst (v := (0 : Int32)) hx hb dX_flags_12 (by decide) ?_
    exact B_13 (0 : Int32) ls (lv_sub hl [0] rfl) hfin
  rw [if_neg hc4] at hfin
  refine lv_ldc hx hb X.2.2.2.1 (X.2.2.2.2 _ hkX_110) dX_flags_7 ?_
  refine lv_goto (tgt := 13) hx hb dX_flags_9 (by decide) ?_
  exact B_13 (131072 : Int32) ls (lv_sub hl [0] rfl) hfin
set_option maxHeartbeats 4000000 in
set_option maxRecDepth 100000 in
theorem ctx_pcWord (l : Launch) (D : va_G) (cA : ClassId) (o q : Nat) (u : XS)  : gRl l yX_pcWord wX_pcWord (rmF 1 21) D [(cA, .long)] (XW cA o q) [.ref o] u (x_pcWord u) := by
  obtain ⟨z, hz⟩ : ∃ z, z = x_pcWord u := ⟨_, rfl⟩
  rw [← hz]
  have hfin := hz.symm
  clear hz
  refine g_start (plainFor_of_name (by decide)) (Nat.le_of_ble_eq_true rfl) ?_
  intro p e s0 m args below meth c ls X hr hlk hB hl
  obtain ⟨hP0, hK⟩ := hB
  have hl : lv_has ls 1 [(0, .ref o)] := hl
  have hx := X.1
  have hb := X.2.1
  rw [x_pcWord] at hfin
  refine lv_aload_n hx hb dX_pcWord_0 rfl (lv_at hl 0 rfl) ?_
  refine g_callRi [] [] X hK x_rcv hP0 (ctx_flags l D cA o q u) (cwX_X_flags X.2.2.2.2 ⟨Nat.le_of_ble_eq_true rfl, Nat.le_of_ble_eq_true rfl⟩) rfl hl.1 rfl (Nat.le_of_ble_eq_true rfl) dX_pcWord_1 ?_
  refine lv_aload_n hx hb dX_pcWord_4 rfl (lv_at hl 0 rfl) ?_
  refine xg_pc X hK hP0 dX_pcWord_5 ?_
  refine g_callPl [.int (x_flags u), .int (X_pc u)] [] X (ctx_joined l (x_flags u) (X_pc u)) (cwX_X_joined X.2.2.2.2 ⟨Nat.le_of_ble_eq_true rfl, Nat.le_of_ble_eq_true rfl⟩) rfl hl.1 rfl (Nat.le_of_ble_eq_true rfl) dX_pcWord_8 ?_
  exact g_lretP X hr hlk hfin dX_pcWord_11
set_option maxHeartbeats 4000000 in
set_option maxRecDepth 100000 in
theorem ctx_shrinkStack (l : Launch) (D : va_G) (cA : ClassId) (o q : Nat) (hne : va_nd [o, q] = true) (u : XS) (a0 : Int32) (z : XS) (hfin : x_shrinkStack u a0 = some z) : gMv l yX_shrinkStack wX_shrinkStack (rmF 2 47) D [(cA, .long)] (XW cA o q) (XA o q) [.ref o, .int a0] u z := by
  refine g_start (plainFor_of_name (by decide)) (Nat.le_of_ble_eq_true rfl) ?_
  intro p e s0 m args below meth c ls X hr hlk hB hl
  obtain ⟨hP0, hK⟩ := hB
  have hI : gI D (XW cA o q) (XA o q) s0.heap s0.heap [] u := ⟨hP0, va_S.rf⟩
  have hl : lv_has ls 2 [(0, .ref o), (1, .int a0)] := hl
  have hx := X.1
  have hb := X.2.1
  rw [x_shrinkStack] at hfin
  refine lv_aload_n hx hb dX_shrinkStack_0 rfl (lv_at hl 0 rfl) ?_
  refine lv_iload_n hx hb dX_shrinkStack_1 rfl (lv_at hl 1 rfl) ?_
  refine lv_iconst (v := (-1 : Int32)) hx hb dX_shrinkStack_2 (by decide) ?_
  obtain ⟨z3, hz3, hfin⟩ := bd_ob hfin
  refine g_callMv [.int a0, .int (-1 : Int32)] [] X hK x_rcv hI (ctx_moveHalves l D cA o q hne u a0 (-1 : Int32) z3 hz3) (cwX_X_moveHalves X.2.2.2.2 ⟨Nat.le_of_ble_eq_true rfl, Nat.le_of_ble_eq_true rfl⟩) rfl hl.1 rfl (Nat.le_of_ble_eq_true rfl) dX_shrinkStack_3 (fun H locs hI => ?_)
  refine lv_aload_n hx hb dX_shrinkStack_6 rfl (lv_at hl 0 rfl) ?_
  refine xg_words X hK hI.1 dX_shrinkStack_7 ?_
  refine lv_iload_n hx hb dX_shrinkStack_10 rfl (lv_at hl 1 rfl) ?_
  obtain ⟨hd11, hfin⟩ := ck_if hfin
  refine xl_words X hK hI.1 hd11 dX_shrinkStack_11 ?_
  refine g_callPi [.long (X_words z3 a0.toNatClampNeg)] [] X (ctx_left l (X_words z3 a0.toNatClampNeg)) (cwX_X_left X.2.2.2.2 ⟨Nat.le_of_ble_eq_true rfl, Nat.le_of_ble_eq_true rfl⟩) rfl hl.1 rfl (Nat.le_of_ble_eq_true rfl) dX_shrinkStack_12 ?_
  refine lv_ldc hx hb X.2.2.2.1 (X.2.2.2.2 _ hkX_41) dX_shrinkStack_15 ?_
  refine lv_icmp_ne (tgt := 24) hx hb dX_shrinkStack_17 (by decide) (fun hc17 => ?_) (fun hc17 => ?_)
  · rw [if_neg hc17] at hfin
    exact g_vret X hr hlk hK hI hfin dX_shrinkStack_24
  rw [if_pos hc17] at hfin
  refine lv_aload_n hx hb dX_shrinkStack_20 rfl (lv_at hl 0 rfl) ?_
  obtain ⟨z21, hz21, hfin⟩ := bd_ob hfin
  refine g_callMv [] [] X hK x_rcv hI (ctx_setOverflow l D cA o q hne z3 z21 hz21) (cwX_X_setOverflow X.2.2.2.2 ⟨Nat.le_of_ble_eq_true rfl, Nat.le_of_ble_eq_true rfl⟩) rfl hl.1 rfl (Nat.le_of_ble_eq_true rfl) dX_shrinkStack_21 (fun H locs hI => ?_)
  exact g_vret X hr hlk hK hI hfin dX_shrinkStack_24
set_option maxHeartbeats 4000000 in
set_option maxRecDepth 100000 in
theorem ctx_stack (l : Launch) (D : va_G) (cA : ClassId) (o q : Nat) (hne : va_nd [o, q] = true) (u : XS) (a0 : Int32) (a1 : Int32) (a2 : Int32) (z : XS) (hfin : x_stack u a0 a1 a2 = some z) : gMv l yX_stack wX_stack (rmF 3 68) D [(cA, .long)] (XW cA o q) (XA o q) [.ref o, .int a0, .int a1, .int a2] u z := by
  refine g_start (plainFor_of_name (by decide)) (Nat.le_of_ble_eq_true rfl) ?_
  intro p e s0 m args below meth c ls X hr hlk hB hl
  obtain ⟨hP0, hK⟩ := hB
  have hI : gI D (XW cA o q) (XA o q) s0.heap s0.heap [] u := ⟨hP0, va_S.rf⟩
  have hl : lv_has ls 4 [(0, .ref o), (1, .int a0), (2, .int a1), (3, .int a2)] := hl
  have hx := X.1
  have hb := X.2.1
  rw [x_stack] at hfin
  refine lv_iload_n hx hb dX_stack_0 rfl (lv_at hl 1 rfl) ?_
  by_cases hk1_0 : a0 = (176 : Int32)
  · rw [if_pos hk1_0] at hfin
    refine lv_tableIn hx hb dX_stack_1 (off := 39) (tgt := 40) (by rw [hk1_0]; decide) (by rw [hk1_0]; decide) (by rw [hk1_0]; rfl) (by decide) ?_
    refine lv_aload_n hx hb dX_stack_40 rfl (lv_at hl 0 rfl) ?_
    refine lv_iload_n hx hb dX_stack_41 rfl (lv_at hl 2 rfl) ?_
    obtain ⟨z42, hz42, hfin⟩ := bd_ob hfin
    refine g_callMv [.int a1] [] X hK x_rcv hI (ctx_growStack l D cA o q hne u a1 z42 hz42) (cwX_X_growStack X.2.2.2.2 ⟨Nat.le_of_ble_eq_true rfl, Nat.le_of_ble_eq_true rfl⟩) rfl hl.1 rfl (Nat.le_of_ble_eq_true rfl) dX_stack_42 (fun H locs hI => ?_)
    refine lv_aload_n hx hb dX_stack_45 rfl (lv_at hl 0 rfl) ?_
    refine lv_aload_n hx hb dX_stack_46 rfl (lv_at hl 0 rfl) ?_
    refine xg_words X hK hI.1 dX_stack_47 ?_
    refine lv_iload_n hx hb dX_stack_50 rfl (lv_at hl 2 rfl) ?_
    obtain ⟨hd51, hfin⟩ := ck_if hfin
    refine xl_words X hK hI.1 hd51 dX_stack_51 ?_
    refine g_callPi [.long (X_words z42 a1.toNatClampNeg)] [.ref o] X (ctx_right l (X_words z42 a1.toNatClampNeg)) (cwX_X_right X.2.2.2.2 ⟨Nat.le_of_ble_eq_true rfl, Nat.le_of_ble_eq_true rfl⟩) rfl hl.1 rfl (Nat.le_of_ble_eq_true rfl) dX_stack_52 ?_
    refine lv_aload_n hx hb dX_stack_55 rfl (lv_at hl 0 rfl) ?_
    refine g_callRl [] [.int (x_right (X_words z42 a1.toNatClampNeg)), .ref o] X hK x_rcv hI.1 (ctx_pcWord l D cA o q z42) (cwX_X_pcWord X.2.2.2.2 ⟨Nat.le_of_ble_eq_true rfl, Nat.le_of_ble_eq_true rfl⟩) rfl hl.1 rfl (Nat.le_of_ble_eq_true rfl) dX_stack_56 ?_
    obtain ⟨z59, hz59, hfin⟩ := bd_ob hfin
    refine g_callMv [.int (x_right (X_words z42 a1.toNatClampNeg)), .long (x_pcWord z42)] [] X hK x_rcv hI (ctx_write l D cA o q hne z42 (x_right (X_words z42 a1.toNatClampNeg)) (x_pcWord z42) z59 hz59) (cwX_X_write X.2.2.2.2 ⟨Nat.le_of_ble_eq_true rfl, Nat.le_of_ble_eq_true rfl⟩) rfl hl.1 rfl (Nat.le_of_ble_eq_true rfl) dX_stack_59 (fun H locs hI => ?_)
    refine lv_aload_n hx hb dX_stack_62 rfl (lv_at hl 0 rfl) ?_
    refine lv_iload_n hx hb dX_stack_63 rfl (lv_at hl 3 rfl) ?_
    refine xp_pc X hK (x_D hne) hI dX_stack_64 (fun H locs hI => ?_)
    exact g_vret X hr hlk hK hI hfin dX_stack_67
  rw [if_neg hk1_0] at hfin
  by_cases hk1_1 : a0 = (177 : Int32)
  · rw [if_pos hk1_1] at hfin
    refine lv_tableIn hx hb dX_stack_1 (off := 67) (tgt := 68) (by rw [hk1_1]; decide) (by rw [hk1_1]; decide) (by rw [hk1_1]; rfl) (by decide) ?_
    refine lv_aload_n hx hb dX_stack_68 rfl (lv_at hl 0 rfl) ?_
    refine lv_iload_n hx hb dX_stack_69 rfl (lv_at hl 2 rfl) ?_
    obtain ⟨z70, hz70, hfin⟩ := bd_ob hfin
    refine g_callMv [.int a1] [] X hK x_rcv hI (ctx_growStack l D cA o q hne u a1 z70 hz70) (cwX_X_growStack X.2.2.2.2 ⟨Nat.le_of_ble_eq_true rfl, Nat.le_of_ble_eq_true rfl⟩) rfl hl.1 rfl (Nat.le_of_ble_eq_true rfl) dX_stack_70 (fun H locs hI => ?_)
    refine lv_aload_n hx hb dX_stack_73 rfl (lv_at hl 0 rfl) ?_
    refine lv_aload_n hx hb dX_stack_74 rfl (lv_at hl 0 rfl) ?_
    refine xg_words X hK hI.1 dX_stack_75 ?_
    refine lv_iload_n hx hb dX_stack_78 rfl (lv_at hl 2 rfl) ?_
    obtain ⟨hd79, hfin⟩ := ck_if hfin
    refine xl_words X hK hI.1 hd79 dX_stack_79 ?_
    refine g_callPi [.long (X_words z70 a1.toNatClampNeg)] [.ref o] X (ctx_right l (X_words z70 a1.toNatClampNeg)) (cwX_X_right X.2.2.2.2 ⟨Nat.le_of_ble_eq_true rfl, Nat.le_of_ble_eq_true rfl⟩) rfl hl.1 rfl (Nat.le_of_ble_eq_true rfl) dX_stack_80 ?_
    refine lv_aload_n hx hb dX_stack_83 rfl (lv_at hl 0 rfl) ?_
    refine lv_iload_n hx hb dX_stack_84 rfl (lv_at hl 3 rfl) ?_
    obtain ⟨z85, hz85, hfin⟩ := bd_ob hfin
    refine g_callMl [.int a2] [.int (x_right (X_words z70 a1.toNatClampNeg)), .ref o] X hK x_rcv hI (ctx_read l D cA o q hne z70 a2 z85 hz85) (cwX_X_read X.2.2.2.2 ⟨Nat.le_of_ble_eq_true rfl, Nat.le_of_ble_eq_true rfl⟩) rfl hl.1 rfl (Nat.le_of_ble_eq_true rfl) dX_stack_85 (fun H locs hI => ?_)
    obtain ⟨z88, hz88, hfin⟩ := bd_ob hfin
    refine g_callMv [.int (x_right (X_words z70 a1.toNatClampNeg)), .long z85.1] [] X hK x_rcv hI (ctx_write l D cA o q hne z85.2 (x_right (X_words z70 a1.toNatClampNeg)) z85.1 z88 hz88) (cwX_X_write X.2.2.2.2 ⟨Nat.le_of_ble_eq_true rfl, Nat.le_of_ble_eq_true rfl⟩) rfl hl.1 rfl (Nat.le_of_ble_eq_true rfl) dX_stack_88 (fun H locs hI => ?_)
    exact g_vret X hr hlk hK hI hfin dX_stack_91
  rw [if_neg hk1_1] at hfin
  by_cases hk1_2 : a0 = (178 : Int32)
  · rw [if_pos hk1_2] at hfin
    refine lv_tableIn hx hb dX_stack_1 (off := 91) (tgt := 92) (by rw [hk1_2]; decide) (by rw [hk1_2]; decide) (by rw [hk1_2]; rfl) (by decide) ?_
    refine lv_aload_n hx hb dX_stack_92 rfl (lv_at hl 0 rfl) ?_
    refine lv_iload_n hx hb dX_stack_93 rfl (lv_at hl 3 rfl) ?_
    refine lv_aload_n hx hb dX_stack_94 rfl (lv_at hl 0 rfl) ?_
    refine lv_aload_n hx hb dX_stack_95 rfl (lv_at hl 0 rfl) ?_
    refine xg_words X hK hI.1 dX_stack_96 ?_
    refine lv_iload_n hx hb dX_stack_99 rfl (lv_at hl 2 rfl) ?_
    obtain ⟨hd100, hfin⟩ := ck_if hfin
    refine xl_words X hK hI.1 hd100 dX_stack_100 ?_
    refine g_callPi [.long (X_words u a1.toNatClampNeg)] [.ref o, .int a2, .ref o] X (ctx_right l (X_words u a1.toNatClampNeg)) (cwX_X_right X.2.2.2.2 ⟨Nat.le_of_ble_eq_true rfl, Nat.le_of_ble_eq_true rfl⟩) rfl hl.1 rfl (Nat.le_of_ble_eq_true rfl) dX_stack_101 ?_
    obtain ⟨z104, hz104, hfin⟩ := bd_ob hfin
    refine g_callMl [.int (x_right (X_words u a1.toNatClampNeg))] [.int a2, .ref o] X hK x_rcv hI (ctx_read l D cA o q hne u (x_right (X_words u a1.toNatClampNeg)) z104 hz104) (cwX_X_read X.2.2.2.2 ⟨Nat.le_of_ble_eq_true rfl, Nat.le_of_ble_eq_true rfl⟩) rfl hl.1 rfl (Nat.le_of_ble_eq_true rfl) dX_stack_104 (fun H locs hI => ?_)
    obtain ⟨z107, hz107, hfin⟩ := bd_ob hfin
    refine g_callMv [.int a2, .long z104.1] [] X hK x_rcv hI (ctx_write l D cA o q hne z104.2 a2 z104.1 z107 hz107) (cwX_X_write X.2.2.2.2 ⟨Nat.le_of_ble_eq_true rfl, Nat.le_of_ble_eq_true rfl⟩) rfl hl.1 rfl (Nat.le_of_ble_eq_true rfl) dX_stack_107 (fun H locs hI => ?_)
    refine lv_aload_n hx hb dX_stack_110 rfl (lv_at hl 0 rfl) ?_
    refine lv_iload_n hx hb dX_stack_111 rfl (lv_at hl 2 rfl) ?_
    obtain ⟨z112, hz112, hfin⟩ := bd_ob hfin
    refine g_callMv [.int a1] [] X hK x_rcv hI (ctx_shrinkStack l D cA o q hne z107 a1 z112 hz112) (cwX_X_shrinkStack X.2.2.2.2 ⟨Nat.le_of_ble_eq_true rfl, Nat.le_of_ble_eq_true rfl⟩) rfl hl.1 rfl (Nat.le_of_ble_eq_true rfl) dX_stack_112 (fun H locs hI => ?_)
    exact g_vret X hr hlk hK hI hfin dX_stack_115
  rw [if_neg hk1_2] at hfin
  by_cases hk1_3 : a0 = (179 : Int32)
  · rw [if_pos hk1_3] at hfin
    refine lv_tableIn hx hb dX_stack_1 (off := 115) (tgt := 116) (by rw [hk1_3]; decide) (by rw [hk1_3]; decide) (by rw [hk1_3]; rfl) (by decide) ?_
    refine lv_aload_n hx hb dX_stack_116 rfl (lv_at hl 0 rfl) ?_
    refine lv_aload_n hx hb dX_stack_117 rfl (lv_at hl 0 rfl) ?_
    refine lv_aload_n hx hb dX_stack_118 rfl (lv_at hl 0 rfl) ?_
    refine xg_words X hK hI.1 dX_stack_119 ?_
    refine lv_iload_n hx hb dX_stack_122 rfl (lv_at hl 2 rfl) ?_
    obtain ⟨hd123, hfin⟩ := ck_if hfin
    refine xl_words X hK hI.1 hd123 dX_stack_123 ?_
    refine g_callPi [.long (X_words u a1.toNatClampNeg)] [.ref o, .ref o] X (ctx_right l (X_words u a1.toNatClampNeg)) (cwX_X_right X.2.2.2.2 ⟨Nat.le_of_ble_eq_true rfl, Nat.le_of_ble_eq_true rfl⟩) rfl hl.1 rfl (Nat.le_of_ble_eq_true rfl) dX_stack_124 ?_
    obtain ⟨z127, hz127, hfin⟩ := bd_ob hfin
    refine g_callMl [.int (x_right (X_words u a1.toNatClampNeg))] [.ref o] X hK x_rcv hI (ctx_read l D cA o q hne u (x_right (X_words u a1.toNatClampNeg)) z127 hz127) (cwX_X_read X.2.2.2.2 ⟨Nat.le_of_ble_eq_true rfl, Nat.le_of_ble_eq_true rfl⟩) rfl hl.1 rfl (Nat.le_of_ble_eq_true rfl) dX_stack_127 (fun H locs hI => ?_)
    refine g_callPi [.long z127.1] [.ref o] X (ctx_right l z127.1) (cwX_X_right X.2.2.2.2 ⟨Nat.le_of_ble_eq_true rfl, Nat.le_of_ble_eq_true rfl⟩) rfl hl.1 rfl (Nat.le_of_ble_eq_true rfl) dX_stack_130 ?_
    refine xp_pc X hK (x_D hne) hI dX_stack_133 (fun H locs hI => ?_)
    refine lv_aload_n hx hb dX_stack_136 rfl (lv_at hl 0 rfl) ?_
    refine lv_iload_n hx hb dX_stack_137 rfl (lv_at hl 2 rfl) ?_
    obtain ⟨z138, hz138, hfin⟩ := bd_ob hfin
    refine g_callMv [.int a1] [] X hK x_rcv hI (ctx_shrinkStack l D cA o q hne (X_s_pc z127.2 (x_right z127.1)) a1 z138 hz138) (cwX_X_shrinkStack X.2.2.2.2 ⟨Nat.le_of_ble_eq_true rfl, Nat.le_of_ble_eq_true rfl⟩) rfl hl.1 rfl (Nat.le_of_ble_eq_true rfl) dX_stack_138 (fun H locs hI => ?_)
    exact g_vret X hr hlk hK hI hfin dX_stack_141
  rw [if_neg hk1_3] at hfin
  by_cases hk1_4 : a0 = (180 : Int32)
  · rw [if_pos hk1_4] at hfin
    refine lv_tableIn hx hb dX_stack_1 (off := 141) (tgt := 142) (by rw [hk1_4]; decide) (by rw [hk1_4]; decide) (by rw [hk1_4]; rfl) (by decide) ?_
    refine lv_aload_n hx hb dX_stack_142 rfl (lv_at hl 0 rfl) ?_
    refine lv_iload_n hx hb dX_stack_143 rfl (lv_at hl 3 rfl) ?_
    refine lv_aload_n hx hb dX_stack_144 rfl (lv_at hl 0 rfl) ?_
    refine g_callRl [] [.int a2, .ref o] X hK x_rcv hI.1 (ctx_pcWord l D cA o q u) (cwX_X_pcWord X.2.2.2.2 ⟨Nat.le_of_ble_eq_true rfl, Nat.le_of_ble_eq_true rfl⟩) rfl hl.1 rfl (Nat.le_of_ble_eq_true rfl) dX_stack_145 ?_
    obtain ⟨z148, hz148, hfin⟩ := bd_ob hfin
    refine g_callMv [.int a2, .long (x_pcWord u)] [] X hK x_rcv hI (ctx_write l D cA o q hne u a2 (x_pcWord u) z148 hz148) (cwX_X_write X.2.2.2.2 ⟨Nat.le_of_ble_eq_true rfl, Nat.le_of_ble_eq_true rfl⟩) rfl hl.1 rfl (Nat.le_of_ble_eq_true rfl) dX_stack_148 (fun H locs hI => ?_)
    refine lv_aload_n hx hb dX_stack_151 rfl (lv_at hl 0 rfl) ?_
    refine lv_iload_n hx hb dX_stack_152 rfl (lv_at hl 3 rfl) ?_
    refine lv_iconst (v := (1 : Int32)) hx hb dX_stack_153 (by decide) ?_
    refine lv_iadd hx hb dX_stack_154 ?_
    refine g_callPi [.int (a2 + (1 : Int32))] [.ref o] X (ctx_wrapped l (a2 + (1 : Int32))) (cwX_X_wrapped X.2.2.2.2 ⟨Nat.le_of_ble_eq_true rfl, Nat.le_of_ble_eq_true rfl⟩) rfl hl.1 rfl (Nat.le_of_ble_eq_true rfl) dX_stack_155 ?_
    refine xp_pc X hK (x_D hne) hI dX_stack_158 (fun H locs hI => ?_)
    exact g_vret X hr hlk hK hI hfin dX_stack_161
  rw [if_neg hk1_4] at hfin
  by_cases hk1_5 : a0 = (181 : Int32)
  · rw [if_pos hk1_5] at hfin
    refine lv_tableIn hx hb dX_stack_1 (off := 161) (tgt := 162) (by rw [hk1_5]; decide) (by rw [hk1_5]; decide) (by rw [hk1_5]; rfl) (by decide) ?_
    refine lv_aload_n hx hb dX_stack_162 rfl (lv_at hl 0 rfl) ?_
    refine lv_iload_n hx hb dX_stack_163 rfl (lv_at hl 2 rfl) ?_
    refine lv_aload_n hx hb dX_stack_164 rfl (lv_at hl 0 rfl) ?_
    refine g_callRl [] [.int a1, .ref o] X hK x_rcv hI.1 (ctx_pcWord l D cA o q u) (cwX_X_pcWord X.2.2.2.2 ⟨Nat.le_of_ble_eq_true rfl, Nat.le_of_ble_eq_true rfl⟩) rfl hl.1 rfl (Nat.le_of_ble_eq_true rfl) dX_stack_165 ?_
    obtain ⟨z168, hz168, hfin⟩ := bd_ob hfin
    refine g_callMv [.int a1, .long (x_pcWord u)] [] X hK x_rcv hI (ctx_setAccumulator l D cA o q hne u a1 (x_pcWord u) z168 hz168) (cwX_X_setAccumulator X.2.2.2.2 ⟨Nat.le_of_ble_eq_true rfl, Nat.le_of_ble_eq_true rfl⟩) rfl hl.1 rfl (Nat.le_of_ble_eq_true rfl) dX_stack_168 (fun H locs hI => ?_)
    refine lv_aload_n hx hb dX_stack_171 rfl (lv_at hl 0 rfl) ?_
    refine lv_iload_n hx hb dX_stack_172 rfl (lv_at hl 3 rfl) ?_
    refine xp_pc X hK (x_D hne) hI dX_stack_173 (fun H locs hI => ?_)
    exact g_vret X hr hlk hK hI hfin dX_stack_176
  rw [if_neg hk1_5] at hfin
  have hn1_0 := i32_ne (176 : Int32) 176 (by decide) hk1_0
  have hn1_1 := i32_ne (177 : Int32) 177 (by decide) hk1_1
  have hn1_2 := i32_ne (178 : Int32) 178 (by decide) hk1_2
  have hn1_3 := i32_ne (179 : Int32) 179 (by decide) hk1_3
  have hn1_4 := i32_ne (180 : Int32) 180 (by decide) hk1_4
  have hn1_5 := i32_ne (181 : Int32) 181 (by decide) hk1_5
  refine lv_tableOut hx hb dX_stack_1 (tgt := 177) (by omega) (by decide) ?_
  refine lv_aload_n hx hb dX_stack_177 rfl (lv_at hl 0 rfl) ?_
  refine lv_iconst (v := (2 : Int32)) hx hb dX_stack_178 (by decide) ?_
  obtain ⟨z179, hz179, hfin⟩ := bd_ob hfin
  refine g_callMv [.int (2 : Int32)] [] X hK x_rcv hI (ctx_raise l D cA o q hne u (2 : Int32) z179 hz179) (cwX_X_raise X.2.2.2.2 ⟨Nat.le_of_ble_eq_true rfl, Nat.le_of_ble_eq_true rfl⟩) rfl hl.1 rfl (Nat.le_of_ble_eq_true rfl) dX_stack_179 (fun H locs hI => ?_)
  exact g_vret X hr hlk hK hI hfin dX_stack_182
set_option maxHeartbeats 4000000 in
set_option maxRecDepth 100000 in
theorem ctx_sum (l : Launch) (D : va_G) (cA : ClassId) (o q : Nat) (hne : va_nd [o, q] = true) (u : XS) (a0 : Int32) (a1 : Int32) (a2 : Int32) (z : XS) (hfin : x_sum u a0 a1 a2 = some z) : gMv l yX_sum wX_sum (rmF 3 71) D [(cA, .long)] (XW cA o q) (XA o q) [.ref o, .int a0, .int a1, .int a2] u z := by
  refine g_start (plainFor_of_name (by decide)) (Nat.le_of_ble_eq_true rfl) ?_
  intro p e s0 m args below meth c ls X hr hlk hB hl
  obtain ⟨hP0, hK⟩ := hB
  have hI : gI D (XW cA o q) (XA o q) s0.heap s0.heap [] u := ⟨hP0, va_S.rf⟩
  have hl : lv_has ls 10 [(0, .ref o), (1, .int a0), (2, .int a1), (3, .int a2)] := hl
  have hx := X.1
  have hb := X.2.1
  have B_65 : ∀ (u : XS) (t1 : Int32) (t2 : Int32) (t3 : Int32) (t5 : Int64) (H : Heap) (locs : List Loc) (ls : Array Slot), lv_has ls 10 [(0, .ref o), (1, .int a0), (2, .int a1), (3, .int a2)] → gI D (XW cA o q) (XA o q) s0.heap H locs u → x_sum_65 a0 a1 a2 u t1 t2 t3 t5 = some z → W p l e (rmF 3 71) s0 m args below meth c H locs 0 0 (MQ below (va_Qv (fun x => x = z) (gB D [(cA, .long)] (XW cA o q)) (XA o q)) args s0 0 0 (XA o q)) (F0 m 65 ls [.long t5, .ref o, .int t3, .int t2, .int t1, .ref o]) := by
    intro u t1 t2 t3 t5 H locs ls hl hI hfin
    rw [x_sum_65] at hfin
    obtain ⟨z65, hz65, hfin⟩ := bd_ob hfin
    refine g_callMl [.long t5] [.int t3, .int t2, .int t1, .ref o] X hK x_rcv hI (ctx_fitted l D cA o q hne u t5 z65 hz65) (cwX_X_fitted X.2.2.2.2 ⟨Nat.le_of_ble_eq_true rfl, Nat.le_of_ble_eq_true rfl⟩) rfl hl.1 rfl (Nat.le_of_ble_eq_true rfl) dX_sum_65 (fun H locs hI => ?_)
    obtain ⟨z68, hz68, hfin⟩ := bd_ob hfin
    refine g_callMv [.int t1, .int t2, .int t3, .long z65.1] [] X hK x_rcv hI (ctx_putResult l D cA o q hne z65.2 t1 t2 t3 z65.1 z68 hz68) (cwX_X_putResult X.2.2.2.2 ⟨Nat.le_of_ble_eq_true rfl, Nat.le_of_ble_eq_true rfl⟩) rfl hl.1 rfl (Nat.le_of_ble_eq_true rfl) dX_sum_68 (fun H locs hI => ?_)
    exact g_vret X hr hlk hK hI hfin dX_sum_71
  have B_39 : ∀ (u : XS) (v4 : Int32) (v5 : Int64) (v7 : Int64) (t0 : Int32) (H : Heap) (locs : List Loc) (ls : Array Slot), lv_has ls 10 [(0, .ref o), (1, .int a0), (2, .int a1), (3, .int a2), (4, .int v4), (5, .long v5), (7, .long v7)] → gI D (XW cA o q) (XA o q) s0.heap H locs u → x_sum_39 a0 a1 a2 u v4 v5 v7 t0 = some z → W p l e (rmF 3 71) s0 m args below meth c H locs 0 0 (MQ below (va_Qv (fun x => x = z) (gB D [(cA, .long)] (XW cA o q)) (XA o q)) args s0 0 0 (XA o q)) (F0 m 39 ls [.int t0]) := by
    intro u v4 v5 v7 t0 H locs ls hl hI hfin
    rw [x_sum_39] at hfin
    refine lv_istore (lv' := [(9, .int t0), (0, .ref o), (1, .int a0), (2, .int a1), (3, .int a2), (4, .int v4), (5, .long v5), (7, .long v7)]) hx hb dX_sum_39 hl (by decide) rfl (fun ls hl => ?_)
    refine lv_aload_n hx hb dX_sum_41 rfl (lv_at hl 1 rfl) ?_
    refine lv_iload hx hb dX_sum_42 (lv_at hl 5 rfl) ?_
    refine lv_iload_n hx hb dX_sum_44 rfl (lv_at hl 3 rfl) ?_
    refine lv_iload_n hx hb dX_sum_45 rfl (lv_at hl 4 rfl) ?_
    refine lv_aload_n hx hb dX_sum_46 rfl (lv_at hl 1 rfl) ?_
    refine lv_iload hx hb dX_sum_47 (lv_at hl 0 rfl) ?_
    refine lv_if_eq (tgt := 60) hx hb dX_sum_49 (by decide) (fun hc49 => ?_) (fun hc49 => ?_)
    · rw [if_pos hc49] at hfin
      refine lv_lload hx hb dX_sum_60 (lv_at hl 6 rfl) ?_
      refine lv_lload hx hb dX_sum_62 (lv_at hl 7 rfl) ?_
      refine lv_lsub hx hb dX_sum_64 ?_
      exact B_65 u v4 a1 a2 (v5 - v7) H locs ls (lv_sub hl [1, 2, 3, 4] rfl) hI hfin
    rw [if_neg hc49] at hfin
    refine lv_lload hx hb dX_sum_52 (lv_at hl 6 rfl) ?_
    refine lv_lload hx hb dX_sum_54 (lv_at hl 7 rfl) ?_
    refine lv_ladd hx hb dX_sum_56 ?_
    refine lv_goto (tgt := 65) hx hb dX_sum_57 (by decide) ?_
    exact B_65 u v4 a1 a2 (v5 + v7) H locs ls (lv_sub hl [1, 2, 3, 4] rfl) hI hfin
  rw [x_sum] at hfin
  refine lv_iload_n hx hb dX_sum_0 rfl (lv_at hl 1 rfl) ?_
  refine lv_iconst (v := (3 : Int32)) hx hb dX_sum_1 (by decide) ?_
  refine lv_iand hx hb dX_sum_2 ?_
  refine lv_topi (fun x3 e3 => ?_)
  replace hfin := nm_at hfin e3
  refine lv_istore (lv' := [(4, .int x3), (0, .ref o), (1, .int a0), (2, .int a1), (3, .int a2)]) hx hb dX_sum_3 hl (by decide) rfl (fun ls hl => ?_)
  refine lv_aload_n hx hb dX_sum_5 rfl (lv_at hl 1 rfl) ?_
  refine xg_words X hK hI.1 dX_sum_6 ?_
  refine lv_iload_n hx hb dX_sum_9 rfl (lv_at hl 3 rfl) ?_
  obtain ⟨hd10, hfin⟩ := ck_if hfin
  refine xl_words X hK hI.1 hd10 dX_sum_10 ?_
  refine g_callPl [.long (X_words u a1.toNatClampNeg)] [] X (ctx_signed l (X_words u a1.toNatClampNeg)) (cwX_X_signed X.2.2.2.2 ⟨Nat.le_of_ble_eq_true rfl, Nat.le_of_ble_eq_true rfl⟩) rfl hl.1 rfl (Nat.le_of_ble_eq_true rfl) dX_sum_11 ?_
  refine lv_topl (fun x14 e14 => ?_)
  replace hfin := nm_at hfin e14
  refine lv_lstore (lv' := [(5, .long x14), (4, .int x3), (0, .ref o), (1, .int a0), (2, .int a1), (3, .int a2)]) hx hb dX_sum_14 hl (by decide) rfl (fun ls hl => ?_)
  refine lv_aload_n hx hb dX_sum_16 rfl (lv_at hl 2 rfl) ?_
  refine lv_iload hx hb dX_sum_17 (lv_at hl 1 rfl) ?_
  refine lv_iload_n hx hb dX_sum_19 rfl (lv_at hl 5 rfl) ?_
  obtain ⟨z20, hz20, hfin⟩ := bd_ob hfin
  refine g_callMl [.int x3, .int a2] [] X hK x_rcv hI (ctx_source l D cA o q hne u x3 a2 z20 hz20) (cwX_X_source X.2.2.2.2 ⟨Nat.le_of_ble_eq_true rfl, Nat.le_of_ble_eq_true rfl⟩) rfl hl.1 rfl (Nat.le_of_ble_eq_true rfl) dX_sum_20 (fun H locs hI => ?_)
  refine g_callPl [.long z20.1] [] X (ctx_signed l z20.1) (cwX_X_signed X.2.2.2.2 ⟨Nat.le_of_ble_eq_true rfl, Nat.le_of_ble_eq_true rfl⟩) rfl hl.1 rfl (Nat.le_of_ble_eq_true rfl) dX_sum_23 ?_
  refine lv_topl (fun x26 e26 => ?_)
  replace hfin := nm_at hfin e26
  refine lv_lstore (lv' := [(7, .long x26), (5, .long x14), (4, .int x3), (0, .ref o), (1, .int a0), (2, .int a1), (3, .int a2)]) hx hb dX_sum_26 hl (by decide) rfl (fun ls hl => ?_)
  refine lv_iload_n hx hb dX_sum_28 rfl (lv_at hl 4 rfl) ?_
  refine lv_iconst (v := (4 : Int32)) hx hb dX_sum_29 (by decide) ?_
  refine lv_iand hx hb dX_sum_30 ?_
  refine lv_if_ne (tgt := 38) hx hb dX_sum_31 (by decide) (fun hc31 => ?_) (fun hc31 => ?_)
  · rw [if_neg hc31] at hfin
    refine lv_iconst (v := (0 : Int32)) hx hb dX_sum_38 (by decide) ?_
    exact B_39 z20.2 x3 x14 x26 (0 : Int32) H locs ls (lv_sub hl [3, 4, 5, 6, 2, 1, 0] rfl) hI hfin
  rw [if_pos hc31] at hfin
  refine lv_iconst (v := (1 : Int32)) hx hb dX_sum_34 (by decide) ?_
  refine lv_goto (tgt := 39) hx hb dX_sum_35 (by decide) ?_
  exact B_39 z20.2 x3 x14 x26 (1 : Int32) H locs ls (lv_sub hl [3, 4, 5, 6, 2, 1, 0] rfl) hI hfin
set_option maxHeartbeats 4000000 in
set_option maxRecDepth 100000 in
theorem ctx_holds (l : Launch) (a0 : Int32) (a1 : Int64) : gPi l yX_holds wX_holds (rmF 0 0) [.int a0, .long a1] (x_holds a0 a1) := by
  obtain ⟨z, hz⟩ : ∃ z, z = x_holds a0 a1 := ⟨_, rfl⟩
  rw [← hz]
  have hfin := hz.symm
  clear hz
  refine g_start (plainFor_of_name (by decide)) (Nat.le_of_ble_eq_true rfl) ?_
  intro p e s0 m args below meth c ls X hr hlk hB hl
  have hl : lv_has ls 3 [(0, .int a0), (1, .long a1)] := hl
  have hx := X.1
  have hb := X.2.1
  rw [x_holds] at hfin
  refine lv_iload_n hx hb dX_holds_0 rfl (lv_at hl 0 rfl) ?_
  by_cases hk1_0 : a0 = (1 : Int32)
  · rw [if_pos hk1_0] at hfin
    refine lv_tableIn hx hb dX_holds_1 (off := 43) (tgt := 44) (by rw [hk1_0]; decide) (by rw [hk1_0]; decide) (by rw [hk1_0]; rfl) (by decide) ?_
    refine lv_lload_n hx hb dX_holds_44 rfl (lv_at hl 1 rfl) ?_
    refine lv_lconst (v := (0 : Int64)) hx hb dX_holds_45 (by decide) ?_
    refine W.lcmp hx hb dX_holds_46 ?_
    refine lv_if_ge (tgt := 54) hx hb dX_holds_47 (by decide) (fun hc47 => ?_) (fun hc47 => ?_)
    · rw [if_pos hc47] at hfin
      refine lv_iconst (v := (0 : Int32)) hx hb dX_holds_54 (by decide) ?_
      exact g_zretP X hr hlk rfl hfin dX_holds_55
    rw [if_neg hc47] at hfin
    refine lv_iconst (v := (1 : Int32)) hx hb dX_holds_50 (by decide) ?_
    refine lv_goto (tgt := 55) hx hb dX_holds_51 (by decide) ?_
    exact g_zretP X hr hlk rfl hfin dX_holds_55
  rw [if_neg hk1_0] at hfin
  by_cases hk1_1 : a0 = (2 : Int32)
  · rw [if_pos hk1_1] at hfin
    refine lv_tableIn hx hb dX_holds_1 (off := 55) (tgt := 56) (by rw [hk1_1]; decide) (by rw [hk1_1]; decide) (by rw [hk1_1]; rfl) (by decide) ?_
    refine lv_lload_n hx hb dX_holds_56 rfl (lv_at hl 1 rfl) ?_
    refine lv_lconst (v := (0 : Int64)) hx hb dX_holds_57 (by decide) ?_
    refine W.lcmp hx hb dX_holds_58 ?_
    refine lv_if_ne (tgt := 66) hx hb dX_holds_59 (by decide) (fun hc59 => ?_) (fun hc59 => ?_)
    · rw [if_neg hc59] at hfin
      refine lv_iconst (v := (0 : Int32)) hx hb dX_holds_66 (by decide) ?_
      exact g_zretP X hr hlk rfl hfin dX_holds_67
    rw [if_pos hc59] at hfin
    refine lv_iconst (v := (1 : Int32)) hx hb dX_holds_62 (by decide) ?_
    refine lv_goto (tgt := 67) hx hb dX_holds_63 (by decide) ?_
    exact g_zretP X hr hlk rfl hfin dX_holds_67
  rw [if_neg hk1_1] at hfin
  by_cases hk1_2 : a0 = (3 : Int32)
  · rw [if_pos hk1_2] at hfin
    refine lv_tableIn hx hb dX_holds_1 (off := 67) (tgt := 68) (by rw [hk1_2]; decide) (by rw [hk1_2]; decide) (by rw [hk1_2]; rfl) (by decide) ?_
    refine lv_lload_n hx hb dX_holds_68 rfl (lv_at hl 1 rfl) ?_
    refine lv_lconst (v := (0 : Int64)) hx hb dX_holds_69 (by decide) ?_
    refine W.lcmp hx hb dX_holds_70 ?_
    refine lv_if_gt (tgt := 78) hx hb dX_holds_71 (by decide) (fun hc71 => ?_) (fun hc71 => ?_)
    · rw [if_pos hc71] at hfin
      refine lv_iconst (v := (0 : Int32)) hx hb dX_holds_78 (by decide) ?_
      exact g_zretP X hr hlk rfl hfin dX_holds_79
    rw [if_neg hc71] at hfin
    refine lv_iconst (v := (1 : Int32)) hx hb dX_holds_74 (by decide) ?_
    refine lv_goto (tgt := 79) hx hb dX_holds_75 (by decide) ?_
    exact g_zretP X hr hlk rfl hfin dX_holds_79
  rw [if_neg hk1_2] at hfin
  by_cases hk1_3 : a0 = (4 : Int32)
  · rw [if_pos hk1_3] at hfin
    refine lv_tableIn hx hb dX_holds_1 (off := 79) (tgt := 80) (by rw [hk1_3]; decide) (by rw [hk1_3]; decide) (by rw [hk1_3]; rfl) (by decide) ?_
    refine lv_iconst (v := (1 : Int32)) hx hb dX_holds_80 (by decide) ?_
    exact g_zretP X hr hlk rfl hfin dX_holds_81
  rw [if_neg hk1_3] at hfin
  by_cases hk1_4 : a0 = (5 : Int32)
  · rw [if_pos hk1_4] at hfin
    refine lv_tableIn hx hb dX_holds_1 (off := 81) (tgt := 82) (by rw [hk1_4]; decide) (by rw [hk1_4]; decide) (by rw [hk1_4]; rfl) (by decide) ?_
    refine lv_lload_n hx hb dX_holds_82 rfl (lv_at hl 1 rfl) ?_
    refine lv_lconst (v := (0 : Int64)) hx hb dX_holds_83 (by decide) ?_
    refine W.lcmp hx hb dX_holds_84 ?_
    refine lv_if_lt (tgt := 92) hx hb dX_holds_85 (by decide) (fun hc85 => ?_) (fun hc85 => ?_)
    · rw [if_pos hc85] at hfin
      refine lv_iconst (v := (0 : Int32)) hx hb dX_holds_92 (by decide) ?_
      exact g_zretP X hr hlk rfl hfin dX_holds_93
    rw [if_neg hc85] at hfin
    refine lv_iconst (v := (1 : Int32)) hx hb dX_holds_88 (by decide) ?_
    refine lv_goto (tgt := 93) hx hb dX_holds_89 (by decide) ?_
    exact g_zretP X hr hlk rfl hfin dX_holds_93
  rw [if_neg hk1_4] at hfin
  by_cases hk1_5 : a0 = (6 : Int32)
  · rw [if_pos hk1_5] at hfin
    refine lv_tableIn hx hb dX_holds_1 (off := 93) (tgt := 94) (by rw [hk1_5]; decide) (by rw [hk1_5]; decide) (by rw [hk1_5]; rfl) (by decide) ?_
    refine lv_lload_n hx hb dX_holds_94 rfl (lv_at hl 1 rfl) ?_
    refine lv_lconst (v := (0 : Int64)) hx hb dX_holds_95 (by decide) ?_
    refine W.lcmp hx hb dX_holds_96 ?_
    refine lv_if_eq (tgt := 104) hx hb dX_holds_97 (by decide) (fun hc97 => ?_) (fun hc97 => ?_)
    · rw [if_pos hc97] at hfin
      refine lv_iconst (v := (0 : Int32)) hx hb dX_holds_104 (by decide) ?_
      exact g_zretP X hr hlk rfl hfin dX_holds_105
    rw [if_neg hc97] at hfin
    refine lv_iconst (v := (1 : Int32)) hx hb dX_holds_100 (by decide) ?_
    refine lv_goto (tgt := 105) hx hb dX_holds_101 (by decide) ?_
    exact g_zretP X hr hlk rfl hfin dX_holds_105
  rw [if_neg hk1_5] at hfin
  by_cases hk1_6 : a0 = (7 : Int32)
  · rw [if_pos hk1_6] at hfin
    refine lv_tableIn hx hb dX_holds_1 (off := 105) (tgt := 106) (by rw [hk1_6]; decide) (by rw [hk1_6]; decide) (by rw [hk1_6]; rfl) (by decide) ?_
    refine lv_lload_n hx hb dX_holds_106 rfl (lv_at hl 1 rfl) ?_
    refine lv_lconst (v := (0 : Int64)) hx hb dX_holds_107 (by decide) ?_
    refine W.lcmp hx hb dX_holds_108 ?_
    refine lv_if_le (tgt := 116) hx hb dX_holds_109 (by decide) (fun hc109 => ?_) (fun hc109 => ?_)
    · rw [if_pos hc109] at hfin
      refine lv_iconst (v := (0 : Int32)) hx hb dX_holds_116 (by decide) ?_
      exact g_zretP X hr hlk rfl hfin dX_holds_117
    rw [if_neg hc109] at hfin
    refine lv_iconst (v := (1 : Int32)) hx hb dX_holds_112 (by decide) ?_
    refine lv_goto (tgt := 117) hx hb dX_holds_113 (by decide) ?_
    exact g_zretP X hr hlk rfl hfin dX_holds_117
  rw [if_neg hk1_6] at hfin
  have hn1_0 := i32_ne (1 : Int32) 1 (by decide) hk1_0
  have hn1_1 := i32_ne (2 : Int32) 2 (by decide) hk1_1
  have hn1_2 := i32_ne (3 : Int32) 3 (by decide) hk1_2
  have hn1_3 := i32_ne (4 : Int32) 4 (by decide) hk1_3
  have hn1_4 := i32_ne (5 : Int32) 5 (by decide) hk1_4
  have hn1_5 := i32_ne (6 : Int32) 6 (by decide) hk1_5
  have hn1_6 := i32_ne (7 : Int32) 7 (by decide) hk1_6
  refine lv_tableOut hx hb dX_holds_1 (tgt := 118) (by omega) (by decide) ?_
  refine lv_iconst (v := (0 : Int32)) hx hb dX_holds_118 (by decide) ?_
  exact g_zretP X hr hlk rfl hfin dX_holds_119
set_option maxHeartbeats 4000000 in
set_option maxRecDepth 100000 in
theorem ctx_skipIf (l : Launch) (D : va_G) (cA : ClassId) (o q : Nat) (hne : va_nd [o, q] = true) (u : XS) (a0 : Int32) (z : XS) (hfin : x_skipIf u a0 = some z) : gMv l yX_skipIf wX_skipIf (rmF 1 20) D [(cA, .long)] (XW cA o q) (XA o q) [.ref o, .int a0] u z := by
  refine g_start (plainFor_of_name (by decide)) (Nat.le_of_ble_eq_true rfl) ?_
  intro p e s0 m args below meth c ls X hr hlk hB hl
  obtain ⟨hP0, hK⟩ := hB
  have hI : gI D (XW cA o q) (XA o q) s0.heap s0.heap [] u := ⟨hP0, va_S.rf⟩
  have hl : lv_has ls 2 [(0, .ref o), (1, .int a0)] := hl
  have hx := X.1
  have hb := X.2.1
  rw [x_skipIf] at hfin
  refine lv_iload_n hx hb dX_skipIf_0 rfl (lv_at hl 1 rfl) ?_
  refine lv_if_eq (tgt := 17) hx hb dX_skipIf_1 (by decide) (fun hc1 => ?_) (fun hc1 => ?_)
  · rw [if_pos hc1] at hfin
    exact g_vret X hr hlk hK hI hfin dX_skipIf_17
  rw [if_neg hc1] at hfin
  refine lv_aload_n hx hb dX_skipIf_4 rfl (lv_at hl 0 rfl) ?_
  refine lv_aload_n hx hb dX_skipIf_5 rfl (lv_at hl 0 rfl) ?_
  refine xg_pc X hK hI.1 dX_skipIf_6 ?_
  refine lv_iconst (v := (1 : Int32)) hx hb dX_skipIf_9 (by decide) ?_
  refine lv_iadd hx hb dX_skipIf_10 ?_
  refine g_callPi [.int ((X_pc u) + (1 : Int32))] [.ref o] X (ctx_wrapped l ((X_pc u) + (1 : Int32))) (cwX_X_wrapped X.2.2.2.2 ⟨Nat.le_of_ble_eq_true rfl, Nat.le_of_ble_eq_true rfl⟩) rfl hl.1 rfl (Nat.le_of_ble_eq_true rfl) dX_skipIf_11 ?_
  refine xp_pc X hK (x_D hne) hI dX_skipIf_14 (fun H locs hI => ?_)
  exact g_vret X hr hlk hK hI hfin dX_skipIf_17
set_option maxHeartbeats 4000000 in
set_option maxRecDepth 100000 in
theorem ctx_skipOnWord (l : Launch) (D : va_G) (cA : ClassId) (o q : Nat) (hne : va_nd [o, q] = true) (u : XS) (a0 : Int32) (a1 : Int32) (a2 : Int64) (z : XS) (hfin : x_skipOnWord u a0 a1 a2 = some z) : gMv l yX_skipOnWord wX_skipOnWord (rmF 2 46) D [(cA, .long)] (XW cA o q) (XA o q) [.ref o, .int a0, .int a1, .long a2] u z := by
  refine g_start (plainFor_of_name (by decide)) (Nat.le_of_ble_eq_true rfl) ?_
  intro p e s0 m args below meth c ls X hr hlk hB hl
  obtain ⟨hP0, hK⟩ := hB
  have hI : gI D (XW cA o q) (XA o q) s0.heap s0.heap [] u := ⟨hP0, va_S.rf⟩
  have hl : lv_has ls 5 [(0, .ref o), (1, .int a0), (2, .int a1), (3, .long a2)] := hl
  have hx := X.1
  have hb := X.2.1
  rw [x_skipOnWord] at hfin
  refine lv_aload_n hx hb dX_skipOnWord_0 rfl (lv_at hl 0 rfl) ?_
  refine lv_iload_n hx hb dX_skipOnWord_1 rfl (lv_at hl 2 rfl) ?_
  refine lv_lload_n hx hb dX_skipOnWord_2 rfl (lv_at hl 3 rfl) ?_
  obtain ⟨z3, hz3, hfin⟩ := bd_ob hfin
  refine g_callMv [.int a1, .long a2] [] X hK x_rcv hI (ctx_setAccumulatorButZero l D cA o q hne u a1 a2 z3 hz3) (cwX_X_setAccumulatorButZero X.2.2.2.2 ⟨Nat.le_of_ble_eq_true rfl, Nat.le_of_ble_eq_true rfl⟩) rfl hl.1 rfl (Nat.le_of_ble_eq_true rfl) dX_skipOnWord_3 (fun H locs hI => ?_)
  refine lv_aload_n hx hb dX_skipOnWord_6 rfl (lv_at hl 0 rfl) ?_
  refine lv_iload_n hx hb dX_skipOnWord_7 rfl (lv_at hl 1 rfl) ?_
  refine lv_lload_n hx hb dX_skipOnWord_8 rfl (lv_at hl 3 rfl) ?_
  refine g_callPl [.long a2] [.int a0, .ref o] X (ctx_signed l a2) (cwX_X_signed X.2.2.2.2 ⟨Nat.le_of_ble_eq_true rfl, Nat.le_of_ble_eq_true rfl⟩) rfl hl.1 rfl (Nat.le_of_ble_eq_true rfl) dX_skipOnWord_9 ?_
  refine g_callPi [.int a0, .long (x_signed a2)] [.ref o] X (ctx_holds l a0 (x_signed a2)) (cwX_X_holds X.2.2.2.2 ⟨Nat.le_of_ble_eq_true rfl, Nat.le_of_ble_eq_true rfl⟩) rfl hl.1 rfl (Nat.le_of_ble_eq_true rfl) dX_skipOnWord_12 ?_
  obtain ⟨z15, hz15, hfin⟩ := bd_ob hfin
  refine g_callMv [.int (x_holds a0 (x_signed a2))] [] X hK x_rcv hI (ctx_skipIf l D cA o q hne z3 (x_holds a0 (x_signed a2)) z15 hz15) (cwX_X_skipIf X.2.2.2.2 ⟨Nat.le_of_ble_eq_true rfl, Nat.le_of_ble_eq_true rfl⟩) rfl hl.1 rfl (Nat.le_of_ble_eq_true rfl) dX_skipOnWord_15 (fun H locs hI => ?_)
  exact g_vret X hr hlk hK hI hfin dX_skipOnWord_18
set_option maxHeartbeats 4000000 in
set_option maxRecDepth 100000 in
theorem ctx_countAndJump (l : Launch) (D : va_G) (cA : ClassId) (o q : Nat) (hne : va_nd [o, q] = true) (u : XS) (a0 : Int32) (a1 : Int32) (a2 : Int32) (a3 : Int32) (z : XS) (hfin : x_countAndJump u a0 a1 a2 a3 = some z) : gMv l yX_countAndJump wX_countAndJump (rmF 2 45) D [(cA, .long)] (XW cA o q) (XA o q) [.ref o, .int a0, .int a1, .int a2, .int a3] u z := by
  refine g_start (plainFor_of_name (by decide)) (Nat.le_of_ble_eq_true rfl) ?_
  intro p e s0 m args below meth c ls X hr hlk hB hl
  obtain ⟨hP0, hK⟩ := hB
  have hI : gI D (XW cA o q) (XA o q) s0.heap s0.heap [] u := ⟨hP0, va_S.rf⟩
  have hl : lv_has ls 7 [(0, .ref o), (1, .int a0), (2, .int a1), (3, .int a2), (4, .int a3)] := hl
  have hx := X.1
  have hb := X.2.1
  rw [x_countAndJump] at hfin
  refine lv_aload_n hx hb dX_countAndJump_0 rfl (lv_at hl 0 rfl) ?_
  refine lv_aload_n hx hb dX_countAndJump_1 rfl (lv_at hl 0 rfl) ?_
  refine xg_words X hK hI.1 dX_countAndJump_2 ?_
  refine lv_iload_n hx hb dX_countAndJump_5 rfl (lv_at hl 2 rfl) ?_
  obtain ⟨hd6, hfin⟩ := ck_if hfin
  refine xl_words X hK hI.1 hd6 dX_countAndJump_6 ?_
  refine g_callPl [.long (X_words u a1.toNatClampNeg)] [.ref o] X (ctx_signed l (X_words u a1.toNatClampNeg)) (cwX_X_signed X.2.2.2.2 ⟨Nat.le_of_ble_eq_true rfl, Nat.le_of_ble_eq_true rfl⟩) rfl hl.1 rfl (Nat.le_of_ble_eq_true rfl) dX_countAndJump_7 ?_
  refine lv_iload hx hb dX_countAndJump_10 (lv_at hl 4 rfl) ?_
  refine lv_i2l hx hb dX_countAndJump_12 rfl ?_
  refine lv_ladd hx hb dX_countAndJump_13 ?_
  obtain ⟨z14, hz14, hfin⟩ := bd_ob hfin
  refine g_callMl [.long ((x_signed (X_words u a1.toNatClampNeg)) + (a3.toInt64))] [] X hK x_rcv hI (ctx_fitted l D cA o q hne u ((x_signed (X_words u a1.toNatClampNeg)) + (a3.toInt64)) z14 hz14) (cwX_X_fitted X.2.2.2.2 ⟨Nat.le_of_ble_eq_true rfl, Nat.le_of_ble_eq_true rfl⟩) rfl hl.1 rfl (Nat.le_of_ble_eq_true rfl) dX_countAndJump_14 (fun H locs hI => ?_)
  refine lv_lstore (lv' := [(5, .long z14.1), (0, .ref o), (1, .int a0), (2, .int a1), (3, .int a2), (4, .int a3)]) hx hb dX_countAndJump_17 hl (by decide) rfl (fun ls hl => ?_)
  refine lv_aload_n hx hb dX_countAndJump_19 rfl (lv_at hl 1 rfl) ?_
  refine lv_iload_n hx hb dX_countAndJump_20 rfl (lv_at hl 3 rfl) ?_
  refine lv_lload hx hb dX_countAndJump_21 (lv_at hl 0 rfl) ?_
  obtain ⟨z23, hz23, hfin⟩ := bd_ob hfin
  refine g_callMv [.int a1, .long z14.1] [] X hK x_rcv hI (ctx_setAccumulator l D cA o q hne z14.2 a1 z14.1 z23 hz23) (cwX_X_setAccumulator X.2.2.2.2 ⟨Nat.le_of_ble_eq_true rfl, Nat.le_of_ble_eq_true rfl⟩) rfl hl.1 rfl (Nat.le_of_ble_eq_true rfl) dX_countAndJump_23 (fun H locs hI => ?_)
  refine lv_aload_n hx hb dX_countAndJump_26 rfl (lv_at hl 1 rfl) ?_
  refine lv_iload_n hx hb dX_countAndJump_27 rfl (lv_at hl 2 rfl) ?_
  refine lv_lload hx hb dX_countAndJump_28 (lv_at hl 0 rfl) ?_
  refine g_callPl [.long z14.1] [.int a0, .ref o] X (ctx_signed l z14.1) (cwX_X_signed X.2.2.2.2 ⟨Nat.le_of_ble_eq_true rfl, Nat.le_of_ble_eq_true rfl⟩) rfl hl.1 rfl (Nat.le_of_ble_eq_true rfl) dX_countAndJump_30 ?_
  refine g_callPi [.int a0, .long (x_signed z14.1)] [.ref o] X (ctx_holds l a0 (x_signed z14.1)) (cwX_X_holds X.2.2.2.2 ⟨Nat.le_of_ble_eq_true rfl, Nat.le_of_ble_eq_true rfl⟩) rfl hl.1 rfl (Nat.le_of_ble_eq_true rfl) dX_countAndJump_33 ?_
  refine lv_iload_n hx hb dX_countAndJump_36 rfl (lv_at hl 4 rfl) ?_
  obtain ⟨z37, hz37, hfin⟩ := bd_ob hfin
  refine g_callMv [.int (x_holds a0 (x_signed z14.1)), .int a2] [] X hK x_rcv hI (ctx_jumpIf l D cA o q hne z23 (x_holds a0 (x_signed z14.1)) a2 z37 hz37) (cwX_X_jumpIf X.2.2.2.2 ⟨Nat.le_of_ble_eq_true rfl, Nat.le_of_ble_eq_true rfl⟩) rfl hl.1 rfl (Nat.le_of_ble_eq_true rfl) dX_countAndJump_37 (fun H locs hI => ?_)
  exact g_vret X hr hlk hK hI hfin dX_countAndJump_40
