set_option maxHeartbeats 4000000 in
set_option maxRecDepth 100000 in
theorem ctx_shiftedAsNumber (l : Launch) (D : va_G) (cA : ClassId) (o q : Nat) (hne : va_nd [o, q] = true) (u : XS) (a0 : Int64) (a1 : Int32) (z : Int64 × XS) (hfin : x_shiftedAsNumber u a0 a1 = some z) : gMl l yX_shiftedAsNumber wX_shiftedAsNumber (rmF 1 22) D [(cA, .long)] (XW cA o q) (XA o q) [.ref o, .long a0, .int a1] u z := by
  refine g_start (plainFor_of_name (by decide)) (Nat.le_of_ble_eq_true rfl) ?_
  intro p e s0 m args below meth c ls X hr hlk hB hl
  obtain ⟨hP0, hK⟩ := hB
  have hI : gI D (XW cA o q) (XA o q) s0.heap s0.heap [] u := ⟨hP0, va_S.rf⟩
  have hl : lv_has ls 7 [(0, .ref o), (1, .long a0), (3, .int a1)] := hl
  have hx := X.1
  have hb := X.2.1
  have B_78 : ∀ (u : XS) (H : Heap) (locs : List Loc) (ls : Array Slot), lv_has ls 7 [(0, .ref o), (1, .long a0), (3, .int a1)] → gI D (XW cA o q) (XA o q) s0.heap H locs u → x_shiftedAsNumber_78 a0 a1 u = some z → W p l e (rmF 1 22) s0 m args below meth c H locs 0 0 (MQ below (va_Ql (fun r x => (r, x) = z) (gB D [(cA, .long)] (XW cA o q)) (XA o q)) args s0 0 0 (XA o q)) (F0 m 78 ls []) := by
    intro u H locs ls hl hI hfin
    rw [x_shiftedAsNumber_78] at hfin
    refine lv_lload_n hx hb dX_shiftedAsNumber_78 rfl (lv_at hl 1 rfl) ?_
    refine lv_ldc2 hx hb X.2.2.2.1 (X.2.2.2.2 _ hkX_268) dX_shiftedAsNumber_79 ?_
    refine lv_land hx hb dX_shiftedAsNumber_82 ?_
    refine lv_lload_n hx hb dX_shiftedAsNumber_83 rfl (lv_at hl 1 rfl) ?_
    refine lv_iload_n hx hb dX_shiftedAsNumber_84 rfl (lv_at hl 2 rfl) ?_
    refine g_callPl [.long a0, .int a1] [.long (a0 &&& (34359738368 : Int64))] X (ctx_shiftedAsBits l a0 a1) (cwX_X_shiftedAsBits X.2.2.2.2 ⟨Nat.le_of_ble_eq_true rfl, Nat.le_of_ble_eq_true rfl⟩) rfl hl.1 rfl (Nat.le_of_ble_eq_true rfl) dX_shiftedAsNumber_85 ?_
    refine lv_ldc2 hx hb X.2.2.2.1 (X.2.2.2.2 _ hkX_270) dX_shiftedAsNumber_88 ?_
    refine lv_land hx hb dX_shiftedAsNumber_91 ?_
    refine lv_lor hx hb dX_shiftedAsNumber_92 ?_
    exact g_lret X hr hlk hK hI hfin dX_shiftedAsNumber_93
  have B_67 : ∀ (u : XS) (t0 : Int32) (H : Heap) (locs : List Loc) (ls : Array Slot), lv_has ls 7 [(0, .ref o), (1, .long a0), (3, .int a1)] → gI D (XW cA o q) (XA o q) s0.heap H locs u → x_shiftedAsNumber_67 a0 a1 u t0 = some z → W p l e (rmF 1 22) s0 m args below meth c H locs 0 0 (MQ below (va_Ql (fun r x => (r, x) = z) (gB D [(cA, .long)] (XW cA o q)) (XA o q)) args s0 0 0 (XA o q)) (F0 m 67 ls [.int t0]) := by
    intro u t0 H locs ls hl hI hfin
    rw [x_shiftedAsNumber_67] at hfin
    refine lv_istore (lv' := [(6, .int t0), (0, .ref o), (1, .long a0), (3, .int a1)]) hx hb dX_shiftedAsNumber_67 hl (by decide) rfl (fun ls hl => ?_)
    refine lv_iload hx hb dX_shiftedAsNumber_69 (lv_at hl 0 rfl) ?_
    refine lv_if_ne (tgt := 78) hx hb dX_shiftedAsNumber_71 (by decide) (fun hc71 => ?_) (fun hc71 => ?_)
    · rw [if_neg hc71] at hfin
      exact B_78 u H locs ls (lv_sub hl [1, 2, 3] rfl) hI hfin
    rw [if_pos hc71] at hfin
    refine lv_aload_n hx hb dX_shiftedAsNumber_74 rfl (lv_at hl 1 rfl) ?_
    obtain ⟨z75, hz75, hfin⟩ := bd_ob hfin
    refine g_callMv [] [] X hK x_rcv hI (ctx_setOverflow l D cA o q hne u z75 hz75) (cwX_X_setOverflow X.2.2.2.2 ⟨Nat.le_of_ble_eq_true rfl, Nat.le_of_ble_eq_true rfl⟩) rfl hl.1 rfl (Nat.le_of_ble_eq_true rfl) dX_shiftedAsNumber_75 (fun H locs hI => ?_)
    exact B_78 z75 H locs ls (lv_sub hl [1, 2, 3] rfl) hI hfin
  rw [x_shiftedAsNumber] at hfin
  refine lv_lload_n hx hb dX_shiftedAsNumber_0 rfl (lv_at hl 1 rfl) ?_
  refine g_callPl [.long a0] [] X (ctx_signed l a0) (cwX_X_signed X.2.2.2.2 ⟨Nat.le_of_ble_eq_true rfl, Nat.le_of_ble_eq_true rfl⟩) rfl hl.1 rfl (Nat.le_of_ble_eq_true rfl) dX_shiftedAsNumber_1 ?_
  refine lv_topl (fun x4 e4 => ?_)
  replace hfin := nm_at hfin e4
  refine lv_lstore (lv' := [(4, .long x4), (0, .ref o), (1, .long a0), (3, .int a1)]) hx hb dX_shiftedAsNumber_4 hl (by decide) rfl (fun ls hl => ?_)
  refine lv_iload_n hx hb dX_shiftedAsNumber_6 rfl (lv_at hl 3 rfl) ?_
  refine lv_if_gt (tgt := 25) hx hb dX_shiftedAsNumber_7 (by decide) (fun hc7 => ?_) (fun hc7 => ?_)
  · rw [if_pos hc7] at hfin
    refine lv_iload_n hx hb dX_shiftedAsNumber_25 rfl (lv_at hl 3 rfl) ?_
    refine lv_bipush (v := (36 : Int32)) hx hb dX_shiftedAsNumber_26 (by decide) ?_
    refine lv_icmp_ge (tgt := 55) hx hb dX_shiftedAsNumber_28 (by decide) (fun hc28 => ?_) (fun hc28 => ?_)
    · rw [if_pos hc28] at hfin
      refine lv_lload hx hb dX_shiftedAsNumber_55 (lv_at hl 0 rfl) ?_
      refine lv_lconst (v := (0 : Int64)) hx hb dX_shiftedAsNumber_57 (by decide) ?_
      refine W.lcmp hx hb dX_shiftedAsNumber_58 ?_
      refine lv_if_ne (tgt := 66) hx hb dX_shiftedAsNumber_59 (by decide) (fun hc59 => ?_) (fun hc59 => ?_)
      · rw [if_neg hc59] at hfin
        refine lv_iconst (v := (0 : Int32)) hx hb dX_shiftedAsNumber_66 (by decide) ?_
        exact B_67 u (0 : Int32) s0.heap [] ls (lv_sub hl [1, 2, 3] rfl) hI hfin
      rw [if_pos hc59] at hfin
      refine lv_iconst (v := (1 : Int32)) hx hb dX_shiftedAsNumber_62 (by decide) ?_
      refine lv_goto (tgt := 67) hx hb dX_shiftedAsNumber_63 (by decide) ?_
      exact B_67 u (1 : Int32) s0.heap [] ls (lv_sub hl [1, 2, 3] rfl) hI hfin
    rw [if_neg hc28] at hfin
    refine lv_lload hx hb dX_shiftedAsNumber_31 (lv_at hl 0 rfl) ?_
    refine lv_bipush (v := (35 : Int32)) hx hb dX_shiftedAsNumber_33 (by decide) ?_
    refine lv_iload_n hx hb dX_shiftedAsNumber_35 rfl (lv_at hl 3 rfl) ?_
    refine lv_isub hx hb dX_shiftedAsNumber_36 ?_
    refine lv_lshr hx hb dX_shiftedAsNumber_37 rfl ?_
    refine lv_lload hx hb dX_shiftedAsNumber_38 (lv_at hl 0 rfl) ?_
    refine lv_bipush (v := (36 : Int32)) hx hb dX_shiftedAsNumber_40 (by decide) ?_
    refine lv_lshr hx hb dX_shiftedAsNumber_42 rfl ?_
    refine W.lcmp hx hb dX_shiftedAsNumber_43 ?_
    refine lv_if_ne (tgt := 51) hx hb dX_shiftedAsNumber_44 (by decide) (fun hc44 => ?_) (fun hc44 => ?_)
    · rw [if_neg hc44] at hfin
      refine lv_iconst (v := (0 : Int32)) hx hb dX_shiftedAsNumber_51 (by decide) ?_
      refine lv_goto (tgt := 67) hx hb dX_shiftedAsNumber_52 (by decide) ?_
      exact B_67 u (0 : Int32) s0.heap [] ls (lv_sub hl [1, 2, 3] rfl) hI hfin
    rw [if_pos hc44] at hfin
    refine lv_iconst (v := (1 : Int32)) hx hb dX_shiftedAsNumber_47 (by decide) ?_
    refine lv_goto (tgt := 67) hx hb dX_shiftedAsNumber_48 (by decide) ?_
    exact B_67 u (1 : Int32) s0.heap [] ls (lv_sub hl [1, 2, 3] rfl) hI hfin
  rw [if_neg hc7] at hfin
  refine lv_lload hx hb dX_shiftedAsNumber_10 (lv_at hl 0 rfl) ?_
  refine lv_iload_n hx hb dX_shiftedAsNumber_12 rfl (lv_at hl 3 rfl) ?_
  refine lv_ineg hx hb dX_shiftedAsNumber_13 ?_
  refine lv_bipush (v := (36 : Int32)) hx hb dX_shiftedAsNumber_14 (by decide) ?_
  refine g_callPi [.int (-a1), .int (36 : Int32)] [.long x4] X (ctj_min l (-a1) (36 : Int32)) (cwX_J_min X.2.2.2.2 ⟨Nat.le_of_ble_eq_true rfl, Nat.le_of_ble_eq_true rfl⟩) rfl hl.1 rfl (Nat.le_of_ble_eq_true rfl) dX_shiftedAsNumber_16 ?_
  refine lv_lshr hx hb dX_shiftedAsNumber_19 rfl ?_
  refine lv_ldc2 hx hb X.2.2.2.1 (X.2.2.2.2 _ hkX_17) dX_shiftedAsNumber_20 ?_
  refine lv_land hx hb dX_shiftedAsNumber_23 ?_
  exact g_lret X hr hlk hK hI hfin dX_shiftedAsNumber_24
set_option maxHeartbeats 4000000 in
set_option maxRecDepth 100000 in
theorem ctx_rotated (l : Launch) (a0 : Int64) (a1 : Int32) : gPl l yX_rotated wX_rotated (rmF 1 22) [.long a0, .int a1] (x_rotated a0 a1) := by
  obtain ⟨z, hz⟩ : ∃ z, z = x_rotated a0 a1 := ⟨_, rfl⟩
  rw [← hz]
  have hfin := hz.symm
  clear hz
  refine g_start (plainFor_of_name (by decide)) (Nat.le_of_ble_eq_true rfl) ?_
  intro p e s0 m args below meth c ls X hr hlk hB hl
  have hl : lv_has ls 4 [(0, .long a0), (2, .int a1)] := hl
  have hx := X.1
  have hb := X.2.1
  rw [x_rotated] at hfin
  refine lv_iload_n hx hb dX_rotated_0 rfl (lv_at hl 1 rfl) ?_
  refine lv_bipush (v := (36 : Int32)) hx hb dX_rotated_1 (by decide) ?_
  refine g_callPi [.int a1, .int (36 : Int32)] [] X (ctj_floorMod l a1 (36 : Int32) (by decide)) (cwX_J_floorMod X.2.2.2.2 ⟨Nat.le_of_ble_eq_true rfl, Nat.le_of_ble_eq_true rfl⟩) rfl hl.1 rfl (Nat.le_of_ble_eq_true rfl) dX_rotated_3 ?_
  refine lv_topi (fun x6 e6 => ?_)
  replace hfin := nm_at hfin e6
  refine lv_istore_n (lv' := [(3, .int x6), (0, .long a0), (2, .int a1)]) hx hb dX_rotated_6 rfl hl (by decide) rfl (fun ls hl => ?_)
  refine lv_lload_n hx hb dX_rotated_7 rfl (lv_at hl 1 rfl) ?_
  refine lv_iload_n hx hb dX_rotated_8 rfl (lv_at hl 0 rfl) ?_
  refine lv_lshl hx hb dX_rotated_9 rfl ?_
  refine lv_lload_n hx hb dX_rotated_10 rfl (lv_at hl 1 rfl) ?_
  refine lv_bipush (v := (36 : Int32)) hx hb dX_rotated_11 (by decide) ?_
  refine lv_iload_n hx hb dX_rotated_13 rfl (lv_at hl 0 rfl) ?_
  refine lv_isub hx hb dX_rotated_14 ?_
  refine lv_lushr hx hb dX_rotated_15 rfl ?_
  refine lv_lor hx hb dX_rotated_16 ?_
  refine lv_ldc2 hx hb X.2.2.2.1 (X.2.2.2.2 _ hkX_17) dX_rotated_17 ?_
  refine lv_land hx hb dX_rotated_20 ?_
  exact g_lretP X hr hlk hfin dX_rotated_21
set_option maxHeartbeats 4000000 in
set_option maxRecDepth 100000 in
theorem ctx_shift (l : Launch) (D : va_G) (cA : ClassId) (o q : Nat) (hne : va_nd [o, q] = true) (u : XS) (a0 : Int32) (a1 : Int32) (a2 : Int32) (z : XS) (hfin : x_shift u a0 a1 a2 = some z) : gMv l yX_shift wX_shift (rmF 2 48) D [(cA, .long)] (XW cA o q) (XA o q) [.ref o, .int a0, .int a1, .int a2] u z := by
  refine g_start (plainFor_of_name (by decide)) (Nat.le_of_ble_eq_true rfl) ?_
  intro p e s0 m args below meth c ls X hr hlk hB hl
  obtain ⟨hP0, hK⟩ := hB
  have hI : gI D (XW cA o q) (XA o q) s0.heap s0.heap [] u := ⟨hP0, va_S.rf⟩
  have hl : lv_has ls 5 [(0, .ref o), (1, .int a0), (2, .int a1), (3, .int a2)] := hl
  have hx := X.1
  have hb := X.2.1
  have B_19 : ∀ (u : XS) (t0 : Int32) (t1 : Int32) (H : Heap) (locs : List Loc) (ls : Array Slot), lv_has ls 5 [(0, .ref o), (1, .int a0), (2, .int a1), (3, .int a2)] → gI D (XW cA o q) (XA o q) s0.heap H locs u → x_shift_19 a0 a1 a2 u t0 t1 = some z → W p l e (rmF 2 48) s0 m args below meth c H locs 0 0 (MQ below (va_Qv (fun x => x = z) (gB D [(cA, .long)] (XW cA o q)) (XA o q)) args s0 0 0 (XA o q)) (F0 m 19 ls [.int t1, .int t0]) := by
    intro u t0 t1 H locs ls hl hI hfin
    rw [x_shift_19] at hfin
    refine lv_isub hx hb dX_shift_19 ?_
    refine lv_topi (fun x20 e20 => ?_)
    replace hfin := nm_at hfin e20
    refine lv_istore (lv' := [(4, .int x20), (0, .ref o), (1, .int a0), (2, .int a1), (3, .int a2)]) hx hb dX_shift_20 hl (by decide) rfl (fun ls hl => ?_)
    refine lv_iload_n hx hb dX_shift_22 rfl (lv_at hl 2 rfl) ?_
    by_cases hk23_0 : a0 = (160 : Int32)
    · rw [if_pos hk23_0] at hfin
      refine lv_tableIn hx hb dX_shift_23 (off := 25) (tgt := 48) (by rw [hk23_0]; decide) (by rw [hk23_0]; decide) (by rw [hk23_0]; rfl) (by decide) ?_
      refine lv_aload_n hx hb dX_shift_48 rfl (lv_at hl 1 rfl) ?_
      refine lv_iload_n hx hb dX_shift_49 rfl (lv_at hl 3 rfl) ?_
      refine lv_aload_n hx hb dX_shift_50 rfl (lv_at hl 1 rfl) ?_
      refine lv_aload_n hx hb dX_shift_51 rfl (lv_at hl 1 rfl) ?_
      refine xg_words X hK hI.1 dX_shift_52 ?_
      refine lv_iload_n hx hb dX_shift_55 rfl (lv_at hl 3 rfl) ?_
      obtain ⟨hd56, hfin⟩ := ck_if hfin
      refine xl_words X hK hI.1 hd56 dX_shift_56 ?_
      refine lv_iload hx hb dX_shift_57 (lv_at hl 0 rfl) ?_
      obtain ⟨z59, hz59, hfin⟩ := bd_ob hfin
      refine g_callMl [.long (X_words u a1.toNatClampNeg), .int x20] [.int a1, .ref o] X hK x_rcv hI (ctx_shiftedAsNumber l D cA o q hne u (X_words u a1.toNatClampNeg) x20 z59 hz59) (cwX_X_shiftedAsNumber X.2.2.2.2 ⟨Nat.le_of_ble_eq_true rfl, Nat.le_of_ble_eq_true rfl⟩) rfl hl.1 rfl (Nat.le_of_ble_eq_true rfl) dX_shift_59 (fun H locs hI => ?_)
      obtain ⟨z62, hz62, hfin⟩ := bd_ob hfin
      refine g_callMv [.int a1, .long z59.1] [] X hK x_rcv hI (ctx_setAccumulator l D cA o q hne z59.2 a1 z59.1 z62 hz62) (cwX_X_setAccumulator X.2.2.2.2 ⟨Nat.le_of_ble_eq_true rfl, Nat.le_of_ble_eq_true rfl⟩) rfl hl.1 rfl (Nat.le_of_ble_eq_true rfl) dX_shift_62 (fun H locs hI => ?_)
      exact g_vret X hr hlk hK hI hfin dX_shift_65
    rw [if_neg hk23_0] at hfin
    by_cases hk23_1 : a0 = (161 : Int32)
    · rw [if_pos hk23_1] at hfin
      refine lv_tableIn hx hb dX_shift_23 (off := 43) (tgt := 66) (by rw [hk23_1]; decide) (by rw [hk23_1]; decide) (by rw [hk23_1]; rfl) (by decide) ?_
      refine lv_aload_n hx hb dX_shift_66 rfl (lv_at hl 1 rfl) ?_
      refine lv_iload_n hx hb dX_shift_67 rfl (lv_at hl 3 rfl) ?_
      refine lv_aload_n hx hb dX_shift_68 rfl (lv_at hl 1 rfl) ?_
      refine xg_words X hK hI.1 dX_shift_69 ?_
      refine lv_iload_n hx hb dX_shift_72 rfl (lv_at hl 3 rfl) ?_
      obtain ⟨hd73, hfin⟩ := ck_if hfin
      refine xl_words X hK hI.1 hd73 dX_shift_73 ?_
      refine lv_iload hx hb dX_shift_74 (lv_at hl 0 rfl) ?_
      refine g_callPl [.long (X_words u a1.toNatClampNeg), .int x20] [.int a1, .ref o] X (ctx_rotated l (X_words u a1.toNatClampNeg) x20) (cwX_X_rotated X.2.2.2.2 ⟨Nat.le_of_ble_eq_true rfl, Nat.le_of_ble_eq_true rfl⟩) rfl hl.1 rfl (Nat.le_of_ble_eq_true rfl) dX_shift_76 ?_
      obtain ⟨z79, hz79, hfin⟩ := bd_ob hfin
      refine g_callMv [.int a1, .long (x_rotated (X_words u a1.toNatClampNeg) x20)] [] X hK x_rcv hI (ctx_setAccumulator l D cA o q hne u a1 (x_rotated (X_words u a1.toNatClampNeg) x20) z79 hz79) (cwX_X_setAccumulator X.2.2.2.2 ⟨Nat.le_of_ble_eq_true rfl, Nat.le_of_ble_eq_true rfl⟩) rfl hl.1 rfl (Nat.le_of_ble_eq_true rfl) dX_shift_79 (fun H locs hI => ?_)
      exact g_vret X hr hlk hK hI hfin dX_shift_82
    rw [if_neg hk23_1] at hfin
    by_cases hk23_2 : a0 = (162 : Int32)
    · rw [if_pos hk23_2] at hfin
      refine lv_tableIn hx hb dX_shift_23 (off := 60) (tgt := 83) (by rw [hk23_2]; decide) (by rw [hk23_2]; decide) (by rw [hk23_2]; rfl) (by decide) ?_
      refine lv_aload_n hx hb dX_shift_83 rfl (lv_at hl 1 rfl) ?_
      refine lv_iload_n hx hb dX_shift_84 rfl (lv_at hl 3 rfl) ?_
      refine lv_aload_n hx hb dX_shift_85 rfl (lv_at hl 1 rfl) ?_
      refine xg_words X hK hI.1 dX_shift_86 ?_
      refine lv_iload_n hx hb dX_shift_89 rfl (lv_at hl 3 rfl) ?_
      obtain ⟨hd90, hfin⟩ := ck_if hfin
      refine xl_words X hK hI.1 hd90 dX_shift_90 ?_
      refine lv_iload hx hb dX_shift_91 (lv_at hl 0 rfl) ?_
      refine g_callPl [.long (X_words u a1.toNatClampNeg), .int x20] [.int a1, .ref o] X (ctx_shiftedAsBits l (X_words u a1.toNatClampNeg) x20) (cwX_X_shiftedAsBits X.2.2.2.2 ⟨Nat.le_of_ble_eq_true rfl, Nat.le_of_ble_eq_true rfl⟩) rfl hl.1 rfl (Nat.le_of_ble_eq_true rfl) dX_shift_93 ?_
      obtain ⟨z96, hz96, hfin⟩ := bd_ob hfin
      refine g_callMv [.int a1, .long (x_shiftedAsBits (X_words u a1.toNatClampNeg) x20)] [] X hK x_rcv hI (ctx_setAccumulator l D cA o q hne u a1 (x_shiftedAsBits (X_words u a1.toNatClampNeg) x20) z96 hz96) (cwX_X_setAccumulator X.2.2.2.2 ⟨Nat.le_of_ble_eq_true rfl, Nat.le_of_ble_eq_true rfl⟩) rfl hl.1 rfl (Nat.le_of_ble_eq_true rfl) dX_shift_96 (fun H locs hI => ?_)
      exact g_vret X hr hlk hK hI hfin dX_shift_99
    rw [if_neg hk23_2] at hfin
    have hn23_0 := i32_ne (160 : Int32) 160 (by decide) hk23_0
    have hn23_1 := i32_ne (161 : Int32) 161 (by decide) hk23_1
    have hn23_2 := i32_ne (162 : Int32) 162 (by decide) hk23_2
    refine lv_tableOut hx hb dX_shift_23 (tgt := 100) (by omega) (by decide) ?_
    refine lv_aload_n hx hb dX_shift_100 rfl (lv_at hl 1 rfl) ?_
    refine lv_iconst (v := (2 : Int32)) hx hb dX_shift_101 (by decide) ?_
    obtain ⟨z102, hz102, hfin⟩ := bd_ob hfin
    refine g_callMv [.int (2 : Int32)] [] X hK x_rcv hI (ctx_raise l D cA o q hne u (2 : Int32) z102 hz102) (cwX_X_raise X.2.2.2.2 ⟨Nat.le_of_ble_eq_true rfl, Nat.le_of_ble_eq_true rfl⟩) rfl hl.1 rfl (Nat.le_of_ble_eq_true rfl) dX_shift_102 (fun H locs hI => ?_)
    exact g_vret X hr hlk hK hI hfin dX_shift_105
  rw [x_shift] at hfin
  refine lv_iload_n hx hb dX_shift_0 rfl (lv_at hl 3 rfl) ?_
  refine lv_sipush (v := (255 : Int32)) hx hb dX_shift_1 (by decide) ?_
  refine lv_iand hx hb dX_shift_4 ?_
  refine lv_iload_n hx hb dX_shift_5 rfl (lv_at hl 3 rfl) ?_
  refine lv_ldc hx hb X.2.2.2.1 (X.2.2.2.2 _ hkX_110) dX_shift_6 ?_
  refine lv_iand hx hb dX_shift_8 ?_
  refine lv_if_eq (tgt := 18) hx hb dX_shift_9 (by decide) (fun hc9 => ?_) (fun hc9 => ?_)
  · rw [if_pos hc9] at hfin
    refine lv_iconst (v := (0 : Int32)) hx hb dX_shift_18 (by decide) ?_
    exact B_19 u (a2 &&& (255 : Int32)) (0 : Int32) s0.heap [] ls (lv_sub hl [0, 1, 2, 3] rfl) hI hfin
  rw [if_neg hc9] at hfin
  refine lv_sipush (v := (256 : Int32)) hx hb dX_shift_12 (by decide) ?_
  refine lv_goto (tgt := 19) hx hb dX_shift_15 (by decide) ?_
  exact B_19 u (a2 &&& (255 : Int32)) (256 : Int32) s0.heap [] ls (lv_sub hl [0, 1, 2, 3] rfl) hI hfin
set_option maxHeartbeats 4000000 in
set_option maxRecDepth 100000 in
theorem ctx_exchange (l : Launch) (D : va_G) (cA : ClassId) (o q : Nat) (hne : va_nd [o, q] = true) (u : XS) (a0 : Int32) (a1 : Int32) (z : XS) (hfin : x_exchange u a0 a1 = some z) : gMv l yX_exchange wX_exchange (rmF 2 46) D [(cA, .long)] (XW cA o q) (XA o q) [.ref o, .int a0, .int a1] u z := by
  refine g_start (plainFor_of_name (by decide)) (Nat.le_of_ble_eq_true rfl) ?_
  intro p e s0 m args below meth c ls X hr hlk hB hl
  obtain ⟨hP0, hK⟩ := hB
  have hI : gI D (XW cA o q) (XA o q) s0.heap s0.heap [] u := ⟨hP0, va_S.rf⟩
  have hl : lv_has ls 5 [(0, .ref o), (1, .int a0), (2, .int a1)] := hl
  have hx := X.1
  have hb := X.2.1
  rw [x_exchange] at hfin
  refine lv_aload_n hx hb dX_exchange_0 rfl (lv_at hl 0 rfl) ?_
  refine lv_iload_n hx hb dX_exchange_1 rfl (lv_at hl 2 rfl) ?_
  obtain ⟨z2, hz2, hfin⟩ := bd_ob hfin
  refine g_callMl [.int a1] [] X hK x_rcv hI (ctx_read l D cA o q hne u a1 z2 hz2) (cwX_X_read X.2.2.2.2 ⟨Nat.le_of_ble_eq_true rfl, Nat.le_of_ble_eq_true rfl⟩) rfl hl.1 rfl (Nat.le_of_ble_eq_true rfl) dX_exchange_2 (fun H locs hI => ?_)
  refine lv_lstore_n (lv' := [(3, .long z2.1), (0, .ref o), (1, .int a0), (2, .int a1)]) hx hb dX_exchange_5 rfl hl (by decide) rfl (fun ls hl => ?_)
  refine lv_aload_n hx hb dX_exchange_6 rfl (lv_at hl 1 rfl) ?_
  refine lv_iload_n hx hb dX_exchange_7 rfl (lv_at hl 3 rfl) ?_
  refine lv_aload_n hx hb dX_exchange_8 rfl (lv_at hl 1 rfl) ?_
  refine xg_words X hK hI.1 dX_exchange_9 ?_
  refine lv_iload_n hx hb dX_exchange_12 rfl (lv_at hl 2 rfl) ?_
  obtain ⟨hd13, hfin⟩ := ck_if hfin
  refine xl_words X hK hI.1 hd13 dX_exchange_13 ?_
  obtain ⟨z14, hz14, hfin⟩ := bd_ob hfin
  refine g_callMv [.int a1, .long (X_words z2.2 a0.toNatClampNeg)] [] X hK x_rcv hI (ctx_write l D cA o q hne z2.2 a1 (X_words z2.2 a0.toNatClampNeg) z14 hz14) (cwX_X_write X.2.2.2.2 ⟨Nat.le_of_ble_eq_true rfl, Nat.le_of_ble_eq_true rfl⟩) rfl hl.1 rfl (Nat.le_of_ble_eq_true rfl) dX_exchange_14 (fun H locs hI => ?_)
  refine lv_aload_n hx hb dX_exchange_17 rfl (lv_at hl 1 rfl) ?_
  refine lv_iload_n hx hb dX_exchange_18 rfl (lv_at hl 2 rfl) ?_
  refine lv_lload_n hx hb dX_exchange_19 rfl (lv_at hl 0 rfl) ?_
  obtain ⟨z20, hz20, hfin⟩ := bd_ob hfin
  refine g_callMv [.int a0, .long z2.1] [] X hK x_rcv hI (ctx_setAccumulator l D cA o q hne z14 a0 z2.1 z20 hz20) (cwX_X_setAccumulator X.2.2.2.2 ⟨Nat.le_of_ble_eq_true rfl, Nat.le_of_ble_eq_true rfl⟩) rfl hl.1 rfl (Nat.le_of_ble_eq_true rfl) dX_exchange_20 (fun H locs hI => ?_)
  exact g_vret X hr hlk hK hI hfin dX_exchange_23
set_option maxHeartbeats 4000000 in
set_option maxRecDepth 100000 in
theorem ctx_block (l : Launch) (D : va_G) (cA : ClassId) (o q : Nat) (hne : va_nd [o, q] = true) (u : XS) (a0 : Int32) (a1 : Int32) (z : XS) (hfin : x_block u a0 a1 = some z) : gMv l yX_block wX_block (rmF 2 46) D [(cA, .long)] (XW cA o q) (XA o q) [.ref o, .int a0, .int a1] u z := by
  refine g_start (plainFor_of_name (by decide)) (Nat.le_of_ble_eq_true rfl) ?_
  intro p e s0 m args below meth c ls X hr hlk hB hl
  obtain ⟨hP0, hK⟩ := hB
  have hI : gI D (XW cA o q) (XA o q) s0.heap s0.heap [] u := ⟨hP0, va_S.rf⟩
  have hl : lv_has ls 7 [(0, .ref o), (1, .int a0), (2, .int a1)] := hl
  have hx := X.1
  have hb := X.2.1
  have B_36 : ∀ (k : Nat) (u : XS) (v3 : Int32) (v4 : Int32) (v5 : Int32) (v6 : Int32) (H : Heap) (locs : List Loc) (ls : Array Slot), lv_has ls 7 [(0, .ref o), (1, .int a0), (2, .int a1), (3, .int v3), (4, .int v4), (5, .int v5), (6, .int v6)] → gI D (XW cA o q) (XA o q) s0.heap H locs u → x_block_36 a0 a1 k u v3 v4 v5 v6 = some z → W p l e (rmF 2 46) s0 m args below meth c H locs 0 0 (MQ below (va_Qv (fun x => x = z) (gB D [(cA, .long)] (XW cA o q)) (XA o q)) args s0 0 0 (XA o q)) (F0 m 36 ls []) := by
    intro k
    induction k with
    | zero =>
      intro u v3 v4 v5 v6 H locs ls hl hI hfin
      rw [x_block_36] at hfin
      cases hfin
    | succ k IH =>
      intro u v3 v4 v5 v6 H locs ls hl hI hfin
      rw [x_block_36] at hfin
      refine lv_iload hx hb dX_block_36 (lv_at hl 6 rfl) ?_
      refine lv_iload hx hb dX_block_38 (lv_at hl 5 rfl) ?_
      refine lv_icmp_ge (tgt := 79) hx hb dX_block_40 (by decide) (fun hc40 => ?_) (fun hc40 => ?_)
      · rw [if_pos hc40] at hfin
        exact g_vret X hr hlk hK hI hfin dX_block_79
      rw [if_neg hc40] at hfin
      refine lv_aload_n hx hb dX_block_43 rfl (lv_at hl 0 rfl) ?_
      refine xg_trap X hK hI.1 dX_block_44 ?_
      refine lv_if_ne (tgt := 79) hx hb dX_block_47 (by decide) (fun hc47 => ?_) (fun hc47 => ?_)
      · rw [if_neg hc47] at hfin
        exact g_vret X hr hlk hK hI hfin dX_block_79
      rw [if_pos hc47] at hfin
      refine lv_aload_n hx hb dX_block_50 rfl (lv_at hl 0 rfl) ?_
      refine lv_iload hx hb dX_block_51 (lv_at hl 4 rfl) ?_
      refine lv_iload hx hb dX_block_53 (lv_at hl 6 rfl) ?_
      refine lv_iadd hx hb dX_block_55 ?_
      refine g_callPi [.int (v4 + v6)] [.ref o] X (ctx_wrapped l (v4 + v6)) (cwX_X_wrapped X.2.2.2.2 ⟨Nat.le_of_ble_eq_true rfl, Nat.le_of_ble_eq_true rfl⟩) rfl hl.1 rfl (Nat.le_of_ble_eq_true rfl) dX_block_56 ?_
      refine lv_aload_n hx hb dX_block_59 rfl (lv_at hl 0 rfl) ?_
      refine lv_iload_n hx hb dX_block_60 rfl (lv_at hl 3 rfl) ?_
      refine lv_iload hx hb dX_block_61 (lv_at hl 6 rfl) ?_
      refine lv_iadd hx hb dX_block_63 ?_
      refine g_callPi [.int (v3 + v6)] [.ref o, .int (x_wrapped (v4 + v6)), .ref o] X (ctx_wrapped l (v3 + v6)) (cwX_X_wrapped X.2.2.2.2 ⟨Nat.le_of_ble_eq_true rfl, Nat.le_of_ble_eq_true rfl⟩) rfl hl.1 rfl (Nat.le_of_ble_eq_true rfl) dX_block_64 ?_
      obtain ⟨z67, hz67, hfin⟩ := bd_ob hfin
      refine g_callMl [.int (x_wrapped (v3 + v6))] [.int (x_wrapped (v4 + v6)), .ref o] X hK x_rcv hI (ctx_read l D cA o q hne u (x_wrapped (v3 + v6)) z67 hz67) (cwX_X_read X.2.2.2.2 ⟨Nat.le_of_ble_eq_true rfl, Nat.le_of_ble_eq_true rfl⟩) rfl hl.1 rfl (Nat.le_of_ble_eq_true rfl) dX_block_67 (fun H locs hI => ?_)
      obtain ⟨z70, hz70, hfin⟩ := bd_ob hfin
      refine g_callMv [.int (x_wrapped (v4 + v6)), .long z67.1] [] X hK x_rcv hI (ctx_write l D cA o q hne z67.2 (x_wrapped (v4 + v6)) z67.1 z70 hz70) (cwX_X_write X.2.2.2.2 ⟨Nat.le_of_ble_eq_true rfl, Nat.le_of_ble_eq_true rfl⟩) rfl hl.1 rfl (Nat.le_of_ble_eq_true rfl) dX_block_70 (fun H locs hI => ?_)
      refine lv_iinc (lv' := [(6, .int (v6 + Int32.ofInt 1)), (0, .ref o), (1, .int a0), (2, .int a1), (3, .int v3), (4, .int v4), (5, .int v5)]) (k := 6) hx hb dX_block_73 hl rfl rfl (by decide) rfl (fun ls hl => ?_)
      refine lv_goto (tgt := 36) hx hb dX_block_76 (by decide) ?_
      exact IH z70 v3 v4 v5 (v6 + Int32.ofInt 1) H locs ls (lv_sub hl [1, 2, 3, 4, 5, 6, 0] rfl) hI hfin
  rw [x_block] at hfin
  refine lv_aload_n hx hb dX_block_0 rfl (lv_at hl 0 rfl) ?_
  refine xg_words X hK hI.1 dX_block_1 ?_
  refine lv_iload_n hx hb dX_block_4 rfl (lv_at hl 1 rfl) ?_
  obtain ⟨hd5, hfin⟩ := ck_if hfin
  refine xl_words X hK hI.1 hd5 dX_block_5 ?_
  refine g_callPi [.long (X_words u a0.toNatClampNeg)] [] X (ctx_left l (X_words u a0.toNatClampNeg)) (cwX_X_left X.2.2.2.2 ⟨Nat.le_of_ble_eq_true rfl, Nat.le_of_ble_eq_true rfl⟩) rfl hl.1 rfl (Nat.le_of_ble_eq_true rfl) dX_block_6 ?_
  refine lv_topi (fun x9 e9 => ?_)
  replace hfin := nm_at hfin e9
  refine lv_istore_n (lv' := [(3, .int x9), (0, .ref o), (1, .int a0), (2, .int a1)]) hx hb dX_block_9 rfl hl (by decide) rfl (fun ls hl => ?_)
  refine lv_aload_n hx hb dX_block_10 rfl (lv_at hl 1 rfl) ?_
  refine xg_words X hK hI.1 dX_block_11 ?_
  refine lv_iload_n hx hb dX_block_14 rfl (lv_at hl 2 rfl) ?_
  obtain ⟨hd15, hfin⟩ := ck_if hfin
  refine xl_words X hK hI.1 hd15 dX_block_15 ?_
  refine g_callPi [.long (X_words u a0.toNatClampNeg)] [] X (ctx_right l (X_words u a0.toNatClampNeg)) (cwX_X_right X.2.2.2.2 ⟨Nat.le_of_ble_eq_true rfl, Nat.le_of_ble_eq_true rfl⟩) rfl hl.1 rfl (Nat.le_of_ble_eq_true rfl) dX_block_16 ?_
  refine lv_topi (fun x19 e19 => ?_)
  replace hfin := nm_at hfin e19
  refine lv_istore (lv' := [(4, .int x19), (3, .int x9), (0, .ref o), (1, .int a0), (2, .int a1)]) hx hb dX_block_19 hl (by decide) rfl (fun ls hl => ?_)
  refine lv_iload_n hx hb dX_block_21 rfl (lv_at hl 4 rfl) ?_
  refine lv_iload hx hb dX_block_22 (lv_at hl 0 rfl) ?_
  refine lv_isub hx hb dX_block_24 ?_
  refine lv_iconst (v := (0 : Int32)) hx hb dX_block_25 (by decide) ?_
  refine g_callPi [.int (a1 - x19), .int (0 : Int32)] [] X (ctj_max l (a1 - x19) (0 : Int32)) (cwX_J_max X.2.2.2.2 ⟨Nat.le_of_ble_eq_true rfl, Nat.le_of_ble_eq_true rfl⟩) rfl hl.1 rfl (Nat.le_of_ble_eq_true rfl) dX_block_26 ?_
  refine lv_iconst (v := (1 : Int32)) hx hb dX_block_29 (by decide) ?_
  refine lv_iadd hx hb dX_block_30 ?_
  refine lv_topi (fun x31 e31 => ?_)
  replace hfin := nm_at hfin e31
  refine lv_istore (lv' := [(5, .int x31), (4, .int x19), (3, .int x9), (0, .ref o), (1, .int a0), (2, .int a1)]) hx hb dX_block_31 hl (by decide) rfl (fun ls hl => ?_)
  refine lv_iconst (v := (0 : Int32)) hx hb dX_block_33 (by decide) ?_
  refine lv_istore (lv' := [(6, .int (0 : Int32)), (5, .int x31), (4, .int x19), (3, .int x9), (0, .ref o), (1, .int a0), (2, .int a1)]) hx hb dX_block_34 hl (by decide) rfl (fun ls hl => ?_)
  exact B_36 300000 u x9 x19 x31 (0 : Int32) s0.heap [] ls (lv_sub hl [4, 5, 6, 3, 2, 1, 0] rfl) hI hfin
set_option maxHeartbeats 4000000 in
set_option maxRecDepth 100000 in
theorem ctx_moveHalves (l : Launch) (D : va_G) (cA : ClassId) (o q : Nat) (hne : va_nd [o, q] = true) (u : XS) (a0 : Int32) (a1 : Int32) (z : XS) (hfin : x_moveHalves u a0 a1 = some z) : gMv l yX_moveHalves wX_moveHalves (rmF 1 23) D [(cA, .long)] (XW cA o q) (XA o q) [.ref o, .int a0, .int a1] u z := by
  refine g_start (plainFor_of_name (by decide)) (Nat.le_of_ble_eq_true rfl) ?_
  intro p e s0 m args below meth c ls X hr hlk hB hl
  obtain ⟨hP0, hK⟩ := hB
  have hI : gI D (XW cA o q) (XA o q) s0.heap s0.heap [] u := ⟨hP0, va_S.rf⟩
  have hl : lv_has ls 5 [(0, .ref o), (1, .int a0), (2, .int a1)] := hl
  have hx := X.1
  have hb := X.2.1
  rw [x_moveHalves] at hfin
  refine lv_aload_n hx hb dX_moveHalves_0 rfl (lv_at hl 0 rfl) ?_
  refine xg_words X hK hI.1 dX_moveHalves_1 ?_
  refine lv_iload_n hx hb dX_moveHalves_4 rfl (lv_at hl 1 rfl) ?_
  obtain ⟨hd5, hfin⟩ := ck_if hfin
  refine xl_words X hK hI.1 hd5 dX_moveHalves_5 ?_
  refine lv_topl (fun x6 e6 => ?_)
  replace hfin := nm_at hfin e6
  refine lv_lstore_n (lv' := [(3, .long x6), (0, .ref o), (1, .int a0), (2, .int a1)]) hx hb dX_moveHalves_6 rfl hl (by decide) rfl (fun ls hl => ?_)
  refine lv_aload_n hx hb dX_moveHalves_7 rfl (lv_at hl 1 rfl) ?_
  refine lv_iload_n hx hb dX_moveHalves_8 rfl (lv_at hl 2 rfl) ?_
  refine lv_lload_n hx hb dX_moveHalves_9 rfl (lv_at hl 0 rfl) ?_
  refine g_callPi [.long x6] [.int a0, .ref o] X (ctx_left l x6) (cwX_X_left X.2.2.2.2 ⟨Nat.le_of_ble_eq_true rfl, Nat.le_of_ble_eq_true rfl⟩) rfl hl.1 rfl (Nat.le_of_ble_eq_true rfl) dX_moveHalves_10 ?_
  refine lv_iload_n hx hb dX_moveHalves_13 rfl (lv_at hl 3 rfl) ?_
  refine lv_iadd hx hb dX_moveHalves_14 ?_
  refine g_callPi [.int ((x_left x6) + a1)] [.int a0, .ref o] X (ctx_wrapped l ((x_left x6) + a1)) (cwX_X_wrapped X.2.2.2.2 ⟨Nat.le_of_ble_eq_true rfl, Nat.le_of_ble_eq_true rfl⟩) rfl hl.1 rfl (Nat.le_of_ble_eq_true rfl) dX_moveHalves_15 ?_
  refine lv_lload_n hx hb dX_moveHalves_18 rfl (lv_at hl 0 rfl) ?_
  refine g_callPi [.long x6] [.int (x_wrapped ((x_left x6) + a1)), .int a0, .ref o] X (ctx_right l x6) (cwX_X_right X.2.2.2.2 ⟨Nat.le_of_ble_eq_true rfl, Nat.le_of_ble_eq_true rfl⟩) rfl hl.1 rfl (Nat.le_of_ble_eq_true rfl) dX_moveHalves_19 ?_
  refine lv_iload_n hx hb dX_moveHalves_22 rfl (lv_at hl 3 rfl) ?_
  refine lv_iadd hx hb dX_moveHalves_23 ?_
  refine g_callPi [.int ((x_right x6) + a1)] [.int (x_wrapped ((x_left x6) + a1)), .int a0, .ref o] X (ctx_wrapped l ((x_right x6) + a1)) (cwX_X_wrapped X.2.2.2.2 ⟨Nat.le_of_ble_eq_true rfl, Nat.le_of_ble_eq_true rfl⟩) rfl hl.1 rfl (Nat.le_of_ble_eq_true rfl) dX_moveHalves_24 ?_
  refine g_callPl [.int (x_wrapped ((x_left x6) + a1)), .int (x_wrapped ((x_right x6) + a1))] [.int a0, .ref o] X (ctx_joined l (x_wrapped ((x_left x6) + a1)) (x_wrapped ((x_right x6) + a1))) (cwX_X_joined X.2.2.2.2 ⟨Nat.le_of_ble_eq_true rfl, Nat.le_of_ble_eq_true rfl⟩) rfl hl.1 rfl (Nat.le_of_ble_eq_true rfl) dX_moveHalves_27 ?_
  obtain ⟨z30, hz30, hfin⟩ := bd_ob hfin
  refine g_callMv [.int a0, .long (x_joined (x_wrapped ((x_left x6) + a1)) (x_wrapped ((x_right x6) + a1)))] [] X hK x_rcv hI (ctx_setAccumulator l D cA o q hne u a0 (x_joined (x_wrapped ((x_left x6) + a1)) (x_wrapped ((x_right x6) + a1))) z30 hz30) (cwX_X_setAccumulator X.2.2.2.2 ⟨Nat.le_of_ble_eq_true rfl, Nat.le_of_ble_eq_true rfl⟩) rfl hl.1 rfl (Nat.le_of_ble_eq_true rfl) dX_moveHalves_30 (fun H locs hI => ?_)
  exact g_vret X hr hlk hK hI hfin dX_moveHalves_33
set_option maxHeartbeats 4000000 in
set_option maxRecDepth 100000 in
theorem ctx_jumpIf (l : Launch) (D : va_G) (cA : ClassId) (o q : Nat) (hne : va_nd [o, q] = true) (u : XS) (a0 : Int32) (a1 : Int32) (z : XS) (hfin : x_jumpIf u a0 a1 = some z) : gMv l yX_jumpIf wX_jumpIf (rmF 0 0) D [(cA, .long)] (XW cA o q) (XA o q) [.ref o, .int a0, .int a1] u z := by
  refine g_start (plainFor_of_name (by decide)) (Nat.le_of_ble_eq_true rfl) ?_
  intro p e s0 m args below meth c ls X hr hlk hB hl
  obtain ⟨hP0, hK⟩ := hB
  have hI : gI D (XW cA o q) (XA o q) s0.heap s0.heap [] u := ⟨hP0, va_S.rf⟩
  have hl : lv_has ls 3 [(0, .ref o), (1, .int a0), (2, .int a1)] := hl
  have hx := X.1
  have hb := X.2.1
  rw [x_jumpIf] at hfin
  refine lv_iload_n hx hb dX_jumpIf_0 rfl (lv_at hl 1 rfl) ?_
  refine lv_if_eq (tgt := 9) hx hb dX_jumpIf_1 (by decide) (fun hc1 => ?_) (fun hc1 => ?_)
  · rw [if_pos hc1] at hfin
    exact g_vret X hr hlk hK hI hfin dX_jumpIf_9
  rw [if_neg hc1] at hfin
  refine lv_aload_n hx hb dX_jumpIf_4 rfl (lv_at hl 0 rfl) ?_
  refine lv_iload_n hx hb dX_jumpIf_5 rfl (lv_at hl 2 rfl) ?_
  refine xp_pc X hK (x_D hne) hI dX_jumpIf_6 (fun H locs hI => ?_)
  exact g_vret X hr hlk hK hI hfin dX_jumpIf_9
set_option maxHeartbeats 4000000 in
set_option maxRecDepth 100000 in
theorem ctx_jumpByAccumulator (l : Launch) (D : va_G) (cA : ClassId) (o q : Nat) (hne : va_nd [o, q] = true) (u : XS) (a0 : Int32) (a1 : Int32) (z : XS) (hfin : x_jumpByAccumulator u a0 a1 = some z) : gMv l yX_jumpByAccumulator wX_jumpByAccumulator (rmF 1 21) D [(cA, .long)] (XW cA o q) (XA o q) [.ref o, .int a0, .int a1] u z := by
  refine g_start (plainFor_of_name (by decide)) (Nat.le_of_ble_eq_true rfl) ?_
  intro p e s0 m args below meth c ls X hr hlk hB hl
  obtain ⟨hP0, hK⟩ := hB
  have hI : gI D (XW cA o q) (XA o q) s0.heap s0.heap [] u := ⟨hP0, va_S.rf⟩
  have hl : lv_has ls 3 [(0, .ref o), (1, .int a0), (2, .int a1)] := hl
  have hx := X.1
  have hb := X.2.1
  have B_55 : ∀ (u : XS) (H : Heap) (locs : List Loc) (ls : Array Slot), lv_has ls 3 [(0, .ref o), (1, .int a0), (2, .int a1)] → gI D (XW cA o q) (XA o q) s0.heap H locs u → x_jumpByAccumulator_55 a0 a1 u = some z → W p l e (rmF 1 21) s0 m args below meth c H locs 0 0 (MQ below (va_Qv (fun x => x = z) (gB D [(cA, .long)] (XW cA o q)) (XA o q)) args s0 0 0 (XA o q)) (F0 m 55 ls []) := by
    intro u H locs ls hl hI hfin
    rw [x_jumpByAccumulator_55] at hfin
    refine lv_aload_n hx hb dX_jumpByAccumulator_55 rfl (lv_at hl 0 rfl) ?_
    refine lv_iconst (v := (2 : Int32)) hx hb dX_jumpByAccumulator_56 (by decide) ?_
    obtain ⟨z57, hz57, hfin⟩ := bd_ob hfin
    refine g_callMv [.int (2 : Int32)] [] X hK x_rcv hI (ctx_raise l D cA o q hne u (2 : Int32) z57 hz57) (cwX_X_raise X.2.2.2.2 ⟨Nat.le_of_ble_eq_true rfl, Nat.le_of_ble_eq_true rfl⟩) rfl hl.1 rfl (Nat.le_of_ble_eq_true rfl) dX_jumpByAccumulator_57 (fun H locs hI => ?_)
    exact g_vret X hr hlk hK hI hfin dX_jumpByAccumulator_60
  rw [x_jumpByAccumulator] at hfin
  refine lv_iload_n hx hb dX_jumpByAccumulator_0 rfl (lv_at hl 1 rfl) ?_
  refine lv_if_ne (tgt := 12) hx hb dX_jumpByAccumulator_1 (by decide) (fun hc1 => ?_) (fun hc1 => ?_)
  · rw [if_neg hc1] at hfin
    refine lv_iload_n hx hb dX_jumpByAccumulator_12 rfl (lv_at hl 1 rfl) ?_
    refine lv_iconst (v := (1 : Int32)) hx hb dX_jumpByAccumulator_13 (by decide) ?_
    refine lv_icmp_ne (tgt := 30) hx hb dX_jumpByAccumulator_14 (by decide) (fun hc14 => ?_) (fun hc14 => ?_)
    · rw [if_neg hc14] at hfin
      refine lv_iload_n hx hb dX_jumpByAccumulator_30 rfl (lv_at hl 1 rfl) ?_
      refine lv_iconst (v := (4 : Int32)) hx hb dX_jumpByAccumulator_31 (by decide) ?_
      refine lv_icmp_ne (tgt := 55) hx hb dX_jumpByAccumulator_32 (by decide) (fun hc32 => ?_) (fun hc32 => ?_)
      · rw [if_neg hc32] at hfin
        exact B_55 u s0.heap [] ls (lv_sub hl [0, 1, 2] rfl) hI hfin
      rw [if_pos hc32] at hfin
      refine lv_aload_n hx hb dX_jumpByAccumulator_35 rfl (lv_at hl 0 rfl) ?_
      refine xg_user X hK hI.1 dX_jumpByAccumulator_36 ?_
      refine lv_if_ne (tgt := 55) hx hb dX_jumpByAccumulator_39 (by decide) (fun hc39 => ?_) (fun hc39 => ?_)
      · rw [if_neg hc39] at hfin
        exact B_55 u s0.heap [] ls (lv_sub hl [0, 1, 2] rfl) hI hfin
      rw [if_pos hc39] at hfin
      refine lv_aload_n hx hb dX_jumpByAccumulator_42 rfl (lv_at hl 0 rfl) ?_
      refine lv_iload_n hx hb dX_jumpByAccumulator_43 rfl (lv_at hl 2 rfl) ?_
      refine xp_pc X hK (x_D hne) hI dX_jumpByAccumulator_44 (fun H locs hI => ?_)
      refine lv_aload_n hx hb dX_jumpByAccumulator_47 rfl (lv_at hl 0 rfl) ?_
      refine lv_iconst (v := (1 : Int32)) hx hb dX_jumpByAccumulator_48 (by decide) ?_
      refine xp_stopped X hK (x_D hne) hI (Or.inr rfl) dX_jumpByAccumulator_49 (fun H locs hI => ?_)
      refine lv_goto (tgt := 60) hx hb dX_jumpByAccumulator_52 (by decide) ?_
      exact g_vret X hr hlk hK hI hfin dX_jumpByAccumulator_60
    rw [if_pos hc14] at hfin
    refine lv_aload_n hx hb dX_jumpByAccumulator_17 rfl (lv_at hl 0 rfl) ?_
    refine lv_iload_n hx hb dX_jumpByAccumulator_18 rfl (lv_at hl 2 rfl) ?_
    refine xp_pc X hK (x_D hne) hI dX_jumpByAccumulator_19 (fun H locs hI => ?_)
    refine lv_aload_n hx hb dX_jumpByAccumulator_22 rfl (lv_at hl 0 rfl) ?_
    refine lv_iconst (v := (1 : Int32)) hx hb dX_jumpByAccumulator_23 (by decide) ?_
    refine xp_user X hK (x_D hne) hI (Or.inr rfl) dX_jumpByAccumulator_24 (fun H locs hI => ?_)
    refine lv_goto (tgt := 60) hx hb dX_jumpByAccumulator_27 (by decide) ?_
    exact g_vret X hr hlk hK hI hfin dX_jumpByAccumulator_60
  rw [if_pos hc1] at hfin
  refine lv_aload_n hx hb dX_jumpByAccumulator_4 rfl (lv_at hl 0 rfl) ?_
  refine lv_iload_n hx hb dX_jumpByAccumulator_5 rfl (lv_at hl 2 rfl) ?_
  refine xp_pc X hK (x_D hne) hI dX_jumpByAccumulator_6 (fun H locs hI => ?_)
  refine lv_goto (tgt := 60) hx hb dX_jumpByAccumulator_9 (by decide) ?_
  exact g_vret X hr hlk hK hI hfin dX_jumpByAccumulator_60
set_option maxHeartbeats 4000000 in
set_option maxRecDepth 100000 in
theorem ctx_exchangeOrJump (l : Launch) (D : va_G) (cA : ClassId) (o q : Nat) (hne : va_nd [o, q] = true) (u : XS) (a0 : Int32) (a1 : Int32) (a2 : Int32) (z : XS) (hfin : x_exchangeOrJump u a0 a1 a2 = some z) : gMv l yX_exchangeOrJump wX_exchangeOrJump (rmF 3 72) D [(cA, .long)] (XW cA o q) (XA o q) [.ref o, .int a0, .int a1, .int a2] u z := by
  refine g_start (plainFor_of_name (by decide)) (Nat.le_of_ble_eq_true rfl) ?_
  intro p e s0 m args below meth c ls X hr hlk hB hl
  obtain ⟨hP0, hK⟩ := hB
  have hI : gI D (XW cA o q) (XA o q) s0.heap s0.heap [] u := ⟨hP0, va_S.rf⟩
  have hl : lv_has ls 4 [(0, .ref o), (1, .int a0), (2, .int a1), (3, .int a2)] := hl
  have hx := X.1
  have hb := X.2.1
  have B_76 : ∀ (u : XS) (t1 : Int32) (H : Heap) (locs : List Loc) (ls : Array Slot), lv_has ls 4 [(0, .ref o), (1, .int a0), (2, .int a1), (3, .int a2)] → gI D (XW cA o q) (XA o q) s0.heap H locs u → x_exchangeOrJump_76 a0 a1 a2 u t1 = some z → W p l e (rmF 3 72) s0 m args below meth c H locs 0 0 (MQ below (va_Qv (fun x => x = z) (gB D [(cA, .long)] (XW cA o q)) (XA o q)) args s0 0 0 (XA o q)) (F0 m 76 ls [.int t1, .ref o]) := by
    intro u t1 H locs ls hl hI hfin
    rw [x_exchangeOrJump_76] at hfin
    refine lv_iload_n hx hb dX_exchangeOrJump_76 rfl (lv_at hl 3 rfl) ?_
    obtain ⟨z77, hz77, hfin⟩ := bd_ob hfin
    refine g_callMv [.int t1, .int a2] [] X hK x_rcv hI (ctx_jumpIf l D cA o q hne u t1 a2 z77 hz77) (cwX_X_jumpIf X.2.2.2.2 ⟨Nat.le_of_ble_eq_true rfl, Nat.le_of_ble_eq_true rfl⟩) rfl hl.1 rfl (Nat.le_of_ble_eq_true rfl) dX_exchangeOrJump_77 (fun H locs hI => ?_)
    exact g_vret X hr hlk hK hI hfin dX_exchangeOrJump_80
  have B_107 : ∀ (u : XS) (t1 : Int32) (H : Heap) (locs : List Loc) (ls : Array Slot), lv_has ls 4 [(0, .ref o), (1, .int a0), (2, .int a1), (3, .int a2)] → gI D (XW cA o q) (XA o q) s0.heap H locs u → x_exchangeOrJump_107 a0 a1 a2 u t1 = some z → W p l e (rmF 3 72) s0 m args below meth c H locs 0 0 (MQ below (va_Qv (fun x => x = z) (gB D [(cA, .long)] (XW cA o q)) (XA o q)) args s0 0 0 (XA o q)) (F0 m 107 ls [.int t1, .ref o]) := by
    intro u t1 H locs ls hl hI hfin
    rw [x_exchangeOrJump_107] at hfin
    refine lv_iload_n hx hb dX_exchangeOrJump_107 rfl (lv_at hl 3 rfl) ?_
    obtain ⟨z108, hz108, hfin⟩ := bd_ob hfin
    refine g_callMv [.int t1, .int a2] [] X hK x_rcv hI (ctx_jumpIf l D cA o q hne u t1 a2 z108 hz108) (cwX_X_jumpIf X.2.2.2.2 ⟨Nat.le_of_ble_eq_true rfl, Nat.le_of_ble_eq_true rfl⟩) rfl hl.1 rfl (Nat.le_of_ble_eq_true rfl) dX_exchangeOrJump_108 (fun H locs hI => ?_)
    exact g_vret X hr hlk hK hI hfin dX_exchangeOrJump_111
  rw [x_exchangeOrJump] at hfin
  refine lv_iload_n hx hb dX_exchangeOrJump_0 rfl (lv_at hl 1 rfl) ?_
  by_cases hk1_0 : a0 = (168 : Int32)
  · rw [if_pos hk1_0] at hfin
    refine lv_tableIn hx hb dX_exchangeOrJump_1 (off := 35) (tgt := 36) (by rw [hk1_0]; decide) (by rw [hk1_0]; decide) (by rw [hk1_0]; rfl) (by decide) ?_
    refine lv_aload_n hx hb dX_exchangeOrJump_36 rfl (lv_at hl 0 rfl) ?_
    refine lv_iload_n hx hb dX_exchangeOrJump_37 rfl (lv_at hl 2 rfl) ?_
    refine lv_iload_n hx hb dX_exchangeOrJump_38 rfl (lv_at hl 3 rfl) ?_
    obtain ⟨z39, hz39, hfin⟩ := bd_ob hfin
    refine g_callMv [.int a1, .int a2] [] X hK x_rcv hI (ctx_exchange l D cA o q hne u a1 a2 z39 hz39) (cwX_X_exchange X.2.2.2.2 ⟨Nat.le_of_ble_eq_true rfl, Nat.le_of_ble_eq_true rfl⟩) rfl hl.1 rfl (Nat.le_of_ble_eq_true rfl) dX_exchangeOrJump_39 (fun H locs hI => ?_)
    exact g_vret X hr hlk hK hI hfin dX_exchangeOrJump_42
  rw [if_neg hk1_0] at hfin
  by_cases hk1_1 : a0 = (169 : Int32)
  · rw [if_pos hk1_1] at hfin
    refine lv_tableIn hx hb dX_exchangeOrJump_1 (off := 42) (tgt := 43) (by rw [hk1_1]; decide) (by rw [hk1_1]; decide) (by rw [hk1_1]; rfl) (by decide) ?_
    refine lv_aload_n hx hb dX_exchangeOrJump_43 rfl (lv_at hl 0 rfl) ?_
    refine lv_iload_n hx hb dX_exchangeOrJump_44 rfl (lv_at hl 2 rfl) ?_
    refine lv_iload_n hx hb dX_exchangeOrJump_45 rfl (lv_at hl 3 rfl) ?_
    obtain ⟨z46, hz46, hfin⟩ := bd_ob hfin
    refine g_callMv [.int a1, .int a2] [] X hK x_rcv hI (ctx_block l D cA o q hne u a1 a2 z46 hz46) (cwX_X_block X.2.2.2.2 ⟨Nat.le_of_ble_eq_true rfl, Nat.le_of_ble_eq_true rfl⟩) rfl hl.1 rfl (Nat.le_of_ble_eq_true rfl) dX_exchangeOrJump_46 (fun H locs hI => ?_)
    exact g_vret X hr hlk hK hI hfin dX_exchangeOrJump_49
  rw [if_neg hk1_1] at hfin
  by_cases hk1_2 : a0 = (170 : Int32)
  · rw [if_pos hk1_2] at hfin
    refine lv_tableIn hx hb dX_exchangeOrJump_1 (off := 49) (tgt := 50) (by rw [hk1_2]; decide) (by rw [hk1_2]; decide) (by rw [hk1_2]; rfl) (by decide) ?_
    refine lv_aload_n hx hb dX_exchangeOrJump_50 rfl (lv_at hl 0 rfl) ?_
    refine lv_iload_n hx hb dX_exchangeOrJump_51 rfl (lv_at hl 2 rfl) ?_
    refine lv_iconst (v := (1 : Int32)) hx hb dX_exchangeOrJump_52 (by decide) ?_
    obtain ⟨z53, hz53, hfin⟩ := bd_ob hfin
    refine g_callMv [.int a1, .int (1 : Int32)] [] X hK x_rcv hI (ctx_moveHalves l D cA o q hne u a1 (1 : Int32) z53 hz53) (cwX_X_moveHalves X.2.2.2.2 ⟨Nat.le_of_ble_eq_true rfl, Nat.le_of_ble_eq_true rfl⟩) rfl hl.1 rfl (Nat.le_of_ble_eq_true rfl) dX_exchangeOrJump_53 (fun H locs hI => ?_)
    refine lv_aload_n hx hb dX_exchangeOrJump_56 rfl (lv_at hl 0 rfl) ?_
    refine lv_aload_n hx hb dX_exchangeOrJump_57 rfl (lv_at hl 0 rfl) ?_
    refine xg_words X hK hI.1 dX_exchangeOrJump_58 ?_
    refine lv_iload_n hx hb dX_exchangeOrJump_61 rfl (lv_at hl 2 rfl) ?_
    obtain ⟨hd62, hfin⟩ := ck_if hfin
    refine xl_words X hK hI.1 hd62 dX_exchangeOrJump_62 ?_
    refine g_callPl [.long (X_words z53 a1.toNatClampNeg)] [.ref o] X (ctx_signed l (X_words z53 a1.toNatClampNeg)) (cwX_X_signed X.2.2.2.2 ⟨Nat.le_of_ble_eq_true rfl, Nat.le_of_ble_eq_true rfl⟩) rfl hl.1 rfl (Nat.le_of_ble_eq_true rfl) dX_exchangeOrJump_63 ?_
    refine lv_lconst (v := (0 : Int64)) hx hb dX_exchangeOrJump_66 (by decide) ?_
    refine W.lcmp hx hb dX_exchangeOrJump_67 ?_
    refine lv_if_lt (tgt := 75) hx hb dX_exchangeOrJump_68 (by decide) (fun hc68 => ?_) (fun hc68 => ?_)
    · rw [if_pos hc68] at hfin
      refine lv_iconst (v := (0 : Int32)) hx hb dX_exchangeOrJump_75 (by decide) ?_
      exact B_76 z53 (0 : Int32) H locs ls (lv_sub hl [0, 1, 2, 3] rfl) hI hfin
    rw [if_neg hc68] at hfin
    refine lv_iconst (v := (1 : Int32)) hx hb dX_exchangeOrJump_71 (by decide) ?_
    refine lv_goto (tgt := 76) hx hb dX_exchangeOrJump_72 (by decide) ?_
    exact B_76 z53 (1 : Int32) H locs ls (lv_sub hl [0, 1, 2, 3] rfl) hI hfin
  rw [if_neg hk1_2] at hfin
  by_cases hk1_3 : a0 = (171 : Int32)
  · rw [if_pos hk1_3] at hfin
    refine lv_tableIn hx hb dX_exchangeOrJump_1 (off := 80) (tgt := 81) (by rw [hk1_3]; decide) (by rw [hk1_3]; decide) (by rw [hk1_3]; rfl) (by decide) ?_
    refine lv_aload_n hx hb dX_exchangeOrJump_81 rfl (lv_at hl 0 rfl) ?_
    refine lv_iload_n hx hb dX_exchangeOrJump_82 rfl (lv_at hl 2 rfl) ?_
    refine lv_iconst (v := (1 : Int32)) hx hb dX_exchangeOrJump_83 (by decide) ?_
    obtain ⟨z84, hz84, hfin⟩ := bd_ob hfin
    refine g_callMv [.int a1, .int (1 : Int32)] [] X hK x_rcv hI (ctx_moveHalves l D cA o q hne u a1 (1 : Int32) z84 hz84) (cwX_X_moveHalves X.2.2.2.2 ⟨Nat.le_of_ble_eq_true rfl, Nat.le_of_ble_eq_true rfl⟩) rfl hl.1 rfl (Nat.le_of_ble_eq_true rfl) dX_exchangeOrJump_84 (fun H locs hI => ?_)
    refine lv_aload_n hx hb dX_exchangeOrJump_87 rfl (lv_at hl 0 rfl) ?_
    refine lv_aload_n hx hb dX_exchangeOrJump_88 rfl (lv_at hl 0 rfl) ?_
    refine xg_words X hK hI.1 dX_exchangeOrJump_89 ?_
    refine lv_iload_n hx hb dX_exchangeOrJump_92 rfl (lv_at hl 2 rfl) ?_
    obtain ⟨hd93, hfin⟩ := ck_if hfin
    refine xl_words X hK hI.1 hd93 dX_exchangeOrJump_93 ?_
    refine g_callPl [.long (X_words z84 a1.toNatClampNeg)] [.ref o] X (ctx_signed l (X_words z84 a1.toNatClampNeg)) (cwX_X_signed X.2.2.2.2 ⟨Nat.le_of_ble_eq_true rfl, Nat.le_of_ble_eq_true rfl⟩) rfl hl.1 rfl (Nat.le_of_ble_eq_true rfl) dX_exchangeOrJump_94 ?_
    refine lv_lconst (v := (0 : Int64)) hx hb dX_exchangeOrJump_97 (by decide) ?_
    refine W.lcmp hx hb dX_exchangeOrJump_98 ?_
    refine lv_if_ge (tgt := 106) hx hb dX_exchangeOrJump_99 (by decide) (fun hc99 => ?_) (fun hc99 => ?_)
    · rw [if_pos hc99] at hfin
      refine lv_iconst (v := (0 : Int32)) hx hb dX_exchangeOrJump_106 (by decide) ?_
      exact B_107 z84 (0 : Int32) H locs ls (lv_sub hl [0, 1, 2, 3] rfl) hI hfin
    rw [if_neg hc99] at hfin
    refine lv_iconst (v := (1 : Int32)) hx hb dX_exchangeOrJump_102 (by decide) ?_
    refine lv_goto (tgt := 107) hx hb dX_exchangeOrJump_103 (by decide) ?_
    exact B_107 z84 (1 : Int32) H locs ls (lv_sub hl [0, 1, 2, 3] rfl) hI hfin
  rw [if_neg hk1_3] at hfin
  by_cases hk1_4 : a0 = (172 : Int32)
  · rw [if_pos hk1_4] at hfin
    refine lv_tableIn hx hb dX_exchangeOrJump_1 (off := 111) (tgt := 112) (by rw [hk1_4]; decide) (by rw [hk1_4]; decide) (by rw [hk1_4]; rfl) (by decide) ?_
    refine lv_aload_n hx hb dX_exchangeOrJump_112 rfl (lv_at hl 0 rfl) ?_
    refine lv_iload_n hx hb dX_exchangeOrJump_113 rfl (lv_at hl 2 rfl) ?_
    refine lv_iload_n hx hb dX_exchangeOrJump_114 rfl (lv_at hl 3 rfl) ?_
    obtain ⟨z115, hz115, hfin⟩ := bd_ob hfin
    refine g_callMv [.int a1, .int a2] [] X hK x_rcv hI (ctx_jumpByAccumulator l D cA o q hne u a1 a2 z115 hz115) (cwX_X_jumpByAccumulator X.2.2.2.2 ⟨Nat.le_of_ble_eq_true rfl, Nat.le_of_ble_eq_true rfl⟩) rfl hl.1 rfl (Nat.le_of_ble_eq_true rfl) dX_exchangeOrJump_115 (fun H locs hI => ?_)
    exact g_vret X hr hlk hK hI hfin dX_exchangeOrJump_118
  rw [if_neg hk1_4] at hfin
  have hn1_0 := i32_ne (168 : Int32) 168 (by decide) hk1_0
  have hn1_1 := i32_ne (169 : Int32) 169 (by decide) hk1_1
  have hn1_2 := i32_ne (170 : Int32) 170 (by decide) hk1_2
  have hn1_3 := i32_ne (171 : Int32) 171 (by decide) hk1_3
  have hn1_4 := i32_ne (172 : Int32) 172 (by decide) hk1_4
  refine lv_tableOut hx hb dX_exchangeOrJump_1 (tgt := 119) (by omega) (by decide) ?_
  refine lv_aload_n hx hb dX_exchangeOrJump_119 rfl (lv_at hl 0 rfl) ?_
  refine lv_iconst (v := (2 : Int32)) hx hb dX_exchangeOrJump_120 (by decide) ?_
  obtain ⟨z121, hz121, hfin⟩ := bd_ob hfin
  refine g_callMv [.int (2 : Int32)] [] X hK x_rcv hI (ctx_raise l D cA o q hne u (2 : Int32) z121 hz121) (cwX_X_raise X.2.2.2.2 ⟨Nat.le_of_ble_eq_true rfl, Nat.le_of_ble_eq_true rfl⟩) rfl hl.1 rfl (Nat.le_of_ble_eq_true rfl) dX_exchangeOrJump_121 (fun H locs hI => ?_)
  exact g_vret X hr hlk hK hI hfin dX_exchangeOrJump_124
