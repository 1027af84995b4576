set_option maxHeartbeats 4000000 in
set_option maxRecDepth 100000 in
theorem ctx_effective (l : Launch) (D : va_G) (cA : ClassId) (o q : Nat) (hne : va_nd [o, q] = true) (u : XS) (a0 : Int64) (z : Int32 × XS) (hfin : x_effective u a0 = some z) : gMi l yX_effective wX_effective (rmF 3 65) D [(cA, .long)] (XW cA o q) (XA o q) [.ref o, .long a0] u z := by
  refine g_start (plainFor_of_name (by decide)) (Nat.le_of_ble_eq_true rfl) ?_
  intro p e s0 m args below meth c ls X hr hlk hB hl
  obtain ⟨hP0, hK⟩ := hB
  have hI : gI D (XW cA o q) (XA o q) s0.heap s0.heap [] u := ⟨hP0, va_S.rf⟩
  have hl : lv_has ls 7 [(0, .ref o), (1, .long a0)] := hl
  have hx := X.1
  have hb := X.2.1
  have B_12 : ∀ (k : Nat) (u : XS) (v3 : Int64) (v5 : Int32) (v6 : Int32) (H : Heap) (locs : List Loc) (ls : Array Slot), lv_has ls 7 [(0, .ref o), (1, .long a0), (3, .long v3), (5, .int v5), (6, .int v6)] → gI D (XW cA o q) (XA o q) s0.heap H locs u → x_effective_12 a0 k u v3 v5 v6 = some z → W p l e (rmF 3 65) s0 m args below meth c H locs 0 0 (MQ below (va_Qi (fun r x => (r, x) = z) (gB D [(cA, .long)] (XW cA o q)) (XA o q)) args s0 0 0 (XA o q)) (F0 m 12 ls []) := by
    intro k
    induction k with
    | zero =>
      intro u v3 v5 v6 H locs ls hl hI hfin
      rw [x_effective_12] at hfin
      cases hfin
    | succ k IH =>
      intro u v3 v5 v6 H locs ls hl hI hfin
      rw [x_effective_12] at hfin
      refine lv_iload hx hb dX_effective_12 (lv_at hl 4 rfl) ?_
      refine lv_bipush (v := (8 : Int32)) hx hb dX_effective_14 (by decide) ?_
      refine lv_icmp_gt (tgt := 53) hx hb dX_effective_16 (by decide) (fun hc16 => ?_) (fun hc16 => ?_)
      · rw [if_pos hc16] at hfin
        refine lv_iload hx hb dX_effective_53 (lv_at hl 3 rfl) ?_
        exact g_iret X hr hlk hK hI hfin dX_effective_55
      rw [if_neg hc16] at hfin
      refine lv_aload_n hx hb dX_effective_19 rfl (lv_at hl 0 rfl) ?_
      refine xg_trap X hK hI.1 dX_effective_20 ?_
      refine lv_if_ne (tgt := 53) hx hb dX_effective_23 (by decide) (fun hc23 => ?_) (fun hc23 => ?_)
      · rw [if_neg hc23] at hfin
        refine lv_iload hx hb dX_effective_53 (lv_at hl 3 rfl) ?_
        exact g_iret X hr hlk hK hI hfin dX_effective_55
      rw [if_pos hc23] at hfin
      refine lv_lload_n hx hb dX_effective_26 rfl (lv_at hl 2 rfl) ?_
      refine g_callPi [.long v3] [] X (ctx_isIndirect l v3) (cwX_X_isIndirect X.2.2.2.2 ⟨Nat.le_of_ble_eq_true rfl, Nat.le_of_ble_eq_true rfl⟩) rfl hl.1 rfl (Nat.le_of_ble_eq_true rfl) dX_effective_27 ?_
      refine lv_if_eq (tgt := 53) hx hb dX_effective_30 (by decide) (fun hc30 => ?_) (fun hc30 => ?_)
      · rw [if_pos hc30] at hfin
        refine lv_iload hx hb dX_effective_53 (lv_at hl 3 rfl) ?_
        exact g_iret X hr hlk hK hI hfin dX_effective_55
      rw [if_neg hc30] at hfin
      refine lv_aload_n hx hb dX_effective_33 rfl (lv_at hl 0 rfl) ?_
      refine lv_iload hx hb dX_effective_34 (lv_at hl 3 rfl) ?_
      obtain ⟨z36, hz36, hfin⟩ := bd_ob hfin
      refine g_callMl [.int v5] [] X hK x_rcv hI (ctx_take l D cA o q hne u v5 z36 hz36) (cwX_X_take X.2.2.2.2 ⟨Nat.le_of_ble_eq_true rfl, Nat.le_of_ble_eq_true rfl⟩) rfl hl.1 rfl (Nat.le_of_ble_eq_true rfl) dX_effective_36 (fun H locs hI => ?_)
      refine lv_lstore_n (lv' := [(3, .long z36.1), (0, .ref o), (1, .long a0), (5, .int v5), (6, .int v6)]) hx hb dX_effective_39 rfl hl (by decide) rfl (fun ls hl => ?_)
      refine lv_aload_n hx hb dX_effective_40 rfl (lv_at hl 1 rfl) ?_
      refine lv_lload_n hx hb dX_effective_41 rfl (lv_at hl 0 rfl) ?_
      obtain ⟨z42, hz42, hfin⟩ := bd_ob hfin
      refine g_callMi [.long z36.1] [] X hK x_rcv hI (ctx_indexed l D cA o q hne z36.2 z36.1 z42 hz42) (cwX_X_indexed X.2.2.2.2 ⟨Nat.le_of_ble_eq_true rfl, Nat.le_of_ble_eq_true rfl⟩) rfl hl.1 rfl (Nat.le_of_ble_eq_true rfl) dX_effective_42 (fun H locs hI => ?_)
      refine lv_istore (lv' := [(5, .int z42.1), (3, .long z36.1), (0, .ref o), (1, .long a0), (6, .int v6)]) hx hb dX_effective_45 hl (by decide) rfl (fun ls hl => ?_)
      refine lv_iinc (lv' := [(6, .int (v6 + Int32.ofInt 1)), (5, .int z42.1), (3, .long z36.1), (0, .ref o), (1, .long a0)]) (k := 4) hx hb dX_effective_47 hl rfl rfl (by decide) rfl (fun ls hl => ?_)
      refine lv_goto (tgt := 12) hx hb dX_effective_50 (by decide) ?_
      exact IH z42.2 z36.1 z42.1 (v6 + Int32.ofInt 1) H locs ls (lv_sub hl [3, 4, 2, 1, 0] rfl) hI hfin
  rw [x_effective] at hfin
  refine lv_lload_n hx hb dX_effective_0 rfl (lv_at hl 1 rfl) ?_
  refine lv_lstore_n (lv' := [(3, .long a0), (0, .ref o), (1, .long a0)]) hx hb dX_effective_1 rfl hl (by decide) rfl (fun ls hl => ?_)
  refine lv_aload_n hx hb dX_effective_2 rfl (lv_at hl 1 rfl) ?_
  refine lv_lload_n hx hb dX_effective_3 rfl (lv_at hl 0 rfl) ?_
  obtain ⟨z4, hz4, hfin⟩ := bd_ob hfin
  refine g_callMi [.long a0] [] X hK x_rcv hI (ctx_indexed l D cA o q hne u a0 z4 hz4) (cwX_X_indexed X.2.2.2.2 ⟨Nat.le_of_ble_eq_true rfl, Nat.le_of_ble_eq_true rfl⟩) rfl hl.1 rfl (Nat.le_of_ble_eq_true rfl) dX_effective_4 (fun H locs hI => ?_)
  refine lv_istore (lv' := [(5, .int z4.1), (3, .long a0), (0, .ref o), (1, .long a0)]) hx hb dX_effective_7 hl (by decide) rfl (fun ls hl => ?_)
  refine lv_iconst (v := (0 : Int32)) hx hb dX_effective_9 (by decide) ?_
  refine lv_istore (lv' := [(6, .int (0 : Int32)), (5, .int z4.1), (3, .long a0), (0, .ref o), (1, .long a0)]) hx hb dX_effective_10 hl (by decide) rfl (fun ls hl => ?_)
  exact B_12 11 z4.2 a0 z4.1 (0 : Int32) H locs ls (lv_sub hl [3, 4, 2, 1, 0] rfl) hI hfin
set_option maxHeartbeats 4000000 in
set_option maxRecDepth 100000 in
theorem ctx_operation (l : Launch) (a0 : Int64) : gPi l yX_operation wX_operation (rmF 0 0) [.long a0] (x_operation a0) := by
  obtain ⟨z, hz⟩ : ∃ z, z = x_operation a0 := ⟨_, rfl⟩
  rw [← hz]
  have hfin := hz.symm
  clear hz
  refine g_start (plainFor_of_name (by decide)) (Nat.le_of_ble_eq_true rfl) ?_
  intro p e s0 m args below meth c ls X hr hlk hB hl
  have hl : lv_has ls 2 [(0, .long a0)] := hl
  have hx := X.1
  have hb := X.2.1
  rw [x_operation] at hfin
  refine lv_lload_n hx hb dX_operation_0 rfl (lv_at hl 0 rfl) ?_
  refine lv_bipush (v := (27 : Int32)) hx hb dX_operation_1 (by decide) ?_
  refine lv_lushr hx hb dX_operation_3 rfl ?_
  refine lv_l2i hx hb dX_operation_4 rfl ?_
  refine lv_sipush (v := (511 : Int32)) hx hb dX_operation_5 (by decide) ?_
  refine lv_iand hx hb dX_operation_8 ?_
  exact g_iretP X hr hlk hfin dX_operation_9
set_option maxHeartbeats 4000000 in
set_option maxRecDepth 100000 in
theorem ctx_accumulator (l : Launch) (a0 : Int64) : gPi l yX_accumulator wX_accumulator (rmF 0 0) [.long a0] (x_accumulator a0) := by
  obtain ⟨z, hz⟩ : ∃ z, z = x_accumulator a0 := ⟨_, rfl⟩
  rw [← hz]
  have hfin := hz.symm
  clear hz
  refine g_start (plainFor_of_name (by decide)) (Nat.le_of_ble_eq_true rfl) ?_
  intro p e s0 m args below meth c ls X hr hlk hB hl
  have hl : lv_has ls 2 [(0, .long a0)] := hl
  have hx := X.1
  have hb := X.2.1
  rw [x_accumulator] at hfin
  refine lv_lload_n hx hb dX_accumulator_0 rfl (lv_at hl 0 rfl) ?_
  refine lv_bipush (v := (23 : Int32)) hx hb dX_accumulator_1 (by decide) ?_
  refine lv_lushr hx hb dX_accumulator_3 rfl ?_
  refine lv_l2i hx hb dX_accumulator_4 rfl ?_
  refine lv_bipush (v := (15 : Int32)) hx hb dX_accumulator_5 (by decide) ?_
  refine lv_iand hx hb dX_accumulator_7 ?_
  exact g_iretP X hr hlk hfin dX_accumulator_8
set_option maxHeartbeats 4000000 in
set_option maxRecDepth 100000 in
theorem ctx_position (l : Launch) (a0 : Int64) : gPi l yX_position wX_position (rmF 0 0) [.long a0] (x_position a0) := by
  obtain ⟨z, hz⟩ : ∃ z, z = x_position a0 := ⟨_, rfl⟩
  rw [← hz]
  have hfin := hz.symm
  clear hz
  refine g_start (plainFor_of_name (by decide)) (Nat.le_of_ble_eq_true rfl) ?_
  intro p e s0 m args below meth c ls X hr hlk hB hl
  have hl : lv_has ls 2 [(0, .long a0)] := hl
  have hx := X.1
  have hb := X.2.1
  rw [x_position] at hfin
  refine lv_lload_n hx hb dX_position_0 rfl (lv_at hl 0 rfl) ?_
  refine lv_bipush (v := (30 : Int32)) hx hb dX_position_1 (by decide) ?_
  refine lv_lushr hx hb dX_position_3 rfl ?_
  refine lv_l2i hx hb dX_position_4 rfl ?_
  refine lv_bipush (v := (63 : Int32)) hx hb dX_position_5 (by decide) ?_
  refine lv_iand hx hb dX_position_7 ?_
  exact g_iretP X hr hlk hfin dX_position_8
set_option maxHeartbeats 4000000 in
set_option maxRecDepth 100000 in
theorem ctx_size (l : Launch) (a0 : Int64) : gPi l yX_size wX_size (rmF 0 0) [.long a0] (x_size a0) := by
  obtain ⟨z, hz⟩ : ∃ z, z = x_size a0 := ⟨_, rfl⟩
  rw [← hz]
  have hfin := hz.symm
  clear hz
  refine g_start (plainFor_of_name (by decide)) (Nat.le_of_ble_eq_true rfl) ?_
  intro p e s0 m args below meth c ls X hr hlk hB hl
  have hl : lv_has ls 2 [(0, .long a0)] := hl
  have hx := X.1
  have hb := X.2.1
  rw [x_size] at hfin
  refine lv_lload_n hx hb dX_size_0 rfl (lv_at hl 0 rfl) ?_
  refine lv_bipush (v := (24 : Int32)) hx hb dX_size_1 (by decide) ?_
  refine lv_lushr hx hb dX_size_3 rfl ?_
  refine lv_l2i hx hb dX_size_4 rfl ?_
  refine lv_bipush (v := (63 : Int32)) hx hb dX_size_5 (by decide) ?_
  refine lv_iand hx hb dX_size_7 ?_
  exact g_iretP X hr hlk hfin dX_size_8
set_option maxHeartbeats 4000000 in
set_option maxRecDepth 100000 in
theorem ctx_left (l : Launch) (a0 : Int64) : gPi l yX_left wX_left (rmF 0 0) [.long a0] (x_left a0) := by
  obtain ⟨z, hz⟩ : ∃ z, z = x_left a0 := ⟨_, rfl⟩
  rw [← hz]
  have hfin := hz.symm
  clear hz
  refine g_start (plainFor_of_name (by decide)) (Nat.le_of_ble_eq_true rfl) ?_
  intro p e s0 m args below meth c ls X hr hlk hB hl
  have hl : lv_has ls 2 [(0, .long a0)] := hl
  have hx := X.1
  have hb := X.2.1
  rw [x_left] at hfin
  refine lv_lload_n hx hb dX_left_0 rfl (lv_at hl 0 rfl) ?_
  refine lv_bipush (v := (18 : Int32)) hx hb dX_left_1 (by decide) ?_
  refine lv_lushr hx hb dX_left_3 rfl ?_
  refine lv_l2i hx hb dX_left_4 rfl ?_
  refine lv_ldc hx hb X.2.2.2.1 (X.2.2.2.2 _ hkX_41) dX_left_5 ?_
  refine lv_iand hx hb dX_left_7 ?_
  exact g_iretP X hr hlk hfin dX_left_8
set_option maxHeartbeats 4000000 in
set_option maxRecDepth 100000 in
theorem ctx_joined (l : Launch) (a0 : Int32) (a1 : Int32) : gPl l yX_joined wX_joined (rmF 0 0) [.int a0, .int a1] (x_joined a0 a1) := by
  obtain ⟨z, hz⟩ : ∃ z, z = x_joined a0 a1 := ⟨_, rfl⟩
  rw [← hz]
  have hfin := hz.symm
  clear hz
  refine g_start (plainFor_of_name (by decide)) (Nat.le_of_ble_eq_true rfl) ?_
  intro p e s0 m args below meth c ls X hr hlk hB hl
  have hl : lv_has ls 2 [(0, .int a0), (1, .int a1)] := hl
  have hx := X.1
  have hb := X.2.1
  rw [x_joined] at hfin
  refine lv_iload_n hx hb dX_joined_0 rfl (lv_at hl 0 rfl) ?_
  refine lv_i2l hx hb dX_joined_1 rfl ?_
  refine lv_bipush (v := (18 : Int32)) hx hb dX_joined_2 (by decide) ?_
  refine lv_lshl hx hb dX_joined_4 rfl ?_
  refine lv_iload_n hx hb dX_joined_5 rfl (lv_at hl 1 rfl) ?_
  refine lv_i2l hx hb dX_joined_6 rfl ?_
  refine lv_lor hx hb dX_joined_7 ?_
  exact g_lretP X hr hlk hfin dX_joined_8
set_option maxHeartbeats 4000000 in
set_option maxRecDepth 100000 in
theorem ctx_write (l : Launch) (D : va_G) (cA : ClassId) (o q : Nat) (hne : va_nd [o, q] = true) (u : XS) (a0 : Int32) (a1 : Int64) (z : XS) (hfin : x_write u a0 a1 = some z) : gMv l yX_write wX_write (rmF 1 22) D [(cA, .long)] (XW cA o q) (XA o q) [.ref o, .int a0, .long a1] u z := by
  refine g_start (plainFor_of_name (by decide)) (Nat.le_of_ble_eq_true rfl) ?_
  intro p e s0 m args below meth c ls X hr hlk hB hl
  obtain ⟨hP0, hK⟩ := hB
  have hI : gI D (XW cA o q) (XA o q) s0.heap s0.heap [] u := ⟨hP0, va_S.rf⟩
  have hl : lv_has ls 5 [(0, .ref o), (1, .int a0), (2, .long a1)] := hl
  have hx := X.1
  have hb := X.2.1
  rw [x_write] at hfin
  refine lv_aload_n hx hb dX_write_0 rfl (lv_at hl 0 rfl) ?_
  refine lv_iload_n hx hb dX_write_1 rfl (lv_at hl 1 rfl) ?_
  refine g_callRi [.int a0] [] X hK x_rcv hI.1 (ctx_placeOf l D cA o q u a0) (cwX_X_placeOf X.2.2.2.2 ⟨Nat.le_of_ble_eq_true rfl, Nat.le_of_ble_eq_true rfl⟩) rfl hl.1 rfl (Nat.le_of_ble_eq_true rfl) dX_write_2 ?_
  refine lv_topi (fun x5 e5 => ?_)
  replace hfin := nm_at hfin e5
  refine lv_istore (lv' := [(4, .int x5), (0, .ref o), (1, .int a0), (2, .long a1)]) hx hb dX_write_5 hl (by decide) rfl (fun ls hl => ?_)
  refine lv_iload hx hb dX_write_7 (lv_at hl 0 rfl) ?_
  refine g_callPi [.int x5] [] X (ctx_isPlace l x5) (cwX_X_isPlace X.2.2.2.2 ⟨Nat.le_of_ble_eq_true rfl, Nat.le_of_ble_eq_true rfl⟩) rfl hl.1 rfl (Nat.le_of_ble_eq_true rfl) dX_write_9 ?_
  refine lv_if_ne (tgt := 23) hx hb dX_write_12 (by decide) (fun hc12 => ?_) (fun hc12 => ?_)
  · rw [if_neg hc12] at hfin
    refine lv_aload_n hx hb dX_write_23 rfl (lv_at hl 1 rfl) ?_
    refine xg_trap X hK hI.1 dX_write_24 ?_
    refine lv_if_ne (tgt := 38) hx hb dX_write_27 (by decide) (fun hc27 => ?_) (fun hc27 => ?_)
    · rw [if_neg hc27] at hfin
      exact g_vret X hr hlk hK hI hfin dX_write_38
    rw [if_pos hc27] at hfin
    refine lv_aload_n hx hb dX_write_30 rfl (lv_at hl 1 rfl) ?_
    refine xg_words X hK hI.1 dX_write_31 ?_
    refine lv_iload hx hb dX_write_34 (lv_at hl 0 rfl) ?_
    refine lv_lload_n hx hb dX_write_36 rfl (lv_at hl 3 rfl) ?_
    obtain ⟨hd37, hfin⟩ := ck_if hfin
    refine xs_words X hK (x_D hne) hI hd37 dX_write_37 (fun H locs hI => ?_)
    exact g_vret X hr hlk hK hI hfin dX_write_38
  rw [if_pos hc12] at hfin
  refine lv_aload_n hx hb dX_write_15 rfl (lv_at hl 1 rfl) ?_
  refine lv_iconst (v := (1 : Int32)) hx hb dX_write_16 (by decide) ?_
  obtain ⟨z17, hz17, hfin⟩ := bd_ob hfin
  refine g_callMv [.int (1 : Int32)] [] X hK x_rcv hI (ctx_raise l D cA o q hne u (1 : Int32) z17 hz17) (cwX_X_raise X.2.2.2.2 ⟨Nat.le_of_ble_eq_true rfl, Nat.le_of_ble_eq_true rfl⟩) rfl hl.1 rfl (Nat.le_of_ble_eq_true rfl) dX_write_17 (fun H locs hI => ?_)
  refine lv_goto (tgt := 38) hx hb dX_write_20 (by decide) ?_
  exact g_vret X hr hlk hK hI hfin dX_write_38
set_option maxHeartbeats 4000000 in
set_option maxRecDepth 100000 in
theorem ctx_advancePointer (l : Launch) (D : va_G) (cA : ClassId) (o q : Nat) (hne : va_nd [o, q] = true) (u : XS) (a0 : Int32) (z : XS) (hfin : x_advancePointer u a0 = some z) : gMv l yX_advancePointer wX_advancePointer (rmF 2 46) D [(cA, .long)] (XW cA o q) (XA o q) [.ref o, .int a0] u z := by
  refine g_start (plainFor_of_name (by decide)) (Nat.le_of_ble_eq_true rfl) ?_
  intro p e s0 m args below meth c ls X hr hlk hB hl
  obtain ⟨hP0, hK⟩ := hB
  have hI : gI D (XW cA o q) (XA o q) s0.heap s0.heap [] u := ⟨hP0, va_S.rf⟩
  have hl : lv_has ls 7 [(0, .ref o), (1, .int a0)] := hl
  have hx := X.1
  have hb := X.2.1
  have B_50 : ∀ (u : XS) (v2 : Int64) (v4 : Int32) (v5 : Int32) (H : Heap) (locs : List Loc) (ls : Array Slot), lv_has ls 7 [(0, .ref o), (1, .int a0), (2, .long v2), (4, .int v4), (5, .int v5)] → gI D (XW cA o q) (XA o q) s0.heap H locs u → x_advancePointer_50 a0 u v2 v4 v5 = some z → W p l e (rmF 2 46) s0 m args below meth c H locs 0 0 (MQ below (va_Qv (fun x => x = z) (gB D [(cA, .long)] (XW cA o q)) (XA o q)) args s0 0 0 (XA o q)) (F0 m 50 ls []) := by
    intro u v2 v4 v5 H locs ls hl hI hfin
    rw [x_advancePointer_50] at hfin
    refine lv_lload_n hx hb dX_advancePointer_50 rfl (lv_at hl 2 rfl) ?_
    refine g_callPi [.long v2] [] X (ctx_left l v2) (cwX_X_left X.2.2.2.2 ⟨Nat.le_of_ble_eq_true rfl, Nat.le_of_ble_eq_true rfl⟩) rfl hl.1 rfl (Nat.le_of_ble_eq_true rfl) dX_advancePointer_51 ?_
    refine lv_sipush (v := (4095 : Int32)) hx hb dX_advancePointer_54 (by decide) ?_
    refine lv_iand hx hb dX_advancePointer_57 ?_
    refine lv_topi (fun x58 e58 => ?_)
    replace hfin := nm_at hfin e58
    refine lv_istore (lv' := [(6, .int x58), (0, .ref o), (1, .int a0), (2, .long v2), (4, .int v4), (5, .int v5)]) hx hb dX_advancePointer_58 hl (by decide) rfl (fun ls hl => ?_)
    refine lv_aload_n hx hb dX_advancePointer_60 rfl (lv_at hl 1 rfl) ?_
    refine lv_iload_n hx hb dX_advancePointer_61 rfl (lv_at hl 2 rfl) ?_
    refine lv_iload hx hb dX_advancePointer_62 (lv_at hl 4 rfl) ?_
    refine lv_bipush (v := (12 : Int32)) hx hb dX_advancePointer_64 (by decide) ?_
    refine lv_ishl hx hb dX_advancePointer_66 ?_
    refine lv_iload hx hb dX_advancePointer_67 (lv_at hl 0 rfl) ?_
    refine lv_ior hx hb dX_advancePointer_69 ?_
    refine lv_iload hx hb dX_advancePointer_70 (lv_at hl 5 rfl) ?_
    refine g_callPl [.int ((v4 <<< ((12 : Int32) &&& 31)) ||| x58), .int v5] [.int a0, .ref o] X (ctx_joined l ((v4 <<< ((12 : Int32) &&& 31)) ||| x58) v5) (cwX_X_joined X.2.2.2.2 ⟨Nat.le_of_ble_eq_true rfl, Nat.le_of_ble_eq_true rfl⟩) rfl hl.1 rfl (Nat.le_of_ble_eq_true rfl) dX_advancePointer_72 ?_
    obtain ⟨z75, hz75, hfin⟩ := bd_ob hfin
    refine g_callMv [.int a0, .long (x_joined ((v4 <<< ((12 : Int32) &&& 31)) ||| x58) v5)] [] X hK x_rcv hI (ctx_write l D cA o q hne u a0 (x_joined ((v4 <<< ((12 : Int32) &&& 31)) ||| x58) v5) z75 hz75) (cwX_X_write X.2.2.2.2 ⟨Nat.le_of_ble_eq_true rfl, Nat.le_of_ble_eq_true rfl⟩) rfl hl.1 rfl (Nat.le_of_ble_eq_true rfl) dX_advancePointer_75 (fun H locs hI => ?_)
    exact g_vret X hr hlk hK hI hfin dX_advancePointer_78
  rw [x_advancePointer] at hfin
  refine lv_aload_n hx hb dX_advancePointer_0 rfl (lv_at hl 0 rfl) ?_
  refine lv_iload_n hx hb dX_advancePointer_1 rfl (lv_at hl 1 rfl) ?_
  obtain ⟨z2, hz2, hfin⟩ := bd_ob hfin
  refine g_callMl [.int a0] [] X hK x_rcv hI (ctx_read l D cA o q hne u a0 z2 hz2) (cwX_X_read X.2.2.2.2 ⟨Nat.le_of_ble_eq_true rfl, Nat.le_of_ble_eq_true rfl⟩) rfl hl.1 rfl (Nat.le_of_ble_eq_true rfl) dX_advancePointer_2 (fun H locs hI => ?_)
  refine lv_lstore_n (lv' := [(2, .long z2.1), (0, .ref o), (1, .int a0)]) hx hb dX_advancePointer_5 rfl hl (by decide) rfl (fun ls hl => ?_)
  refine lv_lload_n hx hb dX_advancePointer_6 rfl (lv_at hl 0 rfl) ?_
  refine g_callPi [.long z2.1] [] X (ctx_position l z2.1) (cwX_X_position X.2.2.2.2 ⟨Nat.le_of_ble_eq_true rfl, Nat.le_of_ble_eq_true rfl⟩) rfl hl.1 rfl (Nat.le_of_ble_eq_true rfl) dX_advancePointer_7 ?_
  refine lv_lload_n hx hb dX_advancePointer_10 rfl (lv_at hl 0 rfl) ?_
  refine g_callPi [.long z2.1] [.int (x_position z2.1)] X (ctx_size l z2.1) (cwX_X_size X.2.2.2.2 ⟨Nat.le_of_ble_eq_true rfl, Nat.le_of_ble_eq_true rfl⟩) rfl hl.1 rfl (Nat.le_of_ble_eq_true rfl) dX_advancePointer_11 ?_
  refine lv_isub hx hb dX_advancePointer_14 ?_
  refine lv_topi (fun x15 e15 => ?_)
  replace hfin := nm_at hfin e15
  refine lv_istore (lv' := [(4, .int x15), (2, .long z2.1), (0, .ref o), (1, .int a0)]) hx hb dX_advancePointer_15 hl (by decide) rfl (fun ls hl => ?_)
  refine lv_lload_n hx hb dX_advancePointer_17 rfl (lv_at hl 1 rfl) ?_
  refine g_callPi [.long z2.1] [] X (ctx_right l z2.1) (cwX_X_right X.2.2.2.2 ⟨Nat.le_of_ble_eq_true rfl, Nat.le_of_ble_eq_true rfl⟩) rfl hl.1 rfl (Nat.le_of_ble_eq_true rfl) dX_advancePointer_18 ?_
  refine lv_topi (fun x21 e21 => ?_)
  replace hfin := nm_at hfin e21
  refine lv_istore (lv' := [(5, .int x21), (4, .int x15), (2, .long z2.1), (0, .ref o), (1, .int a0)]) hx hb dX_advancePointer_21 hl (by decide) rfl (fun ls hl => ?_)
  refine lv_iload hx hb dX_advancePointer_23 (lv_at hl 1 rfl) ?_
  refine lv_if_ge (tgt := 50) hx hb dX_advancePointer_25 (by decide) (fun hc25 => ?_) (fun hc25 => ?_)
  · rw [if_pos hc25] at hfin
    exact B_50 z2.2 z2.1 x15 x21 H locs ls (lv_sub hl [3, 4, 2, 1, 0] rfl) hI hfin
  rw [if_neg hc25] at hfin
  refine lv_iload hx hb dX_advancePointer_28 (lv_at hl 0 rfl) ?_
  refine lv_iconst (v := (1 : Int32)) hx hb dX_advancePointer_30 (by decide) ?_
  refine lv_iadd hx hb dX_advancePointer_31 ?_
  refine g_callPi [.int (x21 + (1 : Int32))] [] X (ctx_wrapped l (x21 + (1 : Int32))) (cwX_X_wrapped X.2.2.2.2 ⟨Nat.le_of_ble_eq_true rfl, Nat.le_of_ble_eq_true rfl⟩) rfl hl.1 rfl (Nat.le_of_ble_eq_true rfl) dX_advancePointer_32 ?_
  refine lv_topi (fun x35 e35 => ?_)
  replace hfin := nm_at hfin e35
  refine lv_istore (lv' := [(5, .int x35), (4, .int x15), (2, .long z2.1), (0, .ref o), (1, .int a0)]) hx hb dX_advancePointer_35 hl (by decide) rfl (fun ls hl => ?_)
  refine lv_bipush (v := (36 : Int32)) hx hb dX_advancePointer_37 (by decide) ?_
  refine lv_lload_n hx hb dX_advancePointer_39 rfl (lv_at hl 2 rfl) ?_
  refine g_callPi [.long z2.1] [.int (36 : Int32)] X (ctx_size l z2.1) (cwX_X_size X.2.2.2.2 ⟨Nat.le_of_ble_eq_true rfl, Nat.le_of_ble_eq_true rfl⟩) rfl hl.1 rfl (Nat.le_of_ble_eq_true rfl) dX_advancePointer_40 ?_
  refine lv_isub hx hb dX_advancePointer_43 ?_
  refine lv_iconst (v := (0 : Int32)) hx hb dX_advancePointer_44 (by decide) ?_
  refine g_callPi [.int ((36 : Int32) - (x_size z2.1)), .int (0 : Int32)] [] X (ctj_max l ((36 : Int32) - (x_size z2.1)) (0 : Int32)) (cwX_J_max X.2.2.2.2 ⟨Nat.le_of_ble_eq_true rfl, Nat.le_of_ble_eq_true rfl⟩) rfl hl.1 rfl (Nat.le_of_ble_eq_true rfl) dX_advancePointer_45 ?_
  refine lv_topi (fun x48 e48 => ?_)
  replace hfin := nm_at hfin e48
  refine lv_istore (lv' := [(4, .int x48), (5, .int x35), (2, .long z2.1), (0, .ref o), (1, .int a0)]) hx hb dX_advancePointer_48 hl (by decide) rfl (fun ls hl => ?_)
  exact B_50 z2.2 z2.1 x48 x35 H locs ls (lv_sub hl [3, 4, 2, 0, 1] rfl) hI hfin
set_option maxHeartbeats 4000000 in
set_option maxRecDepth 100000 in
theorem ctx_byteMask (l : Launch) (a0 : Int64) : gPl l yX_byteMask wX_byteMask (rmF 1 21) [.long a0] (x_byteMask a0) := by
  obtain ⟨z, hz⟩ : ∃ z, z = x_byteMask a0 := ⟨_, rfl⟩
  rw [← hz]
  have hfin := hz.symm
  clear hz
  refine g_start (plainFor_of_name (by decide)) (Nat.le_of_ble_eq_true rfl) ?_
  intro p e s0 m args below meth c ls X hr hlk hB hl
  have hl : lv_has ls 2 [(0, .long a0)] := hl
  have hx := X.1
  have hb := X.2.1
  rw [x_byteMask] at hfin
  refine lv_lconst (v := (1 : Int64)) hx hb dX_byteMask_0 (by decide) ?_
  refine lv_lload_n hx hb dX_byteMask_1 rfl (lv_at hl 0 rfl) ?_
  refine g_callPi [.long a0] [.long (1 : Int64)] X (ctx_size l a0) (cwX_X_size X.2.2.2.2 ⟨Nat.le_of_ble_eq_true rfl, Nat.le_of_ble_eq_true rfl⟩) rfl hl.1 rfl (Nat.le_of_ble_eq_true rfl) dX_byteMask_2 ?_
  refine lv_bipush (v := (36 : Int32)) hx hb dX_byteMask_5 (by decide) ?_
  refine g_callPi [.int (x_size a0), .int (36 : Int32)] [.long (1 : Int64)] X (ctj_min l (x_size a0) (36 : Int32)) (cwX_J_min X.2.2.2.2 ⟨Nat.le_of_ble_eq_true rfl, Nat.le_of_ble_eq_true rfl⟩) rfl hl.1 rfl (Nat.le_of_ble_eq_true rfl) dX_byteMask_7 ?_
  refine lv_lshl hx hb dX_byteMask_10 rfl ?_
  refine lv_lconst (v := (1 : Int64)) hx hb dX_byteMask_11 (by decide) ?_
  refine lv_lsub hx hb dX_byteMask_12 ?_
  exact g_lretP X hr hlk hfin dX_byteMask_13
set_option maxHeartbeats 4000000 in
set_option maxRecDepth 100000 in
theorem ctx_setAccumulator (l : Launch) (D : va_G) (cA : ClassId) (o q : Nat) (hne : va_nd [o, q] = true) (u : XS) (a0 : Int32) (a1 : Int64) (z : XS) (hfin : x_setAccumulator u a0 a1 = some z) : gMv l yX_setAccumulator wX_setAccumulator (rmF 0 0) D [(cA, .long)] (XW cA o q) (XA o q) [.ref o, .int a0, .long a1] u z := by
  refine g_start (plainFor_of_name (by decide)) (Nat.le_of_ble_eq_true rfl) ?_
  intro p e s0 m args below meth c ls X hr hlk hB hl
  obtain ⟨hP0, hK⟩ := hB
  have hI : gI D (XW cA o q) (XA o q) s0.heap s0.heap [] u := ⟨hP0, va_S.rf⟩
  have hl : lv_has ls 4 [(0, .ref o), (1, .int a0), (2, .long a1)] := hl
  have hx := X.1
  have hb := X.2.1
  rw [x_setAccumulator] at hfin
  refine lv_aload_n hx hb dX_setAccumulator_0 rfl (lv_at hl 0 rfl) ?_
  refine xg_trap X hK hI.1 dX_setAccumulator_1 ?_
  refine lv_if_ne (tgt := 14) hx hb dX_setAccumulator_4 (by decide) (fun hc4 => ?_) (fun hc4 => ?_)
  · rw [if_neg hc4] at hfin
    exact g_vret X hr hlk hK hI hfin dX_setAccumulator_14
  rw [if_pos hc4] at hfin
  refine lv_aload_n hx hb dX_setAccumulator_7 rfl (lv_at hl 0 rfl) ?_
  refine xg_words X hK hI.1 dX_setAccumulator_8 ?_
  refine lv_iload_n hx hb dX_setAccumulator_11 rfl (lv_at hl 1 rfl) ?_
  refine lv_lload_n hx hb dX_setAccumulator_12 rfl (lv_at hl 2 rfl) ?_
  obtain ⟨hd13, hfin⟩ := ck_if hfin
  refine xs_words X hK (x_D hne) hI hd13 dX_setAccumulator_13 (fun H locs hI => ?_)
  exact g_vret X hr hlk hK hI hfin dX_setAccumulator_14
set_option maxHeartbeats 4000000 in
set_option maxRecDepth 100000 in
theorem ctx_loadByte (l : Launch) (D : va_G) (cA : ClassId) (o q : Nat) (hne : va_nd [o, q] = true) (u : XS) (a0 : Int32) (a1 : Int64) (a2 : Int32) (z : XS) (hfin : x_loadByte u a0 a1 a2 = some z) : gMv l yX_loadByte wX_loadByte (rmF 2 44) D [(cA, .long)] (XW cA o q) (XA o q) [.ref o, .int a0, .long a1, .int a2] u z := by
  refine g_start (plainFor_of_name (by decide)) (Nat.le_of_ble_eq_true rfl) ?_
  intro p e s0 m args below meth c ls X hr hlk hB hl
  obtain ⟨hP0, hK⟩ := hB
  have hI : gI D (XW cA o q) (XA o q) s0.heap s0.heap [] u := ⟨hP0, va_S.rf⟩
  have hl : lv_has ls 7 [(0, .ref o), (1, .int a0), (2, .long a1), (4, .int a2)] := hl
  have hx := X.1
  have hb := X.2.1
  rw [x_loadByte] at hfin
  refine lv_aload_n hx hb dX_loadByte_0 rfl (lv_at hl 0 rfl) ?_
  refine lv_iload hx hb dX_loadByte_1 (lv_at hl 3 rfl) ?_
  obtain ⟨z3, hz3, hfin⟩ := bd_ob hfin
  refine g_callMl [.int a2] [] X hK x_rcv hI (ctx_read l D cA o q hne u a2 z3 hz3) (cwX_X_read X.2.2.2.2 ⟨Nat.le_of_ble_eq_true rfl, Nat.le_of_ble_eq_true rfl⟩) rfl hl.1 rfl (Nat.le_of_ble_eq_true rfl) dX_loadByte_3 (fun H locs hI => ?_)
  refine lv_lstore (lv' := [(5, .long z3.1), (0, .ref o), (1, .int a0), (2, .long a1), (4, .int a2)]) hx hb dX_loadByte_6 hl (by decide) rfl (fun ls hl => ?_)
  refine lv_aload_n hx hb dX_loadByte_8 rfl (lv_at hl 1 rfl) ?_
  refine lv_iload_n hx hb dX_loadByte_9 rfl (lv_at hl 2 rfl) ?_
  refine lv_lload hx hb dX_loadByte_10 (lv_at hl 0 rfl) ?_
  refine lv_lload_n hx hb dX_loadByte_12 rfl (lv_at hl 3 rfl) ?_
  refine g_callPi [.long a1] [.long z3.1, .int a0, .ref o] X (ctx_position l a1) (cwX_X_position X.2.2.2.2 ⟨Nat.le_of_ble_eq_true rfl, Nat.le_of_ble_eq_true rfl⟩) rfl hl.1 rfl (Nat.le_of_ble_eq_true rfl) dX_loadByte_13 ?_
  refine lv_lushr hx hb dX_loadByte_16 rfl ?_
  refine lv_lload_n hx hb dX_loadByte_17 rfl (lv_at hl 3 rfl) ?_
  refine g_callPl [.long a1] [.long ((z3.1.toUInt64 >>> ((x_position a1).toInt64.toUInt64 &&& Int64.toUInt64 63)).toInt64), .int a0, .ref o] X (ctx_byteMask l a1) (cwX_X_byteMask X.2.2.2.2 ⟨Nat.le_of_ble_eq_true rfl, Nat.le_of_ble_eq_true rfl⟩) rfl hl.1 rfl (Nat.le_of_ble_eq_true rfl) dX_loadByte_18 ?_
  refine lv_land hx hb dX_loadByte_21 ?_
  obtain ⟨z22, hz22, hfin⟩ := bd_ob hfin
  refine g_callMv [.int a0, .long (((z3.1.toUInt64 >>> ((x_position a1).toInt64.toUInt64 &&& Int64.toUInt64 63)).toInt64) &&& (x_byteMask a1))] [] X hK x_rcv hI (ctx_setAccumulator l D cA o q hne z3.2 a0 (((z3.1.toUInt64 >>> ((x_position a1).toInt64.toUInt64 &&& Int64.toUInt64 63)).toInt64) &&& (x_byteMask a1)) z22 hz22) (cwX_X_setAccumulator X.2.2.2.2 ⟨Nat.le_of_ble_eq_true rfl, Nat.le_of_ble_eq_true rfl⟩) rfl hl.1 rfl (Nat.le_of_ble_eq_true rfl) dX_loadByte_22 (fun H locs hI => ?_)
  exact g_vret X hr hlk hK hI hfin dX_loadByte_25
set_option maxHeartbeats 4000000 in
set_option maxRecDepth 100000 in
theorem ctx_depositByte (l : Launch) (D : va_G) (cA : ClassId) (o q : Nat) (hne : va_nd [o, q] = true) (u : XS) (a0 : Int32) (a1 : Int64) (a2 : Int32) (z : XS) (hfin : x_depositByte u a0 a1 a2 = some z) : gMv l yX_depositByte wX_depositByte (rmF 2 46) D [(cA, .long)] (XW cA o q) (XA o q) [.ref o, .int a0, .long a1, .int a2] u z := by
  refine g_start (plainFor_of_name (by decide)) (Nat.le_of_ble_eq_true rfl) ?_
  intro p e s0 m args below meth c ls X hr hlk hB hl
  obtain ⟨hP0, hK⟩ := hB
  have hI : gI D (XW cA o q) (XA o q) s0.heap s0.heap [] u := ⟨hP0, va_S.rf⟩
  have hl : lv_has ls 9 [(0, .ref o), (1, .int a0), (2, .long a1), (4, .int a2)] := hl
  have hx := X.1
  have hb := X.2.1
  rw [x_depositByte] at hfin
  refine lv_aload_n hx hb dX_depositByte_0 rfl (lv_at hl 0 rfl) ?_
  refine lv_iload hx hb dX_depositByte_1 (lv_at hl 3 rfl) ?_
  obtain ⟨z3, hz3, hfin⟩ := bd_ob hfin
  refine g_callMl [.int a2] [] X hK x_rcv hI (ctx_read l D cA o q hne u a2 z3 hz3) (cwX_X_read X.2.2.2.2 ⟨Nat.le_of_ble_eq_true rfl, Nat.le_of_ble_eq_true rfl⟩) rfl hl.1 rfl (Nat.le_of_ble_eq_true rfl) dX_depositByte_3 (fun H locs hI => ?_)
  refine lv_lstore (lv' := [(5, .long z3.1), (0, .ref o), (1, .int a0), (2, .long a1), (4, .int a2)]) hx hb dX_depositByte_6 hl (by decide) rfl (fun ls hl => ?_)
  refine lv_lload_n hx hb dX_depositByte_8 rfl (lv_at hl 3 rfl) ?_
  refine g_callPl [.long a1] [] X (ctx_byteMask l a1) (cwX_X_byteMask X.2.2.2.2 ⟨Nat.le_of_ble_eq_true rfl, Nat.le_of_ble_eq_true rfl⟩) rfl hl.1 rfl (Nat.le_of_ble_eq_true rfl) dX_depositByte_9 ?_
  refine lv_lload_n hx hb dX_depositByte_12 rfl (lv_at hl 3 rfl) ?_
  refine g_callPi [.long a1] [.long (x_byteMask a1)] X (ctx_position l a1) (cwX_X_position X.2.2.2.2 ⟨Nat.le_of_ble_eq_true rfl, Nat.le_of_ble_eq_true rfl⟩) rfl hl.1 rfl (Nat.le_of_ble_eq_true rfl) dX_depositByte_13 ?_
  refine lv_lshl hx hb dX_depositByte_16 rfl ?_
  refine lv_ldc2 hx hb X.2.2.2.1 (X.2.2.2.2 _ hkX_17) dX_depositByte_17 ?_
  refine lv_land hx hb dX_depositByte_20 ?_
  refine lv_topl (fun x21 e21 => ?_)
  replace hfin := nm_at hfin e21
  refine lv_lstore (lv' := [(7, .long x21), (5, .long z3.1), (0, .ref o), (1, .int a0), (2, .long a1), (4, .int a2)]) hx hb dX_depositByte_21 hl (by decide) rfl (fun ls hl => ?_)
  refine lv_aload_n hx hb dX_depositByte_23 rfl (lv_at hl 2 rfl) ?_
  refine lv_iload hx hb dX_depositByte_24 (lv_at hl 5 rfl) ?_
  refine lv_lload hx hb dX_depositByte_26 (lv_at hl 1 rfl) ?_
  refine lv_lload hx hb dX_depositByte_28 (lv_at hl 0 rfl) ?_
  refine lv_ldc2 hx hb X.2.2.2.1 (X.2.2.2.2 _ hkX_19) dX_depositByte_30 ?_
  refine lv_lxor hx hb dX_depositByte_33 ?_
  refine lv_land hx hb dX_depositByte_34 ?_
  refine lv_aload_n hx hb dX_depositByte_35 rfl (lv_at hl 2 rfl) ?_
  refine xg_words X hK hI.1 dX_depositByte_36 ?_
  refine lv_iload_n hx hb dX_depositByte_39 rfl (lv_at hl 3 rfl) ?_
  obtain ⟨hd40, hfin⟩ := ck_if hfin
  refine xl_words X hK hI.1 hd40 dX_depositByte_40 ?_
  refine lv_lload_n hx hb dX_depositByte_41 rfl (lv_at hl 4 rfl) ?_
  refine g_callPi [.long a1] [.long (X_words z3.2 a0.toNatClampNeg), .long (z3.1 &&& (x21 ^^^ (-1 : Int64))), .int a2, .ref o] X (ctx_position l a1) (cwX_X_position X.2.2.2.2 ⟨Nat.le_of_ble_eq_true rfl, Nat.le_of_ble_eq_true rfl⟩) rfl hl.1 rfl (Nat.le_of_ble_eq_true rfl) dX_depositByte_42 ?_
  refine lv_lshl hx hb dX_depositByte_45 rfl ?_
  refine lv_lload hx hb dX_depositByte_46 (lv_at hl 0 rfl) ?_
  refine lv_land hx hb dX_depositByte_48 ?_
  refine lv_lor hx hb dX_depositByte_49 ?_
  obtain ⟨z50, hz50, hfin⟩ := bd_ob hfin
  refine g_callMv [.int a2, .long ((z3.1 &&& (x21 ^^^ (-1 : Int64))) ||| (((X_words z3.2 a0.toNatClampNeg) <<< ((x_position a1).toInt64 &&& 63)) &&& x21))] [] X hK x_rcv hI (ctx_write l D cA o q hne z3.2 a2 ((z3.1 &&& (x21 ^^^ (-1 : Int64))) ||| (((X_words z3.2 a0.toNatClampNeg) <<< ((x_position a1).toInt64 &&& 63)) &&& x21)) z50 hz50) (cwX_X_write X.2.2.2.2 ⟨Nat.le_of_ble_eq_true rfl, Nat.le_of_ble_eq_true rfl⟩) rfl hl.1 rfl (Nat.le_of_ble_eq_true rfl) dX_depositByte_50 (fun H locs hI => ?_)
  exact g_vret X hr hlk hK hI hfin dX_depositByte_53
set_option maxHeartbeats 4000000 in
set_option maxRecDepth 100000 in
theorem ctx_bytes (l : Launch) (D : va_G) (cA : ClassId) (o q : Nat) (hne : va_nd [o, q] = true) (u : XS) (a0 : Int32) (a1 : Int32) (a2 : Int32) (z : XS) (hfin : x_bytes u a0 a1 a2 = some z) : gMv l yX_bytes wX_bytes (rmF 4 91) D [(cA, .long)] (XW cA o q) (XA o q) [.ref o, .int a0, .int a1, .int a2] u z := by
  refine g_start (plainFor_of_name (by decide)) (Nat.le_of_ble_eq_true rfl) ?_
  intro p e s0 m args below meth c ls X hr hlk hB hl
  obtain ⟨hP0, hK⟩ := hB
  have hI : gI D (XW cA o q) (XA o q) s0.heap s0.heap [] u := ⟨hP0, va_S.rf⟩
  have hl : lv_has ls 7 [(0, .ref o), (1, .int a0), (2, .int a1), (3, .int a2)] := hl
  have hx := X.1
  have hb := X.2.1
  have B_69 : ∀ (u : XS) (v4 : Int64) (v6 : Int32) (H : Heap) (locs : List Loc) (ls : Array Slot), lv_has ls 7 [(0, .ref o), (1, .int a0), (2, .int a1), (3, .int a2), (4, .long v4), (6, .int v6)] → gI D (XW cA o q) (XA o q) s0.heap H locs u → x_bytes_69 a0 a1 a2 u v4 v6 = some z → W p l e (rmF 4 91) s0 m args below meth c H locs 0 0 (MQ below (va_Qv (fun x => x = z) (gB D [(cA, .long)] (XW cA o q)) (XA o q)) args s0 0 0 (XA o q)) (F0 m 69 ls []) := by
    intro u v4 v6 H locs ls hl hI hfin
    rw [x_bytes_69] at hfin
    refine lv_aload_n hx hb dX_bytes_69 rfl (lv_at hl 0 rfl) ?_
    refine lv_iload_n hx hb dX_bytes_70 rfl (lv_at hl 2 rfl) ?_
    refine lv_lload hx hb dX_bytes_71 (lv_at hl 4 rfl) ?_
    refine lv_iload hx hb dX_bytes_73 (lv_at hl 5 rfl) ?_
    obtain ⟨z75, hz75, hfin⟩ := bd_ob hfin
    refine g_callMv [.int a1, .long v4, .int v6] [] X hK x_rcv hI (ctx_loadByte l D cA o q hne u a1 v4 v6 z75 hz75) (cwX_X_loadByte X.2.2.2.2 ⟨Nat.le_of_ble_eq_true rfl, Nat.le_of_ble_eq_true rfl⟩) rfl hl.1 rfl (Nat.le_of_ble_eq_true rfl) dX_bytes_75 (fun H locs hI => ?_)
    refine lv_goto (tgt := 90) hx hb dX_bytes_78 (by decide) ?_
    exact g_vret X hr hlk hK hI hfin dX_bytes_90
  have B_35 : ∀ (u : XS) (H : Heap) (locs : List Loc) (ls : Array Slot), lv_has ls 7 [(0, .ref o), (1, .int a0), (2, .int a1), (3, .int a2)] → gI D (XW cA o q) (XA o q) s0.heap H locs u → x_bytes_35 a0 a1 a2 u = some z → W p l e (rmF 4 91) s0 m args below meth c H locs 0 0 (MQ below (va_Qv (fun x => x = z) (gB D [(cA, .long)] (XW cA o q)) (XA o q)) args s0 0 0 (XA o q)) (F0 m 35 ls []) := by
    intro u H locs ls hl hI hfin
    rw [x_bytes_35] at hfin
    refine lv_iload_n hx hb dX_bytes_35 rfl (lv_at hl 1 rfl) ?_
    refine lv_bipush (v := (91 : Int32)) hx hb dX_bytes_36 (by decide) ?_
    refine lv_icmp_ne (tgt := 42) hx hb dX_bytes_38 (by decide) (fun hc38 => ?_) (fun hc38 => ?_)
    · rw [if_neg hc38] at hfin
      refine lv_aload_n hx hb dX_bytes_42 rfl (lv_at hl 0 rfl) ?_
      refine lv_iload_n hx hb dX_bytes_43 rfl (lv_at hl 3 rfl) ?_
      obtain ⟨z44, hz44, hfin⟩ := bd_ob hfin
      refine g_callMl [.int a2] [] X hK x_rcv hI (ctx_read l D cA o q hne u a2 z44 hz44) (cwX_X_read X.2.2.2.2 ⟨Nat.le_of_ble_eq_true rfl, Nat.le_of_ble_eq_true rfl⟩) rfl hl.1 rfl (Nat.le_of_ble_eq_true rfl) dX_bytes_44 (fun H locs hI => ?_)
      refine lv_lstore (lv' := [(4, .long z44.1), (0, .ref o), (1, .int a0), (2, .int a1), (3, .int a2)]) hx hb dX_bytes_47 hl (by decide) rfl (fun ls hl => ?_)
      refine lv_aload_n hx hb dX_bytes_49 rfl (lv_at hl 1 rfl) ?_
      refine lv_lload hx hb dX_bytes_50 (lv_at hl 0 rfl) ?_
      obtain ⟨z52, hz52, hfin⟩ := bd_ob hfin
      refine g_callMi [.long z44.1] [] X hK x_rcv hI (ctx_effective l D cA o q hne z44.2 z44.1 z52 hz52) (cwX_X_effective X.2.2.2.2 ⟨Nat.le_of_ble_eq_true rfl, Nat.le_of_ble_eq_true rfl⟩) rfl hl.1 rfl (Nat.le_of_ble_eq_true rfl) dX_bytes_52 (fun H locs hI => ?_)
      refine lv_istore (lv' := [(6, .int z52.1), (4, .long z44.1), (0, .ref o), (1, .int a0), (2, .int a1), (3, .int a2)]) hx hb dX_bytes_55 hl (by decide) rfl (fun ls hl => ?_)
      refine lv_iload_n hx hb dX_bytes_57 rfl (lv_at hl 3 rfl) ?_
      refine lv_bipush (v := (92 : Int32)) hx hb dX_bytes_58 (by decide) ?_
      refine lv_icmp_eq (tgt := 69) hx hb dX_bytes_60 (by decide) (fun hc60 => ?_) (fun hc60 => ?_)
      · rw [if_pos hc60] at hfin
        exact B_69 z52.2 z44.1 z52.1 H locs ls (lv_sub hl [2, 3, 4, 5, 1, 0] rfl) hI hfin
      rw [if_neg hc60] at hfin
      refine lv_iload_n hx hb dX_bytes_63 rfl (lv_at hl 3 rfl) ?_
      refine lv_bipush (v := (93 : Int32)) hx hb dX_bytes_64 (by decide) ?_
      refine lv_icmp_ne (tgt := 81) hx hb dX_bytes_66 (by decide) (fun hc66 => ?_) (fun hc66 => ?_)
      · rw [if_neg hc66] at hfin
        refine lv_aload_n hx hb dX_bytes_81 rfl (lv_at hl 2 rfl) ?_
        refine lv_iload_n hx hb dX_bytes_82 rfl (lv_at hl 4 rfl) ?_
        refine lv_lload hx hb dX_bytes_83 (lv_at hl 1 rfl) ?_
        refine lv_iload hx hb dX_bytes_85 (lv_at hl 0 rfl) ?_
        obtain ⟨z87, hz87, hfin⟩ := bd_ob hfin
        refine g_callMv [.int a1, .long z44.1, .int z52.1] [] X hK x_rcv hI (ctx_depositByte l D cA o q hne z52.2 a1 z44.1 z52.1 z87 hz87) (cwX_X_depositByte X.2.2.2.2 ⟨Nat.le_of_ble_eq_true rfl, Nat.le_of_ble_eq_true rfl⟩) rfl hl.1 rfl (Nat.le_of_ble_eq_true rfl) dX_bytes_87 (fun H locs hI => ?_)
        exact g_vret X hr hlk hK hI hfin dX_bytes_90
      rw [if_pos hc66] at hfin
      exact B_69 z52.2 z44.1 z52.1 H locs ls (lv_sub hl [2, 3, 4, 5, 1, 0] rfl) hI hfin
    rw [if_pos hc38] at hfin
    exact g_vret X hr hlk hK hI hfin dX_bytes_41
  have B_30 : ∀ (u : XS) (H : Heap) (locs : List Loc) (ls : Array Slot), lv_has ls 7 [(0, .ref o), (1, .int a0), (2, .int a1), (3, .int a2)] → gI D (XW cA o q) (XA o q) s0.heap H locs u → x_bytes_30 a0 a1 a2 u = some z → W p l e (rmF 4 91) s0 m args below meth c H locs 0 0 (MQ below (va_Qv (fun x => x = z) (gB D [(cA, .long)] (XW cA o q)) (XA o q)) args s0 0 0 (XA o q)) (F0 m 30 ls []) := by
    intro u H locs ls hl hI hfin
    rw [x_bytes_30] at hfin
    refine lv_aload_n hx hb dX_bytes_30 rfl (lv_at hl 0 rfl) ?_
    refine lv_iload_n hx hb dX_bytes_31 rfl (lv_at hl 3 rfl) ?_
    obtain ⟨z32, hz32, hfin⟩ := bd_ob hfin
    refine g_callMv [.int a2] [] X hK x_rcv hI (ctx_advancePointer l D cA o q hne u a2 z32 hz32) (cwX_X_advancePointer X.2.2.2.2 ⟨Nat.le_of_ble_eq_true rfl, Nat.le_of_ble_eq_true rfl⟩) rfl hl.1 rfl (Nat.le_of_ble_eq_true rfl) dX_bytes_32 (fun H locs hI => ?_)
    exact B_35 z32 H locs ls (lv_sub hl [0, 1, 2, 3] rfl) hI hfin
  rw [x_bytes] at hfin
  refine lv_iload_n hx hb dX_bytes_0 rfl (lv_at hl 1 rfl) ?_
  refine lv_bipush (v := (91 : Int32)) hx hb dX_bytes_1 (by decide) ?_
  refine lv_icmp_ge (tgt := 12) hx hb dX_bytes_3 (by decide) (fun hc3 => ?_) (fun hc3 => ?_)
  · rw [if_pos hc3] at hfin
    refine lv_iload_n hx hb dX_bytes_12 rfl (lv_at hl 1 rfl) ?_
    refine lv_bipush (v := (91 : Int32)) hx hb dX_bytes_13 (by decide) ?_
    refine lv_icmp_eq (tgt := 30) hx hb dX_bytes_15 (by decide) (fun hc15 => ?_) (fun hc15 => ?_)
    · rw [if_pos hc15] at hfin
      exact B_30 u s0.heap [] ls (lv_sub hl [0, 1, 2, 3] rfl) hI hfin
    rw [if_neg hc15] at hfin
    refine lv_iload_n hx hb dX_bytes_18 rfl (lv_at hl 1 rfl) ?_
    refine lv_bipush (v := (92 : Int32)) hx hb dX_bytes_19 (by decide) ?_
    refine lv_icmp_eq (tgt := 30) hx hb dX_bytes_21 (by decide) (fun hc21 => ?_) (fun hc21 => ?_)
    · rw [if_pos hc21] at hfin
      exact B_30 u s0.heap [] ls (lv_sub hl [0, 1, 2, 3] rfl) hI hfin
    rw [if_neg hc21] at hfin
    refine lv_iload_n hx hb dX_bytes_24 rfl (lv_at hl 1 rfl) ?_
    refine lv_bipush (v := (94 : Int32)) hx hb dX_bytes_25 (by decide) ?_
    refine lv_icmp_ne (tgt := 35) hx hb dX_bytes_27 (by decide) (fun hc27 => ?_) (fun hc27 => ?_)
    · rw [if_neg hc27] at hfin
      exact B_35 u s0.heap [] ls (lv_sub hl [0, 1, 2, 3] rfl) hI hfin
    rw [if_pos hc27] at hfin
    exact B_30 u s0.heap [] ls (lv_sub hl [0, 1, 2, 3] rfl) hI hfin
  rw [if_neg hc3] at hfin
  refine lv_aload_n hx hb dX_bytes_6 rfl (lv_at hl 0 rfl) ?_
  refine lv_iconst (v := (2 : Int32)) hx hb dX_bytes_7 (by decide) ?_
  obtain ⟨z8, hz8, hfin⟩ := bd_ob hfin
  refine g_callMv [.int (2 : Int32)] [] X hK x_rcv hI (ctx_raise l D cA o q hne u (2 : Int32) z8 hz8) (cwX_X_raise X.2.2.2.2 ⟨Nat.le_of_ble_eq_true rfl, Nat.le_of_ble_eq_true rfl⟩) rfl hl.1 rfl (Nat.le_of_ble_eq_true rfl) dX_bytes_8 (fun H locs hI => ?_)
  exact g_vret X hr hlk hK hI hfin dX_bytes_11
set_option maxHeartbeats 4000000 in
set_option maxRecDepth 100000 in
theorem ctx_source (l : Launch) (D : va_G) (cA : ClassId) (o q : Nat) (hne : va_nd [o, q] = true) (u : XS) (a0 : Int32) (a1 : Int32) (z : Int64 × XS) (hfin : x_source u a0 a1 = some z) : gMl l yX_source wX_source (rmF 2 44) D [(cA, .long)] (XW cA o q) (XA o q) [.ref o, .int a0, .int a1] u z := by
  refine g_start (plainFor_of_name (by decide)) (Nat.le_of_ble_eq_true rfl) ?_
  intro p e s0 m args below meth c ls X hr hlk hB hl
  obtain ⟨hP0, hK⟩ := hB
  have hI : gI D (XW cA o q) (XA o q) s0.heap s0.heap [] u := ⟨hP0, va_S.rf⟩
  have hl : lv_has ls 3 [(0, .ref o), (1, .int a0), (2, .int a1)] := hl
  have hx := X.1
  have hb := X.2.1
  rw [x_source] at hfin
  refine lv_iload_n hx hb dX_source_0 rfl (lv_at hl 1 rfl) ?_
  refine lv_iconst (v := (1 : Int32)) hx hb dX_source_1 (by decide) ?_
  refine lv_icmp_ne (tgt := 10) hx hb dX_source_2 (by decide) (fun hc2 => ?_) (fun hc2 => ?_)
  · rw [if_neg hc2] at hfin
    refine lv_aload_n hx hb dX_source_10 rfl (lv_at hl 0 rfl) ?_
    refine lv_iload_n hx hb dX_source_11 rfl (lv_at hl 2 rfl) ?_
    obtain ⟨z12, hz12, hfin⟩ := bd_ob hfin
    refine g_callMl [.int a1] [] X hK x_rcv hI (ctx_read l D cA o q hne u a1 z12 hz12) (cwX_X_read X.2.2.2.2 ⟨Nat.le_of_ble_eq_true rfl, Nat.le_of_ble_eq_true rfl⟩) rfl hl.1 rfl (Nat.le_of_ble_eq_true rfl) dX_source_12 (fun H locs hI => ?_)
    exact g_lret X hr hlk hK hI hfin dX_source_15
  rw [if_pos hc2] at hfin
  refine lv_iload_n hx hb dX_source_5 rfl (lv_at hl 2 rfl) ?_
  refine lv_i2l hx hb dX_source_6 rfl ?_
  refine lv_goto (tgt := 15) hx hb dX_source_7 (by decide) ?_
  exact g_lret X hr hlk hK hI hfin dX_source_15
set_option maxHeartbeats 4000000 in
set_option maxRecDepth 100000 in
theorem ctx_movedSource (l : Launch) (D : va_G) (cA : ClassId) (o q : Nat) (hne : va_nd [o, q] = true) (u : XS) (a0 : Int32) (a1 : Int32) (a2 : Int32) (z : Int64 × XS) (hfin : x_movedSource u a0 a1 a2 = some z) : gMl l yX_movedSource wX_movedSource (rmF 3 66) D [(cA, .long)] (XW cA o q) (XA o q) [.ref o, .int a0, .int a1, .int a2] u z := by
  refine g_start (plainFor_of_name (by decide)) (Nat.le_of_ble_eq_true rfl) ?_
  intro p e s0 m args below meth c ls X hr hlk hB hl
  obtain ⟨hP0, hK⟩ := hB
  have hI : gI D (XW cA o q) (XA o q) s0.heap s0.heap [] u := ⟨hP0, va_S.rf⟩
  have hl : lv_has ls 4 [(0, .ref o), (1, .int a0), (2, .int a1), (3, .int a2)] := hl
  have hx := X.1
  have hb := X.2.1
  rw [x_movedSource] at hfin
  refine lv_iload_n hx hb dX_movedSource_0 rfl (lv_at hl 1 rfl) ?_
  refine lv_iconst (v := (2 : Int32)) hx hb dX_movedSource_1 (by decide) ?_
  refine lv_icmp_ne (tgt := 14) hx hb dX_movedSource_2 (by decide) (fun hc2 => ?_) (fun hc2 => ?_)
  · rw [if_neg hc2] at hfin
    refine lv_aload_n hx hb dX_movedSource_14 rfl (lv_at hl 0 rfl) ?_
    refine lv_iload_n hx hb dX_movedSource_15 rfl (lv_at hl 1 rfl) ?_
    refine lv_iload_n hx hb dX_movedSource_16 rfl (lv_at hl 3 rfl) ?_
    obtain ⟨z17, hz17, hfin⟩ := bd_ob hfin
    refine g_callMl [.int a0, .int a2] [] X hK x_rcv hI (ctx_source l D cA o q hne u a0 a2 z17 hz17) (cwX_X_source X.2.2.2.2 ⟨Nat.le_of_ble_eq_true rfl, Nat.le_of_ble_eq_true rfl⟩) rfl hl.1 rfl (Nat.le_of_ble_eq_true rfl) dX_movedSource_17 (fun H locs hI => ?_)
    exact g_lret X hr hlk hK hI hfin dX_movedSource_20
  rw [if_pos hc2] at hfin
  refine lv_aload_n hx hb dX_movedSource_5 rfl (lv_at hl 0 rfl) ?_
  refine xg_words X hK hI.1 dX_movedSource_6 ?_
  refine lv_iload_n hx hb dX_movedSource_9 rfl (lv_at hl 2 rfl) ?_
  obtain ⟨hd10, hfin⟩ := ck_if hfin
  refine xl_words X hK hI.1 hd10 dX_movedSource_10 ?_
  refine lv_goto (tgt := 20) hx hb dX_movedSource_11 (by decide) ?_
  exact g_lret X hr hlk hK hI hfin dX_movedSource_20
