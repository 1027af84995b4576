set_option maxHeartbeats 4000000 in
set_option maxRecDepth 100000 in
theorem ctx_swapped (l : Launch) (a0 : Int64) : gPl l yX_swapped wX_swapped (rmF 1 21) [.long a0] (x_swapped a0) := by
  obtain ⟨z, hz⟩ : ∃ z, z = x_swapped a0 := ⟨_, rfl⟩
  rw [← hz]
  have hfin := hz.symm
  clear hz
  refine g_start (plainFor_of_name (by decide)) (Nat.le_of_ble_eq_true rfl) ?_
  intro p e s0 m args below meth c ls X hr hlk hB hl
  have hl : lv_has ls 2 [(0, .long a0)] := hl
  have hx := X.1
  have hb := X.2.1
  rw [x_swapped] at hfin
  refine lv_lload_n hx hb dX_swapped_0 rfl (lv_at hl 0 rfl) ?_
  refine g_callPi [.long a0] [] X (ctx_right l a0) (cwX_X_right X.2.2.2.2 ⟨Nat.le_of_ble_eq_true rfl, Nat.le_of_ble_eq_true rfl⟩) rfl hl.1 rfl (Nat.le_of_ble_eq_true rfl) dX_swapped_1 ?_
  refine lv_lload_n hx hb dX_swapped_4 rfl (lv_at hl 0 rfl) ?_
  refine g_callPi [.long a0] [.int (x_right a0)] X (ctx_left l a0) (cwX_X_left X.2.2.2.2 ⟨Nat.le_of_ble_eq_true rfl, Nat.le_of_ble_eq_true rfl⟩) rfl hl.1 rfl (Nat.le_of_ble_eq_true rfl) dX_swapped_5 ?_
  refine g_callPl [.int (x_right a0), .int (x_left a0)] [] X (ctx_joined l (x_right a0) (x_left a0)) (cwX_X_joined X.2.2.2.2 ⟨Nat.le_of_ble_eq_true rfl, Nat.le_of_ble_eq_true rfl⟩) rfl hl.1 rfl (Nat.le_of_ble_eq_true rfl) dX_swapped_8 ?_
  exact g_lretP X hr hlk hfin dX_swapped_11
set_option maxHeartbeats 4000000 in
set_option maxRecDepth 100000 in
theorem ctx_setOverflow (l : Launch) (D : va_G) (cA : ClassId) (o q : Nat) (hne : va_nd [o, q] = true) (u : XS)  (z : XS) (hfin : x_setOverflow u = some z) : gMv l yX_setOverflow wX_setOverflow (rmF 0 0) D [(cA, .long)] (XW cA o q) (XA o q) [.ref o] u z := by
  refine g_start (plainFor_of_name (by decide)) (Nat.le_of_ble_eq_true rfl) ?_
  intro p e s0 m args below meth c ls X hr hlk hB hl
  obtain ⟨hP0, hK⟩ := hB
  have hI : gI D (XW cA o q) (XA o q) s0.heap s0.heap [] u := ⟨hP0, va_S.rf⟩
  have hl : lv_has ls 1 [(0, .ref o)] := hl
  have hx := X.1
  have hb := X.2.1
  rw [x_setOverflow] at hfin
  refine lv_aload_n hx hb dX_setOverflow_0 rfl (lv_at hl 0 rfl) ?_
  refine xg_trap X hK hI.1 dX_setOverflow_1 ?_
  refine lv_if_ne (tgt := 12) hx hb dX_setOverflow_4 (by decide) (fun hc4 => ?_) (fun hc4 => ?_)
  · rw [if_neg hc4] at hfin
    exact g_vret X hr hlk hK hI hfin dX_setOverflow_12
  rw [if_pos hc4] at hfin
  refine lv_aload_n hx hb dX_setOverflow_7 rfl (lv_at hl 0 rfl) ?_
  refine lv_iconst (v := (1 : Int32)) hx hb dX_setOverflow_8 (by decide) ?_
  refine xp_overflow X hK (x_D hne) hI (Or.inr rfl) dX_setOverflow_9 (fun H locs hI => ?_)
  exact g_vret X hr hlk hK hI hfin dX_setOverflow_12
set_option maxHeartbeats 4000000 in
set_option maxRecDepth 100000 in
theorem ctx_fitted (l : Launch) (D : va_G) (cA : ClassId) (o q : Nat) (hne : va_nd [o, q] = true) (u : XS) (a0 : Int64) (z : Int64 × XS) (hfin : x_fitted u a0 = some z) : gMl l yX_fitted wX_fitted (rmF 1 21) D [(cA, .long)] (XW cA o q) (XA o q) [.ref o, .long a0] u z := by
  refine g_start (plainFor_of_name (by decide)) (Nat.le_of_ble_eq_true rfl) ?_
  intro p e s0 m args below meth c ls X hr hlk hB hl
  obtain ⟨hP0, hK⟩ := hB
  have hI : gI D (XW cA o q) (XA o q) s0.heap s0.heap [] u := ⟨hP0, va_S.rf⟩
  have hl : lv_has ls 5 [(0, .ref o), (1, .long a0)] := hl
  have hx := X.1
  have hb := X.2.1
  rw [x_fitted] at hfin
  refine lv_lload_n hx hb dX_fitted_0 rfl (lv_at hl 1 rfl) ?_
  refine lv_ldc2 hx hb X.2.2.2.1 (X.2.2.2.2 _ hkX_17) dX_fitted_1 ?_
  refine lv_land hx hb dX_fitted_4 ?_
  refine lv_topl (fun x5 e5 => ?_)
  replace hfin := nm_at hfin e5
  refine lv_lstore_n (lv' := [(3, .long x5), (0, .ref o), (1, .long a0)]) hx hb dX_fitted_5 rfl hl (by decide) rfl (fun ls hl => ?_)
  refine lv_lload_n hx hb dX_fitted_6 rfl (lv_at hl 0 rfl) ?_
  refine g_callPl [.long x5] [] X (ctx_signed l x5) (cwX_X_signed X.2.2.2.2 ⟨Nat.le_of_ble_eq_true rfl, Nat.le_of_ble_eq_true rfl⟩) rfl hl.1 rfl (Nat.le_of_ble_eq_true rfl) dX_fitted_7 ?_
  refine lv_lload_n hx hb dX_fitted_10 rfl (lv_at hl 2 rfl) ?_
  refine W.lcmp hx hb dX_fitted_11 ?_
  refine lv_if_eq (tgt := 19) hx hb dX_fitted_12 (by decide) (fun hc12 => ?_) (fun hc12 => ?_)
  · rw [if_pos hc12] at hfin
    refine lv_lload_n hx hb dX_fitted_19 rfl (lv_at hl 0 rfl) ?_
    exact g_lret X hr hlk hK hI hfin dX_fitted_20
  rw [if_neg hc12] at hfin
  refine lv_aload_n hx hb dX_fitted_15 rfl (lv_at hl 1 rfl) ?_
  obtain ⟨z16, hz16, hfin⟩ := bd_ob hfin
  refine g_callMv [] [] X hK x_rcv hI (ctx_setOverflow l D cA o q hne u z16 hz16) (cwX_X_setOverflow X.2.2.2.2 ⟨Nat.le_of_ble_eq_true rfl, Nat.le_of_ble_eq_true rfl⟩) rfl hl.1 rfl (Nat.le_of_ble_eq_true rfl) dX_fitted_16 (fun H locs hI => ?_)
  refine lv_lload_n hx hb dX_fitted_19 rfl (lv_at hl 0 rfl) ?_
  exact g_lret X hr hlk hK hI hfin dX_fitted_20
set_option maxHeartbeats 4000000 in
set_option maxRecDepth 100000 in
theorem ctx_changedToMove (l : Launch) (D : va_G) (cA : ClassId) (o q : Nat) (hne : va_nd [o, q] = true) (u : XS) (a0 : Int32) (a1 : Int64) (z : Int64 × XS) (hfin : x_changedToMove u a0 a1 = some z) : gMl l yX_changedToMove wX_changedToMove (rmF 2 45) D [(cA, .long)] (XW cA o q) (XA o q) [.ref o, .int a0, .long a1] u z := by
  refine g_start (plainFor_of_name (by decide)) (Nat.le_of_ble_eq_true rfl) ?_
  intro p e s0 m args below meth c ls X hr hlk hB hl
  obtain ⟨hP0, hK⟩ := hB
  have hI : gI D (XW cA o q) (XA o q) s0.heap s0.heap [] u := ⟨hP0, va_S.rf⟩
  have hl : lv_has ls 4 [(0, .ref o), (1, .int a0), (2, .long a1)] := hl
  have hx := X.1
  have hb := X.2.1
  rw [x_changedToMove] at hfin
  refine lv_iload_n hx hb dX_changedToMove_0 rfl (lv_at hl 1 rfl) ?_
  by_cases hk1_0 : a0 = (0 : Int32)
  · rw [if_pos hk1_0] at hfin
    refine lv_tableIn hx hb dX_changedToMove_1 (off := 27) (tgt := 28) (by rw [hk1_0]; decide) (by rw [hk1_0]; decide) (by rw [hk1_0]; rfl) (by decide) ?_
    refine lv_lload_n hx hb dX_changedToMove_28 rfl (lv_at hl 2 rfl) ?_
    exact g_lret X hr hlk hK hI hfin dX_changedToMove_29
  rw [if_neg hk1_0] at hfin
  by_cases hk1_1 : a0 = (1 : Int32)
  · rw [if_pos hk1_1] at hfin
    refine lv_tableIn hx hb dX_changedToMove_1 (off := 29) (tgt := 30) (by rw [hk1_1]; decide) (by rw [hk1_1]; decide) (by rw [hk1_1]; rfl) (by decide) ?_
    refine lv_lload_n hx hb dX_changedToMove_30 rfl (lv_at hl 2 rfl) ?_
    refine g_callPl [.long a1] [] X (ctx_swapped l a1) (cwX_X_swapped X.2.2.2.2 ⟨Nat.le_of_ble_eq_true rfl, Nat.le_of_ble_eq_true rfl⟩) rfl hl.1 rfl (Nat.le_of_ble_eq_true rfl) dX_changedToMove_31 ?_
    exact g_lret X hr hlk hK hI hfin dX_changedToMove_34
  rw [if_neg hk1_1] at hfin
  by_cases hk1_2 : a0 = (2 : Int32)
  · rw [if_pos hk1_2] at hfin
    refine lv_tableIn hx hb dX_changedToMove_1 (off := 34) (tgt := 35) (by rw [hk1_2]; decide) (by rw [hk1_2]; decide) (by rw [hk1_2]; rfl) (by decide) ?_
    refine lv_aload_n hx hb dX_changedToMove_35 rfl (lv_at hl 0 rfl) ?_
    refine lv_lload_n hx hb dX_changedToMove_36 rfl (lv_at hl 2 rfl) ?_
    refine g_callPl [.long a1] [.ref o] X (ctx_signed l a1) (cwX_X_signed X.2.2.2.2 ⟨Nat.le_of_ble_eq_true rfl, Nat.le_of_ble_eq_true rfl⟩) rfl hl.1 rfl (Nat.le_of_ble_eq_true rfl) dX_changedToMove_37 ?_
    refine lv_lneg hx hb dX_changedToMove_40 ?_
    obtain ⟨z41, hz41, hfin⟩ := bd_ob hfin
    refine g_callMl [.long (-(x_signed a1))] [] X hK x_rcv hI (ctx_fitted l D cA o q hne u (-(x_signed a1)) z41 hz41) (cwX_X_fitted X.2.2.2.2 ⟨Nat.le_of_ble_eq_true rfl, Nat.le_of_ble_eq_true rfl⟩) rfl hl.1 rfl (Nat.le_of_ble_eq_true rfl) dX_changedToMove_41 (fun H locs hI => ?_)
    exact g_lret X hr hlk hK hI hfin dX_changedToMove_44
  rw [if_neg hk1_2] at hfin
  have hn1_0 := i32_ne (0 : Int32) 0 (by decide) hk1_0
  have hn1_1 := i32_ne (1 : Int32) 1 (by decide) hk1_1
  have hn1_2 := i32_ne (2 : Int32) 2 (by decide) hk1_2
  refine lv_tableOut hx hb dX_changedToMove_1 (tgt := 45) (by omega) (by decide) ?_
  refine lv_aload_n hx hb dX_changedToMove_45 rfl (lv_at hl 0 rfl) ?_
  refine lv_lload_n hx hb dX_changedToMove_46 rfl (lv_at hl 2 rfl) ?_
  refine g_callPl [.long a1] [.ref o] X (ctx_signed l a1) (cwX_X_signed X.2.2.2.2 ⟨Nat.le_of_ble_eq_true rfl, Nat.le_of_ble_eq_true rfl⟩) rfl hl.1 rfl (Nat.le_of_ble_eq_true rfl) dX_changedToMove_47 ?_
  refine g_callPl [.long (x_signed a1)] [.ref o] X (ctj_abs l (x_signed a1)) (cwX_J_abs X.2.2.2.2 ⟨Nat.le_of_ble_eq_true rfl, Nat.le_of_ble_eq_true rfl⟩) rfl hl.1 rfl (Nat.le_of_ble_eq_true rfl) dX_changedToMove_50 ?_
  obtain ⟨z53, hz53, hfin⟩ := bd_ob hfin
  refine g_callMl [.long (j_abs (x_signed a1))] [] X hK x_rcv hI (ctx_fitted l D cA o q hne u (j_abs (x_signed a1)) z53 hz53) (cwX_X_fitted X.2.2.2.2 ⟨Nat.le_of_ble_eq_true rfl, Nat.le_of_ble_eq_true rfl⟩) rfl hl.1 rfl (Nat.le_of_ble_eq_true rfl) dX_changedToMove_53 (fun H locs hI => ?_)
  exact g_lret X hr hlk hK hI hfin dX_changedToMove_56
set_option maxHeartbeats 4000000 in
set_option maxRecDepth 100000 in
theorem ctx_setAccumulatorButZero (l : Launch) (D : va_G) (cA : ClassId) (o q : Nat) (hne : va_nd [o, q] = true) (u : XS) (a0 : Int32) (a1 : Int64) (z : XS) (hfin : x_setAccumulatorButZero u a0 a1 = some z) : gMv l yX_setAccumulatorButZero wX_setAccumulatorButZero (rmF 1 23) D [(cA, .long)] (XW cA o q) (XA o q) [.ref o, .int a0, .long a1] u z := by
  refine g_start (plainFor_of_name (by decide)) (Nat.le_of_ble_eq_true rfl) ?_
  intro p e s0 m args below meth c ls X hr hlk hB hl
  obtain ⟨hP0, hK⟩ := hB
  have hI : gI D (XW cA o q) (XA o q) s0.heap s0.heap [] u := ⟨hP0, va_S.rf⟩
  have hl : lv_has ls 4 [(0, .ref o), (1, .int a0), (2, .long a1)] := hl
  have hx := X.1
  have hb := X.2.1
  rw [x_setAccumulatorButZero] at hfin
  refine lv_iload_n hx hb dX_setAccumulatorButZero_0 rfl (lv_at hl 1 rfl) ?_
  refine lv_if_eq (tgt := 10) hx hb dX_setAccumulatorButZero_1 (by decide) (fun hc1 => ?_) (fun hc1 => ?_)
  · rw [if_pos hc1] at hfin
    exact g_vret X hr hlk hK hI hfin dX_setAccumulatorButZero_10
  rw [if_neg hc1] at hfin
  refine lv_aload_n hx hb dX_setAccumulatorButZero_4 rfl (lv_at hl 0 rfl) ?_
  refine lv_iload_n hx hb dX_setAccumulatorButZero_5 rfl (lv_at hl 1 rfl) ?_
  refine lv_lload_n hx hb dX_setAccumulatorButZero_6 rfl (lv_at hl 2 rfl) ?_
  obtain ⟨z7, hz7, hfin⟩ := bd_ob hfin
  refine g_callMv [.int a0, .long a1] [] X hK x_rcv hI (ctx_setAccumulator l D cA o q hne u a0 a1 z7 hz7) (cwX_X_setAccumulator X.2.2.2.2 ⟨Nat.le_of_ble_eq_true rfl, Nat.le_of_ble_eq_true rfl⟩) rfl hl.1 rfl (Nat.le_of_ble_eq_true rfl) dX_setAccumulatorButZero_7 (fun H locs hI => ?_)
  exact g_vret X hr hlk hK hI hfin dX_setAccumulatorButZero_10
set_option maxHeartbeats 4000000 in
set_option maxRecDepth 100000 in
theorem ctx_putMoved (l : Launch) (D : va_G) (cA : ClassId) (o q : Nat) (hne : va_nd [o, q] = true) (u : XS) (a0 : Int32) (a1 : Int32) (a2 : Int32) (a3 : Int64) (z : XS) (hfin : x_putMoved u a0 a1 a2 a3 = some z) : gMv l yX_putMoved wX_putMoved (rmF 2 46) D [(cA, .long)] (XW cA o q) (XA o q) [.ref o, .int a0, .int a1, .int a2, .long a3] u z := by
  refine g_start (plainFor_of_name (by decide)) (Nat.le_of_ble_eq_true rfl) ?_
  intro p e s0 m args below meth c ls X hr hlk hB hl
  obtain ⟨hP0, hK⟩ := hB
  have hI : gI D (XW cA o q) (XA o q) s0.heap s0.heap [] u := ⟨hP0, va_S.rf⟩
  have hl : lv_has ls 6 [(0, .ref o), (1, .int a0), (2, .int a1), (3, .int a2), (4, .long a3)] := hl
  have hx := X.1
  have hb := X.2.1
  rw [x_putMoved] at hfin
  refine lv_iload_n hx hb dX_putMoved_0 rfl (lv_at hl 1 rfl) ?_
  refine lv_iconst (v := (2 : Int32)) hx hb dX_putMoved_1 (by decide) ?_
  refine lv_icmp_ne (tgt := 15) hx hb dX_putMoved_2 (by decide) (fun hc2 => ?_) (fun hc2 => ?_)
  · rw [if_neg hc2] at hfin
    refine lv_iload_n hx hb dX_putMoved_15 rfl (lv_at hl 1 rfl) ?_
    refine lv_iconst (v := (3 : Int32)) hx hb dX_putMoved_16 (by decide) ?_
    refine lv_icmp_ne (tgt := 37) hx hb dX_putMoved_17 (by decide) (fun hc17 => ?_) (fun hc17 => ?_)
    · rw [if_neg hc17] at hfin
      refine lv_aload_n hx hb dX_putMoved_37 rfl (lv_at hl 0 rfl) ?_
      refine lv_iload_n hx hb dX_putMoved_38 rfl (lv_at hl 2 rfl) ?_
      refine lv_lload hx hb dX_putMoved_39 (lv_at hl 4 rfl) ?_
      obtain ⟨z41, hz41, hfin⟩ := bd_ob hfin
      refine g_callMv [.int a1, .long a3] [] X hK x_rcv hI (ctx_setAccumulator l D cA o q hne u a1 a3 z41 hz41) (cwX_X_setAccumulator X.2.2.2.2 ⟨Nat.le_of_ble_eq_true rfl, Nat.le_of_ble_eq_true rfl⟩) rfl hl.1 rfl (Nat.le_of_ble_eq_true rfl) dX_putMoved_41 (fun H locs hI => ?_)
      exact g_vret X hr hlk hK hI hfin dX_putMoved_44
    rw [if_pos hc17] at hfin
    refine lv_aload_n hx hb dX_putMoved_20 rfl (lv_at hl 0 rfl) ?_
    refine lv_iload_n hx hb dX_putMoved_21 rfl (lv_at hl 3 rfl) ?_
    refine lv_lload hx hb dX_putMoved_22 (lv_at hl 4 rfl) ?_
    obtain ⟨z24, hz24, hfin⟩ := bd_ob hfin
    refine g_callMv [.int a2, .long a3] [] X hK x_rcv hI (ctx_write l D cA o q hne u a2 a3 z24 hz24) (cwX_X_write X.2.2.2.2 ⟨Nat.le_of_ble_eq_true rfl, Nat.le_of_ble_eq_true rfl⟩) rfl hl.1 rfl (Nat.le_of_ble_eq_true rfl) dX_putMoved_24 (fun H locs hI => ?_)
    refine lv_aload_n hx hb dX_putMoved_27 rfl (lv_at hl 0 rfl) ?_
    refine lv_iload_n hx hb dX_putMoved_28 rfl (lv_at hl 2 rfl) ?_
    refine lv_lload hx hb dX_putMoved_29 (lv_at hl 4 rfl) ?_
    obtain ⟨z31, hz31, hfin⟩ := bd_ob hfin
    refine g_callMv [.int a1, .long a3] [] X hK x_rcv hI (ctx_setAccumulatorButZero l D cA o q hne z24 a1 a3 z31 hz31) (cwX_X_setAccumulatorButZero X.2.2.2.2 ⟨Nat.le_of_ble_eq_true rfl, Nat.le_of_ble_eq_true rfl⟩) rfl hl.1 rfl (Nat.le_of_ble_eq_true rfl) dX_putMoved_31 (fun H locs hI => ?_)
    refine lv_goto (tgt := 44) hx hb dX_putMoved_34 (by decide) ?_
    exact g_vret X hr hlk hK hI hfin dX_putMoved_44
  rw [if_pos hc2] at hfin
  refine lv_aload_n hx hb dX_putMoved_5 rfl (lv_at hl 0 rfl) ?_
  refine lv_iload_n hx hb dX_putMoved_6 rfl (lv_at hl 3 rfl) ?_
  refine lv_lload hx hb dX_putMoved_7 (lv_at hl 4 rfl) ?_
  obtain ⟨z9, hz9, hfin⟩ := bd_ob hfin
  refine g_callMv [.int a2, .long a3] [] X hK x_rcv hI (ctx_write l D cA o q hne u a2 a3 z9 hz9) (cwX_X_write X.2.2.2.2 ⟨Nat.le_of_ble_eq_true rfl, Nat.le_of_ble_eq_true rfl⟩) rfl hl.1 rfl (Nat.le_of_ble_eq_true rfl) dX_putMoved_9 (fun H locs hI => ?_)
  refine lv_goto (tgt := 44) hx hb dX_putMoved_12 (by decide) ?_
  exact g_vret X hr hlk hK hI hfin dX_putMoved_44
set_option maxHeartbeats 4000000 in
set_option maxRecDepth 100000 in
theorem ctx_move (l : Launch) (D : va_G) (cA : ClassId) (o q : Nat) (hne : va_nd [o, q] = true) (u : XS) (a0 : Int32) (a1 : Int32) (a2 : Int32) (z : XS) (hfin : x_move u a0 a1 a2 = some z) : gMv l yX_move wX_move (rmF 4 89) D [(cA, .long)] (XW cA o q) (XA o q) [.ref o, .int a0, .int a1, .int a2] u z := by
  refine g_start (plainFor_of_name (by decide)) (Nat.le_of_ble_eq_true rfl) ?_
  intro p e s0 m args below meth c ls X hr hlk hB hl
  obtain ⟨hP0, hK⟩ := hB
  have hI : gI D (XW cA o q) (XA o q) s0.heap s0.heap [] u := ⟨hP0, va_S.rf⟩
  have hl : lv_has ls 7 [(0, .ref o), (1, .int a0), (2, .int a1), (3, .int a2)] := hl
  have hx := X.1
  have hb := X.2.1
  rw [x_move] at hfin
  refine lv_iload_n hx hb dX_move_0 rfl (lv_at hl 1 rfl) ?_
  refine lv_iconst (v := (3 : Int32)) hx hb dX_move_1 (by decide) ?_
  refine lv_iand hx hb dX_move_2 ?_
  refine lv_topi (fun x3 e3 => ?_)
  replace hfin := nm_at hfin e3
  refine lv_istore (lv' := [(4, .int x3), (0, .ref o), (1, .int a0), (2, .int a1), (3, .int a2)]) hx hb dX_move_3 hl (by decide) rfl (fun ls hl => ?_)
  refine lv_aload_n hx hb dX_move_5 rfl (lv_at hl 1 rfl) ?_
  refine lv_iload hx hb dX_move_6 (lv_at hl 0 rfl) ?_
  refine lv_iload_n hx hb dX_move_8 rfl (lv_at hl 3 rfl) ?_
  refine lv_iload_n hx hb dX_move_9 rfl (lv_at hl 4 rfl) ?_
  obtain ⟨z10, hz10, hfin⟩ := bd_ob hfin
  refine g_callMl [.int x3, .int a1, .int a2] [] X hK x_rcv hI (ctx_movedSource l D cA o q hne u x3 a1 a2 z10 hz10) (cwX_X_movedSource X.2.2.2.2 ⟨Nat.le_of_ble_eq_true rfl, Nat.le_of_ble_eq_true rfl⟩) rfl hl.1 rfl (Nat.le_of_ble_eq_true rfl) dX_move_10 (fun H locs hI => ?_)
  refine lv_lstore (lv' := [(5, .long z10.1), (4, .int x3), (0, .ref o), (1, .int a0), (2, .int a1), (3, .int a2)]) hx hb dX_move_13 hl (by decide) rfl (fun ls hl => ?_)
  refine lv_aload_n hx hb dX_move_15 rfl (lv_at hl 2 rfl) ?_
  refine lv_iload hx hb dX_move_16 (lv_at hl 1 rfl) ?_
  refine lv_iload_n hx hb dX_move_18 rfl (lv_at hl 4 rfl) ?_
  refine lv_iload_n hx hb dX_move_19 rfl (lv_at hl 5 rfl) ?_
  refine lv_aload_n hx hb dX_move_20 rfl (lv_at hl 2 rfl) ?_
  refine lv_iload_n hx hb dX_move_21 rfl (lv_at hl 3 rfl) ?_
  refine lv_iconst (v := (2 : Int32)) hx hb dX_move_22 (by decide) ?_
  refine lv_ishr hx hb dX_move_23 ?_
  refine lv_iconst (v := (3 : Int32)) hx hb dX_move_24 (by decide) ?_
  refine lv_iand hx hb dX_move_25 ?_
  refine lv_lload hx hb dX_move_26 (lv_at hl 0 rfl) ?_
  obtain ⟨z28, hz28, hfin⟩ := bd_ob hfin
  refine g_callMl [.int ((a0 >>> ((2 : Int32) &&& 31)) &&& (3 : Int32)), .long z10.1] [.int a2, .int a1, .int x3, .ref o] X hK x_rcv hI (ctx_changedToMove l D cA o q hne z10.2 ((a0 >>> ((2 : Int32) &&& 31)) &&& (3 : Int32)) z10.1 z28 hz28) (cwX_X_changedToMove X.2.2.2.2 ⟨Nat.le_of_ble_eq_true rfl, Nat.le_of_ble_eq_true rfl⟩) rfl hl.1 rfl (Nat.le_of_ble_eq_true rfl) dX_move_28 (fun H locs hI => ?_)
  obtain ⟨z31, hz31, hfin⟩ := bd_ob hfin
  refine g_callMv [.int x3, .int a1, .int a2, .long z28.1] [] X hK x_rcv hI (ctx_putMoved l D cA o q hne z28.2 x3 a1 a2 z28.1 z31 hz31) (cwX_X_putMoved X.2.2.2.2 ⟨Nat.le_of_ble_eq_true rfl, Nat.le_of_ble_eq_true rfl⟩) rfl hl.1 rfl (Nat.le_of_ble_eq_true rfl) dX_move_31 (fun H locs hI => ?_)
  exact g_vret X hr hlk hK hI hfin dX_move_34
set_option maxHeartbeats 4000000 in
set_option maxRecDepth 100000 in
theorem ctx_productFits (l : Launch) (a0 : Int64) (a1 : Int64) : gPi l yX_productFits wX_productFits (rmF 0 0) [.long a0, .long a1] (x_productFits a0 a1) := by
  obtain ⟨z, hz⟩ : ∃ z, z = x_productFits a0 a1 := ⟨_, rfl⟩
  rw [← hz]
  have hfin := hz.symm
  clear hz
  refine g_start (plainFor_of_name (by decide)) (Nat.le_of_ble_eq_true rfl) ?_
  intro p e s0 m args below meth c ls X hr hlk hB hl
  have hl : lv_has ls 6 [(0, .long a0), (2, .long a1)] := hl
  have hx := X.1
  have hb := X.2.1
  rw [x_productFits] at hfin
  refine lv_lload_n hx hb dX_productFits_0 rfl (lv_at hl 0 rfl) ?_
  refine lv_lload_n hx hb dX_productFits_1 rfl (lv_at hl 1 rfl) ?_
  refine lv_bipush (v := (18 : Int32)) hx hb dX_productFits_2 (by decide) ?_
  refine lv_lshr hx hb dX_productFits_4 rfl ?_
  refine lv_lmul hx hb dX_productFits_5 ?_
  refine lv_lload_n hx hb dX_productFits_6 rfl (lv_at hl 0 rfl) ?_
  refine lv_lload_n hx hb dX_productFits_7 rfl (lv_at hl 1 rfl) ?_
  refine lv_ldc2 hx hb X.2.2.2.1 (X.2.2.2.2 _ hkX_212) dX_productFits_8 ?_
  refine lv_land hx hb dX_productFits_11 ?_
  refine lv_lmul hx hb dX_productFits_12 ?_
  refine lv_bipush (v := (18 : Int32)) hx hb dX_productFits_13 (by decide) ?_
  refine lv_lshr hx hb dX_productFits_15 rfl ?_
  refine lv_ladd hx hb dX_productFits_16 ?_
  refine lv_topl (fun x17 e17 => ?_)
  replace hfin := nm_at hfin e17
  refine lv_lstore (lv' := [(4, .long x17), (0, .long a0), (2, .long a1)]) hx hb dX_productFits_17 hl (by decide) rfl (fun ls hl => ?_)
  refine lv_lload hx hb dX_productFits_19 (lv_at hl 0 rfl) ?_
  refine lv_ldc2 hx hb X.2.2.2.1 (X.2.2.2.2 _ hkX_214) dX_productFits_21 ?_
  refine W.lcmp hx hb dX_productFits_24 ?_
  refine lv_if_lt (tgt := 41) hx hb dX_productFits_25 (by decide) (fun hc25 => ?_) (fun hc25 => ?_)
  · rw [if_pos hc25] at hfin
    refine lv_iconst (v := (0 : Int32)) hx hb dX_productFits_41 (by decide) ?_
    exact g_zretP X hr hlk rfl hfin dX_productFits_42
  rw [if_neg hc25] at hfin
  refine lv_lload hx hb dX_productFits_28 (lv_at hl 0 rfl) ?_
  refine lv_ldc2 hx hb X.2.2.2.1 (X.2.2.2.2 _ hkX_216) dX_productFits_30 ?_
  refine W.lcmp hx hb dX_productFits_33 ?_
  refine lv_if_ge (tgt := 41) hx hb dX_productFits_34 (by decide) (fun hc34 => ?_) (fun hc34 => ?_)
  · rw [if_pos hc34] at hfin
    refine lv_iconst (v := (0 : Int32)) hx hb dX_productFits_41 (by decide) ?_
    exact g_zretP X hr hlk rfl hfin dX_productFits_42
  rw [if_neg hc34] at hfin
  refine lv_iconst (v := (1 : Int32)) hx hb dX_productFits_37 (by decide) ?_
  refine lv_goto (tgt := 42) hx hb dX_productFits_38 (by decide) ?_
  exact g_zretP X hr hlk rfl hfin dX_productFits_42
set_option maxHeartbeats 4000000 in
set_option maxRecDepth 100000 in
theorem ctx_putResult (l : Launch) (D : va_G) (cA : ClassId) (o q : Nat) (hne : va_nd [o, q] = true) (u : XS) (a0 : Int32) (a1 : Int32) (a2 : Int32) (a3 : Int64) (z : XS) (hfin : x_putResult u a0 a1 a2 a3 = some z) : gMv l yX_putResult wX_putResult (rmF 2 46) D [(cA, .long)] (XW cA o q) (XA o q) [.ref o, .int a0, .int a1, .int a2, .long a3] u z := by
  refine g_start (plainFor_of_name (by decide)) (Nat.le_of_ble_eq_true rfl) ?_
  intro p e s0 m args below meth c ls X hr hlk hB hl
  obtain ⟨hP0, hK⟩ := hB
  have hI : gI D (XW cA o q) (XA o q) s0.heap s0.heap [] u := ⟨hP0, va_S.rf⟩
  have hl : lv_has ls 6 [(0, .ref o), (1, .int a0), (2, .int a1), (3, .int a2), (4, .long a3)] := hl
  have hx := X.1
  have hb := X.2.1
  have B_12 : ∀ (u : XS) (H : Heap) (locs : List Loc) (ls : Array Slot), lv_has ls 6 [(0, .ref o), (1, .int a0), (2, .int a1), (3, .int a2), (4, .long a3)] → gI D (XW cA o q) (XA o q) s0.heap H locs u → x_putResult_12 a0 a1 a2 a3 u = some z → W p l e (rmF 2 46) s0 m args below meth c H locs 0 0 (MQ below (va_Qv (fun x => x = z) (gB D [(cA, .long)] (XW cA o q)) (XA o q)) args s0 0 0 (XA o q)) (F0 m 12 ls []) := by
    intro u H locs ls hl hI hfin
    rw [x_putResult_12] at hfin
    refine lv_iload_n hx hb dX_putResult_12 rfl (lv_at hl 1 rfl) ?_
    refine lv_iconst (v := (2 : Int32)) hx hb dX_putResult_13 (by decide) ?_
    refine lv_icmp_eq (tgt := 24) hx hb dX_putResult_14 (by decide) (fun hc14 => ?_) (fun hc14 => ?_)
    · rw [if_pos hc14] at hfin
      exact g_vret X hr hlk hK hI hfin dX_putResult_24
    rw [if_neg hc14] at hfin
    refine lv_aload_n hx hb dX_putResult_17 rfl (lv_at hl 0 rfl) ?_
    refine lv_iload_n hx hb dX_putResult_18 rfl (lv_at hl 2 rfl) ?_
    refine lv_lload hx hb dX_putResult_19 (lv_at hl 4 rfl) ?_
    obtain ⟨z21, hz21, hfin⟩ := bd_ob hfin
    refine g_callMv [.int a1, .long a3] [] X hK x_rcv hI (ctx_setAccumulator l D cA o q hne u a1 a3 z21 hz21) (cwX_X_setAccumulator X.2.2.2.2 ⟨Nat.le_of_ble_eq_true rfl, Nat.le_of_ble_eq_true rfl⟩) rfl hl.1 rfl (Nat.le_of_ble_eq_true rfl) dX_putResult_21 (fun H locs hI => ?_)
    exact g_vret X hr hlk hK hI hfin dX_putResult_24
  rw [x_putResult] at hfin
  refine lv_iload_n hx hb dX_putResult_0 rfl (lv_at hl 1 rfl) ?_
  refine lv_iconst (v := (2 : Int32)) hx hb dX_putResult_1 (by decide) ?_
  refine lv_icmp_lt (tgt := 12) hx hb dX_putResult_2 (by decide) (fun hc2 => ?_) (fun hc2 => ?_)
  · rw [if_pos hc2] at hfin
    exact B_12 u s0.heap [] ls (lv_sub hl [0, 1, 2, 3, 4] rfl) hI hfin
  rw [if_neg hc2] at hfin
  refine lv_aload_n hx hb dX_putResult_5 rfl (lv_at hl 0 rfl) ?_
  refine lv_iload_n hx hb dX_putResult_6 rfl (lv_at hl 3 rfl) ?_
  refine lv_lload hx hb dX_putResult_7 (lv_at hl 4 rfl) ?_
  obtain ⟨z9, hz9, hfin⟩ := bd_ob hfin
  refine g_callMv [.int a2, .long a3] [] X hK x_rcv hI (ctx_write l D cA o q hne u a2 a3 z9 hz9) (cwX_X_write X.2.2.2.2 ⟨Nat.le_of_ble_eq_true rfl, Nat.le_of_ble_eq_true rfl⟩) rfl hl.1 rfl (Nat.le_of_ble_eq_true rfl) dX_putResult_9 (fun H locs hI => ?_)
  exact B_12 z9 H locs ls (lv_sub hl [0, 1, 2, 3, 4] rfl) hI hfin
set_option maxHeartbeats 4000000 in
set_option maxRecDepth 100000 in
theorem ctx_multiply (l : Launch) (D : va_G) (cA : ClassId) (o q : Nat) (hne : va_nd [o, q] = true) (u : XS) (a0 : Int32) (a1 : Int32) (a2 : Int32) (z : XS) (hfin : x_multiply u a0 a1 a2 = some z) : gMv l yX_multiply wX_multiply (rmF 3 71) D [(cA, .long)] (XW cA o q) (XA o q) [.ref o, .int a0, .int a1, .int a2] u z := by
  refine g_start (plainFor_of_name (by decide)) (Nat.le_of_ble_eq_true rfl) ?_
  intro p e s0 m args below meth c ls X hr hlk hB hl
  obtain ⟨hP0, hK⟩ := hB
  have hI : gI D (XW cA o q) (XA o q) s0.heap s0.heap [] u := ⟨hP0, va_S.rf⟩
  have hl : lv_has ls 9 [(0, .ref o), (1, .int a0), (2, .int a1), (3, .int a2)] := hl
  have hx := X.1
  have hb := X.2.1
  have B_54 : ∀ (u : XS) (v4 : Int32) (v5 : Int64) (v7 : Int64) (H : Heap) (locs : List Loc) (ls : Array Slot), lv_has ls 9 [(0, .ref o), (1, .int a0), (2, .int a1), (3, .int a2), (4, .int v4), (5, .long v5), (7, .long v7)] → gI D (XW cA o q) (XA o q) s0.heap H locs u → x_multiply_54 a0 a1 a2 u v4 v5 v7 = some z → W p l e (rmF 3 71) s0 m args below meth c H locs 0 0 (MQ below (va_Qv (fun x => x = z) (gB D [(cA, .long)] (XW cA o q)) (XA o q)) args s0 0 0 (XA o q)) (F0 m 54 ls []) := by
    intro u v4 v5 v7 H locs ls hl hI hfin
    rw [x_multiply_54] at hfin
    refine lv_aload_n hx hb dX_multiply_54 rfl (lv_at hl 0 rfl) ?_
    refine lv_iload hx hb dX_multiply_55 (lv_at hl 4 rfl) ?_
    refine lv_iload_n hx hb dX_multiply_57 rfl (lv_at hl 2 rfl) ?_
    refine lv_iload_n hx hb dX_multiply_58 rfl (lv_at hl 3 rfl) ?_
    refine lv_lload hx hb dX_multiply_59 (lv_at hl 5 rfl) ?_
    refine lv_lload hx hb dX_multiply_61 (lv_at hl 6 rfl) ?_
    refine lv_lmul hx hb dX_multiply_63 ?_
    refine lv_ldc2 hx hb X.2.2.2.1 (X.2.2.2.2 _ hkX_17) dX_multiply_64 ?_
    refine lv_land hx hb dX_multiply_67 ?_
    obtain ⟨z68, hz68, hfin⟩ := bd_ob hfin
    refine g_callMv [.int v4, .int a1, .int a2, .long ((v5 * v7) &&& (68719476735 : Int64))] [] X hK x_rcv hI (ctx_putResult l D cA o q hne u v4 a1 a2 ((v5 * v7) &&& (68719476735 : Int64)) z68 hz68) (cwX_X_putResult X.2.2.2.2 ⟨Nat.le_of_ble_eq_true rfl, Nat.le_of_ble_eq_true rfl⟩) rfl hl.1 rfl (Nat.le_of_ble_eq_true rfl) dX_multiply_68 (fun H locs hI => ?_)
    exact g_vret X hr hlk hK hI hfin dX_multiply_71
  rw [x_multiply] at hfin
  refine lv_iload_n hx hb dX_multiply_0 rfl (lv_at hl 1 rfl) ?_
  refine lv_iconst (v := (4 : Int32)) hx hb dX_multiply_1 (by decide) ?_
  refine lv_iand hx hb dX_multiply_2 ?_
  refine lv_if_eq (tgt := 12) hx hb dX_multiply_3 (by decide) (fun hc3 => ?_) (fun hc3 => ?_)
  · rw [if_pos hc3] at hfin
    refine lv_iload_n hx hb dX_multiply_12 rfl (lv_at hl 1 rfl) ?_
    refine lv_iconst (v := (3 : Int32)) hx hb dX_multiply_13 (by decide) ?_
    refine lv_iand hx hb dX_multiply_14 ?_
    refine lv_topi (fun x15 e15 => ?_)
    replace hfin := nm_at hfin e15
    refine lv_istore (lv' := [(4, .int x15), (0, .ref o), (1, .int a0), (2, .int a1), (3, .int a2)]) hx hb dX_multiply_15 hl (by decide) rfl (fun ls hl => ?_)
    refine lv_aload_n hx hb dX_multiply_17 rfl (lv_at hl 1 rfl) ?_
    refine xg_words X hK hI.1 dX_multiply_18 ?_
    refine lv_iload_n hx hb dX_multiply_21 rfl (lv_at hl 3 rfl) ?_
    obtain ⟨hd22, hfin⟩ := ck_if hfin
    refine xl_words X hK hI.1 hd22 dX_multiply_22 ?_
    refine g_callPl [.long (X_words u a1.toNatClampNeg)] [] X (ctx_signed l (X_words u a1.toNatClampNeg)) (cwX_X_signed X.2.2.2.2 ⟨Nat.le_of_ble_eq_true rfl, Nat.le_of_ble_eq_true rfl⟩) rfl hl.1 rfl (Nat.le_of_ble_eq_true rfl) dX_multiply_23 ?_
    refine lv_topl (fun x26 e26 => ?_)
    replace hfin := nm_at hfin e26
    refine lv_lstore (lv' := [(5, .long x26), (4, .int x15), (0, .ref o), (1, .int a0), (2, .int a1), (3, .int a2)]) hx hb dX_multiply_26 hl (by decide) rfl (fun ls hl => ?_)
    refine lv_aload_n hx hb dX_multiply_28 rfl (lv_at hl 2 rfl) ?_
    refine lv_iload hx hb dX_multiply_29 (lv_at hl 1 rfl) ?_
    refine lv_iload_n hx hb dX_multiply_31 rfl (lv_at hl 5 rfl) ?_
    obtain ⟨z32, hz32, hfin⟩ := bd_ob hfin
    refine g_callMl [.int x15, .int a2] [] X hK x_rcv hI (ctx_source l D cA o q hne u x15 a2 z32 hz32) (cwX_X_source X.2.2.2.2 ⟨Nat.le_of_ble_eq_true rfl, Nat.le_of_ble_eq_true rfl⟩) rfl hl.1 rfl (Nat.le_of_ble_eq_true rfl) dX_multiply_32 (fun H locs hI => ?_)
    refine g_callPl [.long z32.1] [] X (ctx_signed l z32.1) (cwX_X_signed X.2.2.2.2 ⟨Nat.le_of_ble_eq_true rfl, Nat.le_of_ble_eq_true rfl⟩) rfl hl.1 rfl (Nat.le_of_ble_eq_true rfl) dX_multiply_35 ?_
    refine lv_topl (fun x38 e38 => ?_)
    replace hfin := nm_at hfin e38
    refine lv_lstore (lv' := [(7, .long x38), (5, .long x26), (4, .int x15), (0, .ref o), (1, .int a0), (2, .int a1), (3, .int a2)]) hx hb dX_multiply_38 hl (by decide) rfl (fun ls hl => ?_)
    refine lv_lload hx hb dX_multiply_40 (lv_at hl 1 rfl) ?_
    refine lv_lload hx hb dX_multiply_42 (lv_at hl 0 rfl) ?_
    refine g_callPi [.long x26, .long x38] [] X (ctx_productFits l x26 x38) (cwX_X_productFits X.2.2.2.2 ⟨Nat.le_of_ble_eq_true rfl, Nat.le_of_ble_eq_true rfl⟩) rfl hl.1 rfl (Nat.le_of_ble_eq_true rfl) dX_multiply_44 ?_
    refine lv_if_ne (tgt := 54) hx hb dX_multiply_47 (by decide) (fun hc47 => ?_) (fun hc47 => ?_)
    · rw [if_neg hc47] at hfin
      exact B_54 z32.2 x15 x26 x38 H locs ls (lv_sub hl [3, 4, 5, 6, 2, 1, 0] rfl) hI hfin
    rw [if_pos hc47] at hfin
    refine lv_aload_n hx hb dX_multiply_50 rfl (lv_at hl 3 rfl) ?_
    obtain ⟨z51, hz51, hfin⟩ := bd_ob hfin
    refine g_callMv [] [] X hK x_rcv hI (ctx_setOverflow l D cA o q hne z32.2 z51 hz51) (cwX_X_setOverflow X.2.2.2.2 ⟨Nat.le_of_ble_eq_true rfl, Nat.le_of_ble_eq_true rfl⟩) rfl hl.1 rfl (Nat.le_of_ble_eq_true rfl) dX_multiply_51 (fun H locs hI => ?_)
    exact B_54 z51 x15 x26 x38 H locs ls (lv_sub hl [3, 4, 5, 6, 2, 1, 0] rfl) hI hfin
  rw [if_neg hc3] at hfin
  refine lv_aload_n hx hb dX_multiply_6 rfl (lv_at hl 0 rfl) ?_
  refine lv_iconst (v := (2 : Int32)) hx hb dX_multiply_7 (by decide) ?_
  obtain ⟨z8, hz8, hfin⟩ := bd_ob hfin
  refine g_callMv [.int (2 : Int32)] [] X hK x_rcv hI (ctx_raise l D cA o q hne u (2 : Int32) z8 hz8) (cwX_X_raise X.2.2.2.2 ⟨Nat.le_of_ble_eq_true rfl, Nat.le_of_ble_eq_true rfl⟩) rfl hl.1 rfl (Nat.le_of_ble_eq_true rfl) dX_multiply_8 (fun H locs hI => ?_)
  exact g_vret X hr hlk hK hI hfin dX_multiply_11
set_option maxHeartbeats 4000000 in
set_option maxRecDepth 100000 in
theorem ctx_divide (l : Launch) (D : va_G) (cA : ClassId) (o q : Nat) (hne : va_nd [o, q] = true) (u : XS) (a0 : Int32) (a1 : Int32) (a2 : Int32) (z : XS) (hfin : x_divide u a0 a1 a2 = some z) : gMv l yX_divide wX_divide (rmF 3 71) D [(cA, .long)] (XW cA o q) (XA o q) [.ref o, .int a0, .int a1, .int a2] u z := by
  refine g_start (plainFor_of_name (by decide)) (Nat.le_of_ble_eq_true rfl) ?_
  intro p e s0 m args below meth c ls X hr hlk hB hl
  obtain ⟨hP0, hK⟩ := hB
  have hI : gI D (XW cA o q) (XA o q) s0.heap s0.heap [] u := ⟨hP0, va_S.rf⟩
  have hl : lv_has ls 9 [(0, .ref o), (1, .int a0), (2, .int a1), (3, .int a2)] := hl
  have hx := X.1
  have hb := X.2.1
  have B_65 : ∀ (u : XS) (H : Heap) (locs : List Loc) (ls : Array Slot), lv_has ls 9 [(0, .ref o), (1, .int a0), (2, .int a1), (3, .int a2)] → gI D (XW cA o q) (XA o q) s0.heap H locs u → x_divide_65 a0 a1 a2 u = some z → W p l e (rmF 3 71) s0 m args below meth c H locs 0 0 (MQ below (va_Qv (fun x => x = z) (gB D [(cA, .long)] (XW cA o q)) (XA o q)) args s0 0 0 (XA o q)) (F0 m 65 ls []) := by
    intro u H locs ls hl hI hfin
    rw [x_divide_65] at hfin
    refine lv_aload_n hx hb dX_divide_65 rfl (lv_at hl 0 rfl) ?_
    obtain ⟨z66, hz66, hfin⟩ := bd_ob hfin
    refine g_callMv [] [] X hK x_rcv hI (ctx_setOverflow l D cA o q hne u z66 hz66) (cwX_X_setOverflow X.2.2.2.2 ⟨Nat.le_of_ble_eq_true rfl, Nat.le_of_ble_eq_true rfl⟩) rfl hl.1 rfl (Nat.le_of_ble_eq_true rfl) dX_divide_66 (fun H locs hI => ?_)
    exact g_vret X hr hlk hK hI hfin dX_divide_69
  have B_70 : ∀ (u : XS) (v4 : Int32) (v5 : Int64) (v7 : Int64) (H : Heap) (locs : List Loc) (ls : Array Slot), lv_has ls 9 [(0, .ref o), (1, .int a0), (2, .int a1), (3, .int a2), (4, .int v4), (5, .long v5), (7, .long v7)] → gI D (XW cA o q) (XA o q) s0.heap H locs u → x_divide_70 a0 a1 a2 u v4 v5 v7 = some z → W p l e (rmF 3 71) s0 m args below meth c H locs 0 0 (MQ below (va_Qv (fun x => x = z) (gB D [(cA, .long)] (XW cA o q)) (XA o q)) args s0 0 0 (XA o q)) (F0 m 70 ls []) := by
    intro u v4 v5 v7 H locs ls hl hI hfin
    rw [x_divide_70] at hfin
    refine lv_aload_n hx hb dX_divide_70 rfl (lv_at hl 0 rfl) ?_
    refine lv_iload hx hb dX_divide_71 (lv_at hl 4 rfl) ?_
    refine lv_iload_n hx hb dX_divide_73 rfl (lv_at hl 2 rfl) ?_
    refine lv_iload_n hx hb dX_divide_74 rfl (lv_at hl 3 rfl) ?_
    refine lv_lload hx hb dX_divide_75 (lv_at hl 5 rfl) ?_
    refine lv_lload hx hb dX_divide_77 (lv_at hl 6 rfl) ?_
    obtain ⟨hd79, hfin⟩ := ck_if hfin
    refine lv_ldiv hx hb dX_divide_79 hd79 ?_
    refine lv_ldc2 hx hb X.2.2.2.1 (X.2.2.2.2 _ hkX_17) dX_divide_80 ?_
    refine lv_land hx hb dX_divide_83 ?_
    obtain ⟨z84, hz84, hfin⟩ := bd_ob hfin
    refine g_callMv [.int v4, .int a1, .int a2, .long ((v5 / v7) &&& (68719476735 : Int64))] [] X hK x_rcv hI (ctx_putResult l D cA o q hne u v4 a1 a2 ((v5 / v7) &&& (68719476735 : Int64)) z84 hz84) (cwX_X_putResult X.2.2.2.2 ⟨Nat.le_of_ble_eq_true rfl, Nat.le_of_ble_eq_true rfl⟩) rfl hl.1 rfl (Nat.le_of_ble_eq_true rfl) dX_divide_84 (fun H locs hI => ?_)
    refine lv_iload hx hb dX_divide_87 (lv_at hl 4 rfl) ?_
    refine lv_iconst (v := (2 : Int32)) hx hb dX_divide_89 (by decide) ?_
    refine lv_icmp_eq (tgt := 112) hx hb dX_divide_90 (by decide) (fun hc90 => ?_) (fun hc90 => ?_)
    · rw [if_pos hc90] at hfin
      exact g_vret X hr hlk hK hI hfin dX_divide_112
    rw [if_neg hc90] at hfin
    refine lv_aload_n hx hb dX_divide_93 rfl (lv_at hl 0 rfl) ?_
    refine lv_iload_n hx hb dX_divide_94 rfl (lv_at hl 2 rfl) ?_
    refine lv_iconst (v := (1 : Int32)) hx hb dX_divide_95 (by decide) ?_
    refine lv_iadd hx hb dX_divide_96 ?_
    refine lv_bipush (v := (15 : Int32)) hx hb dX_divide_97 (by decide) ?_
    refine lv_iand hx hb dX_divide_99 ?_
    refine lv_lload hx hb dX_divide_100 (lv_at hl 5 rfl) ?_
    refine lv_lload hx hb dX_divide_102 (lv_at hl 6 rfl) ?_
    obtain ⟨hd104, hfin⟩ := ck_if hfin
    refine lv_lrem hx hb dX_divide_104 hd104 ?_
    refine lv_ldc2 hx hb X.2.2.2.1 (X.2.2.2.2 _ hkX_17) dX_divide_105 ?_
    refine lv_land hx hb dX_divide_108 ?_
    obtain ⟨z109, hz109, hfin⟩ := bd_ob hfin
    refine g_callMv [.int ((a1 + (1 : Int32)) &&& (15 : Int32)), .long ((v5 - v5 / v7 * v7) &&& (68719476735 : Int64))] [] X hK x_rcv hI (ctx_setAccumulator l D cA o q hne z84 ((a1 + (1 : Int32)) &&& (15 : Int32)) ((v5 - v5 / v7 * v7) &&& (68719476735 : Int64)) z109 hz109) (cwX_X_setAccumulator X.2.2.2.2 ⟨Nat.le_of_ble_eq_true rfl, Nat.le_of_ble_eq_true rfl⟩) rfl hl.1 rfl (Nat.le_of_ble_eq_true rfl) dX_divide_109 (fun H locs hI => ?_)
    exact g_vret X hr hlk hK hI hfin dX_divide_112
  rw [x_divide] at hfin
  refine lv_iload_n hx hb dX_divide_0 rfl (lv_at hl 1 rfl) ?_
  refine lv_iconst (v := (4 : Int32)) hx hb dX_divide_1 (by decide) ?_
  refine lv_iand hx hb dX_divide_2 ?_
  refine lv_if_eq (tgt := 12) hx hb dX_divide_3 (by decide) (fun hc3 => ?_) (fun hc3 => ?_)
  · rw [if_pos hc3] at hfin
    refine lv_iload_n hx hb dX_divide_12 rfl (lv_at hl 1 rfl) ?_
    refine lv_iconst (v := (3 : Int32)) hx hb dX_divide_13 (by decide) ?_
    refine lv_iand hx hb dX_divide_14 ?_
    refine lv_topi (fun x15 e15 => ?_)
    replace hfin := nm_at hfin e15
    refine lv_istore (lv' := [(4, .int x15), (0, .ref o), (1, .int a0), (2, .int a1), (3, .int a2)]) hx hb dX_divide_15 hl (by decide) rfl (fun ls hl => ?_)
    refine lv_aload_n hx hb dX_divide_17 rfl (lv_at hl 1 rfl) ?_
    refine xg_words X hK hI.1 dX_divide_18 ?_
    refine lv_iload_n hx hb dX_divide_21 rfl (lv_at hl 3 rfl) ?_
    obtain ⟨hd22, hfin⟩ := ck_if hfin
    refine xl_words X hK hI.1 hd22 dX_divide_22 ?_
    refine g_callPl [.long (X_words u a1.toNatClampNeg)] [] X (ctx_signed l (X_words u a1.toNatClampNeg)) (cwX_X_signed X.2.2.2.2 ⟨Nat.le_of_ble_eq_true rfl, Nat.le_of_ble_eq_true rfl⟩) rfl hl.1 rfl (Nat.le_of_ble_eq_true rfl) dX_divide_23 ?_
    refine lv_topl (fun x26 e26 => ?_)
    replace hfin := nm_at hfin e26
    refine lv_lstore (lv' := [(5, .long x26), (4, .int x15), (0, .ref o), (1, .int a0), (2, .int a1), (3, .int a2)]) hx hb dX_divide_26 hl (by decide) rfl (fun ls hl => ?_)
    refine lv_aload_n hx hb dX_divide_28 rfl (lv_at hl 2 rfl) ?_
    refine lv_iload hx hb dX_divide_29 (lv_at hl 1 rfl) ?_
    refine lv_iload_n hx hb dX_divide_31 rfl (lv_at hl 5 rfl) ?_
    obtain ⟨z32, hz32, hfin⟩ := bd_ob hfin
    refine g_callMl [.int x15, .int a2] [] X hK x_rcv hI (ctx_source l D cA o q hne u x15 a2 z32 hz32) (cwX_X_source X.2.2.2.2 ⟨Nat.le_of_ble_eq_true rfl, Nat.le_of_ble_eq_true rfl⟩) rfl hl.1 rfl (Nat.le_of_ble_eq_true rfl) dX_divide_32 (fun H locs hI => ?_)
    refine g_callPl [.long z32.1] [] X (ctx_signed l z32.1) (cwX_X_signed X.2.2.2.2 ⟨Nat.le_of_ble_eq_true rfl, Nat.le_of_ble_eq_true rfl⟩) rfl hl.1 rfl (Nat.le_of_ble_eq_true rfl) dX_divide_35 ?_
    refine lv_topl (fun x38 e38 => ?_)
    replace hfin := nm_at hfin e38
    refine lv_lstore (lv' := [(7, .long x38), (5, .long x26), (4, .int x15), (0, .ref o), (1, .int a0), (2, .int a1), (3, .int a2)]) hx hb dX_divide_38 hl (by decide) rfl (fun ls hl => ?_)
    refine lv_lload hx hb dX_divide_40 (lv_at hl 0 rfl) ?_
    refine lv_lconst (v := (0 : Int64)) hx hb dX_divide_42 (by decide) ?_
    refine W.lcmp hx hb dX_divide_43 ?_
    refine lv_if_eq (tgt := 65) hx hb dX_divide_44 (by decide) (fun hc44 => ?_) (fun hc44 => ?_)
    · rw [if_pos hc44] at hfin
      exact B_65 z32.2 H locs ls (lv_sub hl [3, 4, 5, 6] rfl) hI hfin
    rw [if_neg hc44] at hfin
    refine lv_lload hx hb dX_divide_47 (lv_at hl 1 rfl) ?_
    refine lv_ldc2 hx hb X.2.2.2.1 (X.2.2.2.2 _ hkX_218) dX_divide_49 ?_
    refine W.lcmp hx hb dX_divide_52 ?_
    refine lv_if_ne (tgt := 70) hx hb dX_divide_53 (by decide) (fun hc53 => ?_) (fun hc53 => ?_)
    · rw [if_neg hc53] at hfin
      exact B_70 z32.2 x15 x26 x38 H locs ls (lv_sub hl [3, 4, 5, 6, 2, 1, 0] rfl) hI hfin
    rw [if_pos hc53] at hfin
    refine lv_lload hx hb dX_divide_56 (lv_at hl 0 rfl) ?_
    refine lv_ldc2 hx hb X.2.2.2.1 (X.2.2.2.2 _ hkX_19) dX_divide_58 ?_
    refine W.lcmp hx hb dX_divide_61 ?_
    refine lv_if_ne (tgt := 70) hx hb dX_divide_62 (by decide) (fun hc62 => ?_) (fun hc62 => ?_)
    · rw [if_neg hc62] at hfin
      exact B_70 z32.2 x15 x26 x38 H locs ls (lv_sub hl [3, 4, 5, 6, 2, 1, 0] rfl) hI hfin
    rw [if_pos hc62] at hfin
    exact B_65 z32.2 H locs ls (lv_sub hl [3, 4, 5, 6] rfl) hI hfin
  rw [if_neg hc3] at hfin
  refine lv_aload_n hx hb dX_divide_6 rfl (lv_at hl 0 rfl) ?_
  refine lv_iconst (v := (2 : Int32)) hx hb dX_divide_7 (by decide) ?_
  obtain ⟨z8, hz8, hfin⟩ := bd_ob hfin
  refine g_callMv [.int (2 : Int32)] [] X hK x_rcv hI (ctx_raise l D cA o q hne u (2 : Int32) z8 hz8) (cwX_X_raise X.2.2.2.2 ⟨Nat.le_of_ble_eq_true rfl, Nat.le_of_ble_eq_true rfl⟩) rfl hl.1 rfl (Nat.le_of_ble_eq_true rfl) dX_divide_8 (fun H locs hI => ?_)
  exact g_vret X hr hlk hK hI hfin dX_divide_11
set_option maxHeartbeats 4000000 in
set_option maxRecDepth 100000 in
theorem ctx_shiftedAsBits (l : Launch) (a0 : Int64) (a1 : Int32) : gPl l yX_shiftedAsBits wX_shiftedAsBits (rmF 0 0) [.long a0, .int a1] (x_shiftedAsBits a0 a1) := by
  obtain ⟨z, hz⟩ : ∃ z, z = x_shiftedAsBits a0 a1 := ⟨_, rfl⟩
  rw [← hz]
  have hfin := hz.symm
  clear hz
  refine g_start (plainFor_of_name (by decide)) (Nat.le_of_ble_eq_true rfl) ?_
  intro p e s0 m args below meth c ls X hr hlk hB hl
  have hl : lv_has ls 3 [(0, .long a0), (2, .int a1)] := hl
  have hx := X.1
  have hb := X.2.1
  rw [x_shiftedAsBits] at hfin
  refine lv_iload_n hx hb dX_shiftedAsBits_0 rfl (lv_at hl 1 rfl) ?_
  refine lv_bipush (v := (-36 : Int32)) hx hb dX_shiftedAsBits_1 (by decide) ?_
  refine lv_icmp_le (tgt := 12) hx hb dX_shiftedAsBits_3 (by decide) (fun hc3 => ?_) (fun hc3 => ?_)
  · rw [if_pos hc3] at hfin
    refine lv_lconst (v := (0 : Int64)) hx hb dX_shiftedAsBits_12 (by decide) ?_
    exact g_lretP X hr hlk hfin dX_shiftedAsBits_13
  rw [if_neg hc3] at hfin
  refine lv_iload_n hx hb dX_shiftedAsBits_6 rfl (lv_at hl 1 rfl) ?_
  refine lv_bipush (v := (36 : Int32)) hx hb dX_shiftedAsBits_7 (by decide) ?_
  refine lv_icmp_lt (tgt := 14) hx hb dX_shiftedAsBits_9 (by decide) (fun hc9 => ?_) (fun hc9 => ?_)
  · rw [if_pos hc9] at hfin
    refine lv_iload_n hx hb dX_shiftedAsBits_14 rfl (lv_at hl 1 rfl) ?_
    refine lv_if_ge (tgt := 25) hx hb dX_shiftedAsBits_15 (by decide) (fun hc15 => ?_) (fun hc15 => ?_)
    · rw [if_pos hc15] at hfin
      refine lv_lload_n hx hb dX_shiftedAsBits_25 rfl (lv_at hl 0 rfl) ?_
      refine lv_iload_n hx hb dX_shiftedAsBits_26 rfl (lv_at hl 1 rfl) ?_
      refine lv_lshl hx hb dX_shiftedAsBits_27 rfl ?_
      refine lv_ldc2 hx hb X.2.2.2.1 (X.2.2.2.2 _ hkX_17) dX_shiftedAsBits_28 ?_
      refine lv_land hx hb dX_shiftedAsBits_31 ?_
      exact g_lretP X hr hlk hfin dX_shiftedAsBits_32
    rw [if_neg hc15] at hfin
    refine lv_lload_n hx hb dX_shiftedAsBits_18 rfl (lv_at hl 0 rfl) ?_
    refine lv_iload_n hx hb dX_shiftedAsBits_19 rfl (lv_at hl 1 rfl) ?_
    refine lv_ineg hx hb dX_shiftedAsBits_20 ?_
    refine lv_lushr hx hb dX_shiftedAsBits_21 rfl ?_
    refine lv_goto (tgt := 32) hx hb dX_shiftedAsBits_22 (by decide) ?_
    exact g_lretP X hr hlk hfin dX_shiftedAsBits_32
  rw [if_neg hc9] at hfin
  refine lv_lconst (v := (0 : Int64)) hx hb dX_shiftedAsBits_12 (by decide) ?_
  exact g_lretP X hr hlk hfin dX_shiftedAsBits_13
