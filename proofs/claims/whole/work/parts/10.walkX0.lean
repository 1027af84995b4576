set_option maxHeartbeats 4000000 in
set_option maxRecDepth 100000 in
theorem ctj_abs (l : Launch) (a0 : Int64) : gPl l yJ_abs wJ_abs (rmF 0 0) [.long a0] (j_abs a0) := by
  obtain ⟨z, hz⟩ : ∃ z, z = j_abs a0 := ⟨_, rfl⟩
  rw [← hz]
  have hfin := hz.symm
  clear hz
  refine g_start (by decide +kernel) (Nat.le_of_ble_eq_true rfl) ?_
  intro p e s0 m args below meth c ls X hr hlk hB hl
  have hl : lv_has ls 2 [(0, .long a0)] := hl
  have hx := X.1
  have hb := X.2.1
  rw [j_abs] at hfin
  refine lv_lload_n hx hb dJ_abs_0 rfl (lv_at hl 0 rfl) ?_
  refine lv_lconst (v := (0 : Int64)) hx hb dJ_abs_1 (by decide) ?_
  refine W.lcmp hx hb dJ_abs_2 ?_
  refine lv_if_ge (tgt := 11) hx hb dJ_abs_3 (by decide) (fun hc3 => ?_) (fun hc3 => ?_)
  · rw [if_pos hc3] at hfin
    refine lv_lload_n hx hb dJ_abs_11 rfl (lv_at hl 0 rfl) ?_
    exact g_lretP X hr hlk hfin dJ_abs_12
  rw [if_neg hc3] at hfin
  refine lv_lload_n hx hb dJ_abs_6 rfl (lv_at hl 0 rfl) ?_
  refine lv_lneg hx hb dJ_abs_7 ?_
  refine lv_goto (tgt := 12) hx hb dJ_abs_8 (by decide) ?_
  exact g_lretP X hr hlk hfin dJ_abs_12
set_option maxHeartbeats 4000000 in
set_option maxRecDepth 100000 in
theorem ctj_floorMod (l : Launch) (a0 : Int32) (a1 : Int32) (hq : ¬ a1 = 0) : gPi l yJ_floorMod wJ_floorMod (rmF 0 0) [.int a0, .int a1] (j_floorMod a0 a1) := by
  obtain ⟨z, hz⟩ : ∃ z, z = j_floorMod a0 a1 := ⟨_, rfl⟩
  rw [← hz]
  have hfin := hz.symm
  clear hz
  refine g_start (by decide +kernel) (Nat.le_of_ble_eq_true rfl) ?_
  intro p e s0 m args below meth c ls X hr hlk hB hl
  have hl : lv_has ls 3 [(0, .int a0), (1, .int a1)] := hl
  have hx := X.1
  have hb := X.2.1
  rw [j_floorMod] at hfin
  refine lv_iload_n hx hb dJ_floorMod_0 rfl (lv_at hl 0 rfl) ?_
  refine lv_iload_n hx hb dJ_floorMod_1 rfl (lv_at hl 1 rfl) ?_
  refine lv_irem hx hb dJ_floorMod_2 hq ?_
  refine lv_topi (fun x3 e3 => ?_)
  replace hfin := nm_at hfin e3
  refine lv_istore_n (lv' := [(2, .int x3), (0, .int a0), (1, .int a1)]) hx hb dJ_floorMod_3 rfl hl (by decide) rfl (fun ls hl => ?_)
  refine lv_iload_n hx hb dJ_floorMod_4 rfl (lv_at hl 1 rfl) ?_
  refine lv_iload_n hx hb dJ_floorMod_5 rfl (lv_at hl 2 rfl) ?_
  refine lv_ixor hx hb dJ_floorMod_6 ?_
  refine lv_if_ge (tgt := 18) hx hb dJ_floorMod_7 (by decide) (fun hc7 => ?_) (fun hc7 => ?_)
  · rw [if_pos hc7] at hfin
    refine lv_iload_n hx hb dJ_floorMod_18 rfl (lv_at hl 0 rfl) ?_
    exact g_iretP X hr hlk hfin dJ_floorMod_19
  rw [if_neg hc7] at hfin
  refine lv_iload_n hx hb dJ_floorMod_10 rfl (lv_at hl 0 rfl) ?_
  refine lv_if_eq (tgt := 18) hx hb dJ_floorMod_11 (by decide) (fun hc11 => ?_) (fun hc11 => ?_)
  · rw [if_pos hc11] at hfin
    refine lv_iload_n hx hb dJ_floorMod_18 rfl (lv_at hl 0 rfl) ?_
    exact g_iretP X hr hlk hfin dJ_floorMod_19
  rw [if_neg hc11] at hfin
  refine lv_iload_n hx hb dJ_floorMod_14 rfl (lv_at hl 0 rfl) ?_
  refine lv_iload_n hx hb dJ_floorMod_15 rfl (lv_at hl 2 rfl) ?_
  refine lv_iadd hx hb dJ_floorMod_16 ?_
  exact g_iretP X hr hlk hfin dJ_floorMod_17
set_option maxHeartbeats 4000000 in
set_option maxRecDepth 100000 in
theorem ctj_max (l : Launch) (a0 : Int32) (a1 : Int32) : gPi l yJ_max wJ_max (rmF 0 0) [.int a0, .int a1] (j_max a0 a1) := by
  obtain ⟨z, hz⟩ : ∃ z, z = j_max a0 a1 := ⟨_, rfl⟩
  rw [← hz]
  have hfin := hz.symm
  clear hz
  refine g_start (by decide +kernel) (Nat.le_of_ble_eq_true rfl) ?_
  intro p e s0 m args below meth c ls X hr hlk hB hl
  have hl : lv_has ls 2 [(0, .int a0), (1, .int a1)] := hl
  have hx := X.1
  have hb := X.2.1
  rw [j_max] at hfin
  refine lv_iload_n hx hb dJ_max_0 rfl (lv_at hl 0 rfl) ?_
  refine lv_iload_n hx hb dJ_max_1 rfl (lv_at hl 1 rfl) ?_
  refine lv_icmp_lt (tgt := 9) hx hb dJ_max_2 (by decide) (fun hc2 => ?_) (fun hc2 => ?_)
  · rw [if_pos hc2] at hfin
    refine lv_iload_n hx hb dJ_max_9 rfl (lv_at hl 1 rfl) ?_
    exact g_iretP X hr hlk hfin dJ_max_10
  rw [if_neg hc2] at hfin
  refine lv_iload_n hx hb dJ_max_5 rfl (lv_at hl 0 rfl) ?_
  refine lv_goto (tgt := 10) hx hb dJ_max_6 (by decide) ?_
  exact g_iretP X hr hlk hfin dJ_max_10
set_option maxHeartbeats 4000000 in
set_option maxRecDepth 100000 in
theorem ctj_min (l : Launch) (a0 : Int32) (a1 : Int32) : gPi l yJ_min wJ_min (rmF 0 0) [.int a0, .int a1] (j_min a0 a1) := by
  obtain ⟨z, hz⟩ : ∃ z, z = j_min a0 a1 := ⟨_, rfl⟩
  rw [← hz]
  have hfin := hz.symm
  clear hz
  refine g_start (by decide +kernel) (Nat.le_of_ble_eq_true rfl) ?_
  intro p e s0 m args below meth c ls X hr hlk hB hl
  have hl : lv_has ls 2 [(0, .int a0), (1, .int a1)] := hl
  have hx := X.1
  have hb := X.2.1
  rw [j_min] at hfin
  refine lv_iload_n hx hb dJ_min_0 rfl (lv_at hl 0 rfl) ?_
  refine lv_iload_n hx hb dJ_min_1 rfl (lv_at hl 1 rfl) ?_
  refine lv_icmp_gt (tgt := 9) hx hb dJ_min_2 (by decide) (fun hc2 => ?_) (fun hc2 => ?_)
  · rw [if_pos hc2] at hfin
    refine lv_iload_n hx hb dJ_min_9 rfl (lv_at hl 1 rfl) ?_
    exact g_iretP X hr hlk hfin dJ_min_10
  rw [if_neg hc2] at hfin
  refine lv_iload_n hx hb dJ_min_5 rfl (lv_at hl 0 rfl) ?_
  refine lv_goto (tgt := 10) hx hb dJ_min_6 (by decide) ?_
  exact g_iretP X hr hlk hfin dJ_min_10
set_option maxHeartbeats 4000000 in
set_option maxRecDepth 100000 in
theorem ctx_isPlace (l : Launch) (a0 : Int32) : gPi l yX_isPlace wX_isPlace (rmF 0 0) [.int a0] (x_isPlace a0) := by
  obtain ⟨z, hz⟩ : ∃ z, z = x_isPlace a0 := ⟨_, rfl⟩
  rw [← hz]
  have hfin := hz.symm
  clear hz
  refine g_start (plainFor_of_name (by decide)) (Nat.le_of_ble_eq_true rfl) ?_
  intro p e s0 m args below meth c ls X hr hlk hB hl
  have hl : lv_has ls 1 [(0, .int a0)] := hl
  have hx := X.1
  have hb := X.2.1
  rw [x_isPlace] at hfin
  refine lv_iload_n hx hb dX_isPlace_0 rfl (lv_at hl 0 rfl) ?_
  refine lv_if_lt (tgt := 15) hx hb dX_isPlace_1 (by decide) (fun hc1 => ?_) (fun hc1 => ?_)
  · rw [if_pos hc1] at hfin
    refine lv_iconst (v := (0 : Int32)) hx hb dX_isPlace_15 (by decide) ?_
    exact g_zretP X hr hlk rfl hfin dX_isPlace_16
  rw [if_neg hc1] at hfin
  refine lv_iload_n hx hb dX_isPlace_4 rfl (lv_at hl 0 rfl) ?_
  refine lv_sipush (v := (1024 : Int32)) hx hb dX_isPlace_5 (by decide) ?_
  refine lv_icmp_ge (tgt := 15) hx hb dX_isPlace_8 (by decide) (fun hc8 => ?_) (fun hc8 => ?_)
  · rw [if_pos hc8] at hfin
    refine lv_iconst (v := (0 : Int32)) hx hb dX_isPlace_15 (by decide) ?_
    exact g_zretP X hr hlk rfl hfin dX_isPlace_16
  rw [if_neg hc8] at hfin
  refine lv_iconst (v := (1 : Int32)) hx hb dX_isPlace_11 (by decide) ?_
  refine lv_goto (tgt := 16) hx hb dX_isPlace_12 (by decide) ?_
  exact g_zretP X hr hlk rfl hfin dX_isPlace_16
set_option maxHeartbeats 4000000 in
set_option maxRecDepth 100000 in
theorem ctx_deposit (l : Launch) (D : va_G) (cA : ClassId) (o q : Nat) (hne : va_nd [o, q] = true) (u : XS) (a0 : Int32) (a1 : Int64) (z : Int32 × XS) (hfin : x_deposit u a0 a1 = some z) : gMi l yX_deposit wX_deposit (rmF 1 20) D [(cA, .long)] (XW cA o q) (XA o q) [.ref o, .int a0, .long a1] u z := by
  refine g_start (plainFor_of_name (by decide)) (Nat.le_of_ble_eq_true rfl) ?_
  intro p e s0 m args below meth c ls X hr hlk hB hl
  obtain ⟨hP0, hK⟩ := hB
  have hI : gI D (XW cA o q) (XA o q) s0.heap s0.heap [] u := ⟨hP0, va_S.rf⟩
  have hl : lv_has ls 4 [(0, .ref o), (1, .int a0), (2, .long a1)] := hl
  have hx := X.1
  have hb := X.2.1
  rw [x_deposit] at hfin
  refine lv_iload_n hx hb dX_deposit_0 rfl (lv_at hl 1 rfl) ?_
  refine g_callPi [.int a0] [] X (ctx_isPlace l a0) (cwX_X_isPlace X.2.2.2.2 ⟨Nat.le_of_ble_eq_true rfl, Nat.le_of_ble_eq_true rfl⟩) rfl hl.1 rfl (Nat.le_of_ble_eq_true rfl) dX_deposit_1 ?_
  refine lv_if_ne (tgt := 9) hx hb dX_deposit_4 (by decide) (fun hc4 => ?_) (fun hc4 => ?_)
  · rw [if_neg hc4] at hfin
    refine lv_aload_n hx hb dX_deposit_9 rfl (lv_at hl 0 rfl) ?_
    refine xg_words X hK hI.1 dX_deposit_10 ?_
    refine lv_iload_n hx hb dX_deposit_13 rfl (lv_at hl 1 rfl) ?_
    refine lv_lload_n hx hb dX_deposit_14 rfl (lv_at hl 2 rfl) ?_
    refine lv_ldc2 hx hb X.2.2.2.1 (X.2.2.2.2 _ hkX_17) dX_deposit_15 ?_
    refine lv_land hx hb dX_deposit_18 ?_
    obtain ⟨hd19, hfin⟩ := ck_if hfin
    refine xs_words X hK (x_D hne) hI hd19 dX_deposit_19 (fun H locs hI => ?_)
    refine lv_iconst (v := (1 : Int32)) hx hb dX_deposit_20 (by decide) ?_
    exact g_zret X hr hlk rfl hK hI hfin dX_deposit_21
  rw [if_pos hc4] at hfin
  refine lv_iconst (v := (0 : Int32)) hx hb dX_deposit_7 (by decide) ?_
  exact g_zret X hr hlk rfl hK hI hfin dX_deposit_8
set_option maxHeartbeats 4000000 in
set_option maxRecDepth 100000 in
theorem ctx_examine (l : Launch) (D : va_G) (cA : ClassId) (o q : Nat) (hne : va_nd [o, q] = true) (u : XS) (a0 : Int32) (z : Int64 × XS) (hfin : x_examine u a0 = some z) : gMl l yX_examine wX_examine (rmF 1 20) D [(cA, .long)] (XW cA o q) (XA o q) [.ref o, .int a0] u z := by
  refine g_start (plainFor_of_name (by decide)) (Nat.le_of_ble_eq_true rfl) ?_
  intro p e s0 m args below meth c ls X hr hlk hB hl
  obtain ⟨hP0, hK⟩ := hB
  have hI : gI D (XW cA o q) (XA o q) s0.heap s0.heap [] u := ⟨hP0, va_S.rf⟩
  have hl : lv_has ls 2 [(0, .ref o), (1, .int a0)] := hl
  have hx := X.1
  have hb := X.2.1
  rw [x_examine] at hfin
  refine lv_iload_n hx hb dX_examine_0 rfl (lv_at hl 1 rfl) ?_
  refine g_callPi [.int a0] [] X (ctx_isPlace l a0) (cwX_X_isPlace X.2.2.2.2 ⟨Nat.le_of_ble_eq_true rfl, Nat.le_of_ble_eq_true rfl⟩) rfl hl.1 rfl (Nat.le_of_ble_eq_true rfl) dX_examine_1 ?_
  refine lv_if_eq (tgt := 16) hx hb dX_examine_4 (by decide) (fun hc4 => ?_) (fun hc4 => ?_)
  · rw [if_pos hc4] at hfin
    refine lv_ldc2 hx hb X.2.2.2.1 (X.2.2.2.2 _ hkX_19) dX_examine_16 ?_
    exact g_lret X hr hlk hK hI hfin dX_examine_19
  rw [if_neg hc4] at hfin
  refine lv_aload_n hx hb dX_examine_7 rfl (lv_at hl 0 rfl) ?_
  refine xg_words X hK hI.1 dX_examine_8 ?_
  refine lv_iload_n hx hb dX_examine_11 rfl (lv_at hl 1 rfl) ?_
  obtain ⟨hd12, hfin⟩ := ck_if hfin
  refine xl_words X hK hI.1 hd12 dX_examine_12 ?_
  refine lv_goto (tgt := 19) hx hb dX_examine_13 (by decide) ?_
  exact g_lret X hr hlk hK hI hfin dX_examine_19
set_option maxHeartbeats 4000000 in
set_option maxRecDepth 100000 in
theorem ctx_signed (l : Launch) (a0 : Int64) : gPl l yX_signed wX_signed (rmF 0 0) [.long a0] (x_signed a0) := by
  obtain ⟨z, hz⟩ : ∃ z, z = x_signed a0 := ⟨_, rfl⟩
  rw [← hz]
  have hfin := hz.symm
  clear hz
  refine g_start (plainFor_of_name (by decide)) (Nat.le_of_ble_eq_true rfl) ?_
  intro p e s0 m args below meth c ls X hr hlk hB hl
  have hl : lv_has ls 2 [(0, .long a0)] := hl
  have hx := X.1
  have hb := X.2.1
  rw [x_signed] at hfin
  refine lv_lload_n hx hb dX_signed_0 rfl (lv_at hl 0 rfl) ?_
  refine lv_bipush (v := (28 : Int32)) hx hb dX_signed_1 (by decide) ?_
  refine lv_lshl hx hb dX_signed_3 rfl ?_
  refine lv_bipush (v := (28 : Int32)) hx hb dX_signed_4 (by decide) ?_
  refine lv_lshr hx hb dX_signed_6 rfl ?_
  exact g_lretP X hr hlk hfin dX_signed_7
set_option maxHeartbeats 4000000 in
set_option maxRecDepth 100000 in
theorem ctx_number (l : Launch) (D : va_G) (cA : ClassId) (o q : Nat) (hne : va_nd [o, q] = true) (u : XS) (a0 : Int32) (z : Int64 × XS) (hfin : x_number u a0 = some z) : gMl l yX_number wX_number (rmF 1 21) D [(cA, .long)] (XW cA o q) (XA o q) [.ref o, .int a0] u z := by
  refine g_start (plainFor_of_name (by decide)) (Nat.le_of_ble_eq_true rfl) ?_
  intro p e s0 m args below meth c ls X hr hlk hB hl
  obtain ⟨hP0, hK⟩ := hB
  have hI : gI D (XW cA o q) (XA o q) s0.heap s0.heap [] u := ⟨hP0, va_S.rf⟩
  have hl : lv_has ls 2 [(0, .ref o), (1, .int a0)] := hl
  have hx := X.1
  have hb := X.2.1
  rw [x_number] at hfin
  refine lv_iload_n hx hb dX_number_0 rfl (lv_at hl 1 rfl) ?_
  refine g_callPi [.int a0] [] X (ctx_isPlace l a0) (cwX_X_isPlace X.2.2.2.2 ⟨Nat.le_of_ble_eq_true rfl, Nat.le_of_ble_eq_true rfl⟩) rfl hl.1 rfl (Nat.le_of_ble_eq_true rfl) dX_number_1 ?_
  refine lv_if_eq (tgt := 19) hx hb dX_number_4 (by decide) (fun hc4 => ?_) (fun hc4 => ?_)
  · rw [if_pos hc4] at hfin
    refine lv_lconst (v := (0 : Int64)) hx hb dX_number_19 (by decide) ?_
    exact g_lret X hr hlk hK hI hfin dX_number_20
  rw [if_neg hc4] at hfin
  refine lv_aload_n hx hb dX_number_7 rfl (lv_at hl 0 rfl) ?_
  refine xg_words X hK hI.1 dX_number_8 ?_
  refine lv_iload_n hx hb dX_number_11 rfl (lv_at hl 1 rfl) ?_
  obtain ⟨hd12, hfin⟩ := ck_if hfin
  refine xl_words X hK hI.1 hd12 dX_number_12 ?_
  refine g_callPl [.long (X_words u a0.toNatClampNeg)] [] X (ctx_signed l (X_words u a0.toNatClampNeg)) (cwX_X_signed X.2.2.2.2 ⟨Nat.le_of_ble_eq_true rfl, Nat.le_of_ble_eq_true rfl⟩) rfl hl.1 rfl (Nat.le_of_ble_eq_true rfl) dX_number_13 ?_
  refine lv_goto (tgt := 20) hx hb dX_number_16 (by decide) ?_
  exact g_lret X hr hlk hK hI hfin dX_number_20
set_option maxHeartbeats 4000000 in
set_option maxRecDepth 100000 in
theorem ctx_isExtent (l : Launch) (a0 : Int32) : gPi l yX_isExtent wX_isExtent (rmF 0 0) [.int a0] (x_isExtent a0) := by
  obtain ⟨z, hz⟩ : ∃ z, z = x_isExtent a0 := ⟨_, rfl⟩
  rw [← hz]
  have hfin := hz.symm
  clear hz
  refine g_start (plainFor_of_name (by decide)) (Nat.le_of_ble_eq_true rfl) ?_
  intro p e s0 m args below meth c ls X hr hlk hB hl
  have hl : lv_has ls 1 [(0, .int a0)] := hl
  have hx := X.1
  have hb := X.2.1
  rw [x_isExtent] at hfin
  refine lv_iload_n hx hb dX_isExtent_0 rfl (lv_at hl 0 rfl) ?_
  refine lv_if_lt (tgt := 15) hx hb dX_isExtent_1 (by decide) (fun hc1 => ?_) (fun hc1 => ?_)
  · rw [if_pos hc1] at hfin
    refine lv_iconst (v := (0 : Int32)) hx hb dX_isExtent_15 (by decide) ?_
    exact g_zretP X hr hlk rfl hfin dX_isExtent_16
  rw [if_neg hc1] at hfin
  refine lv_iload_n hx hb dX_isExtent_4 rfl (lv_at hl 0 rfl) ?_
  refine lv_sipush (v := (1024 : Int32)) hx hb dX_isExtent_5 (by decide) ?_
  refine lv_icmp_gt (tgt := 15) hx hb dX_isExtent_8 (by decide) (fun hc8 => ?_) (fun hc8 => ?_)
  · rw [if_pos hc8] at hfin
    refine lv_iconst (v := (0 : Int32)) hx hb dX_isExtent_15 (by decide) ?_
    exact g_zretP X hr hlk rfl hfin dX_isExtent_16
  rw [if_neg hc8] at hfin
  refine lv_iconst (v := (1 : Int32)) hx hb dX_isExtent_11 (by decide) ?_
  refine lv_goto (tgt := 16) hx hb dX_isExtent_12 (by decide) ?_
  exact g_zretP X hr hlk rfl hfin dX_isExtent_16
set_option maxHeartbeats 4000000 in
set_option maxRecDepth 100000 in
theorem ctx_segment (l : Launch) (D : va_G) (cA : ClassId) (o q : Nat) (hne : va_nd [o, q] = true) (u : XS) (a0 : Int32) (a1 : Int32) (a2 : Int32) (z : Int32 × XS) (hfin : x_segment u a0 a1 a2 = some z) : gMi l yX_segment wX_segment (rmF 1 20) D [(cA, .long)] (XW cA o q) (XA o q) [.ref o, .int a0, .int a1, .int a2] u z := by
  refine g_start (plainFor_of_name (by decide)) (Nat.le_of_ble_eq_true rfl) ?_
  intro p e s0 m args below meth c ls X hr hlk hB hl
  obtain ⟨hP0, hK⟩ := hB
  have hI : gI D (XW cA o q) (XA o q) s0.heap s0.heap [] u := ⟨hP0, va_S.rf⟩
  have hl : lv_has ls 4 [(0, .ref o), (1, .int a0), (2, .int a1), (3, .int a2)] := hl
  have hx := X.1
  have hb := X.2.1
  rw [x_segment] at hfin
  refine lv_iload_n hx hb dX_segment_0 rfl (lv_at hl 1 rfl) ?_
  refine lv_if_lt (tgt := 23) hx hb dX_segment_1 (by decide) (fun hc1 => ?_) (fun hc1 => ?_)
  · rw [if_pos hc1] at hfin
    refine lv_iconst (v := (0 : Int32)) hx hb dX_segment_23 (by decide) ?_
    exact g_zret X hr hlk rfl hK hI hfin dX_segment_24
  rw [if_neg hc1] at hfin
  refine lv_iload_n hx hb dX_segment_4 rfl (lv_at hl 1 rfl) ?_
  refine lv_iconst (v := (1 : Int32)) hx hb dX_segment_5 (by decide) ?_
  refine lv_icmp_gt (tgt := 23) hx hb dX_segment_6 (by decide) (fun hc6 => ?_) (fun hc6 => ?_)
  · rw [if_pos hc6] at hfin
    refine lv_iconst (v := (0 : Int32)) hx hb dX_segment_23 (by decide) ?_
    exact g_zret X hr hlk rfl hK hI hfin dX_segment_24
  rw [if_neg hc6] at hfin
  refine lv_iload_n hx hb dX_segment_9 rfl (lv_at hl 2 rfl) ?_
  refine g_callPi [.int a1] [] X (ctx_isExtent l a1) (cwX_X_isExtent X.2.2.2.2 ⟨Nat.le_of_ble_eq_true rfl, Nat.le_of_ble_eq_true rfl⟩) rfl hl.1 rfl (Nat.le_of_ble_eq_true rfl) dX_segment_10 ?_
  refine lv_if_eq (tgt := 23) hx hb dX_segment_13 (by decide) (fun hc13 => ?_) (fun hc13 => ?_)
  · rw [if_pos hc13] at hfin
    refine lv_iconst (v := (0 : Int32)) hx hb dX_segment_23 (by decide) ?_
    exact g_zret X hr hlk rfl hK hI hfin dX_segment_24
  rw [if_neg hc13] at hfin
  refine lv_iload_n hx hb dX_segment_16 rfl (lv_at hl 3 rfl) ?_
  refine g_callPi [.int a2] [] X (ctx_isExtent l a2) (cwX_X_isExtent X.2.2.2.2 ⟨Nat.le_of_ble_eq_true rfl, Nat.le_of_ble_eq_true rfl⟩) rfl hl.1 rfl (Nat.le_of_ble_eq_true rfl) dX_segment_17 ?_
  refine lv_if_ne (tgt := 25) hx hb dX_segment_20 (by decide) (fun hc20 => ?_) (fun hc20 => ?_)
  · rw [if_neg hc20] at hfin
    refine lv_iload_n hx hb dX_segment_25 rfl (lv_at hl 1 rfl) ?_
    refine lv_if_ne (tgt := 42) hx hb dX_segment_26 (by decide) (fun hc26 => ?_) (fun hc26 => ?_)
    · rw [if_neg hc26] at hfin
      refine lv_aload_n hx hb dX_segment_42 rfl (lv_at hl 0 rfl) ?_
      refine lv_iload_n hx hb dX_segment_43 rfl (lv_at hl 2 rfl) ?_
      refine xp_highBase X hK (x_D hne) hI dX_segment_44 (fun H locs hI => ?_)
      refine lv_aload_n hx hb dX_segment_47 rfl (lv_at hl 0 rfl) ?_
      refine lv_iload_n hx hb dX_segment_48 rfl (lv_at hl 3 rfl) ?_
      refine xp_highBound X hK (x_D hne) hI dX_segment_49 (fun H locs hI => ?_)
      refine lv_iconst (v := (1 : Int32)) hx hb dX_segment_52 (by decide) ?_
      exact g_zret X hr hlk rfl hK hI hfin dX_segment_53
    rw [if_pos hc26] at hfin
    refine lv_aload_n hx hb dX_segment_29 rfl (lv_at hl 0 rfl) ?_
    refine lv_iload_n hx hb dX_segment_30 rfl (lv_at hl 2 rfl) ?_
    refine xp_lowBase X hK (x_D hne) hI dX_segment_31 (fun H locs hI => ?_)
    refine lv_aload_n hx hb dX_segment_34 rfl (lv_at hl 0 rfl) ?_
    refine lv_iload_n hx hb dX_segment_35 rfl (lv_at hl 3 rfl) ?_
    refine xp_lowBound X hK (x_D hne) hI dX_segment_36 (fun H locs hI => ?_)
    refine lv_goto (tgt := 52) hx hb dX_segment_39 (by decide) ?_
    refine lv_iconst (v := (1 : Int32)) hx hb dX_segment_52 (by decide) ?_
    exact g_zret X hr hlk rfl hK hI hfin dX_segment_53
  rw [if_pos hc20] at hfin
  refine lv_iconst (v := (0 : Int32)) hx hb dX_segment_23 (by decide) ?_
  exact g_zret X hr hlk rfl hK hI hfin dX_segment_24
set_option maxHeartbeats 4000000 in
set_option maxRecDepth 100000 in
theorem ctx_start (l : Launch) (D : va_G) (cA : ClassId) (o q : Nat) (hne : va_nd [o, q] = true) (u : XS) (a0 : Int32) (a1 : Int32) (z : XS) (hfin : x_start u a0 a1 = some z) : gMv l yX_start wX_start (rmF 0 0) D [(cA, .long)] (XW cA o q) (XA o q) [.ref o, .int a0, .int a1] u z := by
  refine g_start (plainFor_of_name (by decide)) (Nat.le_of_ble_eq_true rfl) ?_
  intro p e s0 m args below meth c ls X hr hlk hB hl
  obtain ⟨hP0, hK⟩ := hB
  have hI : gI D (XW cA o q) (XA o q) s0.heap s0.heap [] u := ⟨hP0, va_S.rf⟩
  have hl : lv_has ls 3 [(0, .ref o), (1, .int a0), (2, .int a1)] := hl
  have hx := X.1
  have hb := X.2.1
  rw [x_start] at hfin
  refine lv_aload_n hx hb dX_start_0 rfl (lv_at hl 0 rfl) ?_
  refine lv_iload_n hx hb dX_start_1 rfl (lv_at hl 1 rfl) ?_
  refine lv_ldc hx hb X.2.2.2.1 (X.2.2.2.2 _ hkX_41) dX_start_2 ?_
  refine lv_iand hx hb dX_start_4 ?_
  refine xp_pc X hK (x_D hne) hI dX_start_5 (fun H locs hI => ?_)
  refine lv_aload_n hx hb dX_start_8 rfl (lv_at hl 0 rfl) ?_
  refine lv_iload_n hx hb dX_start_9 rfl (lv_at hl 2 rfl) ?_
  obtain ⟨hd10, hfin⟩ := ck_if hfin
  refine xp_user X hK (x_D hne) hI (Classical.not_not.mp hd10) dX_start_10 (fun H locs hI => ?_)
  refine lv_aload_n hx hb dX_start_13 rfl (lv_at hl 0 rfl) ?_
  refine lv_iconst (v := (0 : Int32)) hx hb dX_start_14 (by decide) ?_
  refine xp_stopped X hK (x_D hne) hI (Or.inl rfl) dX_start_15 (fun H locs hI => ?_)
  refine lv_aload_n hx hb dX_start_18 rfl (lv_at hl 0 rfl) ?_
  refine lv_iconst (v := (0 : Int32)) hx hb dX_start_19 (by decide) ?_
  refine xp_overflow X hK (x_D hne) hI (Or.inl rfl) dX_start_20 (fun H locs hI => ?_)
  exact g_vret X hr hlk hK hI hfin dX_start_23
set_option maxHeartbeats 4000000 in
set_option maxRecDepth 100000 in
theorem ctx_placeOf (l : Launch) (D : va_G) (cA : ClassId) (o q : Nat) (u : XS) (a0 : Int32) : gRi l yX_placeOf wX_placeOf (rmF 0 0) D [(cA, .long)] (XW cA o q) [.ref o, .int a0] u (x_placeOf u a0) := by
  obtain ⟨z, hz⟩ : ∃ z, z = x_placeOf u a0 := ⟨_, rfl⟩
  rw [← hz]
  have hfin := hz.symm
  clear hz
  refine g_start (plainFor_of_name (by decide)) (Nat.le_of_ble_eq_true rfl) ?_
  intro p e s0 m args below meth c ls X hr hlk hB hl
  obtain ⟨hP0, hK⟩ := hB
  have hl : lv_has ls 3 [(0, .ref o), (1, .int a0)] := hl
  have hx := X.1
  have hb := X.2.1
  rw [x_placeOf] at hfin
  refine lv_aload_n hx hb dX_placeOf_0 rfl (lv_at hl 0 rfl) ?_
  refine xg_user X hK hP0 dX_placeOf_1 ?_
  refine lv_if_eq (tgt := 13) hx hb dX_placeOf_4 (by decide) (fun hc4 => ?_) (fun hc4 => ?_)
  · rw [if_pos hc4] at hfin
    refine lv_iload_n hx hb dX_placeOf_13 rfl (lv_at hl 1 rfl) ?_
    exact g_iretP X hr hlk hfin dX_placeOf_14
  rw [if_neg hc4] at hfin
  refine lv_iload_n hx hb dX_placeOf_7 rfl (lv_at hl 1 rfl) ?_
  refine lv_bipush (v := (16 : Int32)) hx hb dX_placeOf_8 (by decide) ?_
  refine lv_icmp_ge (tgt := 15) hx hb dX_placeOf_10 (by decide) (fun hc10 => ?_) (fun hc10 => ?_)
  · rw [if_pos hc10] at hfin
    refine lv_iload_n hx hb dX_placeOf_15 rfl (lv_at hl 1 rfl) ?_
    refine lv_aload_n hx hb dX_placeOf_16 rfl (lv_at hl 0 rfl) ?_
    refine xg_lowBound X hK hP0 dX_placeOf_17 ?_
    refine lv_icmp_ge (tgt := 30) hx hb dX_placeOf_20 (by decide) (fun hc20 => ?_) (fun hc20 => ?_)
    · rw [if_pos hc20] at hfin
      refine lv_iload_n hx hb dX_placeOf_30 rfl (lv_at hl 1 rfl) ?_
      refine lv_ldc hx hb X.2.2.2.1 (X.2.2.2.2 _ hkX_110) dX_placeOf_31 ?_
      refine lv_isub hx hb dX_placeOf_33 ?_
      refine lv_topi (fun x34 e34 => ?_)
      replace hfin := nm_at hfin e34
      refine lv_istore_n (lv' := [(2, .int x34), (0, .ref o), (1, .int a0)]) hx hb dX_placeOf_34 rfl hl (by decide) rfl (fun ls hl => ?_)
      refine lv_iload_n hx hb dX_placeOf_35 rfl (lv_at hl 0 rfl) ?_
      refine lv_if_lt (tgt := 56) hx hb dX_placeOf_36 (by decide) (fun hc36 => ?_) (fun hc36 => ?_)
      · rw [if_pos hc36] at hfin
        refine lv_iconst (v := (-1 : Int32)) hx hb dX_placeOf_56 (by decide) ?_
        exact g_iretP X hr hlk hfin dX_placeOf_57
      rw [if_neg hc36] at hfin
      refine lv_iload_n hx hb dX_placeOf_39 rfl (lv_at hl 0 rfl) ?_
      refine lv_aload_n hx hb dX_placeOf_40 rfl (lv_at hl 1 rfl) ?_
      refine xg_highBound X hK hP0 dX_placeOf_41 ?_
      refine lv_icmp_ge (tgt := 56) hx hb dX_placeOf_44 (by decide) (fun hc44 => ?_) (fun hc44 => ?_)
      · rw [if_pos hc44] at hfin
        refine lv_iconst (v := (-1 : Int32)) hx hb dX_placeOf_56 (by decide) ?_
        exact g_iretP X hr hlk hfin dX_placeOf_57
      rw [if_neg hc44] at hfin
      refine lv_iload_n hx hb dX_placeOf_47 rfl (lv_at hl 0 rfl) ?_
      refine lv_aload_n hx hb dX_placeOf_48 rfl (lv_at hl 1 rfl) ?_
      refine xg_highBase X hK hP0 dX_placeOf_49 ?_
      refine lv_iadd hx hb dX_placeOf_52 ?_
      refine lv_goto (tgt := 57) hx hb dX_placeOf_53 (by decide) ?_
      exact g_iretP X hr hlk hfin dX_placeOf_57
    rw [if_neg hc20] at hfin
    refine lv_iload_n hx hb dX_placeOf_23 rfl (lv_at hl 1 rfl) ?_
    refine lv_aload_n hx hb dX_placeOf_24 rfl (lv_at hl 0 rfl) ?_
    refine xg_lowBase X hK hP0 dX_placeOf_25 ?_
    refine lv_iadd hx hb dX_placeOf_28 ?_
    exact g_iretP X hr hlk hfin dX_placeOf_29
  rw [if_neg hc10] at hfin
  refine lv_iload_n hx hb dX_placeOf_13 rfl (lv_at hl 1 rfl) ?_
  exact g_iretP X hr hlk hfin dX_placeOf_14
set_option maxHeartbeats 4000000 in
set_option maxRecDepth 100000 in
theorem ctx_raise (l : Launch) (D : va_G) (cA : ClassId) (o q : Nat) (hne : va_nd [o, q] = true) (u : XS) (a0 : Int32) (z : XS) (hfin : x_raise u a0 = some z) : gMv l yX_raise wX_raise (rmF 0 0) D [(cA, .long)] (XW cA o q) (XA o q) [.ref o, .int a0] u z := by
  refine g_start (plainFor_of_name (by decide)) (Nat.le_of_ble_eq_true rfl) ?_
  intro p e s0 m args below meth c ls X hr hlk hB hl
  obtain ⟨hP0, hK⟩ := hB
  have hI : gI D (XW cA o q) (XA o q) s0.heap s0.heap [] u := ⟨hP0, va_S.rf⟩
  have hl : lv_has ls 2 [(0, .ref o), (1, .int a0)] := hl
  have hx := X.1
  have hb := X.2.1
  rw [x_raise] at hfin
  refine lv_aload_n hx hb dX_raise_0 rfl (lv_at hl 0 rfl) ?_
  refine xg_trap X hK hI.1 dX_raise_1 ?_
  refine lv_if_ne (tgt := 12) hx hb dX_raise_4 (by decide) (fun hc4 => ?_) (fun hc4 => ?_)
  · rw [if_neg hc4] at hfin
    exact g_vret X hr hlk hK hI hfin dX_raise_12
  rw [if_pos hc4] at hfin
  refine lv_aload_n hx hb dX_raise_7 rfl (lv_at hl 0 rfl) ?_
  refine lv_iload_n hx hb dX_raise_8 rfl (lv_at hl 1 rfl) ?_
  refine xp_trap X hK (x_D hne) hI dX_raise_9 (fun H locs hI => ?_)
  exact g_vret X hr hlk hK hI hfin dX_raise_12
set_option maxHeartbeats 4000000 in
set_option maxRecDepth 100000 in
theorem ctx_read (l : Launch) (D : va_G) (cA : ClassId) (o q : Nat) (hne : va_nd [o, q] = true) (u : XS) (a0 : Int32) (z : Int64 × XS) (hfin : x_read u a0 = some z) : gMl l yX_read wX_read (rmF 1 22) D [(cA, .long)] (XW cA o q) (XA o q) [.ref o, .int a0] u z := by
  refine g_start (plainFor_of_name (by decide)) (Nat.le_of_ble_eq_true rfl) ?_
  intro p e s0 m args below meth c ls X hr hlk hB hl
  obtain ⟨hP0, hK⟩ := hB
  have hI : gI D (XW cA o q) (XA o q) s0.heap s0.heap [] u := ⟨hP0, va_S.rf⟩
  have hl : lv_has ls 3 [(0, .ref o), (1, .int a0)] := hl
  have hx := X.1
  have hb := X.2.1
  rw [x_read] at hfin
  refine lv_aload_n hx hb dX_read_0 rfl (lv_at hl 0 rfl) ?_
  refine lv_iload_n hx hb dX_read_1 rfl (lv_at hl 1 rfl) ?_
  refine g_callRi [.int a0] [] X hK x_rcv hI.1 (ctx_placeOf l D cA o q u a0) (cwX_X_placeOf X.2.2.2.2 ⟨Nat.le_of_ble_eq_true rfl, Nat.le_of_ble_eq_true rfl⟩) rfl hl.1 rfl (Nat.le_of_ble_eq_true rfl) dX_read_2 ?_
  refine lv_topi (fun x5 e5 => ?_)
  replace hfin := nm_at hfin e5
  refine lv_istore_n (lv' := [(2, .int x5), (0, .ref o), (1, .int a0)]) hx hb dX_read_5 rfl hl (by decide) rfl (fun ls hl => ?_)
  refine lv_iload_n hx hb dX_read_6 rfl (lv_at hl 0 rfl) ?_
  refine g_callPi [.int x5] [] X (ctx_isPlace l x5) (cwX_X_isPlace X.2.2.2.2 ⟨Nat.le_of_ble_eq_true rfl, Nat.le_of_ble_eq_true rfl⟩) rfl hl.1 rfl (Nat.le_of_ble_eq_true rfl) dX_read_7 ?_
  refine lv_if_ne (tgt := 20) hx hb dX_read_10 (by decide) (fun hc10 => ?_) (fun hc10 => ?_)
  · rw [if_neg hc10] at hfin
    refine lv_aload_n hx hb dX_read_20 rfl (lv_at hl 1 rfl) ?_
    refine xg_words X hK hI.1 dX_read_21 ?_
    refine lv_iload_n hx hb dX_read_24 rfl (lv_at hl 0 rfl) ?_
    obtain ⟨hd25, hfin⟩ := ck_if hfin
    refine xl_words X hK hI.1 hd25 dX_read_25 ?_
    exact g_lret X hr hlk hK hI hfin dX_read_26
  rw [if_pos hc10] at hfin
  refine lv_aload_n hx hb dX_read_13 rfl (lv_at hl 1 rfl) ?_
  refine lv_iconst (v := (1 : Int32)) hx hb dX_read_14 (by decide) ?_
  obtain ⟨z15, hz15, hfin⟩ := bd_ob hfin
  refine g_callMv [.int (1 : Int32)] [] X hK x_rcv hI (ctx_raise l D cA o q hne u (1 : Int32) z15 hz15) (cwX_X_raise X.2.2.2.2 ⟨Nat.le_of_ble_eq_true rfl, Nat.le_of_ble_eq_true rfl⟩) rfl hl.1 rfl (Nat.le_of_ble_eq_true rfl) dX_read_15 (fun H locs hI => ?_)
  refine lv_lconst (v := (0 : Int64)) hx hb dX_read_18 (by decide) ?_
  exact g_lret X hr hlk hK hI hfin dX_read_19
set_option maxHeartbeats 4000000 in
set_option maxRecDepth 100000 in
theorem ctx_wrapped (l : Launch) (a0 : Int32) : gPi l yX_wrapped wX_wrapped (rmF 0 0) [.int a0] (x_wrapped a0) := by
  obtain ⟨z, hz⟩ : ∃ z, z = x_wrapped a0 := ⟨_, rfl⟩
  rw [← hz]
  have hfin := hz.symm
  clear hz
  refine g_start (plainFor_of_name (by decide)) (Nat.le_of_ble_eq_true rfl) ?_
  intro p e s0 m args below meth c ls X hr hlk hB hl
  have hl : lv_has ls 1 [(0, .int a0)] := hl
  have hx := X.1
  have hb := X.2.1
  rw [x_wrapped] at hfin
  refine lv_iload_n hx hb dX_wrapped_0 rfl (lv_at hl 0 rfl) ?_
  refine lv_ldc hx hb X.2.2.2.1 (X.2.2.2.2 _ hkX_41) dX_wrapped_1 ?_
  refine lv_iand hx hb dX_wrapped_3 ?_
  exact g_iretP X hr hlk hfin dX_wrapped_4
set_option maxHeartbeats 4000000 in
set_option maxRecDepth 100000 in
theorem ctx_right (l : Launch) (a0 : Int64) : gPi l yX_right wX_right (rmF 0 0) [.long a0] (x_right a0) := by
  obtain ⟨z, hz⟩ : ∃ z, z = x_right a0 := ⟨_, rfl⟩
  rw [← hz]
  have hfin := hz.symm
  clear hz
  refine g_start (plainFor_of_name (by decide)) (Nat.le_of_ble_eq_true rfl) ?_
  intro p e s0 m args below meth c ls X hr hlk hB hl
  have hl : lv_has ls 2 [(0, .long a0)] := hl
  have hx := X.1
  have hb := X.2.1
  rw [x_right] at hfin
  refine lv_lload_n hx hb dX_right_0 rfl (lv_at hl 0 rfl) ?_
  refine lv_l2i hx hb dX_right_1 rfl ?_
  refine lv_ldc hx hb X.2.2.2.1 (X.2.2.2.2 _ hkX_41) dX_right_2 ?_
  refine lv_iand hx hb dX_right_4 ?_
  exact g_iretP X hr hlk hfin dX_right_5
set_option maxHeartbeats 4000000 in
set_option maxRecDepth 100000 in
theorem ctx_indexed (l : Launch) (D : va_G) (cA : ClassId) (o q : Nat) (hne : va_nd [o, q] = true) (u : XS) (a0 : Int64) (z : Int32 × XS) (hfin : x_indexed u a0 = some z) : gMi l yX_indexed wX_indexed (rmF 1 21) D [(cA, .long)] (XW cA o q) (XA o q) [.ref o, .long a0] u z := by
  refine g_start (plainFor_of_name (by decide)) (Nat.le_of_ble_eq_true rfl) ?_
  intro p e s0 m args below meth c ls X hr hlk hB hl
  obtain ⟨hP0, hK⟩ := hB
  have hI : gI D (XW cA o q) (XA o q) s0.heap s0.heap [] u := ⟨hP0, va_S.rf⟩
  have hl : lv_has ls 5 [(0, .ref o), (1, .long a0)] := hl
  have hx := X.1
  have hb := X.2.1
  rw [x_indexed] at hfin
  refine lv_lload_n hx hb dX_indexed_0 rfl (lv_at hl 1 rfl) ?_
  refine lv_bipush (v := (18 : Int32)) hx hb dX_indexed_1 (by decide) ?_
  refine lv_lushr hx hb dX_indexed_3 rfl ?_
  refine lv_l2i hx hb dX_indexed_4 rfl ?_
  refine lv_bipush (v := (15 : Int32)) hx hb dX_indexed_5 (by decide) ?_
  refine lv_iand hx hb dX_indexed_7 ?_
  refine lv_topi (fun x8 e8 => ?_)
  replace hfin := nm_at hfin e8
  refine lv_istore_n (lv' := [(3, .int x8), (0, .ref o), (1, .long a0)]) hx hb dX_indexed_8 rfl hl (by decide) rfl (fun ls hl => ?_)
  refine lv_lload_n hx hb dX_indexed_9 rfl (lv_at hl 2 rfl) ?_
  refine g_callPi [.long a0] [] X (ctx_right l a0) (cwX_X_right X.2.2.2.2 ⟨Nat.le_of_ble_eq_true rfl, Nat.le_of_ble_eq_true rfl⟩) rfl hl.1 rfl (Nat.le_of_ble_eq_true rfl) dX_indexed_10 ?_
  refine lv_topi (fun x13 e13 => ?_)
  replace hfin := nm_at hfin e13
  refine lv_istore (lv' := [(4, .int x13), (3, .int x8), (0, .ref o), (1, .long a0)]) hx hb dX_indexed_13 hl (by decide) rfl (fun ls hl => ?_)
  refine lv_iload_n hx hb dX_indexed_15 rfl (lv_at hl 1 rfl) ?_
  refine lv_if_ne (tgt := 24) hx hb dX_indexed_16 (by decide) (fun hc16 => ?_) (fun hc16 => ?_)
  · rw [if_neg hc16] at hfin
    refine lv_iload hx hb dX_indexed_24 (lv_at hl 0 rfl) ?_
    refine lv_aload_n hx hb dX_indexed_26 rfl (lv_at hl 2 rfl) ?_
    refine xg_words X hK hI.1 dX_indexed_27 ?_
    refine lv_iload_n hx hb dX_indexed_30 rfl (lv_at hl 1 rfl) ?_
    obtain ⟨hd31, hfin⟩ := ck_if hfin
    refine xl_words X hK hI.1 hd31 dX_indexed_31 ?_
    refine g_callPi [.long (X_words u x8.toNatClampNeg)] [.int x13] X (ctx_right l (X_words u x8.toNatClampNeg)) (cwX_X_right X.2.2.2.2 ⟨Nat.le_of_ble_eq_true rfl, Nat.le_of_ble_eq_true rfl⟩) rfl hl.1 rfl (Nat.le_of_ble_eq_true rfl) dX_indexed_32 ?_
    refine lv_iadd hx hb dX_indexed_35 ?_
    refine g_callPi [.int (x13 + (x_right (X_words u x8.toNatClampNeg)))] [] X (ctx_wrapped l (x13 + (x_right (X_words u x8.toNatClampNeg)))) (cwX_X_wrapped X.2.2.2.2 ⟨Nat.le_of_ble_eq_true rfl, Nat.le_of_ble_eq_true rfl⟩) rfl hl.1 rfl (Nat.le_of_ble_eq_true rfl) dX_indexed_36 ?_
    exact g_iret X hr hlk hK hI hfin dX_indexed_39
  rw [if_pos hc16] at hfin
  refine lv_iload hx hb dX_indexed_19 (lv_at hl 0 rfl) ?_
  refine lv_goto (tgt := 39) hx hb dX_indexed_21 (by decide) ?_
  exact g_iret X hr hlk hK hI hfin dX_indexed_39
set_option maxHeartbeats 4000000 in
set_option maxRecDepth 100000 in
theorem ctx_isIndirect (l : Launch) (a0 : Int64) : gPi l yX_isIndirect wX_isIndirect (rmF 0 0) [.long a0] (x_isIndirect a0) := by
  obtain ⟨z, hz⟩ : ∃ z, z = x_isIndirect a0 := ⟨_, rfl⟩
  rw [← hz]
  have hfin := hz.symm
  clear hz
  refine g_start (plainFor_of_name (by decide)) (Nat.le_of_ble_eq_true rfl) ?_
  intro p e s0 m args below meth c ls X hr hlk hB hl
  have hl : lv_has ls 2 [(0, .long a0)] := hl
  have hx := X.1
  have hb := X.2.1
  rw [x_isIndirect] at hfin
  refine lv_lload_n hx hb dX_isIndirect_0 rfl (lv_at hl 0 rfl) ?_
  refine lv_bipush (v := (22 : Int32)) hx hb dX_isIndirect_1 (by decide) ?_
  refine lv_lushr hx hb dX_isIndirect_3 rfl ?_
  refine lv_lconst (v := (1 : Int64)) hx hb dX_isIndirect_4 (by decide) ?_
  refine lv_land hx hb dX_isIndirect_5 ?_
  refine lv_lconst (v := (0 : Int64)) hx hb dX_isIndirect_6 (by decide) ?_
  refine W.lcmp hx hb dX_isIndirect_7 ?_
  refine lv_if_eq (tgt := 15) hx hb dX_isIndirect_8 (by decide) (fun hc8 => ?_) (fun hc8 => ?_)
  · rw [if_pos hc8] at hfin
    refine lv_iconst (v := (0 : Int32)) hx hb dX_isIndirect_15 (by decide) ?_
    exact g_zretP X hr hlk rfl hfin dX_isIndirect_16
  rw [if_neg hc8] at hfin
  refine lv_iconst (v := (1 : Int32)) hx hb dX_isIndirect_11 (by decide) ?_
  refine lv_goto (tgt := 16) hx hb dX_isIndirect_12 (by decide) ?_
  exact g_zretP X hr hlk rfl hfin dX_isIndirect_16
set_option maxHeartbeats 4000000 in
set_option maxRecDepth 100000 in
theorem ctx_take (l : Launch) (D : va_G) (cA : ClassId) (o q : Nat) (hne : va_nd [o, q] = true) (u : XS) (a0 : Int32) (z : Int64 × XS) (hfin : x_take u a0 = some z) : gMl l yX_take wX_take (rmF 2 44) D [(cA, .long)] (XW cA o q) (XA o q) [.ref o, .int a0] u z := by
  refine g_start (plainFor_of_name (by decide)) (Nat.le_of_ble_eq_true rfl) ?_
  intro p e s0 m args below meth c ls X hr hlk hB hl
  obtain ⟨hP0, hK⟩ := hB
  have hI : gI D (XW cA o q) (XA o q) s0.heap s0.heap [] u := ⟨hP0, va_S.rf⟩
  have hl : lv_has ls 2 [(0, .ref o), (1, .int a0)] := hl
  have hx := X.1
  have hb := X.2.1
  rw [x_take] at hfin
  refine lv_aload_n hx hb dX_take_0 rfl (lv_at hl 0 rfl) ?_
  refine xg_taken X hK hI.1 dX_take_1 ?_
  refine lv_bipush (v := (8 : Int32)) hx hb dX_take_4 (by decide) ?_
  refine lv_icmp_ne (tgt := 16) hx hb dX_take_6 (by decide) (fun hc6 => ?_) (fun hc6 => ?_)
  · rw [if_neg hc6] at hfin
    refine lv_aload_n hx hb dX_take_16 rfl (lv_at hl 0 rfl) ?_
    refine lv_dup hx hb dX_take_17 rfl ?_
    refine xg_taken X hK hI.1 dX_take_18 ?_
    refine lv_iconst (v := (1 : Int32)) hx hb dX_take_21 (by decide) ?_
    refine lv_iadd hx hb dX_take_22 ?_
    refine xp_taken X hK (x_D hne) hI dX_take_23 (fun H locs hI => ?_)
    refine lv_aload_n hx hb dX_take_26 rfl (lv_at hl 0 rfl) ?_
    refine lv_iload_n hx hb dX_take_27 rfl (lv_at hl 1 rfl) ?_
    obtain ⟨z28, hz28, hfin⟩ := bd_ob hfin
    refine g_callMl [.int a0] [] X hK x_rcv hI (ctx_read l D cA o q hne (X_s_taken u ((X_taken u) + (1 : Int32))) a0 z28 hz28) (cwX_X_read X.2.2.2.2 ⟨Nat.le_of_ble_eq_true rfl, Nat.le_of_ble_eq_true rfl⟩) rfl hl.1 rfl (Nat.le_of_ble_eq_true rfl) dX_take_28 (fun H locs hI => ?_)
    exact g_lret X hr hlk hK hI hfin dX_take_31
  rw [if_pos hc6] at hfin
  refine lv_aload_n hx hb dX_take_9 rfl (lv_at hl 0 rfl) ?_
  refine lv_iconst (v := (4 : Int32)) hx hb dX_take_10 (by decide) ?_
  obtain ⟨z11, hz11, hfin⟩ := bd_ob hfin
  refine g_callMv [.int (4 : Int32)] [] X hK x_rcv hI (ctx_raise l D cA o q hne u (4 : Int32) z11 hz11) (cwX_X_raise X.2.2.2.2 ⟨Nat.le_of_ble_eq_true rfl, Nat.le_of_ble_eq_true rfl⟩) rfl hl.1 rfl (Nat.le_of_ble_eq_true rfl) dX_take_11 (fun H locs hI => ?_)
  refine lv_lconst (v := (0 : Int64)) hx hb dX_take_14 (by decide) ?_
  exact g_lret X hr hlk hK hI hfin dX_take_15
