set_option maxHeartbeats 4000000 in
set_option maxRecDepth 100000 in
theorem ctm_deposit (l : Launch) (D : va_G) (cA cB : ClassId) (o q q1 q2 : Nat) (hne : va_nd [o, q, q1, q2] = true) (u : MS) (a0 : Int32) (a1 : Int64) (z : Int32 × MS) (hfin : m_deposit u a0 a1 = some z) : gMi l yM_deposit wM_deposit (rmF 0 0) D [(cA, .long), (cB, .int)] (MW cA cB o q q1 q2) (MA o q q1 q2) [.ref o, .int a0, .long a1] u z := by
  refine g_start (plainFor_of_name (by decide)) (Nat.le_of_ble_eq_true rfl) ?_
  intro p e s0 m args below meth c ls X hr hlk hB hl
  obtain ⟨hP0, hK⟩ := hB
  have hI : gI D (MW cA cB o q q1 q2) (MA o q q1 q2) s0.heap s0.heap [] u := ⟨hP0, va_S.rf⟩
  have hl : lv_has ls 4 [(0, .ref o), (1, .int a0), (2, .long a1)] := hl
  have hx := X.1
  have hb := X.2.1
  rw [m_deposit] at hfin
  refine lv_iload_n hx hb dM_deposit_0 rfl (lv_at hl 1 rfl) ?_
  refine lv_if_lt (tgt := 11) hx hb dM_deposit_1 (by decide) (fun hc1 => ?_) (fun hc1 => ?_)
  · rw [if_pos hc1] at hfin
    refine lv_iconst (v := (0 : Int32)) hx hb dM_deposit_11 (by decide) ?_
    exact g_zret X hr hlk rfl hK hI hfin dM_deposit_12
  rw [if_neg hc1] at hfin
  refine lv_iload_n hx hb dM_deposit_4 rfl (lv_at hl 1 rfl) ?_
  refine lv_sipush (v := (1023 : Int32)) hx hb dM_deposit_5 (by decide) ?_
  refine lv_icmp_le (tgt := 13) hx hb dM_deposit_8 (by decide) (fun hc8 => ?_) (fun hc8 => ?_)
  · rw [if_pos hc8] at hfin
    refine lv_aload_n hx hb dM_deposit_13 rfl (lv_at hl 0 rfl) ?_
    refine mg_store X hK hI.1 dM_deposit_14 ?_
    refine lv_iload_n hx hb dM_deposit_17 rfl (lv_at hl 1 rfl) ?_
    refine lv_lload_n hx hb dM_deposit_18 rfl (lv_at hl 2 rfl) ?_
    refine lv_ldc2 hx hb X.2.2.2.1 (X.2.2.2.2 _ hkM_22) dM_deposit_19 ?_
    refine lv_land hx hb dM_deposit_22 ?_
    obtain ⟨hd23, hfin⟩ := ck_if hfin
    refine ms_store X hK (m_D hne) hI hd23 dM_deposit_23 (fun H locs hI => ?_)
    refine lv_iconst (v := (1 : Int32)) hx hb dM_deposit_24 (by decide) ?_
    exact g_zret X hr hlk rfl hK hI hfin dM_deposit_25
  rw [if_neg hc8] at hfin
  refine lv_iconst (v := (0 : Int32)) hx hb dM_deposit_11 (by decide) ?_
  exact g_zret X hr hlk rfl hK hI hfin dM_deposit_12
set_option maxHeartbeats 4000000 in
set_option maxRecDepth 100000 in
theorem ctm_examine (l : Launch) (D : va_G) (cA cB : ClassId) (o q q1 q2 : Nat) (hne : va_nd [o, q, q1, q2] = true) (u : MS) (a0 : Int32) (z : Int64 × MS) (hfin : m_examine u a0 = some z) : gMl l yM_examine wM_examine (rmF 0 0) D [(cA, .long), (cB, .int)] (MW cA cB o q q1 q2) (MA o q q1 q2) [.ref o, .int a0] u z := by
  refine g_start (plainFor_of_name (by decide)) (Nat.le_of_ble_eq_true rfl) ?_
  intro p e s0 m args below meth c ls X hr hlk hB hl
  obtain ⟨hP0, hK⟩ := hB
  have hI : gI D (MW cA cB o q q1 q2) (MA o q q1 q2) s0.heap s0.heap [] u := ⟨hP0, va_S.rf⟩
  have hl : lv_has ls 2 [(0, .ref o), (1, .int a0)] := hl
  have hx := X.1
  have hb := X.2.1
  rw [m_examine] at hfin
  refine lv_iload_n hx hb dM_examine_0 rfl (lv_at hl 1 rfl) ?_
  refine lv_if_lt (tgt := 11) hx hb dM_examine_1 (by decide) (fun hc1 => ?_) (fun hc1 => ?_)
  · rw [if_pos hc1] at hfin
    refine lv_ldc2 hx hb X.2.2.2.1 (X.2.2.2.2 _ hkM_150) dM_examine_11 ?_
    refine lv_goto (tgt := 23) hx hb dM_examine_14 (by decide) ?_
    exact g_lret X hr hlk hK hI hfin dM_examine_23
  rw [if_neg hc1] at hfin
  refine lv_iload_n hx hb dM_examine_4 rfl (lv_at hl 1 rfl) ?_
  refine lv_sipush (v := (1023 : Int32)) hx hb dM_examine_5 (by decide) ?_
  refine lv_icmp_le (tgt := 17) hx hb dM_examine_8 (by decide) (fun hc8 => ?_) (fun hc8 => ?_)
  · rw [if_pos hc8] at hfin
    refine lv_aload_n hx hb dM_examine_17 rfl (lv_at hl 0 rfl) ?_
    refine mg_store X hK hI.1 dM_examine_18 ?_
    refine lv_iload_n hx hb dM_examine_21 rfl (lv_at hl 1 rfl) ?_
    obtain ⟨hd22, hfin⟩ := ck_if hfin
    refine ml_store X hK hI.1 hd22 dM_examine_22 ?_
    exact g_lret X hr hlk hK hI hfin dM_examine_23
  rw [if_neg hc8] at hfin
  refine lv_ldc2 hx hb X.2.2.2.1 (X.2.2.2.2 _ hkM_150) dM_examine_11 ?_
  refine lv_goto (tgt := 23) hx hb dM_examine_14 (by decide) ?_
  exact g_lret X hr hlk hK hI hfin dM_examine_23
set_option maxHeartbeats 4000000 in
set_option maxRecDepth 100000 in
theorem ctm_number (l : Launch) (D : va_G) (cA cB : ClassId) (o q q1 q2 : Nat) (hne : va_nd [o, q, q1, q2] = true) (u : MS) (a0 : Int32) (z : Int64 × MS) (hfin : m_number u a0 = some z) : gMl l yM_number wM_number (rmF 1 21) D [(cA, .long), (cB, .int)] (MW cA cB o q q1 q2) (MA o q q1 q2) [.ref o, .int a0] u z := by
  refine g_start (plainFor_of_name (by decide)) (Nat.le_of_ble_eq_true rfl) ?_
  intro p e s0 m args below meth c ls X hr hlk hB hl
  obtain ⟨hP0, hK⟩ := hB
  have hI : gI D (MW cA cB o q q1 q2) (MA o q q1 q2) s0.heap s0.heap [] u := ⟨hP0, va_S.rf⟩
  have hl : lv_has ls 2 [(0, .ref o), (1, .int a0)] := hl
  have hx := X.1
  have hb := X.2.1
  rw [m_number] at hfin
  refine lv_iload_n hx hb dM_number_0 rfl (lv_at hl 1 rfl) ?_
  refine lv_if_lt (tgt := 11) hx hb dM_number_1 (by decide) (fun hc1 => ?_) (fun hc1 => ?_)
  · rw [if_pos hc1] at hfin
    refine lv_lconst (v := (0 : Int64)) hx hb dM_number_11 (by decide) ?_
    refine lv_goto (tgt := 24) hx hb dM_number_12 (by decide) ?_
    exact g_lret X hr hlk hK hI hfin dM_number_24
  rw [if_neg hc1] at hfin
  refine lv_iload_n hx hb dM_number_4 rfl (lv_at hl 1 rfl) ?_
  refine lv_sipush (v := (1023 : Int32)) hx hb dM_number_5 (by decide) ?_
  refine lv_icmp_le (tgt := 15) hx hb dM_number_8 (by decide) (fun hc8 => ?_) (fun hc8 => ?_)
  · rw [if_pos hc8] at hfin
    refine lv_aload_n hx hb dM_number_15 rfl (lv_at hl 0 rfl) ?_
    refine mg_store X hK hI.1 dM_number_16 ?_
    refine lv_iload_n hx hb dM_number_19 rfl (lv_at hl 1 rfl) ?_
    obtain ⟨hd20, hfin⟩ := ck_if hfin
    refine ml_store X hK hI.1 hd20 dM_number_20 ?_
    refine g_callPl [.long (M_store u a0.toNatClampNeg)] [] X (ctm_num l (M_store u a0.toNatClampNeg)) (cwM_M_num X.2.2.2.2 ⟨Nat.le_of_ble_eq_true rfl, Nat.le_of_ble_eq_true rfl⟩) rfl hl.1 rfl (Nat.le_of_ble_eq_true rfl) dM_number_21 ?_
    exact g_lret X hr hlk hK hI hfin dM_number_24
  rw [if_neg hc8] at hfin
  refine lv_lconst (v := (0 : Int64)) hx hb dM_number_11 (by decide) ?_
  refine lv_goto (tgt := 24) hx hb dM_number_12 (by decide) ?_
  exact g_lret X hr hlk hK hI hfin dM_number_24
set_option maxHeartbeats 4000000 in
set_option maxRecDepth 100000 in
theorem ctm_segment (l : Launch) (D : va_G) (cA cB : ClassId) (o q q1 q2 : Nat) (hne : va_nd [o, q, q1, q2] = true) (u : MS) (a0 : Int32) (a1 : Int32) (a2 : Int32) (z : Int32 × MS) (hfin : m_segment u a0 a1 a2 = some z) : gMi l yM_segment wM_segment (rmF 0 0) D [(cA, .long), (cB, .int)] (MW cA cB o q q1 q2) (MA o q q1 q2) [.ref o, .int a0, .int a1, .int a2] u z := by
  refine g_start (plainFor_of_name (by decide)) (Nat.le_of_ble_eq_true rfl) ?_
  intro p e s0 m args below meth c ls X hr hlk hB hl
  obtain ⟨hP0, hK⟩ := hB
  have hI : gI D (MW cA cB o q q1 q2) (MA o q q1 q2) s0.heap s0.heap [] u := ⟨hP0, va_S.rf⟩
  have hl : lv_has ls 4 [(0, .ref o), (1, .int a0), (2, .int a1), (3, .int a2)] := hl
  have hx := X.1
  have hb := X.2.1
  rw [m_segment] at hfin
  refine lv_iload_n hx hb dM_segment_0 rfl (lv_at hl 1 rfl) ?_
  refine lv_if_lt (tgt := 31) hx hb dM_segment_1 (by decide) (fun hc1 => ?_) (fun hc1 => ?_)
  · rw [if_pos hc1] at hfin
    refine lv_iconst (v := (0 : Int32)) hx hb dM_segment_31 (by decide) ?_
    exact g_zret X hr hlk rfl hK hI hfin dM_segment_32
  rw [if_neg hc1] at hfin
  refine lv_iload_n hx hb dM_segment_4 rfl (lv_at hl 1 rfl) ?_
  refine lv_iconst (v := (1 : Int32)) hx hb dM_segment_5 (by decide) ?_
  refine lv_icmp_gt (tgt := 31) hx hb dM_segment_6 (by decide) (fun hc6 => ?_) (fun hc6 => ?_)
  · rw [if_pos hc6] at hfin
    refine lv_iconst (v := (0 : Int32)) hx hb dM_segment_31 (by decide) ?_
    exact g_zret X hr hlk rfl hK hI hfin dM_segment_32
  rw [if_neg hc6] at hfin
  refine lv_iload_n hx hb dM_segment_9 rfl (lv_at hl 2 rfl) ?_
  refine lv_if_lt (tgt := 31) hx hb dM_segment_10 (by decide) (fun hc10 => ?_) (fun hc10 => ?_)
  · rw [if_pos hc10] at hfin
    refine lv_iconst (v := (0 : Int32)) hx hb dM_segment_31 (by decide) ?_
    exact g_zret X hr hlk rfl hK hI hfin dM_segment_32
  rw [if_neg hc10] at hfin
  refine lv_iload_n hx hb dM_segment_13 rfl (lv_at hl 2 rfl) ?_
  refine lv_sipush (v := (1024 : Int32)) hx hb dM_segment_14 (by decide) ?_
  refine lv_icmp_gt (tgt := 31) hx hb dM_segment_17 (by decide) (fun hc17 => ?_) (fun hc17 => ?_)
  · rw [if_pos hc17] at hfin
    refine lv_iconst (v := (0 : Int32)) hx hb dM_segment_31 (by decide) ?_
    exact g_zret X hr hlk rfl hK hI hfin dM_segment_32
  rw [if_neg hc17] at hfin
  refine lv_iload_n hx hb dM_segment_20 rfl (lv_at hl 3 rfl) ?_
  refine lv_if_lt (tgt := 31) hx hb dM_segment_21 (by decide) (fun hc21 => ?_) (fun hc21 => ?_)
  · rw [if_pos hc21] at hfin
    refine lv_iconst (v := (0 : Int32)) hx hb dM_segment_31 (by decide) ?_
    exact g_zret X hr hlk rfl hK hI hfin dM_segment_32
  rw [if_neg hc21] at hfin
  refine lv_iload_n hx hb dM_segment_24 rfl (lv_at hl 3 rfl) ?_
  refine lv_sipush (v := (1024 : Int32)) hx hb dM_segment_25 (by decide) ?_
  refine lv_icmp_le (tgt := 33) hx hb dM_segment_28 (by decide) (fun hc28 => ?_) (fun hc28 => ?_)
  · rw [if_pos hc28] at hfin
    refine lv_aload_n hx hb dM_segment_33 rfl (lv_at hl 0 rfl) ?_
    refine mg_base X hK hI.1 dM_segment_34 ?_
    refine lv_iload_n hx hb dM_segment_37 rfl (lv_at hl 1 rfl) ?_
    refine lv_iload_n hx hb dM_segment_38 rfl (lv_at hl 2 rfl) ?_
    obtain ⟨hd39, hfin⟩ := ck_if hfin
    refine ms_base X hK (m_D hne) hI hd39 dM_segment_39 (fun H locs hI => ?_)
    refine lv_aload_n hx hb dM_segment_40 rfl (lv_at hl 0 rfl) ?_
    refine mg_bound X hK hI.1 dM_segment_41 ?_
    refine lv_iload_n hx hb dM_segment_44 rfl (lv_at hl 1 rfl) ?_
    refine lv_iload_n hx hb dM_segment_45 rfl (lv_at hl 3 rfl) ?_
    obtain ⟨hd46, hfin⟩ := ck_if hfin
    refine ms_bound X hK (m_D hne) hI hd46 dM_segment_46 (fun H locs hI => ?_)
    refine lv_iconst (v := (1 : Int32)) hx hb dM_segment_47 (by decide) ?_
    exact g_zret X hr hlk rfl hK hI hfin dM_segment_48
  rw [if_neg hc28] at hfin
  refine lv_iconst (v := (0 : Int32)) hx hb dM_segment_31 (by decide) ?_
  exact g_zret X hr hlk rfl hK hI hfin dM_segment_32
set_option maxHeartbeats 4000000 in
set_option maxRecDepth 100000 in
theorem ctm_start (l : Launch) (D : va_G) (cA cB : ClassId) (o q q1 q2 : Nat) (hne : va_nd [o, q, q1, q2] = true) (u : MS) (a0 : Int32) (a1 : Int32) (z : MS) (hfin : m_start u a0 a1 = some z) : gMv l yM_start wM_start (rmF 0 0) D [(cA, .long), (cB, .int)] (MW cA cB o q q1 q2) (MA o q q1 q2) [.ref o, .int a0, .int a1] u z := by
  refine g_start (plainFor_of_name (by decide)) (Nat.le_of_ble_eq_true rfl) ?_
  intro p e s0 m args below meth c ls X hr hlk hB hl
  obtain ⟨hP0, hK⟩ := hB
  have hI : gI D (MW cA cB o q q1 q2) (MA o q q1 q2) s0.heap s0.heap [] u := ⟨hP0, va_S.rf⟩
  have hl : lv_has ls 3 [(0, .ref o), (1, .int a0), (2, .int a1)] := hl
  have hx := X.1
  have hb := X.2.1
  rw [m_start] at hfin
  refine lv_aload_n hx hb dM_start_0 rfl (lv_at hl 0 rfl) ?_
  refine lv_iload_n hx hb dM_start_1 rfl (lv_at hl 1 rfl) ?_
  refine lv_ldc hx hb X.2.2.2.1 (X.2.2.2.2 _ hkM_26) dM_start_2 ?_
  refine lv_iand hx hb dM_start_4 ?_
  refine mp_pc X hK (m_D hne) hI dM_start_5 (fun H locs hI => ?_)
  refine lv_aload_n hx hb dM_start_8 rfl (lv_at hl 0 rfl) ?_
  refine lv_iload_n hx hb dM_start_9 rfl (lv_at hl 2 rfl) ?_
  obtain ⟨hd10, hfin⟩ := ck_if hfin
  refine mp_user X hK (m_D hne) hI (Classical.not_not.mp hd10) dM_start_10 (fun H locs hI => ?_)
  refine lv_aload_n hx hb dM_start_13 rfl (lv_at hl 0 rfl) ?_
  refine lv_iconst (v := (0 : Int32)) hx hb dM_start_14 (by decide) ?_
  refine mp_stopped X hK (m_D hne) hI (Or.inl rfl) dM_start_15 (fun H locs hI => ?_)
  refine lv_aload_n hx hb dM_start_18 rfl (lv_at hl 0 rfl) ?_
  refine lv_iconst (v := (0 : Int32)) hx hb dM_start_19 (by decide) ?_
  refine mp_overflow X hK (m_D hne) hI (Or.inl rfl) dM_start_20 (fun H locs hI => ?_)
  exact g_vret X hr hlk hK hI hfin dM_start_23
set_option maxHeartbeats 4000000 in
set_option maxRecDepth 100000 in
theorem ctm_run (l : Launch) (D : va_G) (cA cB : ClassId) (o q q1 q2 : Nat) (hne : va_nd [o, q, q1, q2] = true) (u : MS) (a0 : Int32) (z : Int32 × MS) (hfin : m_run u a0 = some z) : gMi l yM_run wM_run (rmF 8 220) D [(cA, .long), (cB, .int)] (MW cA cB o q q1 q2) (MA o q q1 q2) [.ref o, .int a0] u z := by
  refine g_start (plainFor_of_name (by decide)) (Nat.le_of_ble_eq_true rfl) ?_
  intro p e s0 m args below meth c ls X hr hlk hB hl
  obtain ⟨hP0, hK⟩ := hB
  have hI : gI D (MW cA cB o q q1 q2) (MA o q q1 q2) s0.heap s0.heap [] u := ⟨hP0, va_S.rf⟩
  have hl : lv_has ls 3 [(0, .ref o), (1, .int a0)] := hl
  have hx := X.1
  have hb := X.2.1
  have B_15 : ∀ (k : Nat) (u : MS) (v2 : Int32) (H : Heap) (locs : List Loc) (ls : Array Slot), lv_has ls 3 [(0, .ref o), (1, .int a0), (2, .int v2)] → gI D (MW cA cB o q q1 q2) (MA o q q1 q2) s0.heap H locs u → m_run_15 a0 k u v2 = some z → W p l e (rmF 8 220) s0 m args below meth c H locs 0 0 (MQ below (va_Qi (fun r x => (r, x) = z) (gB D [(cA, .long), (cB, .int)] (MW cA cB o q q1 q2)) (MA o q q1 q2)) args s0 0 0 (MA o q q1 q2)) (F0 m 15 ls []) := by
    intro k
    induction k with
    | zero =>
      intro u v2 H locs ls hl hI hfin
      rw [m_run_15] at hfin
      cases hfin
    | succ k IH =>
      intro u v2 H locs ls hl hI hfin
      rw [m_run_15] at hfin
      refine lv_iload_n hx hb dM_run_15 rfl (lv_at hl 2 rfl) ?_
      refine lv_iload_n hx hb dM_run_16 rfl (lv_at hl 1 rfl) ?_
      refine lv_icmp_ge (tgt := 37) hx hb dM_run_17 (by decide) (fun hc17 => ?_) (fun hc17 => ?_)
      · rw [if_pos hc17] at hfin
        refine lv_iload_n hx hb dM_run_37 rfl (lv_at hl 2 rfl) ?_
        exact g_iret X hr hlk hK hI hfin dM_run_38
      rw [if_neg hc17] at hfin
      refine lv_aload_n hx hb dM_run_20 rfl (lv_at hl 0 rfl) ?_
      refine mg_stopped X hK hI.1 dM_run_21 ?_
      refine lv_if_ne (tgt := 37) hx hb dM_run_24 (by decide) (fun hc24 => ?_) (fun hc24 => ?_)
      · rw [if_neg hc24] at hfin
        refine lv_iload_n hx hb dM_run_37 rfl (lv_at hl 2 rfl) ?_
        exact g_iret X hr hlk hK hI hfin dM_run_38
      rw [if_pos hc24] at hfin
      refine lv_aload_n hx hb dM_run_27 rfl (lv_at hl 0 rfl) ?_
      obtain ⟨z28, hz28, hfin⟩ := bd_ob hfin
      refine g_callMv [] [] X hK m_rcv hI (ctm_makeStep l D cA cB o q q1 q2 hne u z28 hz28) (cwM_M_makeStep X.2.2.2.2 ⟨Nat.le_of_ble_eq_true rfl, Nat.le_of_ble_eq_true rfl⟩) rfl hl.1 rfl (Nat.le_of_ble_eq_true rfl) dM_run_28 (fun H locs hI => ?_)
      refine lv_iinc (lv' := [(2, .int (v2 + Int32.ofInt 1)), (0, .ref o), (1, .int a0)]) (k := 2) hx hb dM_run_31 hl rfl rfl (by decide) rfl (fun ls hl => ?_)
      refine lv_goto (tgt := 15) hx hb dM_run_34 (by decide) ?_
      exact IH z28 (v2 + Int32.ofInt 1) H locs ls (lv_sub hl [1, 2, 0] rfl) hI hfin
  rw [m_run] at hfin
  refine lv_iload_n hx hb dM_run_0 rfl (lv_at hl 1 rfl) ?_
  refine lv_iconst (v := (1 : Int32)) hx hb dM_run_1 (by decide) ?_
  refine lv_icmp_lt (tgt := 11) hx hb dM_run_2 (by decide) (fun hc2 => ?_) (fun hc2 => ?_)
  · rw [if_pos hc2] at hfin
    refine lv_iconst (v := (-1 : Int32)) hx hb dM_run_11 (by decide) ?_
    exact g_iret X hr hlk hK hI hfin dM_run_12
  rw [if_neg hc2] at hfin
  refine lv_iload_n hx hb dM_run_5 rfl (lv_at hl 1 rfl) ?_
  refine lv_bipush (v := (100 : Int32)) hx hb dM_run_6 (by decide) ?_
  refine lv_icmp_le (tgt := 13) hx hb dM_run_8 (by decide) (fun hc8 => ?_) (fun hc8 => ?_)
  · rw [if_pos hc8] at hfin
    refine lv_iconst (v := (0 : Int32)) hx hb dM_run_13 (by decide) ?_
    refine lv_istore_n (lv' := [(2, .int (0 : Int32)), (0, .ref o), (1, .int a0)]) hx hb dM_run_14 rfl hl (by decide) rfl (fun ls hl => ?_)
    exact B_15 101 u (0 : Int32) s0.heap [] ls (lv_sub hl [1, 2, 0] rfl) hI hfin
  rw [if_neg hc8] at hfin
  refine lv_iconst (v := (-1 : Int32)) hx hb dM_run_11 (by decide) ?_
  exact g_iret X hr hlk hK hI hfin dM_run_12
set_option maxHeartbeats 4000000 in
set_option maxRecDepth 100000 in
theorem ctm_look (l : Launch) (D : va_G) (cA cB : ClassId) (o q q1 q2 : Nat) (u : MS) (a0 : Int32) : gRi l yM_look wM_look (rmF 0 0) D [(cA, .long), (cB, .int)] (MW cA cB o q q1 q2) [.ref o, .int a0] u (m_look u a0) := by
  obtain ⟨z, hz⟩ : ∃ z, z = m_look u a0 := ⟨_, rfl⟩
  rw [← hz]
  have hfin := hz.symm
  clear hz
  refine g_start (plainFor_of_name (by decide)) (Nat.le_of_ble_eq_true rfl) ?_
  intro p e s0 m args below meth c ls X hr hlk hB hl
  obtain ⟨hP0, hK⟩ := hB
  have hl : lv_has ls 2 [(0, .ref o), (1, .int a0)] := hl
  have hx := X.1
  have hb := X.2.1
  rw [m_look] at hfin
  refine lv_iload_n hx hb dM_look_0 rfl (lv_at hl 1 rfl) ?_
  refine lv_iconst (v := (3 : Int32)) hx hb dM_look_1 (by decide) ?_
  refine lv_icmp_ge (tgt := 58) hx hb dM_look_2 (by decide) (fun hc2 => ?_) (fun hc2 => ?_)
  · rw [if_pos hc2] at hfin
    refine lv_iload_n hx hb dM_look_58 rfl (lv_at hl 1 rfl) ?_
    refine lv_iconst (v := (3 : Int32)) hx hb dM_look_59 (by decide) ?_
    refine lv_icmp_ne (tgt := 78) hx hb dM_look_60 (by decide) (fun hc60 => ?_) (fun hc60 => ?_)
    · rw [if_neg hc60] at hfin
      refine lv_iload_n hx hb dM_look_78 rfl (lv_at hl 1 rfl) ?_
      refine lv_iconst (v := (4 : Int32)) hx hb dM_look_79 (by decide) ?_
      refine lv_icmp_ne (tgt := 90) hx hb dM_look_80 (by decide) (fun hc80 => ?_) (fun hc80 => ?_)
      · rw [if_neg hc80] at hfin
        refine lv_iload_n hx hb dM_look_90 rfl (lv_at hl 1 rfl) ?_
        refine lv_iconst (v := (5 : Int32)) hx hb dM_look_91 (by decide) ?_
        refine lv_icmp_ne (tgt := 102) hx hb dM_look_92 (by decide) (fun hc92 => ?_) (fun hc92 => ?_)
        · rw [if_neg hc92] at hfin
          refine lv_iload_n hx hb dM_look_102 rfl (lv_at hl 1 rfl) ?_
          refine lv_bipush (v := (6 : Int32)) hx hb dM_look_103 (by decide) ?_
          refine lv_icmp_ne (tgt := 115) hx hb dM_look_105 (by decide) (fun hc105 => ?_) (fun hc105 => ?_)
          · rw [if_neg hc105] at hfin
            refine lv_iconst (v := (-1 : Int32)) hx hb dM_look_115 (by decide) ?_
            exact g_iretP X hr hlk hfin dM_look_116
          rw [if_pos hc105] at hfin
          refine lv_aload_n hx hb dM_look_108 rfl (lv_at hl 0 rfl) ?_
          refine mg_latest X hK hP0 dM_look_109 ?_
          refine lv_goto (tgt := 116) hx hb dM_look_112 (by decide) ?_
          exact g_iretP X hr hlk hfin dM_look_116
        rw [if_pos hc92] at hfin
        refine lv_aload_n hx hb dM_look_95 rfl (lv_at hl 0 rfl) ?_
        refine mg_traps X hK hP0 dM_look_96 ?_
        refine lv_goto (tgt := 116) hx hb dM_look_99 (by decide) ?_
        exact g_iretP X hr hlk hfin dM_look_116
      rw [if_pos hc80] at hfin
      refine lv_aload_n hx hb dM_look_83 rfl (lv_at hl 0 rfl) ?_
      refine mg_steps X hK hP0 dM_look_84 ?_
      refine lv_goto (tgt := 116) hx hb dM_look_87 (by decide) ?_
      exact g_iretP X hr hlk hfin dM_look_116
    rw [if_pos hc60] at hfin
    refine lv_aload_n hx hb dM_look_63 rfl (lv_at hl 0 rfl) ?_
    refine mg_stopped X hK hP0 dM_look_64 ?_
    refine lv_if_eq (tgt := 74) hx hb dM_look_67 (by decide) (fun hc67 => ?_) (fun hc67 => ?_)
    · rw [if_pos hc67] at hfin
      refine lv_iconst (v := (0 : Int32)) hx hb dM_look_74 (by decide) ?_
      refine lv_goto (tgt := 116) hx hb dM_look_75 (by decide) ?_
      exact g_iretP X hr hlk hfin dM_look_116
    rw [if_neg hc67] at hfin
    refine lv_iconst (v := (1 : Int32)) hx hb dM_look_70 (by decide) ?_
    refine lv_goto (tgt := 116) hx hb dM_look_71 (by decide) ?_
    exact g_iretP X hr hlk hfin dM_look_116
  rw [if_neg hc2] at hfin
  refine lv_iload_n hx hb dM_look_5 rfl (lv_at hl 1 rfl) ?_
  refine lv_if_ne (tgt := 16) hx hb dM_look_6 (by decide) (fun hc6 => ?_) (fun hc6 => ?_)
  · rw [if_neg hc6] at hfin
    refine lv_iload_n hx hb dM_look_16 rfl (lv_at hl 1 rfl) ?_
    refine lv_iconst (v := (1 : Int32)) hx hb dM_look_17 (by decide) ?_
    refine lv_icmp_ne (tgt := 36) hx hb dM_look_18 (by decide) (fun hc18 => ?_) (fun hc18 => ?_)
    · rw [if_neg hc18] at hfin
      refine lv_iload_n hx hb dM_look_36 rfl (lv_at hl 1 rfl) ?_
      refine lv_iconst (v := (2 : Int32)) hx hb dM_look_37 (by decide) ?_
      refine lv_icmp_ne (tgt := 56) hx hb dM_look_38 (by decide) (fun hc38 => ?_) (fun hc38 => ?_)
      · rw [if_neg hc38] at hfin
        refine lv_iconst (v := (-1 : Int32)) hx hb dM_look_56 (by decide) ?_
        exact g_iretP X hr hlk hfin dM_look_57
      rw [if_pos hc38] at hfin
      refine lv_aload_n hx hb dM_look_41 rfl (lv_at hl 0 rfl) ?_
      refine mg_overflow X hK hP0 dM_look_42 ?_
      refine lv_if_eq (tgt := 52) hx hb dM_look_45 (by decide) (fun hc45 => ?_) (fun hc45 => ?_)
      · rw [if_pos hc45] at hfin
        refine lv_iconst (v := (0 : Int32)) hx hb dM_look_52 (by decide) ?_
        refine lv_goto (tgt := 57) hx hb dM_look_53 (by decide) ?_
        exact g_iretP X hr hlk hfin dM_look_57
      rw [if_neg hc45] at hfin
      refine lv_iconst (v := (1 : Int32)) hx hb dM_look_48 (by decide) ?_
      refine lv_goto (tgt := 57) hx hb dM_look_49 (by decide) ?_
      exact g_iretP X hr hlk hfin dM_look_57
    rw [if_pos hc18] at hfin
    refine lv_aload_n hx hb dM_look_21 rfl (lv_at hl 0 rfl) ?_
    refine mg_user X hK hP0 dM_look_22 ?_
    refine lv_if_eq (tgt := 32) hx hb dM_look_25 (by decide) (fun hc25 => ?_) (fun hc25 => ?_)
    · rw [if_pos hc25] at hfin
      refine lv_iconst (v := (0 : Int32)) hx hb dM_look_32 (by decide) ?_
      refine lv_goto (tgt := 57) hx hb dM_look_33 (by decide) ?_
      exact g_iretP X hr hlk hfin dM_look_57
    rw [if_neg hc25] at hfin
    refine lv_iconst (v := (1 : Int32)) hx hb dM_look_28 (by decide) ?_
    refine lv_goto (tgt := 57) hx hb dM_look_29 (by decide) ?_
    exact g_iretP X hr hlk hfin dM_look_57
  rw [if_pos hc6] at hfin
  refine lv_aload_n hx hb dM_look_9 rfl (lv_at hl 0 rfl) ?_
  refine mg_pc X hK hP0 dM_look_10 ?_
  refine lv_goto (tgt := 57) hx hb dM_look_13 (by decide) ?_
  exact g_iretP X hr hlk hfin dM_look_57
