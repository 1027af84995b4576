set_option maxHeartbeats 4000000 in
set_option maxRecDepth 100000 in
theorem ctm_num (l : Launch) (a0 : Int64) : gPl l yM_num wM_num (rmF 0 0) [.long a0] (m_num a0) := by
  obtain ⟨z, hz⟩ : ∃ z, z = m_num a0 := ⟨_, rfl⟩
  rw [← hz]
  have hfin := hz.symm
  clear hz
  refine g_start (plainFor_of_name (by decide)) (Nat.le_of_ble_eq_true rfl) ?_
  intro p e s0 m args below meth c ls X hr hlk hB hl
  have hl : lv_has ls 2 [(0, .long a0)] := hl
  have hx := X.1
  have hb := X.2.1
  rw [m_num] at hfin
  refine lv_lload_n hx hb dM_num_0 rfl (lv_at hl 0 rfl) ?_
  refine lv_ldc2 hx hb X.2.2.2.1 (X.2.2.2.2 _ hkM_20) dM_num_1 ?_
  refine W.lcmp hx hb dM_num_4 ?_
  refine lv_if_lt (tgt := 18) hx hb dM_num_5 (by decide) (fun hc5 => ?_) (fun hc5 => ?_)
  · rw [if_pos hc5] at hfin
    refine lv_lload_n hx hb dM_num_18 rfl (lv_at hl 0 rfl) ?_
    exact g_lretP X hr hlk hfin dM_num_19
  rw [if_neg hc5] at hfin
  refine lv_lload_n hx hb dM_num_8 rfl (lv_at hl 0 rfl) ?_
  refine lv_ldc2 hx hb X.2.2.2.1 (X.2.2.2.2 _ hkM_22) dM_num_9 ?_
  refine lv_lsub hx hb dM_num_12 ?_
  refine lv_lconst (v := (1 : Int64)) hx hb dM_num_13 (by decide) ?_
  refine lv_lsub hx hb dM_num_14 ?_
  refine lv_goto (tgt := 19) hx hb dM_num_15 (by decide) ?_
  exact g_lretP X hr hlk hfin dM_num_19
set_option maxHeartbeats 4000000 in
set_option maxRecDepth 100000 in
theorem ctm_left (l : Launch) (a0 : Int64) : gPi l yM_left wM_left (rmF 0 0) [.long a0] (m_left a0) := by
  obtain ⟨z, hz⟩ : ∃ z, z = m_left a0 := ⟨_, rfl⟩
  rw [← hz]
  have hfin := hz.symm
  clear hz
  refine g_start (plainFor_of_name (by decide)) (Nat.le_of_ble_eq_true rfl) ?_
  intro p e s0 m args below meth c ls X hr hlk hB hl
  have hl : lv_has ls 2 [(0, .long a0)] := hl
  have hx := X.1
  have hb := X.2.1
  rw [m_left] at hfin
  refine lv_lload_n hx hb dM_left_0 rfl (lv_at hl 0 rfl) ?_
  refine lv_ldc2 hx hb X.2.2.2.1 (X.2.2.2.2 _ hkM_24) dM_left_1 ?_
  refine lv_ldiv hx hb dM_left_4 (by decide) ?_
  refine lv_l2i hx hb dM_left_5 rfl ?_
  exact g_iretP X hr hlk hfin dM_left_6
set_option maxHeartbeats 4000000 in
set_option maxRecDepth 100000 in
theorem ctm_right (l : Launch) (a0 : Int64) : gPi l yM_right wM_right (rmF 0 0) [.long a0] (m_right a0) := by
  obtain ⟨z, hz⟩ : ∃ z, z = m_right a0 := ⟨_, rfl⟩
  rw [← hz]
  have hfin := hz.symm
  clear hz
  refine g_start (plainFor_of_name (by decide)) (Nat.le_of_ble_eq_true rfl) ?_
  intro p e s0 m args below meth c ls X hr hlk hB hl
  have hl : lv_has ls 2 [(0, .long a0)] := hl
  have hx := X.1
  have hb := X.2.1
  rw [m_right] at hfin
  refine lv_lload_n hx hb dM_right_0 rfl (lv_at hl 0 rfl) ?_
  refine lv_ldc2 hx hb X.2.2.2.1 (X.2.2.2.2 _ hkM_24) dM_right_1 ?_
  refine lv_lrem hx hb dM_right_4 (by decide) ?_
  refine lv_l2i hx hb dM_right_5 rfl ?_
  exact g_iretP X hr hlk hfin dM_right_6
set_option maxHeartbeats 4000000 in
set_option maxRecDepth 100000 in
theorem ctm_joined (l : Launch) (a0 : Int32) (a1 : Int32) : gPl l yM_joined wM_joined (rmF 0 0) [.int a0, .int a1] (m_joined a0 a1) := by
  obtain ⟨z, hz⟩ : ∃ z, z = m_joined a0 a1 := ⟨_, rfl⟩
  rw [← hz]
  have hfin := hz.symm
  clear hz
  refine g_start (plainFor_of_name (by decide)) (Nat.le_of_ble_eq_true rfl) ?_
  intro p e s0 m args below meth c ls X hr hlk hB hl
  have hl : lv_has ls 2 [(0, .int a0), (1, .int a1)] := hl
  have hx := X.1
  have hb := X.2.1
  rw [m_joined] at hfin
  refine lv_ldc2 hx hb X.2.2.2.1 (X.2.2.2.2 _ hkM_24) dM_joined_0 ?_
  refine lv_iload_n hx hb dM_joined_3 rfl (lv_at hl 0 rfl) ?_
  refine lv_ldc hx hb X.2.2.2.1 (X.2.2.2.2 _ hkM_26) dM_joined_4 ?_
  refine lv_iand hx hb dM_joined_6 ?_
  refine lv_i2l hx hb dM_joined_7 rfl ?_
  refine lv_lmul hx hb dM_joined_8 ?_
  refine lv_iload_n hx hb dM_joined_9 rfl (lv_at hl 1 rfl) ?_
  refine lv_ldc hx hb X.2.2.2.1 (X.2.2.2.2 _ hkM_26) dM_joined_10 ?_
  refine lv_iand hx hb dM_joined_12 ?_
  refine lv_i2l hx hb dM_joined_13 rfl ?_
  refine lv_ladd hx hb dM_joined_14 ?_
  exact g_lretP X hr hlk hfin dM_joined_15
set_option maxHeartbeats 4000000 in
set_option maxRecDepth 100000 in
theorem ctm_bit (l : Launch) (a0 : Int64) (a1 : Int32) : gPi l yM_bit wM_bit (rmF 0 0) [.long a0, .int a1] (m_bit a0 a1) := by
  obtain ⟨z, hz⟩ : ∃ z, z = m_bit a0 a1 := ⟨_, rfl⟩
  rw [← hz]
  have hfin := hz.symm
  clear hz
  refine g_start (plainFor_of_name (by decide)) (Nat.le_of_ble_eq_true rfl) ?_
  intro p e s0 m args below meth c ls X hr hlk hB hl
  have hl : lv_has ls 3 [(0, .long a0), (2, .int a1)] := hl
  have hx := X.1
  have hb := X.2.1
  rw [m_bit] at hfin
  refine lv_lload_n hx hb dM_bit_0 rfl (lv_at hl 0 rfl) ?_
  refine lv_iload_n hx hb dM_bit_1 rfl (lv_at hl 1 rfl) ?_
  refine lv_lshr hx hb dM_bit_2 rfl ?_
  refine lv_lconst (v := (1 : Int64)) hx hb dM_bit_3 (by decide) ?_
  refine lv_land hx hb dM_bit_4 ?_
  refine lv_l2i hx hb dM_bit_5 rfl ?_
  exact g_iretP X hr hlk hfin dM_bit_6
set_option maxHeartbeats 4000000 in
set_option maxRecDepth 100000 in
theorem ctm_fail (l : Launch) (D : va_G) (cA cB : ClassId) (o q q1 q2 : Nat) (hne : va_nd [o, q, q1, q2] = true) (u : MS) (a0 : Int32) (z : MS) (hfin : m_fail u a0 = some z) : gMv l yM_fail wM_fail (rmF 0 0) D [(cA, .long), (cB, .int)] (MW cA cB o q q1 q2) (MA o q q1 q2) [.ref o, .int a0] u z := by
  refine g_start (plainFor_of_name (by decide)) (Nat.le_of_ble_eq_true rfl) ?_
  intro p e s0 m args below meth c ls X hr hlk hB hl
  obtain ⟨hP0, hK⟩ := hB
  have hI : gI D (MW cA cB o q q1 q2) (MA o q q1 q2) s0.heap s0.heap [] u := ⟨hP0, va_S.rf⟩
  have hl : lv_has ls 2 [(0, .ref o), (1, .int a0)] := hl
  have hx := X.1
  have hb := X.2.1
  have B_16 : ∀ (u : MS) (t1 : Int32) (H : Heap) (locs : List Loc) (ls : Array Slot), lv_has ls 2 [(0, .ref o), (1, .int a0)] → gI D (MW cA cB o q q1 q2) (MA o q q1 q2) s0.heap H locs u → m_fail_16 a0 u t1 = some z → W p l e (rmF 0 0) s0 m args below meth c H locs 0 0 (MQ below (va_Qv (fun x => x = z) (gB D [(cA, .long), (cB, .int)] (MW cA cB o q q1 q2)) (MA o q q1 q2)) args s0 0 0 (MA o q q1 q2)) (F0 m 16 ls [.int t1, .ref o]) := by
    intro u t1 H locs ls hl hI hfin
    rw [m_fail_16] at hfin
    refine mp_wrong X hK (m_D hne) hI dM_fail_16 (fun H locs hI => ?_)
    exact g_vret X hr hlk hK hI hfin dM_fail_19
  rw [m_fail] at hfin
  refine lv_aload_n hx hb dM_fail_0 rfl (lv_at hl 0 rfl) ?_
  refine lv_aload_n hx hb dM_fail_1 rfl (lv_at hl 0 rfl) ?_
  refine mg_wrong X hK hI.1 dM_fail_2 ?_
  refine lv_if_ne (tgt := 12) hx hb dM_fail_5 (by decide) (fun hc5 => ?_) (fun hc5 => ?_)
  · rw [if_neg hc5] at hfin
    refine lv_aload_n hx hb dM_fail_12 rfl (lv_at hl 0 rfl) ?_
    refine mg_wrong X hK hI.1 dM_fail_13 ?_
    exact B_16 u (M_wrong u) s0.heap [] ls (lv_sub hl [0, 1] rfl) hI hfin
  rw [if_pos hc5] at hfin
  refine lv_iload_n hx hb dM_fail_8 rfl (lv_at hl 1 rfl) ?_
  refine lv_goto (tgt := 16) hx hb dM_fail_9 (by decide) ?_
  exact B_16 u a0 s0.heap [] ls (lv_sub hl [0, 1] rfl) hI hfin
set_option maxHeartbeats 4000000 in
set_option maxRecDepth 100000 in
theorem ctm_where (l : Launch) (D : va_G) (cA cB : ClassId) (o q q1 q2 : Nat) (hne : va_nd [o, q, q1, q2] = true) (u : MS) (a0 : Int32) (z : Int32 × MS) (hfin : m_where u a0 = some z) : gMi l yM_where wM_where (rmF 1 21) D [(cA, .long), (cB, .int)] (MW cA cB o q q1 q2) (MA o q q1 q2) [.ref o, .int a0] u z := by
  refine g_start (plainFor_of_name (by decide)) (Nat.le_of_ble_eq_true rfl) ?_
  intro p e s0 m args below meth c ls X hr hlk hB hl
  obtain ⟨hP0, hK⟩ := hB
  have hI : gI D (MW cA cB o q q1 q2) (MA o q q1 q2) s0.heap s0.heap [] u := ⟨hP0, va_S.rf⟩
  have hl : lv_has ls 5 [(0, .ref o), (1, .int a0)] := hl
  have hx := X.1
  have hb := X.2.1
  have B_75 : ∀ (u : MS) (v2 : Int32) (H : Heap) (locs : List Loc) (ls : Array Slot), lv_has ls 5 [(0, .ref o), (1, .int a0), (2, .int v2)] → gI D (MW cA cB o q q1 q2) (MA o q q1 q2) s0.heap H locs u → m_where_75 a0 u v2 = some z → W p l e (rmF 1 21) s0 m args below meth c H locs 0 0 (MQ below (va_Qi (fun r x => (r, x) = z) (gB D [(cA, .long), (cB, .int)] (MW cA cB o q q1 q2)) (MA o q q1 q2)) args s0 0 0 (MA o q q1 q2)) (F0 m 75 ls []) := by
    intro u v2 H locs ls hl hI hfin
    rw [m_where_75] at hfin
    refine lv_aload_n hx hb dM_where_75 rfl (lv_at hl 0 rfl) ?_
    refine mg_wrong X hK hI.1 dM_where_76 ?_
    refine lv_if_le (tgt := 86) hx hb dM_where_79 (by decide) (fun hc79 => ?_) (fun hc79 => ?_)
    · rw [if_pos hc79] at hfin
      refine lv_iload_n hx hb dM_where_86 rfl (lv_at hl 2 rfl) ?_
      exact g_iret X hr hlk hK hI hfin dM_where_87
    rw [if_neg hc79] at hfin
    refine lv_iconst (v := (-1 : Int32)) hx hb dM_where_82 (by decide) ?_
    refine lv_goto (tgt := 87) hx hb dM_where_83 (by decide) ?_
    exact g_iret X hr hlk hK hI hfin dM_where_87
  have B_63 : ∀ (u : MS) (v2 : Int32) (H : Heap) (locs : List Loc) (ls : Array Slot), lv_has ls 5 [(0, .ref o), (1, .int a0), (2, .int v2)] → gI D (MW cA cB o q q1 q2) (MA o q q1 q2) s0.heap H locs u → m_where_63 a0 u v2 = some z → W p l e (rmF 1 21) s0 m args below meth c H locs 0 0 (MQ below (va_Qi (fun r x => (r, x) = z) (gB D [(cA, .long), (cB, .int)] (MW cA cB o q q1 q2)) (MA o q q1 q2)) args s0 0 0 (MA o q q1 q2)) (F0 m 63 ls []) := by
    intro u v2 H locs ls hl hI hfin
    rw [m_where_63] at hfin
    refine lv_iload_n hx hb dM_where_63 rfl (lv_at hl 2 rfl) ?_
    refine lv_sipush (v := (1023 : Int32)) hx hb dM_where_64 (by decide) ?_
    refine lv_icmp_le (tgt := 75) hx hb dM_where_67 (by decide) (fun hc67 => ?_) (fun hc67 => ?_)
    · rw [if_pos hc67] at hfin
      exact B_75 u v2 H locs ls (lv_sub hl [0, 1, 2] rfl) hI hfin
    rw [if_neg hc67] at hfin
    refine lv_aload_n hx hb dM_where_70 rfl (lv_at hl 0 rfl) ?_
    refine lv_iconst (v := (1 : Int32)) hx hb dM_where_71 (by decide) ?_
    obtain ⟨z72, hz72, hfin⟩ := bd_ob hfin
    refine g_callMv [.int (1 : Int32)] [] X hK m_rcv hI (ctm_fail l D cA cB o q q1 q2 hne u (1 : Int32) z72 hz72) (cwM_M_fail X.2.2.2.2 ⟨Nat.le_of_ble_eq_true rfl, Nat.le_of_ble_eq_true rfl⟩) rfl hl.1 rfl (Nat.le_of_ble_eq_true rfl) dM_where_72 (fun H locs hI => ?_)
    exact B_75 z72 v2 H locs ls (lv_sub hl [0, 1, 2] rfl) hI hfin
  have B_62 : ∀ (u : MS) (t0 : Int32) (H : Heap) (locs : List Loc) (ls : Array Slot), lv_has ls 5 [(0, .ref o), (1, .int a0)] → gI D (MW cA cB o q q1 q2) (MA o q q1 q2) s0.heap H locs u → m_where_62 a0 u t0 = some z → W p l e (rmF 1 21) s0 m args below meth c H locs 0 0 (MQ below (va_Qi (fun r x => (r, x) = z) (gB D [(cA, .long), (cB, .int)] (MW cA cB o q q1 q2)) (MA o q q1 q2)) args s0 0 0 (MA o q q1 q2)) (F0 m 62 ls [.int t0]) := by
    intro u t0 H locs ls hl hI hfin
    rw [m_where_62] at hfin
    refine lv_istore_n (lv' := [(2, .int t0), (0, .ref o), (1, .int a0)]) hx hb dM_where_62 rfl hl (by decide) rfl (fun ls hl => ?_)
    exact B_63 u t0 H locs ls (lv_sub hl [1, 2, 0] rfl) hI hfin
  have B_27 : ∀ (u : MS) (t0 : Int32) (H : Heap) (locs : List Loc) (ls : Array Slot), lv_has ls 5 [(0, .ref o), (1, .int a0)] → gI D (MW cA cB o q q1 q2) (MA o q q1 q2) s0.heap H locs u → m_where_27 a0 u t0 = some z → W p l e (rmF 1 21) s0 m args below meth c H locs 0 0 (MQ below (va_Qi (fun r x => (r, x) = z) (gB D [(cA, .long), (cB, .int)] (MW cA cB o q q1 q2)) (MA o q q1 q2)) args s0 0 0 (MA o q q1 q2)) (F0 m 27 ls [.int t0]) := by
    intro u t0 H locs ls hl hI hfin
    rw [m_where_27] at hfin
    refine lv_istore_n (lv' := [(3, .int t0), (0, .ref o), (1, .int a0)]) hx hb dM_where_27 rfl hl (by decide) rfl (fun ls hl => ?_)
    refine lv_iload_n hx hb dM_where_28 rfl (lv_at hl 2 rfl) ?_
    refine lv_ldc hx hb X.2.2.2.1 (X.2.2.2.2 _ hkM_35) dM_where_29 ?_
    refine lv_iload_n hx hb dM_where_31 rfl (lv_at hl 0 rfl) ?_
    refine lv_imul hx hb dM_where_32 ?_
    refine lv_isub hx hb dM_where_33 ?_
    refine lv_topi (fun x34 e34 => ?_)
    replace hfin := nm_at hfin e34
    refine lv_istore (lv' := [(4, .int x34), (3, .int t0), (0, .ref o), (1, .int a0)]) hx hb dM_where_34 hl (by decide) rfl (fun ls hl => ?_)
    refine lv_iload hx hb dM_where_36 (lv_at hl 0 rfl) ?_
    refine lv_aload_n hx hb dM_where_38 rfl (lv_at hl 2 rfl) ?_
    refine mg_bound X hK hI.1 dM_where_39 ?_
    refine lv_iload_n hx hb dM_where_42 rfl (lv_at hl 1 rfl) ?_
    obtain ⟨hd43, hfin⟩ := ck_if hfin
    refine ml_bound X hK hI.1 hd43 dM_where_43 ?_
    refine lv_icmp_ge (tgt := 59) hx hb dM_where_44 (by decide) (fun hc44 => ?_) (fun hc44 => ?_)
    · rw [if_pos hc44] at hfin
      refine lv_sipush (v := (1024 : Int32)) hx hb dM_where_59 (by decide) ?_
      exact B_62 u (1024 : Int32) H locs ls (lv_sub hl [2, 3] rfl) hI hfin
    rw [if_neg hc44] at hfin
    refine lv_iload hx hb dM_where_47 (lv_at hl 0 rfl) ?_
    refine lv_aload_n hx hb dM_where_49 rfl (lv_at hl 2 rfl) ?_
    refine mg_base X hK hI.1 dM_where_50 ?_
    refine lv_iload_n hx hb dM_where_53 rfl (lv_at hl 1 rfl) ?_
    obtain ⟨hd54, hfin⟩ := ck_if hfin
    refine ml_base X hK hI.1 hd54 dM_where_54 ?_
    refine lv_iadd hx hb dM_where_55 ?_
    refine lv_goto (tgt := 62) hx hb dM_where_56 (by decide) ?_
    exact B_62 u (x34 + (M_base u t0.toNatClampNeg)) H locs ls (lv_sub hl [2, 3] rfl) hI hfin
  rw [m_where] at hfin
  refine lv_iload_n hx hb dM_where_0 rfl (lv_at hl 1 rfl) ?_
  refine lv_istore_n (lv' := [(2, .int a0), (0, .ref o), (1, .int a0)]) hx hb dM_where_1 rfl hl (by decide) rfl (fun ls hl => ?_)
  refine lv_aload_n hx hb dM_where_2 rfl (lv_at hl 1 rfl) ?_
  refine mg_user X hK hI.1 dM_where_3 ?_
  refine lv_if_eq (tgt := 63) hx hb dM_where_6 (by decide) (fun hc6 => ?_) (fun hc6 => ?_)
  · rw [if_pos hc6] at hfin
    exact B_63 u a0 s0.heap [] ls (lv_sub hl [1, 2, 0] rfl) hI hfin
  rw [if_neg hc6] at hfin
  refine lv_iload_n hx hb dM_where_9 rfl (lv_at hl 2 rfl) ?_
  refine lv_bipush (v := (15 : Int32)) hx hb dM_where_10 (by decide) ?_
  refine lv_icmp_le (tgt := 63) hx hb dM_where_12 (by decide) (fun hc12 => ?_) (fun hc12 => ?_)
  · rw [if_pos hc12] at hfin
    exact B_63 u a0 s0.heap [] ls (lv_sub hl [1, 2, 0] rfl) hI hfin
  rw [if_neg hc12] at hfin
  refine lv_iload_n hx hb dM_where_15 rfl (lv_at hl 2 rfl) ?_
  refine lv_ldc hx hb X.2.2.2.1 (X.2.2.2.2 _ hkM_35) dM_where_16 ?_
  refine lv_idiv hx hb dM_where_18 (by decide) ?_
  refine lv_if_le (tgt := 26) hx hb dM_where_19 (by decide) (fun hc19 => ?_) (fun hc19 => ?_)
  · rw [if_pos hc19] at hfin
    refine lv_iconst (v := (0 : Int32)) hx hb dM_where_26 (by decide) ?_
    exact B_27 u (0 : Int32) s0.heap [] ls (lv_sub hl [1, 2] rfl) hI hfin
  rw [if_neg hc19] at hfin
  refine lv_iconst (v := (1 : Int32)) hx hb dM_where_22 (by decide) ?_
  refine lv_goto (tgt := 27) hx hb dM_where_23 (by decide) ?_
  exact B_27 u (1 : Int32) s0.heap [] ls (lv_sub hl [1, 2] rfl) hI hfin
set_option maxHeartbeats 4000000 in
set_option maxRecDepth 100000 in
theorem ctm_get (l : Launch) (D : va_G) (cA cB : ClassId) (o q q1 q2 : Nat) (hne : va_nd [o, q, q1, q2] = true) (u : MS) (a0 : Int32) (z : Int64 × MS) (hfin : m_get u a0 = some z) : gMl l yM_get wM_get (rmF 2 45) D [(cA, .long), (cB, .int)] (MW cA cB o q q1 q2) (MA o q q1 q2) [.ref o, .int a0] u z := by
  refine g_start (plainFor_of_name (by decide)) (Nat.le_of_ble_eq_true rfl) ?_
  intro p e s0 m args below meth c ls X hr hlk hB hl
  obtain ⟨hP0, hK⟩ := hB
  have hI : gI D (MW cA cB o q q1 q2) (MA o q q1 q2) s0.heap s0.heap [] u := ⟨hP0, va_S.rf⟩
  have hl : lv_has ls 3 [(0, .ref o), (1, .int a0)] := hl
  have hx := X.1
  have hb := X.2.1
  rw [m_get] at hfin
  refine lv_aload_n hx hb dM_get_0 rfl (lv_at hl 0 rfl) ?_
  refine lv_iload_n hx hb dM_get_1 rfl (lv_at hl 1 rfl) ?_
  obtain ⟨z2, hz2, hfin⟩ := bd_ob hfin
  refine g_callMi [.int a0] [] X hK m_rcv hI (ctm_where l D cA cB o q q1 q2 hne u a0 z2 hz2) (cwM_M_where X.2.2.2.2 ⟨Nat.le_of_ble_eq_true rfl, Nat.le_of_ble_eq_true rfl⟩) rfl hl.1 rfl (Nat.le_of_ble_eq_true rfl) dM_get_2 (fun H locs hI => ?_)
  refine lv_istore_n (lv' := [(2, .int z2.1), (0, .ref o), (1, .int a0)]) hx hb dM_get_5 rfl hl (by decide) rfl (fun ls hl => ?_)
  refine lv_iload_n hx hb dM_get_6 rfl (lv_at hl 0 rfl) ?_
  refine lv_if_ge (tgt := 14) hx hb dM_get_7 (by decide) (fun hc7 => ?_) (fun hc7 => ?_)
  · rw [if_pos hc7] at hfin
    refine lv_aload_n hx hb dM_get_14 rfl (lv_at hl 1 rfl) ?_
    refine mg_store X hK hI.1 dM_get_15 ?_
    refine lv_iload_n hx hb dM_get_18 rfl (lv_at hl 0 rfl) ?_
    obtain ⟨hd19, hfin⟩ := ck_if hfin
    refine ml_store X hK hI.1 hd19 dM_get_19 ?_
    exact g_lret X hr hlk hK hI hfin dM_get_20
  rw [if_neg hc7] at hfin
  refine lv_lconst (v := (0 : Int64)) hx hb dM_get_10 (by decide) ?_
  refine lv_goto (tgt := 20) hx hb dM_get_11 (by decide) ?_
  exact g_lret X hr hlk hK hI hfin dM_get_20
set_option maxHeartbeats 4000000 in
set_option maxRecDepth 100000 in
theorem ctm_set (l : Launch) (D : va_G) (cA cB : ClassId) (o q q1 q2 : Nat) (hne : va_nd [o, q, q1, q2] = true) (u : MS) (a0 : Int32) (a1 : Int64) (z : MS) (hfin : m_set u a0 a1 = some z) : gMv l yM_set wM_set (rmF 2 45) D [(cA, .long), (cB, .int)] (MW cA cB o q q1 q2) (MA o q q1 q2) [.ref o, .int a0, .long a1] u z := by
  refine g_start (plainFor_of_name (by decide)) (Nat.le_of_ble_eq_true rfl) ?_
  intro p e s0 m args below meth c ls X hr hlk hB hl
  obtain ⟨hP0, hK⟩ := hB
  have hI : gI D (MW cA cB o q q1 q2) (MA o q q1 q2) s0.heap s0.heap [] u := ⟨hP0, va_S.rf⟩
  have hl : lv_has ls 5 [(0, .ref o), (1, .int a0), (2, .long a1)] := hl
  have hx := X.1
  have hb := X.2.1
  rw [m_set] at hfin
  refine lv_aload_n hx hb dM_set_0 rfl (lv_at hl 0 rfl) ?_
  refine lv_iload_n hx hb dM_set_1 rfl (lv_at hl 1 rfl) ?_
  obtain ⟨z2, hz2, hfin⟩ := bd_ob hfin
  refine g_callMi [.int a0] [] X hK m_rcv hI (ctm_where l D cA cB o q q1 q2 hne u a0 z2 hz2) (cwM_M_where X.2.2.2.2 ⟨Nat.le_of_ble_eq_true rfl, Nat.le_of_ble_eq_true rfl⟩) rfl hl.1 rfl (Nat.le_of_ble_eq_true rfl) dM_set_2 (fun H locs hI => ?_)
  refine lv_istore (lv' := [(4, .int z2.1), (0, .ref o), (1, .int a0), (2, .long a1)]) hx hb dM_set_5 hl (by decide) rfl (fun ls hl => ?_)
  refine lv_iload hx hb dM_set_7 (lv_at hl 0 rfl) ?_
  refine lv_if_lt (tgt := 24) hx hb dM_set_9 (by decide) (fun hc9 => ?_) (fun hc9 => ?_)
  · rw [if_pos hc9] at hfin
    exact g_vret X hr hlk hK hI hfin dM_set_24
  rw [if_neg hc9] at hfin
  refine lv_aload_n hx hb dM_set_12 rfl (lv_at hl 1 rfl) ?_
  refine mg_store X hK hI.1 dM_set_13 ?_
  refine lv_iload hx hb dM_set_16 (lv_at hl 0 rfl) ?_
  refine lv_lload_n hx hb dM_set_18 rfl (lv_at hl 3 rfl) ?_
  refine lv_ldc2 hx hb X.2.2.2.1 (X.2.2.2.2 _ hkM_22) dM_set_19 ?_
  refine lv_land hx hb dM_set_22 ?_
  obtain ⟨hd23, hfin⟩ := ck_if hfin
  refine ms_store X hK (m_D hne) hI hd23 dM_set_23 (fun H locs hI => ?_)
  exact g_vret X hr hlk hK hI hfin dM_set_24
set_option maxHeartbeats 4000000 in
set_option maxRecDepth 100000 in
theorem ctm_setAc (l : Launch) (D : va_G) (cA cB : ClassId) (o q q1 q2 : Nat) (hne : va_nd [o, q, q1, q2] = true) (u : MS) (a0 : Int32) (a1 : Int64) (z : MS) (hfin : m_setAc u a0 a1 = some z) : gMv l yM_setAc wM_setAc (rmF 0 0) D [(cA, .long), (cB, .int)] (MW cA cB o q q1 q2) (MA o q q1 q2) [.ref o, .int a0, .long a1] u z := by
  refine g_start (plainFor_of_name (by decide)) (Nat.le_of_ble_eq_true rfl) ?_
  intro p e s0 m args below meth c ls X hr hlk hB hl
  obtain ⟨hP0, hK⟩ := hB
  have hI : gI D (MW cA cB o q q1 q2) (MA o q q1 q2) s0.heap s0.heap [] u := ⟨hP0, va_S.rf⟩
  have hl : lv_has ls 4 [(0, .ref o), (1, .int a0), (2, .long a1)] := hl
  have hx := X.1
  have hb := X.2.1
  rw [m_setAc] at hfin
  refine lv_aload_n hx hb dM_setAc_0 rfl (lv_at hl 0 rfl) ?_
  refine mg_wrong X hK hI.1 dM_setAc_1 ?_
  refine lv_if_ne (tgt := 18) hx hb dM_setAc_4 (by decide) (fun hc4 => ?_) (fun hc4 => ?_)
  · rw [if_neg hc4] at hfin
    exact g_vret X hr hlk hK hI hfin dM_setAc_18
  rw [if_pos hc4] at hfin
  refine lv_aload_n hx hb dM_setAc_7 rfl (lv_at hl 0 rfl) ?_
  refine mg_store X hK hI.1 dM_setAc_8 ?_
  refine lv_iload_n hx hb dM_setAc_11 rfl (lv_at hl 1 rfl) ?_
  refine lv_lload_n hx hb dM_setAc_12 rfl (lv_at hl 2 rfl) ?_
  refine lv_ldc2 hx hb X.2.2.2.1 (X.2.2.2.2 _ hkM_22) dM_setAc_13 ?_
  refine lv_land hx hb dM_setAc_16 ?_
  obtain ⟨hd17, hfin⟩ := ck_if hfin
  refine ms_store X hK (m_D hne) hI hd17 dM_setAc_17 (fun H locs hI => ?_)
  exact g_vret X hr hlk hK hI hfin dM_setAc_18
set_option maxHeartbeats 4000000 in
set_option maxRecDepth 100000 in
theorem ctm_over (l : Launch) (D : va_G) (cA cB : ClassId) (o q q1 q2 : Nat) (hne : va_nd [o, q, q1, q2] = true) (u : MS) (a0 : Int32) (z : MS) (hfin : m_over u a0 = some z) : gMv l yM_over wM_over (rmF 0 0) D [(cA, .long), (cB, .int)] (MW cA cB o q q1 q2) (MA o q q1 q2) [.ref o, .int a0] u z := by
  refine g_start (plainFor_of_name (by decide)) (Nat.le_of_ble_eq_true rfl) ?_
  intro p e s0 m args below meth c ls X hr hlk hB hl
  obtain ⟨hP0, hK⟩ := hB
  have hI : gI D (MW cA cB o q q1 q2) (MA o q q1 q2) s0.heap s0.heap [] u := ⟨hP0, va_S.rf⟩
  have hl : lv_has ls 2 [(0, .ref o), (1, .int a0)] := hl
  have hx := X.1
  have hb := X.2.1
  rw [m_over] at hfin
  refine lv_iload_n hx hb dM_over_0 rfl (lv_at hl 1 rfl) ?_
  refine lv_if_eq (tgt := 16) hx hb dM_over_1 (by decide) (fun hc1 => ?_) (fun hc1 => ?_)
  · rw [if_pos hc1] at hfin
    exact g_vret X hr hlk hK hI hfin dM_over_16
  rw [if_neg hc1] at hfin
  refine lv_aload_n hx hb dM_over_4 rfl (lv_at hl 0 rfl) ?_
  refine mg_wrong X hK hI.1 dM_over_5 ?_
  refine lv_if_ne (tgt := 16) hx hb dM_over_8 (by decide) (fun hc8 => ?_) (fun hc8 => ?_)
  · rw [if_neg hc8] at hfin
    exact g_vret X hr hlk hK hI hfin dM_over_16
  rw [if_pos hc8] at hfin
  refine lv_aload_n hx hb dM_over_11 rfl (lv_at hl 0 rfl) ?_
  refine lv_iconst (v := (1 : Int32)) hx hb dM_over_12 (by decide) ?_
  refine mp_overflow X hK (m_D hne) hI (Or.inr rfl) dM_over_13 (fun H locs hI => ?_)
  exact g_vret X hr hlk hK hI hfin dM_over_16
set_option maxHeartbeats 4000000 in
set_option maxRecDepth 100000 in
theorem ctm_go (l : Launch) (D : va_G) (cA cB : ClassId) (o q q1 q2 : Nat) (hne : va_nd [o, q, q1, q2] = true) (u : MS) (a0 : Int32) (z : MS) (hfin : m_go u a0 = some z) : gMv l yM_go wM_go (rmF 0 0) D [(cA, .long), (cB, .int)] (MW cA cB o q q1 q2) (MA o q q1 q2) [.ref o, .int a0] u z := by
  refine g_start (plainFor_of_name (by decide)) (Nat.le_of_ble_eq_true rfl) ?_
  intro p e s0 m args below meth c ls X hr hlk hB hl
  obtain ⟨hP0, hK⟩ := hB
  have hI : gI D (MW cA cB o q q1 q2) (MA o q q1 q2) s0.heap s0.heap [] u := ⟨hP0, va_S.rf⟩
  have hl : lv_has ls 2 [(0, .ref o), (1, .int a0)] := hl
  have hx := X.1
  have hb := X.2.1
  rw [m_go] at hfin
  refine lv_aload_n hx hb dM_go_0 rfl (lv_at hl 0 rfl) ?_
  refine mg_wrong X hK hI.1 dM_go_1 ?_
  refine lv_if_ne (tgt := 15) hx hb dM_go_4 (by decide) (fun hc4 => ?_) (fun hc4 => ?_)
  · rw [if_neg hc4] at hfin
    exact g_vret X hr hlk hK hI hfin dM_go_15
  rw [if_pos hc4] at hfin
  refine lv_aload_n hx hb dM_go_7 rfl (lv_at hl 0 rfl) ?_
  refine lv_iload_n hx hb dM_go_8 rfl (lv_at hl 1 rfl) ?_
  refine lv_ldc hx hb X.2.2.2.1 (X.2.2.2.2 _ hkM_26) dM_go_9 ?_
  refine lv_iand hx hb dM_go_11 ?_
  refine mp_pc X hK (m_D hne) hI dM_go_12 (fun H locs hI => ?_)
  exact g_vret X hr hlk hK hI hfin dM_go_15
set_option maxHeartbeats 4000000 in
set_option maxRecDepth 100000 in
theorem ctm_skipIf (l : Launch) (D : va_G) (cA cB : ClassId) (o q q1 q2 : Nat) (hne : va_nd [o, q, q1, q2] = true) (u : MS) (a0 : Int32) (z : MS) (hfin : m_skipIf u a0 = some z) : gMv l yM_skipIf wM_skipIf (rmF 1 21) D [(cA, .long), (cB, .int)] (MW cA cB o q q1 q2) (MA o q q1 q2) [.ref o, .int a0] u z := by
  refine g_start (plainFor_of_name (by decide)) (Nat.le_of_ble_eq_true rfl) ?_
  intro p e s0 m args below meth c ls X hr hlk hB hl
  obtain ⟨hP0, hK⟩ := hB
  have hI : gI D (MW cA cB o q q1 q2) (MA o q q1 q2) s0.heap s0.heap [] u := ⟨hP0, va_S.rf⟩
  have hl : lv_has ls 2 [(0, .ref o), (1, .int a0)] := hl
  have hx := X.1
  have hb := X.2.1
  rw [m_skipIf] at hfin
  refine lv_iload_n hx hb dM_skipIf_0 rfl (lv_at hl 1 rfl) ?_
  refine lv_if_eq (tgt := 14) hx hb dM_skipIf_1 (by decide) (fun hc1 => ?_) (fun hc1 => ?_)
  · rw [if_pos hc1] at hfin
    exact g_vret X hr hlk hK hI hfin dM_skipIf_14
  rw [if_neg hc1] at hfin
  refine lv_aload_n hx hb dM_skipIf_4 rfl (lv_at hl 0 rfl) ?_
  refine lv_aload_n hx hb dM_skipIf_5 rfl (lv_at hl 0 rfl) ?_
  refine mg_pc X hK hI.1 dM_skipIf_6 ?_
  refine lv_iconst (v := (1 : Int32)) hx hb dM_skipIf_9 (by decide) ?_
  refine lv_iadd hx hb dM_skipIf_10 ?_
  obtain ⟨z11, hz11, hfin⟩ := bd_ob hfin
  refine g_callMv [.int ((M_pc u) + (1 : Int32))] [] X hK m_rcv hI (ctm_go l D cA cB o q q1 q2 hne u ((M_pc u) + (1 : Int32)) z11 hz11) (cwM_M_go X.2.2.2.2 ⟨Nat.le_of_ble_eq_true rfl, Nat.le_of_ble_eq_true rfl⟩) rfl hl.1 rfl (Nat.le_of_ble_eq_true rfl) dM_skipIf_11 (fun H locs hI => ?_)
  exact g_vret X hr hlk hK hI hfin dM_skipIf_14
set_option maxHeartbeats 4000000 in
set_option maxRecDepth 100000 in
theorem ctm_goIf (l : Launch) (D : va_G) (cA cB : ClassId) (o q q1 q2 : Nat) (hne : va_nd [o, q, q1, q2] = true) (u : MS) (a0 : Int32) (a1 : Int32) (z : MS) (hfin : m_goIf u a0 a1 = some z) : gMv l yM_goIf wM_goIf (rmF 1 21) D [(cA, .long), (cB, .int)] (MW cA cB o q q1 q2) (MA o q q1 q2) [.ref o, .int a0, .int a1] u z := by
  refine g_start (plainFor_of_name (by decide)) (Nat.le_of_ble_eq_true rfl) ?_
  intro p e s0 m args below meth c ls X hr hlk hB hl
  obtain ⟨hP0, hK⟩ := hB
  have hI : gI D (MW cA cB o q q1 q2) (MA o q q1 q2) s0.heap s0.heap [] u := ⟨hP0, va_S.rf⟩
  have hl : lv_has ls 3 [(0, .ref o), (1, .int a0), (2, .int a1)] := hl
  have hx := X.1
  have hb := X.2.1
  rw [m_goIf] at hfin
  refine lv_iload_n hx hb dM_goIf_0 rfl (lv_at hl 1 rfl) ?_
  refine lv_if_eq (tgt := 9) hx hb dM_goIf_1 (by decide) (fun hc1 => ?_) (fun hc1 => ?_)
  · rw [if_pos hc1] at hfin
    exact g_vret X hr hlk hK hI hfin dM_goIf_9
  rw [if_neg hc1] at hfin
  refine lv_aload_n hx hb dM_goIf_4 rfl (lv_at hl 0 rfl) ?_
  refine lv_iload_n hx hb dM_goIf_5 rfl (lv_at hl 2 rfl) ?_
  obtain ⟨z6, hz6, hfin⟩ := bd_ob hfin
  refine g_callMv [.int a1] [] X hK m_rcv hI (ctm_go l D cA cB o q q1 q2 hne u a1 z6 hz6) (cwM_M_go X.2.2.2.2 ⟨Nat.le_of_ble_eq_true rfl, Nat.le_of_ble_eq_true rfl⟩) rfl hl.1 rfl (Nat.le_of_ble_eq_true rfl) dM_goIf_6 (fun H locs hI => ?_)
  exact g_vret X hr hlk hK hI hfin dM_goIf_9
set_option maxHeartbeats 4000000 in
set_option maxRecDepth 100000 in
theorem ctm_count (l : Launch) (D : va_G) (cA cB : ClassId) (o q q1 q2 : Nat) (hne : va_nd [o, q, q1, q2] = true) (u : MS)  (z : MS) (hfin : m_count u = some z) : gMv l yM_count wM_count (rmF 1 21) D [(cA, .long), (cB, .int)] (MW cA cB o q q1 q2) (MA o q q1 q2) [.ref o] u z := by
  refine g_start (plainFor_of_name (by decide)) (Nat.le_of_ble_eq_true rfl) ?_
  intro p e s0 m args below meth c ls X hr hlk hB hl
  obtain ⟨hP0, hK⟩ := hB
  have hI : gI D (MW cA cB o q q1 q2) (MA o q q1 q2) s0.heap s0.heap [] u := ⟨hP0, va_S.rf⟩
  have hl : lv_has ls 1 [(0, .ref o)] := hl
  have hx := X.1
  have hb := X.2.1
  rw [m_count] at hfin
  refine lv_aload_n hx hb dM_count_0 rfl (lv_at hl 0 rfl) ?_
  refine lv_dup hx hb dM_count_1 rfl ?_
  refine mg_taken X hK hI.1 dM_count_2 ?_
  refine lv_iconst (v := (1 : Int32)) hx hb dM_count_5 (by decide) ?_
  refine lv_iadd hx hb dM_count_6 ?_
  refine mp_taken X hK (m_D hne) hI dM_count_7 (fun H locs hI => ?_)
  refine lv_aload_n hx hb dM_count_10 rfl (lv_at hl 0 rfl) ?_
  refine mg_taken X hK hI.1 dM_count_11 ?_
  refine lv_bipush (v := (8 : Int32)) hx hb dM_count_14 (by decide) ?_
  refine lv_icmp_le (tgt := 24) hx hb dM_count_16 (by decide) (fun hc16 => ?_) (fun hc16 => ?_)
  · rw [if_pos hc16] at hfin
    exact g_vret X hr hlk hK hI hfin dM_count_24
  rw [if_neg hc16] at hfin
  refine lv_aload_n hx hb dM_count_19 rfl (lv_at hl 0 rfl) ?_
  refine lv_iconst (v := (4 : Int32)) hx hb dM_count_20 (by decide) ?_
  obtain ⟨z21, hz21, hfin⟩ := bd_ob hfin
  refine g_callMv [.int (4 : Int32)] [] X hK m_rcv hI (ctm_fail l D cA cB o q q1 q2 hne (M_s_taken u ((M_taken u) + (1 : Int32))) (4 : Int32) z21 hz21) (cwM_M_fail X.2.2.2.2 ⟨Nat.le_of_ble_eq_true rfl, Nat.le_of_ble_eq_true rfl⟩) rfl hl.1 rfl (Nat.le_of_ble_eq_true rfl) dM_count_21 (fun H locs hI => ?_)
  exact g_vret X hr hlk hK hI hfin dM_count_24
set_option maxHeartbeats 4000000 in
set_option maxRecDepth 100000 in
theorem ctm_effective (l : Launch) (D : va_G) (cA cB : ClassId) (o q q1 q2 : Nat) (hne : va_nd [o, q, q1, q2] = true) (u : MS) (a0 : Int64) (z : Int32 × MS) (hfin : m_effective u a0 = some z) : gMi l yM_effective wM_effective (rmF 3 67) D [(cA, .long), (cB, .int)] (MW cA cB o q q1 q2) (MA o q q1 q2) [.ref o, .long a0] u z := by
  refine g_start (plainFor_of_name (by decide)) (Nat.le_of_ble_eq_true rfl) ?_
  intro p e s0 m args below meth c ls X hr hlk hB hl
  obtain ⟨hP0, hK⟩ := hB
  have hI : gI D (MW cA cB o q q1 q2) (MA o q q1 q2) s0.heap s0.heap [] u := ⟨hP0, va_S.rf⟩
  have hl : lv_has ls 9 [(0, .ref o), (1, .long a0)] := hl
  have hx := X.1
  have hb := X.2.1
  have B_96 : ∀ (kl : MS → Int64 → Int32 → Int32 → Option (Int32 × MS)), (∀ (u : MS) (v3 : Int64) (v5 : Int32) (v6 : Int32) (H : Heap) (locs : List Loc) (ls : Array Slot), lv_has ls 9 [(0, .ref o), (1, .long a0), (3, .long v3), (5, .int v5), (6, .int v6)] → gI D (MW cA cB o q q1 q2) (MA o q q1 q2) s0.heap H locs u → kl u v3 v5 v6 = some z → W p l e (rmF 3 67) s0 m args below meth c H locs 0 0 (MQ below (va_Qi (fun r x => (r, x) = z) (gB D [(cA, .long), (cB, .int)] (MW cA cB o q q1 q2)) (MA o q q1 q2)) args s0 0 0 (MA o q q1 q2)) (F0 m 8 ls [])) → ∀ (u : MS) (v3 : Int64) (v5 : Int32) (v6 : Int32) (H : Heap) (locs : List Loc) (ls : Array Slot), lv_has ls 9 [(0, .ref o), (1, .long a0), (3, .long v3), (5, .int v5), (6, .int v6)] → gI D (MW cA cB o q q1 q2) (MA o q q1 q2) s0.heap H locs u → m_effective_96 kl a0 u v3 v5 v6 = some z → W p l e (rmF 3 67) s0 m args below meth c H locs 0 0 (MQ below (va_Qi (fun r x => (r, x) = z) (gB D [(cA, .long), (cB, .int)] (MW cA cB o q q1 q2)) (MA o q q1 q2)) args s0 0 0 (MA o q q1 q2)) (F0 m 96 ls []) := by
    intro kl IH u v3 v5 v6 H locs ls hl hI hfin
    rw [m_effective_96] at hfin
    refine lv_goto (tgt := 8) hx hb dM_effective_96 (by decide) ?_
    exact IH u v3 v5 v6 H locs ls (lv_sub hl [0, 1, 2, 3, 4] rfl) hI hfin
  have B_78 : ∀ (kl : MS → Int64 → Int32 → Int32 → Option (Int32 × MS)), (∀ (u : MS) (v3 : Int64) (v5 : Int32) (v6 : Int32) (H : Heap) (locs : List Loc) (ls : Array Slot), lv_has ls 9 [(0, .ref o), (1, .long a0), (3, .long v3), (5, .int v5), (6, .int v6)] → gI D (MW cA cB o q q1 q2) (MA o q q1 q2) s0.heap H locs u → kl u v3 v5 v6 = some z → W p l e (rmF 3 67) s0 m args below meth c H locs 0 0 (MQ below (va_Qi (fun r x => (r, x) = z) (gB D [(cA, .long), (cB, .int)] (MW cA cB o q q1 q2)) (MA o q q1 q2)) args s0 0 0 (MA o q q1 q2)) (F0 m 8 ls [])) → ∀ (u : MS) (v3 : Int64) (v5 : Int32) (t0 : Int32) (H : Heap) (locs : List Loc) (ls : Array Slot), lv_has ls 9 [(0, .ref o), (1, .long a0), (3, .long v3), (5, .int v5)] → gI D (MW cA cB o q q1 q2) (MA o q q1 q2) s0.heap H locs u → m_effective_78 kl a0 u v3 v5 t0 = some z → W p l e (rmF 3 67) s0 m args below meth c H locs 0 0 (MQ below (va_Qi (fun r x => (r, x) = z) (gB D [(cA, .long), (cB, .int)] (MW cA cB o q q1 q2)) (MA o q q1 q2)) args s0 0 0 (MA o q q1 q2)) (F0 m 78 ls [.int t0]) := by
    intro kl IH u v3 v5 t0 H locs ls hl hI hfin
    rw [m_effective_78] at hfin
    refine lv_istore (lv' := [(6, .int t0), (0, .ref o), (1, .long a0), (3, .long v3), (5, .int v5)]) hx hb dM_effective_78 hl (by decide) rfl (fun ls hl => ?_)
    refine lv_iload hx hb dM_effective_80 (lv_at hl 0 rfl) ?_
    refine lv_if_eq (tgt := 96) hx hb dM_effective_82 (by decide) (fun hc82 => ?_) (fun hc82 => ?_)
    · rw [if_pos hc82] at hfin
      exact B_96 kl IH u v3 v5 t0 H locs ls (lv_sub hl [1, 2, 3, 4, 0] rfl) hI hfin
    rw [if_neg hc82] at hfin
    refine lv_aload_n hx hb dM_effective_85 rfl (lv_at hl 1 rfl) ?_
    obtain ⟨z86, hz86, hfin⟩ := bd_ob hfin
    refine g_callMv [] [] X hK m_rcv hI (ctm_count l D cA cB o q q1 q2 hne u z86 hz86) (cwM_M_count X.2.2.2.2 ⟨Nat.le_of_ble_eq_true rfl, Nat.le_of_ble_eq_true rfl⟩) rfl hl.1 rfl (Nat.le_of_ble_eq_true rfl) dM_effective_86 (fun H locs hI => ?_)
    refine lv_aload_n hx hb dM_effective_89 rfl (lv_at hl 1 rfl) ?_
    refine lv_iload hx hb dM_effective_90 (lv_at hl 4 rfl) ?_
    obtain ⟨z92, hz92, hfin⟩ := bd_ob hfin
    refine g_callMl [.int v5] [] X hK m_rcv hI (ctm_get l D cA cB o q q1 q2 hne z86 v5 z92 hz92) (cwM_M_get X.2.2.2.2 ⟨Nat.le_of_ble_eq_true rfl, Nat.le_of_ble_eq_true rfl⟩) rfl hl.1 rfl (Nat.le_of_ble_eq_true rfl) dM_effective_92 (fun H locs hI => ?_)
    refine lv_lstore_n (lv' := [(3, .long z92.1), (6, .int t0), (0, .ref o), (1, .long a0), (5, .int v5)]) hx hb dM_effective_95 rfl hl (by decide) rfl (fun ls hl => ?_)
    exact B_96 kl IH z92.2 z92.1 v5 t0 H locs ls (lv_sub hl [2, 3, 0, 4, 1] rfl) hI hfin
  have B_49 : ∀ (kl : MS → Int64 → Int32 → Int32 → Option (Int32 × MS)), (∀ (u : MS) (v3 : Int64) (v5 : Int32) (v6 : Int32) (H : Heap) (locs : List Loc) (ls : Array Slot), lv_has ls 9 [(0, .ref o), (1, .long a0), (3, .long v3), (5, .int v5), (6, .int v6)] → gI D (MW cA cB o q q1 q2) (MA o q q1 q2) s0.heap H locs u → kl u v3 v5 v6 = some z → W p l e (rmF 3 67) s0 m args below meth c H locs 0 0 (MQ below (va_Qi (fun r x => (r, x) = z) (gB D [(cA, .long), (cB, .int)] (MW cA cB o q q1 q2)) (MA o q q1 q2)) args s0 0 0 (MA o q q1 q2)) (F0 m 8 ls [])) → ∀ (u : MS) (v3 : Int64) (t0 : Int32) (H : Heap) (locs : List Loc) (ls : Array Slot), lv_has ls 9 [(0, .ref o), (1, .long a0), (3, .long v3)] → gI D (MW cA cB o q q1 q2) (MA o q q1 q2) s0.heap H locs u → m_effective_49 kl a0 u v3 t0 = some z → W p l e (rmF 3 67) s0 m args below meth c H locs 0 0 (MQ below (va_Qi (fun r x => (r, x) = z) (gB D [(cA, .long), (cB, .int)] (MW cA cB o q q1 q2)) (MA o q q1 q2)) args s0 0 0 (MA o q q1 q2)) (F0 m 49 ls [.int t0]) := by
    intro kl IH u v3 t0 H locs ls hl hI hfin
    rw [m_effective_49] at hfin
    refine lv_istore (lv' := [(8, .int t0), (0, .ref o), (1, .long a0), (3, .long v3)]) hx hb dM_effective_49 hl (by decide) rfl (fun ls hl => ?_)
    refine lv_lload_n hx hb dM_effective_51 rfl (lv_at hl 3 rfl) ?_
    refine g_callPi [.long v3] [] X (ctm_right l v3) (cwM_M_right X.2.2.2.2 ⟨Nat.le_of_ble_eq_true rfl, Nat.le_of_ble_eq_true rfl⟩) rfl hl.1 rfl (Nat.le_of_ble_eq_true rfl) dM_effective_52 ?_
    refine lv_iload hx hb dM_effective_55 (lv_at hl 0 rfl) ?_
    refine lv_iadd hx hb dM_effective_57 ?_
    refine lv_ldc hx hb X.2.2.2.1 (X.2.2.2.2 _ hkM_26) dM_effective_58 ?_
    refine lv_iand hx hb dM_effective_60 ?_
    refine lv_topi (fun x61 e61 => ?_)
    replace hfin := nm_at hfin e61
    refine lv_istore (lv' := [(5, .int x61), (8, .int t0), (0, .ref o), (1, .long a0), (3, .long v3)]) hx hb dM_effective_61 hl (by decide) rfl (fun ls hl => ?_)
    refine lv_lload_n hx hb dM_effective_63 rfl (lv_at hl 4 rfl) ?_
    refine lv_bipush (v := (22 : Int32)) hx hb dM_effective_64 (by decide) ?_
    refine g_callPi [.long v3, .int (22 : Int32)] [] X (ctm_bit l v3 (22 : Int32)) (cwM_M_bit X.2.2.2.2 ⟨Nat.le_of_ble_eq_true rfl, Nat.le_of_ble_eq_true rfl⟩) rfl hl.1 rfl (Nat.le_of_ble_eq_true rfl) dM_effective_66 ?_
    refine lv_iconst (v := (1 : Int32)) hx hb dM_effective_69 (by decide) ?_
    refine lv_icmp_ne (tgt := 77) hx hb dM_effective_70 (by decide) (fun hc70 => ?_) (fun hc70 => ?_)
    · rw [if_neg hc70] at hfin
      refine lv_iconst (v := (0 : Int32)) hx hb dM_effective_77 (by decide) ?_
      exact B_78 kl IH u v3 x61 (0 : Int32) H locs ls (lv_sub hl [2, 3, 4, 0] rfl) hI hfin
    rw [if_pos hc70] at hfin
    refine lv_iconst (v := (1 : Int32)) hx hb dM_effective_73 (by decide) ?_
    refine lv_goto (tgt := 78) hx hb dM_effective_74 (by decide) ?_
    exact B_78 kl IH u v3 x61 (1 : Int32) H locs ls (lv_sub hl [2, 3, 4, 0] rfl) hI hfin
  have B_8 : ∀ (k : Nat) (u : MS) (v3 : Int64) (v5 : Int32) (v6 : Int32) (H : Heap) (locs : List Loc) (ls : Array Slot), lv_has ls 9 [(0, .ref o), (1, .long a0), (3, .long v3), (5, .int v5), (6, .int v6)] → gI D (MW cA cB o q q1 q2) (MA o q q1 q2) s0.heap H locs u → m_effective_8 a0 k u v3 v5 v6 = some z → W p l e (rmF 3 67) s0 m args below meth c H locs 0 0 (MQ below (va_Qi (fun r x => (r, x) = z) (gB D [(cA, .long), (cB, .int)] (MW cA cB o q q1 q2)) (MA o q q1 q2)) args s0 0 0 (MA o q q1 q2)) (F0 m 8 ls []) := by
    intro k
    induction k with
    | zero =>
      intro u v3 v5 v6 H locs ls hl hI hfin
      rw [m_effective_8] at hfin
      cases hfin
    | succ k IH =>
      intro u v3 v5 v6 H locs ls hl hI hfin
      rw [m_effective_8] at hfin
      refine lv_iload hx hb dM_effective_8 (lv_at hl 4 rfl) ?_
      refine lv_if_eq (tgt := 99) hx hb dM_effective_10 (by decide) (fun hc10 => ?_) (fun hc10 => ?_)
      · rw [if_pos hc10] at hfin
        refine lv_iload hx hb dM_effective_99 (lv_at hl 3 rfl) ?_
        exact g_iret X hr hlk hK hI hfin dM_effective_101
      rw [if_neg hc10] at hfin
      refine lv_aload_n hx hb dM_effective_13 rfl (lv_at hl 0 rfl) ?_
      refine mg_wrong X hK hI.1 dM_effective_14 ?_
      refine lv_if_ne (tgt := 99) hx hb dM_effective_17 (by decide) (fun hc17 => ?_) (fun hc17 => ?_)
      · rw [if_neg hc17] at hfin
        refine lv_iload hx hb dM_effective_99 (lv_at hl 3 rfl) ?_
        exact g_iret X hr hlk hK hI hfin dM_effective_101
      rw [if_pos hc17] at hfin
      refine lv_lload_n hx hb dM_effective_20 rfl (lv_at hl 2 rfl) ?_
      refine lv_bipush (v := (18 : Int32)) hx hb dM_effective_21 (by decide) ?_
      refine lv_lshr hx hb dM_effective_23 rfl ?_
      refine lv_ldc2 hx hb X.2.2.2.1 (X.2.2.2.2 _ hkM_56) dM_effective_24 ?_
      refine lv_land hx hb dM_effective_27 ?_
      refine lv_l2i hx hb dM_effective_28 rfl ?_
      refine lv_topi (fun x29 e29 => ?_)
      replace hfin := nm_at hfin e29
      refine lv_istore (lv' := [(7, .int x29), (0, .ref o), (1, .long a0), (3, .long v3), (5, .int v5), (6, .int v6)]) hx hb dM_effective_29 hl (by decide) rfl (fun ls hl => ?_)
      refine lv_iload hx hb dM_effective_31 (lv_at hl 0 rfl) ?_
      refine lv_if_le (tgt := 48) hx hb dM_effective_33 (by decide) (fun hc33 => ?_) (fun hc33 => ?_)
      · rw [if_pos hc33] at hfin
        refine lv_iconst (v := (0 : Int32)) hx hb dM_effective_48 (by decide) ?_
        exact B_49 _ IH u v3 (0 : Int32) H locs ls (lv_sub hl [1, 2, 3] rfl) hI hfin
      rw [if_neg hc33] at hfin
      refine lv_aload_n hx hb dM_effective_36 rfl (lv_at hl 1 rfl) ?_
      refine lv_iload hx hb dM_effective_37 (lv_at hl 0 rfl) ?_
      obtain ⟨z39, hz39, hfin⟩ := bd_ob hfin
      refine g_callMl [.int x29] [] X hK m_rcv hI (ctm_get l D cA cB o q q1 q2 hne u x29 z39 hz39) (cwM_M_get X.2.2.2.2 ⟨Nat.le_of_ble_eq_true rfl, Nat.le_of_ble_eq_true rfl⟩) rfl hl.1 rfl (Nat.le_of_ble_eq_true rfl) dM_effective_39 (fun H locs hI => ?_)
      refine g_callPi [.long z39.1] [] X (ctm_right l z39.1) (cwM_M_right X.2.2.2.2 ⟨Nat.le_of_ble_eq_true rfl, Nat.le_of_ble_eq_true rfl⟩) rfl hl.1 rfl (Nat.le_of_ble_eq_true rfl) dM_effective_42 ?_
      refine lv_goto (tgt := 49) hx hb dM_effective_45 (by decide) ?_
      exact B_49 _ IH z39.2 v3 (m_right z39.1) H locs ls (lv_sub hl [1, 2, 3] rfl) hI hfin
  rw [m_effective] at hfin
  refine lv_lload_n hx hb dM_effective_0 rfl (lv_at hl 1 rfl) ?_
  refine lv_lstore_n (lv' := [(3, .long a0), (0, .ref o), (1, .long a0)]) hx hb dM_effective_1 rfl hl (by decide) rfl (fun ls hl => ?_)
  refine lv_iconst (v := (0 : Int32)) hx hb dM_effective_2 (by decide) ?_
  refine lv_istore (lv' := [(5, .int (0 : Int32)), (3, .long a0), (0, .ref o), (1, .long a0)]) hx hb dM_effective_3 hl (by decide) rfl (fun ls hl => ?_)
  refine lv_iconst (v := (1 : Int32)) hx hb dM_effective_5 (by decide) ?_
  refine lv_istore (lv' := [(6, .int (1 : Int32)), (5, .int (0 : Int32)), (3, .long a0), (0, .ref o), (1, .long a0)]) hx hb dM_effective_6 hl (by decide) rfl (fun ls hl => ?_)
  exact B_8 11 u a0 (0 : Int32) (1 : Int32) s0.heap [] ls (lv_sub hl [3, 4, 2, 1, 0] rfl) hI hfin
set_option maxHeartbeats 4000000 in
set_option maxRecDepth 100000 in
theorem ctm_flags (l : Launch) (D : va_G) (cA cB : ClassId) (o q q1 q2 : Nat) (u : MS)  : gRl l yM_flags wM_flags (rmF 1 21) D [(cA, .long), (cB, .int)] (MW cA cB o q q1 q2) [.ref o] u (m_flags u) := by
  obtain ⟨z, hz⟩ : ∃ z, z = m_flags u := ⟨_, rfl⟩
  rw [← hz]
  have hfin := hz.symm
  clear hz
  refine g_start (plainFor_of_name (by decide)) (Nat.le_of_ble_eq_true rfl) ?_
  intro p e s0 m args below meth c ls X hr hlk hB hl
  obtain ⟨hP0, hK⟩ := hB
  have hl : lv_has ls 1 [(0, .ref o)] := hl
  have hx := X.1
  have hb := X.2.1
  have B_27 : ∀ (t0 : Int32) (t1 : Int32) (ls : Array Slot), lv_has ls 1 [(0, .ref o)] → m_flags_27 u t0 t1 = z → W p l e (rmF 1 21) s0 m args below meth c s0.heap [] 0 0 (MQ below (vp_Sl (fun r => r = z)) args s0 0 0 (fun _ => False)) (F0 m 27 ls [.int t1, .int t0]) := by
    intro t0 t1 ls hl hfin
    rw [m_flags_27] at hfin
    refine lv_iadd hx hb dM_flags_27 ?_
    refine lv_aload_n hx hb dM_flags_28 rfl (lv_at hl 0 rfl) ?_
    refine mg_pc X hK hP0 dM_flags_29 ?_
    refine g_callPl [.int (t0 + t1), .int (M_pc u)] [] X (ctm_joined l (t0 + t1) (M_pc u)) (cwM_M_joined X.2.2.2.2 ⟨Nat.le_of_ble_eq_true rfl, Nat.le_of_ble_eq_true rfl⟩) rfl hl.1 rfl (Nat.le_of_ble_eq_true rfl) dM_flags_32 ?_
    exact g_lretP X hr hlk hfin dM_flags_35
  have B_13 : ∀ (t0 : Int32) (ls : Array Slot), lv_has ls 1 [(0, .ref o)] → m_flags_13 u t0 = z → W p l e (rmF 1 21) s0 m args below meth c s0.heap [] 0 0 (MQ below (vp_Sl (fun r => r = z)) args s0 0 0 (fun _ => False)) (F0 m 13 ls [.int t0]) := by
    intro t0 ls hl hfin
    rw [m_flags_13] at hfin
    refine lv_aload_n hx hb dM_flags_13 rfl (lv_at hl 0 rfl) ?_
    refine mg_user X hK hP0 dM_flags_14 ?_
    refine lv_if_eq (tgt := 26) hx hb dM_flags_17 (by decide) (fun hc17 => ?_) (fun hc17 => ?_)
    · rw [if_pos hc17] at hfin
      refine lv_iconst (v := (0 : Int32)) hx hb dM_flags_26 (by decide) ?_
      exact B_27 t0 (0 : Int32) ls (lv_sub hl [0] rfl) hfin
    rw [if_neg hc17] at hfin
    refine lv_sipush (v := (4096 : Int32)) hx hb dM_flags_20 (by decide) ?_
    refine lv_goto (tgt := 27) hx hb dM_flags_23 (by decide) ?_
    exact B_27 t0 (4096 : Int32) ls (lv_sub hl [0] rfl) hfin
  rw [m_flags] at hfin
  refine lv_aload_n hx hb dM_flags_0 rfl (lv_at hl 0 rfl) ?_
  refine mg_overflow X hK hP0 dM_flags_1 ?_
  refine lv_if_eq (tgt := 12) hx hb dM_flags_4 (by decide) (fun hc4 => ?_) (fun hc4 => ?_)
  · rw [if_pos hc4] at hfin
    refine lv_iconst (v := (0 : Int32)) hx hb dM_flags_12 (by decide) ?_
    exact B_13 (0 : Int32) ls (lv_sub hl [0] rfl) hfin
  rw [if_neg hc4] at hfin
  refine lv_ldc hx hb X.2.2.2.1 (X.2.2.2.2 _ hkM_35) dM_flags_7 ?_
  refine lv_goto (tgt := 13) hx hb dM_flags_9 (by decide) ?_
  exact B_13 (131072 : Int32) ls (lv_sub hl [0] rfl) hfin
set_option maxHeartbeats 4000000 in
set_option maxRecDepth 100000 in
theorem ctm_holds0 (l : Launch) (a0 : Int32) (a1 : Int64) : gPi l yM_holds0 wM_holds0 (rmF 0 0) [.int a0, .long a1] (m_holds0 a0 a1) := by
  obtain ⟨z, hz⟩ : ∃ z, z = m_holds0 a0 a1 := ⟨_, rfl⟩
  rw [← hz]
  have hfin := hz.symm
  clear hz
  refine g_start (plainFor_of_name (by decide)) (Nat.le_of_ble_eq_true rfl) ?_
  intro p e s0 m args below meth c ls X hr hlk hB hl
  have hl : lv_has ls 3 [(0, .int a0), (1, .long a1)] := hl
  have hx := X.1
  have hb := X.2.1
  have B_22 : ∀  (ls : Array Slot), lv_has ls 3 [(0, .int a0), (1, .long a1)] → m_holds0_22 a0 a1 = z → W p l e (rmF 0 0) s0 m args below meth c s0.heap [] 0 0 (MQ below (vp_Si (fun r => r = z)) args s0 0 0 (fun _ => False)) (F0 m 22 ls []) := by
    intro ls hl hfin
    rw [m_holds0_22] at hfin
    refine lv_iload_n hx hb dM_holds0_22 rfl (lv_at hl 0 rfl) ?_
    refine lv_iconst (v := (3 : Int32)) hx hb dM_holds0_23 (by decide) ?_
    refine lv_icmp_ne (tgt := 37) hx hb dM_holds0_24 (by decide) (fun hc24 => ?_) (fun hc24 => ?_)
    · rw [if_neg hc24] at hfin
      refine lv_iconst (v := (0 : Int32)) hx hb dM_holds0_37 (by decide) ?_
      exact g_zretP X hr hlk rfl hfin dM_holds0_38
    rw [if_pos hc24] at hfin
    refine lv_lload_n hx hb dM_holds0_27 rfl (lv_at hl 1 rfl) ?_
    refine lv_lconst (v := (0 : Int64)) hx hb dM_holds0_28 (by decide) ?_
    refine W.lcmp hx hb dM_holds0_29 ?_
    refine lv_if_gt (tgt := 37) hx hb dM_holds0_30 (by decide) (fun hc30 => ?_) (fun hc30 => ?_)
    · rw [if_pos hc30] at hfin
      refine lv_iconst (v := (0 : Int32)) hx hb dM_holds0_37 (by decide) ?_
      exact g_zretP X hr hlk rfl hfin dM_holds0_38
    rw [if_neg hc30] at hfin
    refine lv_iconst (v := (1 : Int32)) hx hb dM_holds0_33 (by decide) ?_
    refine lv_goto (tgt := 38) hx hb dM_holds0_34 (by decide) ?_
    exact g_zretP X hr hlk rfl hfin dM_holds0_38
  have B_11 : ∀  (ls : Array Slot), lv_has ls 3 [(0, .int a0), (1, .long a1)] → m_holds0_11 a0 a1 = z → W p l e (rmF 0 0) s0 m args below meth c s0.heap [] 0 0 (MQ below (vp_Si (fun r => r = z)) args s0 0 0 (fun _ => False)) (F0 m 11 ls []) := by
    intro ls hl hfin
    rw [m_holds0_11] at hfin
    refine lv_iload_n hx hb dM_holds0_11 rfl (lv_at hl 0 rfl) ?_
    refine lv_iconst (v := (2 : Int32)) hx hb dM_holds0_12 (by decide) ?_
    refine lv_icmp_ne (tgt := 22) hx hb dM_holds0_13 (by decide) (fun hc13 => ?_) (fun hc13 => ?_)
    · rw [if_neg hc13] at hfin
      exact B_22 ls (lv_sub hl [0, 1] rfl) hfin
    rw [if_pos hc13] at hfin
    refine lv_lload_n hx hb dM_holds0_16 rfl (lv_at hl 1 rfl) ?_
    refine lv_lconst (v := (0 : Int64)) hx hb dM_holds0_17 (by decide) ?_
    refine W.lcmp hx hb dM_holds0_18 ?_
    refine lv_if_eq (tgt := 33) hx hb dM_holds0_19 (by decide) (fun hc19 => ?_) (fun hc19 => ?_)
    · rw [if_pos hc19] at hfin
      refine lv_iconst (v := (1 : Int32)) hx hb dM_holds0_33 (by decide) ?_
      refine lv_goto (tgt := 38) hx hb dM_holds0_34 (by decide) ?_
      exact g_zretP X hr hlk rfl hfin dM_holds0_38
    rw [if_neg hc19] at hfin
    exact B_22 ls (lv_sub hl [0, 1] rfl) hfin
  rw [m_holds0] at hfin
  refine lv_iload_n hx hb dM_holds0_0 rfl (lv_at hl 0 rfl) ?_
  refine lv_iconst (v := (1 : Int32)) hx hb dM_holds0_1 (by decide) ?_
  refine lv_icmp_ne (tgt := 11) hx hb dM_holds0_2 (by decide) (fun hc2 => ?_) (fun hc2 => ?_)
  · rw [if_neg hc2] at hfin
    exact B_11 ls (lv_sub hl [0, 1] rfl) hfin
  rw [if_pos hc2] at hfin
  refine lv_lload_n hx hb dM_holds0_5 rfl (lv_at hl 1 rfl) ?_
  refine lv_lconst (v := (0 : Int64)) hx hb dM_holds0_6 (by decide) ?_
  refine W.lcmp hx hb dM_holds0_7 ?_
  refine lv_if_lt (tgt := 33) hx hb dM_holds0_8 (by decide) (fun hc8 => ?_) (fun hc8 => ?_)
  · rw [if_pos hc8] at hfin
    refine lv_iconst (v := (1 : Int32)) hx hb dM_holds0_33 (by decide) ?_
    refine lv_goto (tgt := 38) hx hb dM_holds0_34 (by decide) ?_
    exact g_zretP X hr hlk rfl hfin dM_holds0_38
  rw [if_neg hc8] at hfin
  exact B_11 ls (lv_sub hl [0, 1] rfl) hfin
