set_option maxHeartbeats 4000000 in
set_option maxRecDepth 100000 in
theorem ctm_move (l : Launch) (D : va_G) (cA cB : ClassId) (o q q1 q2 : Nat) (hne : va_nd [o, q, q1, q2] = true) (u : MS) (a0 : Int32) (a1 : Int32) (a2 : Int32) (z : MS) (hfin : m_move u a0 a1 a2 = some z) : gMv l yM_move wM_move (rmF 4 94) D [(cA, .long), (cB, .int)] (MW cA cB o q q1 q2) (MA o q q1 q2) [.ref o, .int a0, .int a1, .int a2] u z := by
  refine g_start (plainFor_of_name (by decide)) (Nat.le_of_ble_eq_true rfl) ?_
  intro p e s0 m args below meth c ls X hr hlk hB hl
  obtain ⟨hP0, hK⟩ := hB
  have hI : gI D (MW cA cB o q q1 q2) (MA o q q1 q2) s0.heap s0.heap [] u := ⟨hP0, va_S.rf⟩
  have hl : lv_has ls 11 [(0, .ref o), (1, .int a0), (2, .int a1), (3, .int a2)] := hl
  have hx := X.1
  have hb := X.2.1
  have B_126 : ∀ (u : MS) (v4 : Int32) (t0 : Int64) (H : Heap) (locs : List Loc) (ls : Array Slot), lv_has ls 11 [(0, .ref o), (1, .int a0), (2, .int a1), (3, .int a2), (4, .int v4)] → gI D (MW cA cB o q q1 q2) (MA o q q1 q2) s0.heap H locs u → m_move_126 a0 a1 a2 u v4 t0 = some z → W p l e (rmF 4 94) s0 m args below meth c H locs 0 0 (MQ below (va_Qv (fun x => x = z) (gB D [(cA, .long), (cB, .int)] (MW cA cB o q q1 q2)) (MA o q q1 q2)) args s0 0 0 (MA o q q1 q2)) (F0 m 126 ls [.long t0]) := by
    intro u v4 t0 H locs ls hl hI hfin
    rw [m_move_126] at hfin
    refine lv_lstore (lv' := [(9, .long t0), (0, .ref o), (1, .int a0), (2, .int a1), (3, .int a2), (4, .int v4)]) hx hb dM_move_126 hl (by decide) rfl (fun ls hl => ?_)
    refine lv_aload_n hx hb dM_move_128 rfl (lv_at hl 1 rfl) ?_
    refine lv_iload hx hb dM_move_129 (lv_at hl 5 rfl) ?_
    refine lv_iload_n hx hb dM_move_131 rfl (lv_at hl 3 rfl) ?_
    refine lv_iload_n hx hb dM_move_132 rfl (lv_at hl 4 rfl) ?_
    refine lv_lload hx hb dM_move_133 (lv_at hl 0 rfl) ?_
    obtain ⟨z135, hz135, hfin⟩ := bd_ob hfin
    refine g_callMv [.int v4, .int a1, .int a2, .long t0] [] X hK m_rcv hI (ctm_place l D cA cB o q q1 q2 hne u v4 a1 a2 t0 z135 hz135) (cwM_M_place X.2.2.2.2 ⟨Nat.le_of_ble_eq_true rfl, Nat.le_of_ble_eq_true rfl⟩) rfl hl.1 rfl (Nat.le_of_ble_eq_true rfl) dM_move_135 (fun H locs hI => ?_)
    exact g_vret X hr hlk hK hI hfin dM_move_138
  have B_85 : ∀ (u : MS) (v4 : Int32) (v5 : Int64) (v7 : Int32) (v8 : Int32) (t1 : Int32) (H : Heap) (locs : List Loc) (ls : Array Slot), lv_has ls 11 [(0, .ref o), (1, .int a0), (2, .int a1), (3, .int a2), (4, .int v4), (5, .long v5), (7, .int v7), (8, .int v8)] → gI D (MW cA cB o q q1 q2) (MA o q q1 q2) s0.heap H locs u → m_move_85 a0 a1 a2 u v4 v5 v7 v8 t1 = some z → W p l e (rmF 4 94) s0 m args below meth c H locs 0 0 (MQ below (va_Qv (fun x => x = z) (gB D [(cA, .long), (cB, .int)] (MW cA cB o q q1 q2)) (MA o q q1 q2)) args s0 0 0 (MA o q q1 q2)) (F0 m 85 ls [.int t1, .ref o]) := by
    intro u v4 v5 v7 v8 t1 H locs ls hl hI hfin
    rw [m_move_85] at hfin
    obtain ⟨z85, hz85, hfin⟩ := bd_ob hfin
    refine g_callMv [.int t1] [] X hK m_rcv hI (ctm_over l D cA cB o q q1 q2 hne u t1 z85 hz85) (cwM_M_over X.2.2.2.2 ⟨Nat.le_of_ble_eq_true rfl, Nat.le_of_ble_eq_true rfl⟩) rfl hl.1 rfl (Nat.le_of_ble_eq_true rfl) dM_move_85 (fun H locs hI => ?_)
    refine lv_iload hx hb dM_move_88 (lv_at hl 6 rfl) ?_
    refine lv_iconst (v := (1 : Int32)) hx hb dM_move_90 (by decide) ?_
    refine lv_icmp_ne (tgt := 110) hx hb dM_move_91 (by decide) (fun hc91 => ?_) (fun hc91 => ?_)
    · rw [if_neg hc91] at hfin
      refine lv_iload hx hb dM_move_110 (lv_at hl 7 rfl) ?_
      refine lv_if_eq (tgt := 124) hx hb dM_move_112 (by decide) (fun hc112 => ?_) (fun hc112 => ?_)
      · rw [if_pos hc112] at hfin
        refine lv_lload hx hb dM_move_124 (lv_at hl 5 rfl) ?_
        exact B_126 z85 v4 v5 H locs ls (lv_sub hl [0, 1, 2, 3, 4] rfl) hI hfin
      rw [if_neg hc112] at hfin
      refine lv_ldc2 hx hb X.2.2.2.1 (X.2.2.2.2 _ hkM_140) dM_move_115 ?_
      refine lv_lload hx hb dM_move_118 (lv_at hl 5 rfl) ?_
      refine lv_lsub hx hb dM_move_120 ?_
      refine lv_goto (tgt := 126) hx hb dM_move_121 (by decide) ?_
      exact B_126 z85 v4 ((68719476736 : Int64) - v5) H locs ls (lv_sub hl [0, 1, 2, 3, 4] rfl) hI hfin
    rw [if_pos hc91] at hfin
    refine lv_lload hx hb dM_move_94 (lv_at hl 5 rfl) ?_
    refine g_callPi [.long v5] [] X (ctm_right l v5) (cwM_M_right X.2.2.2.2 ⟨Nat.le_of_ble_eq_true rfl, Nat.le_of_ble_eq_true rfl⟩) rfl hl.1 rfl (Nat.le_of_ble_eq_true rfl) dM_move_96 ?_
    refine lv_lload hx hb dM_move_99 (lv_at hl 5 rfl) ?_
    refine g_callPi [.long v5] [.int (m_right v5)] X (ctm_left l v5) (cwM_M_left X.2.2.2.2 ⟨Nat.le_of_ble_eq_true rfl, Nat.le_of_ble_eq_true rfl⟩) rfl hl.1 rfl (Nat.le_of_ble_eq_true rfl) dM_move_101 ?_
    refine g_callPl [.int (m_right v5), .int (m_left v5)] [] X (ctm_joined l (m_right v5) (m_left v5)) (cwM_M_joined X.2.2.2.2 ⟨Nat.le_of_ble_eq_true rfl, Nat.le_of_ble_eq_true rfl⟩) rfl hl.1 rfl (Nat.le_of_ble_eq_true rfl) dM_move_104 ?_
    refine lv_goto (tgt := 126) hx hb dM_move_107 (by decide) ?_
    exact B_126 z85 v4 (m_joined (m_right v5) (m_left v5)) H locs ls (lv_sub hl [0, 1, 2, 3, 4] rfl) hI hfin
  have B_84 : ∀ (u : MS) (v4 : Int32) (v5 : Int64) (v7 : Int32) (v8 : Int32) (H : Heap) (locs : List Loc) (ls : Array Slot), lv_has ls 11 [(0, .ref o), (1, .int a0), (2, .int a1), (3, .int a2), (4, .int v4), (5, .long v5), (7, .int v7), (8, .int v8)] → gI D (MW cA cB o q q1 q2) (MA o q q1 q2) s0.heap H locs u → m_move_84 a0 a1 a2 u v4 v5 v7 v8 = some z → W p l e (rmF 4 94) s0 m args below meth c H locs 0 0 (MQ below (va_Qv (fun x => x = z) (gB D [(cA, .long), (cB, .int)] (MW cA cB o q q1 q2)) (MA o q q1 q2)) args s0 0 0 (MA o q q1 q2)) (F0 m 84 ls [.ref o]) := by
    intro u v4 v5 v7 v8 H locs ls hl hI hfin
    rw [m_move_84] at hfin
    refine lv_iconst (v := (0 : Int32)) hx hb dM_move_84 (by decide) ?_
    exact B_85 u v4 v5 v7 v8 (0 : Int32) H locs ls (lv_sub hl [0, 1, 2, 3, 4, 5, 6, 7] rfl) hI hfin
  have B_62 : ∀ (u : MS) (v4 : Int32) (v5 : Int64) (v7 : Int32) (t0 : Int32) (H : Heap) (locs : List Loc) (ls : Array Slot), lv_has ls 11 [(0, .ref o), (1, .int a0), (2, .int a1), (3, .int a2), (4, .int v4), (5, .long v5), (7, .int v7)] → gI D (MW cA cB o q q1 q2) (MA o q q1 q2) s0.heap H locs u → m_move_62 a0 a1 a2 u v4 v5 v7 t0 = some z → W p l e (rmF 4 94) s0 m args below meth c H locs 0 0 (MQ below (va_Qv (fun x => x = z) (gB D [(cA, .long), (cB, .int)] (MW cA cB o q q1 q2)) (MA o q q1 q2)) args s0 0 0 (MA o q q1 q2)) (F0 m 62 ls [.int t0]) := by
    intro u v4 v5 v7 t0 H locs ls hl hI hfin
    rw [m_move_62] at hfin
    refine lv_istore (lv' := [(8, .int t0), (0, .ref o), (1, .int a0), (2, .int a1), (3, .int a2), (4, .int v4), (5, .long v5), (7, .int v7)]) hx hb dM_move_62 hl (by decide) rfl (fun ls hl => ?_)
    refine lv_aload_n hx hb dM_move_64 rfl (lv_at hl 1 rfl) ?_
    refine lv_iload hx hb dM_move_65 (lv_at hl 7 rfl) ?_
    refine lv_iconst (v := (1 : Int32)) hx hb dM_move_67 (by decide) ?_
    refine lv_icmp_le (tgt := 84) hx hb dM_move_68 (by decide) (fun hc68 => ?_) (fun hc68 => ?_)
    · rw [if_pos hc68] at hfin
      exact B_84 u v4 v5 v7 t0 H locs ls (lv_sub hl [1, 2, 3, 4, 5, 6, 7, 0] rfl) hI hfin
    rw [if_neg hc68] at hfin
    refine lv_lload hx hb dM_move_71 (lv_at hl 6 rfl) ?_
    refine lv_ldc2 hx hb X.2.2.2.1 (X.2.2.2.2 _ hkM_20) dM_move_73 ?_
    refine W.lcmp hx hb dM_move_76 ?_
    refine lv_if_ne (tgt := 84) hx hb dM_move_77 (by decide) (fun hc77 => ?_) (fun hc77 => ?_)
    · rw [if_neg hc77] at hfin
      exact B_84 u v4 v5 v7 t0 H locs ls (lv_sub hl [1, 2, 3, 4, 5, 6, 7, 0] rfl) hI hfin
    rw [if_pos hc77] at hfin
    refine lv_iconst (v := (1 : Int32)) hx hb dM_move_80 (by decide) ?_
    refine lv_goto (tgt := 85) hx hb dM_move_81 (by decide) ?_
    exact B_85 u v4 v5 v7 t0 (1 : Int32) H locs ls (lv_sub hl [1, 2, 3, 4, 5, 6, 7, 0] rfl) hI hfin
  have B_57 : ∀ (u : MS) (v4 : Int32) (v5 : Int64) (v7 : Int32) (H : Heap) (locs : List Loc) (ls : Array Slot), lv_has ls 11 [(0, .ref o), (1, .int a0), (2, .int a1), (3, .int a2), (4, .int v4), (5, .long v5), (7, .int v7)] → gI D (MW cA cB o q q1 q2) (MA o q q1 q2) s0.heap H locs u → m_move_57 a0 a1 a2 u v4 v5 v7 = some z → W p l e (rmF 4 94) s0 m args below meth c H locs 0 0 (MQ below (va_Qv (fun x => x = z) (gB D [(cA, .long), (cB, .int)] (MW cA cB o q q1 q2)) (MA o q q1 q2)) args s0 0 0 (MA o q q1 q2)) (F0 m 57 ls []) := by
    intro u v4 v5 v7 H locs ls hl hI hfin
    rw [m_move_57] at hfin
    refine lv_iconst (v := (1 : Int32)) hx hb dM_move_57 (by decide) ?_
    refine lv_goto (tgt := 62) hx hb dM_move_58 (by decide) ?_
    exact B_62 u v4 v5 v7 (1 : Int32) H locs ls (lv_sub hl [0, 1, 2, 3, 4, 5, 6] rfl) hI hfin
  have B_61 : ∀ (u : MS) (v4 : Int32) (v5 : Int64) (v7 : Int32) (H : Heap) (locs : List Loc) (ls : Array Slot), lv_has ls 11 [(0, .ref o), (1, .int a0), (2, .int a1), (3, .int a2), (4, .int v4), (5, .long v5), (7, .int v7)] → gI D (MW cA cB o q q1 q2) (MA o q q1 q2) s0.heap H locs u → m_move_61 a0 a1 a2 u v4 v5 v7 = some z → W p l e (rmF 4 94) s0 m args below meth c H locs 0 0 (MQ below (va_Qv (fun x => x = z) (gB D [(cA, .long), (cB, .int)] (MW cA cB o q q1 q2)) (MA o q q1 q2)) args s0 0 0 (MA o q q1 q2)) (F0 m 61 ls []) := by
    intro u v4 v5 v7 H locs ls hl hI hfin
    rw [m_move_61] at hfin
    refine lv_iconst (v := (0 : Int32)) hx hb dM_move_61 (by decide) ?_
    exact B_62 u v4 v5 v7 (0 : Int32) H locs ls (lv_sub hl [0, 1, 2, 3, 4, 5, 6] rfl) hI hfin
  have B_27 : ∀ (u : MS) (v4 : Int32) (t0 : Int64) (H : Heap) (locs : List Loc) (ls : Array Slot), lv_has ls 11 [(0, .ref o), (1, .int a0), (2, .int a1), (3, .int a2), (4, .int v4)] → gI D (MW cA cB o q q1 q2) (MA o q q1 q2) s0.heap H locs u → m_move_27 a0 a1 a2 u v4 t0 = some z → W p l e (rmF 4 94) s0 m args below meth c H locs 0 0 (MQ below (va_Qv (fun x => x = z) (gB D [(cA, .long), (cB, .int)] (MW cA cB o q q1 q2)) (MA o q q1 q2)) args s0 0 0 (MA o q q1 q2)) (F0 m 27 ls [.long t0]) := by
    intro u v4 t0 H locs ls hl hI hfin
    rw [m_move_27] at hfin
    refine lv_lstore (lv' := [(5, .long t0), (0, .ref o), (1, .int a0), (2, .int a1), (3, .int a2), (4, .int v4)]) hx hb dM_move_27 hl (by decide) rfl (fun ls hl => ?_)
    refine lv_iload_n hx hb dM_move_29 rfl (lv_at hl 2 rfl) ?_
    refine lv_iconst (v := (4 : Int32)) hx hb dM_move_30 (by decide) ?_
    refine lv_idiv hx hb dM_move_31 (by decide) ?_
    refine lv_iconst (v := (4 : Int32)) hx hb dM_move_32 (by decide) ?_
    refine lv_irem hx hb dM_move_33 (by decide) ?_
    refine lv_topi (fun x34 e34 => ?_)
    replace hfin := nm_at hfin e34
    refine lv_istore (lv' := [(7, .int x34), (5, .long t0), (0, .ref o), (1, .int a0), (2, .int a1), (3, .int a2), (4, .int v4)]) hx hb dM_move_34 hl (by decide) rfl (fun ls hl => ?_)
    refine lv_iload hx hb dM_move_36 (lv_at hl 0 rfl) ?_
    refine lv_iconst (v := (2 : Int32)) hx hb dM_move_38 (by decide) ?_
    refine lv_icmp_eq (tgt := 57) hx hb dM_move_39 (by decide) (fun hc39 => ?_) (fun hc39 => ?_)
    · rw [if_pos hc39] at hfin
      exact B_57 u v4 t0 x34 H locs ls (lv_sub hl [2, 3, 4, 5, 6, 1, 0] rfl) hI hfin
    rw [if_neg hc39] at hfin
    refine lv_iload hx hb dM_move_42 (lv_at hl 0 rfl) ?_
    refine lv_iconst (v := (3 : Int32)) hx hb dM_move_44 (by decide) ?_
    refine lv_icmp_ne (tgt := 61) hx hb dM_move_45 (by decide) (fun hc45 => ?_) (fun hc45 => ?_)
    · rw [if_neg hc45] at hfin
      exact B_61 u v4 t0 x34 H locs ls (lv_sub hl [2, 3, 4, 5, 6, 1, 0] rfl) hI hfin
    rw [if_pos hc45] at hfin
    refine lv_lload hx hb dM_move_48 (lv_at hl 1 rfl) ?_
    refine lv_ldc2 hx hb X.2.2.2.1 (X.2.2.2.2 _ hkM_20) dM_move_50 ?_
    refine W.lcmp hx hb dM_move_53 ?_
    refine lv_if_lt (tgt := 61) hx hb dM_move_54 (by decide) (fun hc54 => ?_) (fun hc54 => ?_)
    · rw [if_pos hc54] at hfin
      exact B_61 u v4 t0 x34 H locs ls (lv_sub hl [2, 3, 4, 5, 6, 1, 0] rfl) hI hfin
    rw [if_neg hc54] at hfin
    exact B_57 u v4 t0 x34 H locs ls (lv_sub hl [2, 3, 4, 5, 6, 1, 0] rfl) hI hfin
  rw [m_move] at hfin
  refine lv_iload_n hx hb dM_move_0 rfl (lv_at hl 1 rfl) ?_
  refine lv_iconst (v := (4 : Int32)) hx hb dM_move_1 (by decide) ?_
  refine lv_irem hx hb dM_move_2 (by decide) ?_
  refine lv_topi (fun x3 e3 => ?_)
  replace hfin := nm_at hfin e3
  refine lv_istore (lv' := [(4, .int x3), (0, .ref o), (1, .int a0), (2, .int a1), (3, .int a2)]) hx hb dM_move_3 hl (by decide) rfl (fun ls hl => ?_)
  refine lv_iload hx hb dM_move_5 (lv_at hl 0 rfl) ?_
  refine lv_iconst (v := (2 : Int32)) hx hb dM_move_7 (by decide) ?_
  refine lv_icmp_ne (tgt := 20) hx hb dM_move_8 (by decide) (fun hc8 => ?_) (fun hc8 => ?_)
  · rw [if_neg hc8] at hfin
    refine lv_aload_n hx hb dM_move_20 rfl (lv_at hl 1 rfl) ?_
    refine lv_iload hx hb dM_move_21 (lv_at hl 0 rfl) ?_
    refine lv_iload_n hx hb dM_move_23 rfl (lv_at hl 4 rfl) ?_
    obtain ⟨z24, hz24, hfin⟩ := bd_ob hfin
    refine g_callMl [.int x3, .int a2] [] X hK m_rcv hI (ctm_source l D cA cB o q q1 q2 hne u x3 a2 z24 hz24) (cwM_M_source X.2.2.2.2 ⟨Nat.le_of_ble_eq_true rfl, Nat.le_of_ble_eq_true rfl⟩) rfl hl.1 rfl (Nat.le_of_ble_eq_true rfl) dM_move_24 (fun H locs hI => ?_)
    exact B_27 z24.2 x3 z24.1 H locs ls (lv_sub hl [1, 2, 3, 4, 0] rfl) hI hfin
  rw [if_pos hc8] at hfin
  refine lv_aload_n hx hb dM_move_11 rfl (lv_at hl 1 rfl) ?_
  refine mg_store X hK hI.1 dM_move_12 ?_
  refine lv_iload_n hx hb dM_move_15 rfl (lv_at hl 3 rfl) ?_
  obtain ⟨hd16, hfin⟩ := ck_if hfin
  refine ml_store X hK hI.1 hd16 dM_move_16 ?_
  refine lv_goto (tgt := 27) hx hb dM_move_17 (by decide) ?_
  exact B_27 u x3 (M_store u a1.toNatClampNeg) s0.heap [] ls (lv_sub hl [1, 2, 3, 4, 0] rfl) hI hfin
set_option maxHeartbeats 4000000 in
set_option maxRecDepth 100000 in
theorem ctm_multiply (l : Launch) (D : va_G) (cA cB : ClassId) (o q q1 q2 : Nat) (hne : va_nd [o, q, q1, q2] = true) (u : MS) (a0 : Int32) (a1 : Int32) (a2 : Int32) (a3 : Int64) (a4 : Int64) (z : MS) (hfin : m_multiply u a0 a1 a2 a3 a4 = some z) : gMv l yM_multiply wM_multiply (rmF 4 94) D [(cA, .long), (cB, .int)] (MW cA cB o q q1 q2) (MA o q q1 q2) [.ref o, .int a0, .int a1, .int a2, .long a3, .long a4] u z := by
  refine g_start (plainFor_of_name (by decide)) (Nat.le_of_ble_eq_true rfl) ?_
  intro p e s0 m args below meth c ls X hr hlk hB hl
  obtain ⟨hP0, hK⟩ := hB
  have hI : gI D (MW cA cB o q q1 q2) (MA o q q1 q2) s0.heap s0.heap [] u := ⟨hP0, va_S.rf⟩
  have hl : lv_has ls 28 [(0, .ref o), (1, .int a0), (2, .int a1), (3, .int a2), (4, .long a3), (6, .long a4)] := hl
  have hx := X.1
  have hb := X.2.1
  have B_216 : ∀ (u : MS) (t1 : Int32) (t2 : Int32) (t3 : Int32) (t4 : Int64) (H : Heap) (locs : List Loc) (ls : Array Slot), lv_has ls 28 [(0, .ref o), (1, .int a0), (2, .int a1), (3, .int a2), (4, .long a3), (6, .long a4)] → gI D (MW cA cB o q q1 q2) (MA o q q1 q2) s0.heap H locs u → m_multiply_216 a0 a1 a2 a3 a4 u t1 t2 t3 t4 = some z → W p l e (rmF 4 94) s0 m args below meth c H locs 0 0 (MQ below (va_Qv (fun x => x = z) (gB D [(cA, .long), (cB, .int)] (MW cA cB o q q1 q2)) (MA o q q1 q2)) args s0 0 0 (MA o q q1 q2)) (F0 m 216 ls [.long t4, .int t3, .int t2, .int t1, .ref o]) := by
    intro u t1 t2 t3 t4 H locs ls hl hI hfin
    rw [m_multiply_216] at hfin
    obtain ⟨z216, hz216, hfin⟩ := bd_ob hfin
    refine g_callMv [.int t1, .int t2, .int t3, .long t4] [] X hK m_rcv hI (ctm_keep l D cA cB o q q1 q2 hne u t1 t2 t3 t4 z216 hz216) (cwM_M_keep X.2.2.2.2 ⟨Nat.le_of_ble_eq_true rfl, Nat.le_of_ble_eq_true rfl⟩) rfl hl.1 rfl (Nat.le_of_ble_eq_true rfl) dM_multiply_216 (fun H locs hI => ?_)
    exact g_vret X hr hlk hK hI hfin dM_multiply_219
  have B_191 : ∀ (u : MS) (v25 : Int64) (t1 : Int32) (H : Heap) (locs : List Loc) (ls : Array Slot), lv_has ls 28 [(0, .ref o), (1, .int a0), (2, .int a1), (3, .int a2), (4, .long a3), (6, .long a4), (25, .long v25)] → gI D (MW cA cB o q q1 q2) (MA o q q1 q2) s0.heap H locs u → m_multiply_191 a0 a1 a2 a3 a4 u v25 t1 = some z → W p l e (rmF 4 94) s0 m args below meth c H locs 0 0 (MQ below (va_Qv (fun x => x = z) (gB D [(cA, .long), (cB, .int)] (MW cA cB o q q1 q2)) (MA o q q1 q2)) args s0 0 0 (MA o q q1 q2)) (F0 m 191 ls [.int t1, .ref o]) := by
    intro u v25 t1 H locs ls hl hI hfin
    rw [m_multiply_191] at hfin
    obtain ⟨z191, hz191, hfin⟩ := bd_ob hfin
    refine g_callMv [.int t1] [] X hK m_rcv hI (ctm_over l D cA cB o q q1 q2 hne u t1 z191 hz191) (cwM_M_over X.2.2.2.2 ⟨Nat.le_of_ble_eq_true rfl, Nat.le_of_ble_eq_true rfl⟩) rfl hl.1 rfl (Nat.le_of_ble_eq_true rfl) dM_multiply_191 (fun H locs hI => ?_)
    refine lv_aload_n hx hb dM_multiply_194 rfl (lv_at hl 0 rfl) ?_
    refine lv_iload_n hx hb dM_multiply_195 rfl (lv_at hl 1 rfl) ?_
    refine lv_iload_n hx hb dM_multiply_196 rfl (lv_at hl 2 rfl) ?_
    refine lv_iload_n hx hb dM_multiply_197 rfl (lv_at hl 3 rfl) ?_
    refine lv_lload hx hb dM_multiply_198 (lv_at hl 5 rfl) ?_
    refine lv_lconst (v := (0 : Int64)) hx hb dM_multiply_200 (by decide) ?_
    refine W.lcmp hx hb dM_multiply_201 ?_
    refine lv_if_ge (tgt := 214) hx hb dM_multiply_202 (by decide) (fun hc202 => ?_) (fun hc202 => ?_)
    · rw [if_pos hc202] at hfin
      refine lv_lload hx hb dM_multiply_214 (lv_at hl 6 rfl) ?_
      exact B_216 z191 a0 a1 a2 v25 H locs ls (lv_sub hl [0, 1, 2, 3, 4, 5] rfl) hI hfin
    rw [if_neg hc202] at hfin
    refine lv_ldc2 hx hb X.2.2.2.1 (X.2.2.2.2 _ hkM_140) dM_multiply_205 ?_
    refine lv_lload hx hb dM_multiply_208 (lv_at hl 6 rfl) ?_
    refine lv_lsub hx hb dM_multiply_210 ?_
    refine lv_goto (tgt := 216) hx hb dM_multiply_211 (by decide) ?_
    exact B_216 z191 a0 a1 a2 ((68719476736 : Int64) - v25) H locs ls (lv_sub hl [0, 1, 2, 3, 4, 5] rfl) hI hfin
  have B_178 : ∀ (u : MS) (v25 : Int64) (t0 : Int32) (H : Heap) (locs : List Loc) (ls : Array Slot), lv_has ls 28 [(0, .ref o), (1, .int a0), (2, .int a1), (3, .int a2), (4, .long a3), (6, .long a4), (25, .long v25)] → gI D (MW cA cB o q q1 q2) (MA o q q1 q2) s0.heap H locs u → m_multiply_178 a0 a1 a2 a3 a4 u v25 t0 = some z → W p l e (rmF 4 94) s0 m args below meth c H locs 0 0 (MQ below (va_Qv (fun x => x = z) (gB D [(cA, .long), (cB, .int)] (MW cA cB o q q1 q2)) (MA o q q1 q2)) args s0 0 0 (MA o q q1 q2)) (F0 m 178 ls [.int t0]) := by
    intro u v25 t0 H locs ls hl hI hfin
    rw [m_multiply_178] at hfin
    refine lv_istore (lv' := [(27, .int t0), (0, .ref o), (1, .int a0), (2, .int a1), (3, .int a2), (4, .long a3), (6, .long a4), (25, .long v25)]) hx hb dM_multiply_178 hl (by decide) rfl (fun ls hl => ?_)
    refine lv_aload_n hx hb dM_multiply_180 rfl (lv_at hl 1 rfl) ?_
    refine lv_iload hx hb dM_multiply_181 (lv_at hl 0 rfl) ?_
    refine lv_if_ne (tgt := 190) hx hb dM_multiply_183 (by decide) (fun hc183 => ?_) (fun hc183 => ?_)
    · rw [if_neg hc183] at hfin
      refine lv_iconst (v := (0 : Int32)) hx hb dM_multiply_190 (by decide) ?_
      exact B_191 u v25 (0 : Int32) H locs ls (lv_sub hl [1, 2, 3, 4, 5, 6, 7] rfl) hI hfin
    rw [if_pos hc183] at hfin
    refine lv_iconst (v := (1 : Int32)) hx hb dM_multiply_186 (by decide) ?_
    refine lv_goto (tgt := 191) hx hb dM_multiply_187 (by decide) ?_
    exact B_191 u v25 (1 : Int32) H locs ls (lv_sub hl [1, 2, 3, 4, 5, 6, 7] rfl) hI hfin
  have B_177 : ∀ (u : MS) (v25 : Int64) (H : Heap) (locs : List Loc) (ls : Array Slot), lv_has ls 28 [(0, .ref o), (1, .int a0), (2, .int a1), (3, .int a2), (4, .long a3), (6, .long a4), (25, .long v25)] → gI D (MW cA cB o q q1 q2) (MA o q q1 q2) s0.heap H locs u → m_multiply_177 a0 a1 a2 a3 a4 u v25 = some z → W p l e (rmF 4 94) s0 m args below meth c H locs 0 0 (MQ below (va_Qv (fun x => x = z) (gB D [(cA, .long), (cB, .int)] (MW cA cB o q q1 q2)) (MA o q q1 q2)) args s0 0 0 (MA o q q1 q2)) (F0 m 177 ls []) := by
    intro u v25 H locs ls hl hI hfin
    rw [m_multiply_177] at hfin
    refine lv_iconst (v := (0 : Int32)) hx hb dM_multiply_177 (by decide) ?_
    exact B_178 u v25 (0 : Int32) H locs ls (lv_sub hl [0, 1, 2, 3, 4, 5, 6] rfl) hI hfin
  have B_166 : ∀ (u : MS) (v25 : Int64) (t0 : Int64) (H : Heap) (locs : List Loc) (ls : Array Slot), lv_has ls 28 [(0, .ref o), (1, .int a0), (2, .int a1), (3, .int a2), (4, .long a3), (6, .long a4), (25, .long v25)] → gI D (MW cA cB o q q1 q2) (MA o q q1 q2) s0.heap H locs u → m_multiply_166 a0 a1 a2 a3 a4 u v25 t0 = some z → W p l e (rmF 4 94) s0 m args below meth c H locs 0 0 (MQ below (va_Qv (fun x => x = z) (gB D [(cA, .long), (cB, .int)] (MW cA cB o q q1 q2)) (MA o q q1 q2)) args s0 0 0 (MA o q q1 q2)) (F0 m 166 ls [.long t0]) := by
    intro u v25 t0 H locs ls hl hI hfin
    rw [m_multiply_166] at hfin
    refine lv_ldc2 hx hb X.2.2.2.1 (X.2.2.2.2 _ hkM_20) dM_multiply_166 ?_
    refine W.lcmp hx hb dM_multiply_169 ?_
    refine lv_if_ge (tgt := 177) hx hb dM_multiply_170 (by decide) (fun hc170 => ?_) (fun hc170 => ?_)
    · rw [if_pos hc170] at hfin
      exact B_177 u v25 H locs ls (lv_sub hl [0, 1, 2, 3, 4, 5, 6] rfl) hI hfin
    rw [if_neg hc170] at hfin
    refine lv_iconst (v := (1 : Int32)) hx hb dM_multiply_173 (by decide) ?_
    refine lv_goto (tgt := 178) hx hb dM_multiply_174 (by decide) ?_
    exact B_178 u v25 (1 : Int32) H locs ls (lv_sub hl [0, 1, 2, 3, 4, 5, 6] rfl) hI hfin
  have B_144 : ∀ (u : MS) (v23 : Int64) (v25 : Int64) (t0 : Int64) (H : Heap) (locs : List Loc) (ls : Array Slot), lv_has ls 28 [(0, .ref o), (1, .int a0), (2, .int a1), (3, .int a2), (4, .long a3), (6, .long a4), (23, .long v23), (25, .long v25)] → gI D (MW cA cB o q q1 q2) (MA o q q1 q2) s0.heap H locs u → m_multiply_144 a0 a1 a2 a3 a4 u v23 v25 t0 = some z → W p l e (rmF 4 94) s0 m args below meth c H locs 0 0 (MQ below (va_Qv (fun x => x = z) (gB D [(cA, .long), (cB, .int)] (MW cA cB o q q1 q2)) (MA o q q1 q2)) args s0 0 0 (MA o q q1 q2)) (F0 m 144 ls [.long t0]) := by
    intro u v23 v25 t0 H locs ls hl hI hfin
    rw [m_multiply_144] at hfin
    refine lv_ldc2 hx hb X.2.2.2.1 (X.2.2.2.2 _ hkM_152) dM_multiply_144 ?_
    refine W.lcmp hx hb dM_multiply_147 ?_
    refine lv_if_lt (tgt := 177) hx hb dM_multiply_148 (by decide) (fun hc148 => ?_) (fun hc148 => ?_)
    · rw [if_pos hc148] at hfin
      exact B_177 u v25 H locs ls (lv_sub hl [0, 1, 2, 3, 4, 5, 7] rfl) hI hfin
    rw [if_neg hc148] at hfin
    refine lv_lload hx hb dM_multiply_151 (lv_at hl 5 rfl) ?_
    refine lv_lconst (v := (0 : Int64)) hx hb dM_multiply_153 (by decide) ?_
    refine W.lcmp hx hb dM_multiply_154 ?_
    refine lv_if_ge (tgt := 164) hx hb dM_multiply_155 (by decide) (fun hc155 => ?_) (fun hc155 => ?_)
    · rw [if_pos hc155] at hfin
      refine lv_lload hx hb dM_multiply_164 (lv_at hl 6 rfl) ?_
      exact B_166 u v25 v23 H locs ls (lv_sub hl [0, 1, 2, 3, 4, 5, 7] rfl) hI hfin
    rw [if_neg hc155] at hfin
    refine lv_lload hx hb dM_multiply_158 (lv_at hl 6 rfl) ?_
    refine lv_lneg hx hb dM_multiply_160 ?_
    refine lv_goto (tgt := 166) hx hb dM_multiply_161 (by decide) ?_
    exact B_166 u v25 (-v23) H locs ls (lv_sub hl [0, 1, 2, 3, 4, 5, 7] rfl) hI hfin
  have B_107 : ∀ (u : MS) (v18 : Int64) (v20 : Int64) (v22 : Int32) (t0 : Int64) (H : Heap) (locs : List Loc) (ls : Array Slot), lv_has ls 28 [(0, .ref o), (1, .int a0), (2, .int a1), (3, .int a2), (4, .long a3), (6, .long a4), (18, .long v18), (20, .long v20), (22, .int v22)] → gI D (MW cA cB o q q1 q2) (MA o q q1 q2) s0.heap H locs u → m_multiply_107 a0 a1 a2 a3 a4 u v18 v20 v22 t0 = some z → W p l e (rmF 4 94) s0 m args below meth c H locs 0 0 (MQ below (va_Qv (fun x => x = z) (gB D [(cA, .long), (cB, .int)] (MW cA cB o q q1 q2)) (MA o q q1 q2)) args s0 0 0 (MA o q q1 q2)) (F0 m 107 ls [.long t0]) := by
    intro u v18 v20 v22 t0 H locs ls hl hI hfin
    rw [m_multiply_107] at hfin
    refine lv_lstore (lv' := [(23, .long t0), (0, .ref o), (1, .int a0), (2, .int a1), (3, .int a2), (4, .long a3), (6, .long a4), (18, .long v18), (20, .long v20), (22, .int v22)]) hx hb dM_multiply_107 hl (by decide) rfl (fun ls hl => ?_)
    refine lv_lload hx hb dM_multiply_109 (lv_at hl 7 rfl) ?_
    refine lv_ldc2 hx hb X.2.2.2.1 (X.2.2.2.2 _ hkM_161) dM_multiply_111 ?_
    refine lv_land hx hb dM_multiply_114 ?_
    refine lv_ldc2 hx hb X.2.2.2.1 (X.2.2.2.2 _ hkM_24) dM_multiply_115 ?_
    refine lv_lmul hx hb dM_multiply_118 ?_
    refine lv_lload hx hb dM_multiply_119 (lv_at hl 8 rfl) ?_
    refine lv_ladd hx hb dM_multiply_121 ?_
    refine lv_topl (fun x122 e122 => ?_)
    replace hfin := nm_at hfin e122
    refine lv_lstore (lv' := [(25, .long x122), (23, .long t0), (0, .ref o), (1, .int a0), (2, .int a1), (3, .int a2), (4, .long a3), (6, .long a4), (18, .long v18), (20, .long v20), (22, .int v22)]) hx hb dM_multiply_122 hl (by decide) rfl (fun ls hl => ?_)
    refine lv_iload hx hb dM_multiply_124 (lv_at hl 10 rfl) ?_
    refine lv_if_eq (tgt := 177) hx hb dM_multiply_126 (by decide) (fun hc126 => ?_) (fun hc126 => ?_)
    · rw [if_pos hc126] at hfin
      exact B_177 u x122 H locs ls (lv_sub hl [2, 3, 4, 5, 6, 7, 0] rfl) hI hfin
    rw [if_neg hc126] at hfin
    refine lv_lload hx hb dM_multiply_129 (lv_at hl 7 rfl) ?_
    refine lv_lconst (v := (0 : Int64)) hx hb dM_multiply_131 (by decide) ?_
    refine W.lcmp hx hb dM_multiply_132 ?_
    refine lv_if_ge (tgt := 142) hx hb dM_multiply_133 (by decide) (fun hc133 => ?_) (fun hc133 => ?_)
    · rw [if_pos hc133] at hfin
      refine lv_lload hx hb dM_multiply_142 (lv_at hl 1 rfl) ?_
      exact B_144 u t0 x122 t0 H locs ls (lv_sub hl [2, 3, 4, 5, 6, 7, 1, 0] rfl) hI hfin
    rw [if_neg hc133] at hfin
    refine lv_lload hx hb dM_multiply_136 (lv_at hl 1 rfl) ?_
    refine lv_lneg hx hb dM_multiply_138 ?_
    refine lv_goto (tgt := 144) hx hb dM_multiply_139 (by decide) ?_
    exact B_144 u t0 x122 (-t0) H locs ls (lv_sub hl [2, 3, 4, 5, 6, 7, 1, 0] rfl) hI hfin
  have B_87 : ∀ (u : MS) (v18 : Int64) (v20 : Int64) (t0 : Int32) (H : Heap) (locs : List Loc) (ls : Array Slot), lv_has ls 28 [(0, .ref o), (1, .int a0), (2, .int a1), (3, .int a2), (4, .long a3), (6, .long a4), (18, .long v18), (20, .long v20)] → gI D (MW cA cB o q q1 q2) (MA o q q1 q2) s0.heap H locs u → m_multiply_87 a0 a1 a2 a3 a4 u v18 v20 t0 = some z → W p l e (rmF 4 94) s0 m args below meth c H locs 0 0 (MQ below (va_Qv (fun x => x = z) (gB D [(cA, .long), (cB, .int)] (MW cA cB o q q1 q2)) (MA o q q1 q2)) args s0 0 0 (MA o q q1 q2)) (F0 m 87 ls [.int t0]) := by
    intro u v18 v20 t0 H locs ls hl hI hfin
    rw [m_multiply_87] at hfin
    refine lv_istore (lv' := [(22, .int t0), (0, .ref o), (1, .int a0), (2, .int a1), (3, .int a2), (4, .long a3), (6, .long a4), (18, .long v18), (20, .long v20)]) hx hb dM_multiply_87 hl (by decide) rfl (fun ls hl => ?_)
    refine lv_iload hx hb dM_multiply_89 (lv_at hl 0 rfl) ?_
    refine lv_if_eq (tgt := 106) hx hb dM_multiply_91 (by decide) (fun hc91 => ?_) (fun hc91 => ?_)
    · rw [if_pos hc91] at hfin
      refine lv_lconst (v := (0 : Int64)) hx hb dM_multiply_106 (by decide) ?_
      exact B_107 u v18 v20 t0 (0 : Int64) H locs ls (lv_sub hl [1, 2, 3, 4, 5, 6, 7, 8, 0] rfl) hI hfin
    rw [if_neg hc91] at hfin
    refine lv_lload hx hb dM_multiply_94 (lv_at hl 7 rfl) ?_
    refine lv_ldc2 hx hb X.2.2.2.1 (X.2.2.2.2 _ hkM_24) dM_multiply_96 ?_
    refine lv_lmul hx hb dM_multiply_99 ?_
    refine lv_lload hx hb dM_multiply_100 (lv_at hl 8 rfl) ?_
    refine lv_ladd hx hb dM_multiply_102 ?_
    refine lv_goto (tgt := 107) hx hb dM_multiply_103 (by decide) ?_
    exact B_107 u v18 v20 t0 ((v18 * (262144 : Int64)) + v20) H locs ls (lv_sub hl [1, 2, 3, 4, 5, 6, 7, 8, 0] rfl) hI hfin
  have B_86 : ∀ (u : MS) (v18 : Int64) (v20 : Int64) (H : Heap) (locs : List Loc) (ls : Array Slot), lv_has ls 28 [(0, .ref o), (1, .int a0), (2, .int a1), (3, .int a2), (4, .long a3), (6, .long a4), (18, .long v18), (20, .long v20)] → gI D (MW cA cB o q q1 q2) (MA o q q1 q2) s0.heap H locs u → m_multiply_86 a0 a1 a2 a3 a4 u v18 v20 = some z → W p l e (rmF 4 94) s0 m args below meth c H locs 0 0 (MQ below (va_Qv (fun x => x = z) (gB D [(cA, .long), (cB, .int)] (MW cA cB o q q1 q2)) (MA o q q1 q2)) args s0 0 0 (MA o q q1 q2)) (F0 m 86 ls []) := by
    intro u v18 v20 H locs ls hl hI hfin
    rw [m_multiply_86] at hfin
    refine lv_iconst (v := (0 : Int32)) hx hb dM_multiply_86 (by decide) ?_
    exact B_87 u v18 v20 (0 : Int32) H locs ls (lv_sub hl [0, 1, 2, 3, 4, 5, 6, 7] rfl) hI hfin
  have B_15 : ∀ (u : MS) (t0 : Int64) (H : Heap) (locs : List Loc) (ls : Array Slot), lv_has ls 28 [(0, .ref o), (1, .int a0), (2, .int a1), (3, .int a2), (4, .long a3), (6, .long a4)] → gI D (MW cA cB o q q1 q2) (MA o q q1 q2) s0.heap H locs u → m_multiply_15 a0 a1 a2 a3 a4 u t0 = some z → W p l e (rmF 4 94) s0 m args below meth c H locs 0 0 (MQ below (va_Qv (fun x => x = z) (gB D [(cA, .long), (cB, .int)] (MW cA cB o q q1 q2)) (MA o q q1 q2)) args s0 0 0 (MA o q q1 q2)) (F0 m 15 ls [.long t0]) := by
    intro u t0 H locs ls hl hI hfin
    rw [m_multiply_15] at hfin
    refine lv_lstore (lv' := [(8, .long t0), (0, .ref o), (1, .int a0), (2, .int a1), (3, .int a2), (4, .long a3), (6, .long a4)]) hx hb dM_multiply_15 hl (by decide) rfl (fun ls hl => ?_)
    refine lv_lload hx hb dM_multiply_17 (lv_at hl 0 rfl) ?_
    refine lv_bipush (v := (18 : Int32)) hx hb dM_multiply_19 (by decide) ?_
    refine lv_lshr hx hb dM_multiply_21 rfl ?_
    refine lv_topl (fun x22 e22 => ?_)
    replace hfin := nm_at hfin e22
    refine lv_lstore (lv' := [(10, .long x22), (8, .long t0), (0, .ref o), (1, .int a0), (2, .int a1), (3, .int a2), (4, .long a3), (6, .long a4)]) hx hb dM_multiply_22 hl (by decide) rfl (fun ls hl => ?_)
    refine lv_lload hx hb dM_multiply_24 (lv_at hl 1 rfl) ?_
    refine lv_ldc2 hx hb X.2.2.2.1 (X.2.2.2.2 _ hkM_161) dM_multiply_26 ?_
    refine lv_land hx hb dM_multiply_29 ?_
    refine lv_topl (fun x30 e30 => ?_)
    replace hfin := nm_at hfin e30
    refine lv_lstore (lv' := [(12, .long x30), (10, .long x22), (8, .long t0), (0, .ref o), (1, .int a0), (2, .int a1), (3, .int a2), (4, .long a3), (6, .long a4)]) hx hb dM_multiply_30 hl (by decide) rfl (fun ls hl => ?_)
    refine lv_lload hx hb dM_multiply_32 (lv_at hl 7 rfl) ?_
    refine lv_lload hx hb dM_multiply_34 (lv_at hl 1 rfl) ?_
    refine lv_lmul hx hb dM_multiply_36 ?_
    refine lv_topl (fun x37 e37 => ?_)
    replace hfin := nm_at hfin e37
    refine lv_lstore (lv' := [(14, .long x37), (12, .long x30), (10, .long x22), (8, .long t0), (0, .ref o), (1, .int a0), (2, .int a1), (3, .int a2), (4, .long a3), (6, .long a4)]) hx hb dM_multiply_37 hl (by decide) rfl (fun ls hl => ?_)
    refine lv_lload hx hb dM_multiply_39 (lv_at hl 8 rfl) ?_
    refine lv_lload hx hb dM_multiply_41 (lv_at hl 1 rfl) ?_
    refine lv_lmul hx hb dM_multiply_43 ?_
    refine lv_topl (fun x44 e44 => ?_)
    replace hfin := nm_at hfin e44
    refine lv_lstore (lv' := [(16, .long x44), (14, .long x37), (12, .long x30), (10, .long x22), (8, .long t0), (0, .ref o), (1, .int a0), (2, .int a1), (3, .int a2), (4, .long a3), (6, .long a4)]) hx hb dM_multiply_44 hl (by decide) rfl (fun ls hl => ?_)
    refine lv_lload hx hb dM_multiply_46 (lv_at hl 1 rfl) ?_
    refine lv_lload hx hb dM_multiply_48 (lv_at hl 0 rfl) ?_
    refine lv_bipush (v := (18 : Int32)) hx hb dM_multiply_50 (by decide) ?_
    refine lv_lshr hx hb dM_multiply_52 rfl ?_
    refine lv_ladd hx hb dM_multiply_53 ?_
    refine lv_topl (fun x54 e54 => ?_)
    replace hfin := nm_at hfin e54
    refine lv_lstore (lv' := [(18, .long x54), (16, .long x44), (14, .long x37), (12, .long x30), (10, .long x22), (8, .long t0), (0, .ref o), (1, .int a0), (2, .int a1), (3, .int a2), (4, .long a3), (6, .long a4)]) hx hb dM_multiply_54 hl (by decide) rfl (fun ls hl => ?_)
    refine lv_lload hx hb dM_multiply_56 (lv_at hl 1 rfl) ?_
    refine lv_ldc2 hx hb X.2.2.2.1 (X.2.2.2.2 _ hkM_161) dM_multiply_58 ?_
    refine lv_land hx hb dM_multiply_61 ?_
    refine lv_topl (fun x62 e62 => ?_)
    replace hfin := nm_at hfin e62
    refine lv_lstore (lv' := [(20, .long x62), (18, .long x54), (16, .long x44), (14, .long x37), (12, .long x30), (10, .long x22), (8, .long t0), (0, .ref o), (1, .int a0), (2, .int a1), (3, .int a2), (4, .long a3), (6, .long a4)]) hx hb dM_multiply_62 hl (by decide) rfl (fun ls hl => ?_)
    refine lv_lload hx hb dM_multiply_64 (lv_at hl 1 rfl) ?_
    refine lv_ldc2 hx hb X.2.2.2.1 (X.2.2.2.2 _ hkM_163) dM_multiply_66 ?_
    refine W.lcmp hx hb dM_multiply_69 ?_
    refine lv_if_lt (tgt := 86) hx hb dM_multiply_70 (by decide) (fun hc70 => ?_) (fun hc70 => ?_)
    · rw [if_pos hc70] at hfin
      exact B_86 u x54 x62 H locs ls (lv_sub hl [7, 8, 9, 10, 11, 12, 1, 0] rfl) hI hfin
    rw [if_neg hc70] at hfin
    refine lv_lload hx hb dM_multiply_73 (lv_at hl 1 rfl) ?_
    refine lv_ldc2 hx hb X.2.2.2.1 (X.2.2.2.2 _ hkM_161) dM_multiply_75 ?_
    refine W.lcmp hx hb dM_multiply_78 ?_
    refine lv_if_gt (tgt := 86) hx hb dM_multiply_79 (by decide) (fun hc79 => ?_) (fun hc79 => ?_)
    · rw [if_pos hc79] at hfin
      exact B_86 u x54 x62 H locs ls (lv_sub hl [7, 8, 9, 10, 11, 12, 1, 0] rfl) hI hfin
    rw [if_neg hc79] at hfin
    refine lv_iconst (v := (1 : Int32)) hx hb dM_multiply_82 (by decide) ?_
    refine lv_goto (tgt := 87) hx hb dM_multiply_83 (by decide) ?_
    exact B_87 u x54 x62 (1 : Int32) H locs ls (lv_sub hl [7, 8, 9, 10, 11, 12, 1, 0] rfl) hI hfin
  rw [m_multiply] at hfin
  refine lv_lload hx hb dM_multiply_0 (lv_at hl 5 rfl) ?_
  refine lv_lconst (v := (0 : Int64)) hx hb dM_multiply_2 (by decide) ?_
  refine W.lcmp hx hb dM_multiply_3 ?_
  refine lv_if_ge (tgt := 13) hx hb dM_multiply_4 (by decide) (fun hc4 => ?_) (fun hc4 => ?_)
  · rw [if_pos hc4] at hfin
    refine lv_lload hx hb dM_multiply_13 (lv_at hl 5 rfl) ?_
    exact B_15 u a4 s0.heap [] ls (lv_sub hl [0, 1, 2, 3, 4, 5] rfl) hI hfin
  rw [if_neg hc4] at hfin
  refine lv_lload hx hb dM_multiply_7 (lv_at hl 5 rfl) ?_
  refine lv_lneg hx hb dM_multiply_9 ?_
  refine lv_goto (tgt := 15) hx hb dM_multiply_10 (by decide) ?_
  exact B_15 u (-a4) s0.heap [] ls (lv_sub hl [0, 1, 2, 3, 4, 5] rfl) hI hfin
set_option maxHeartbeats 4000000 in
set_option maxRecDepth 100000 in
theorem ctm_sum (l : Launch) (D : va_G) (cA cB : ClassId) (o q q1 q2 : Nat) (hne : va_nd [o, q, q1, q2] = true) (u : MS) (a0 : Int32) (a1 : Int32) (a2 : Int32) (z : MS) (hfin : m_sum u a0 a1 a2 = some z) : gMv l yM_sum wM_sum (rmF 5 141) D [(cA, .long), (cB, .int)] (MW cA cB o q q1 q2) (MA o q q1 q2) [.ref o, .int a0, .int a1, .int a2] u z := by
  refine g_start (plainFor_of_name (by decide)) (Nat.le_of_ble_eq_true rfl) ?_
  intro p e s0 m args below meth c ls X hr hlk hB hl
  obtain ⟨hP0, hK⟩ := hB
  have hI : gI D (MW cA cB o q q1 q2) (MA o q q1 q2) s0.heap s0.heap [] u := ⟨hP0, va_S.rf⟩
  have hl : lv_has ls 12 [(0, .ref o), (1, .int a0), (2, .int a1), (3, .int a2)] := hl
  have hx := X.1
  have hb := X.2.1
  have B_184 : ∀ (u : MS) (v4 : Int32) (v10 : Int64) (t1 : Int32) (H : Heap) (locs : List Loc) (ls : Array Slot), lv_has ls 12 [(0, .ref o), (1, .int a0), (2, .int a1), (3, .int a2), (4, .int v4), (10, .long v10)] → gI D (MW cA cB o q q1 q2) (MA o q q1 q2) s0.heap H locs u → m_sum_184 a0 a1 a2 u v4 v10 t1 = some z → W p l e (rmF 5 141) s0 m args below meth c H locs 0 0 (MQ below (va_Qv (fun x => x = z) (gB D [(cA, .long), (cB, .int)] (MW cA cB o q q1 q2)) (MA o q q1 q2)) args s0 0 0 (MA o q q1 q2)) (F0 m 184 ls [.int t1, .ref o]) := by
    intro u v4 v10 t1 H locs ls hl hI hfin
    rw [m_sum_184] at hfin
    obtain ⟨z184, hz184, hfin⟩ := bd_ob hfin
    refine g_callMv [.int t1] [] X hK m_rcv hI (ctm_over l D cA cB o q q1 q2 hne u t1 z184 hz184) (cwM_M_over X.2.2.2.2 ⟨Nat.le_of_ble_eq_true rfl, Nat.le_of_ble_eq_true rfl⟩) rfl hl.1 rfl (Nat.le_of_ble_eq_true rfl) dM_sum_184 (fun H locs hI => ?_)
    refine lv_aload_n hx hb dM_sum_187 rfl (lv_at hl 0 rfl) ?_
    refine lv_iload hx hb dM_sum_188 (lv_at hl 4 rfl) ?_
    refine lv_iload_n hx hb dM_sum_190 rfl (lv_at hl 2 rfl) ?_
    refine lv_iload_n hx hb dM_sum_191 rfl (lv_at hl 3 rfl) ?_
    refine lv_lload hx hb dM_sum_192 (lv_at hl 5 rfl) ?_
    obtain ⟨z194, hz194, hfin⟩ := bd_ob hfin
    refine g_callMv [.int v4, .int a1, .int a2, .long v10] [] X hK m_rcv hI (ctm_keep l D cA cB o q q1 q2 hne z184 v4 a1 a2 v10 z194 hz194) (cwM_M_keep X.2.2.2.2 ⟨Nat.le_of_ble_eq_true rfl, Nat.le_of_ble_eq_true rfl⟩) rfl hl.1 rfl (Nat.le_of_ble_eq_true rfl) dM_sum_194 (fun H locs hI => ?_)
    exact g_vret X hr hlk hK hI hfin dM_sum_197
  have B_179 : ∀ (u : MS) (v4 : Int32) (v10 : Int64) (H : Heap) (locs : List Loc) (ls : Array Slot), lv_has ls 12 [(0, .ref o), (1, .int a0), (2, .int a1), (3, .int a2), (4, .int v4), (10, .long v10)] → gI D (MW cA cB o q q1 q2) (MA o q q1 q2) s0.heap H locs u → m_sum_179 a0 a1 a2 u v4 v10 = some z → W p l e (rmF 5 141) s0 m args below meth c H locs 0 0 (MQ below (va_Qv (fun x => x = z) (gB D [(cA, .long), (cB, .int)] (MW cA cB o q q1 q2)) (MA o q q1 q2)) args s0 0 0 (MA o q q1 q2)) (F0 m 179 ls [.ref o]) := by
    intro u v4 v10 H locs ls hl hI hfin
    rw [m_sum_179] at hfin
    refine lv_iconst (v := (1 : Int32)) hx hb dM_sum_179 (by decide) ?_
    refine lv_goto (tgt := 184) hx hb dM_sum_180 (by decide) ?_
    exact B_184 u v4 v10 (1 : Int32) H locs ls (lv_sub hl [0, 1, 2, 3, 4, 5] rfl) hI hfin
  have B_158 : ∀ (u : MS) (v4 : Int32) (t0 : Int64) (H : Heap) (locs : List Loc) (ls : Array Slot), lv_has ls 12 [(0, .ref o), (1, .int a0), (2, .int a1), (3, .int a2), (4, .int v4)] → gI D (MW cA cB o q q1 q2) (MA o q q1 q2) s0.heap H locs u → m_sum_158 a0 a1 a2 u v4 t0 = some z → W p l e (rmF 5 141) s0 m args below meth c H locs 0 0 (MQ below (va_Qv (fun x => x = z) (gB D [(cA, .long), (cB, .int)] (MW cA cB o q q1 q2)) (MA o q q1 q2)) args s0 0 0 (MA o q q1 q2)) (F0 m 158 ls [.long t0]) := by
    intro u v4 t0 H locs ls hl hI hfin
    rw [m_sum_158] at hfin
    refine lv_lstore (lv' := [(10, .long t0), (0, .ref o), (1, .int a0), (2, .int a1), (3, .int a2), (4, .int v4)]) hx hb dM_sum_158 hl (by decide) rfl (fun ls hl => ?_)
    refine lv_aload_n hx hb dM_sum_160 rfl (lv_at hl 1 rfl) ?_
    refine lv_lload hx hb dM_sum_161 (lv_at hl 0 rfl) ?_
    refine lv_ldc2 hx hb X.2.2.2.1 (X.2.2.2.2 _ hkM_152) dM_sum_163 ?_
    refine W.lcmp hx hb dM_sum_166 ?_
    refine lv_if_lt (tgt := 179) hx hb dM_sum_167 (by decide) (fun hc167 => ?_) (fun hc167 => ?_)
    · rw [if_pos hc167] at hfin
      exact B_179 u v4 t0 H locs ls (lv_sub hl [1, 2, 3, 4, 5, 0] rfl) hI hfin
    rw [if_neg hc167] at hfin
    refine lv_lload hx hb dM_sum_170 (lv_at hl 0 rfl) ?_
    refine lv_ldc2 hx hb X.2.2.2.1 (X.2.2.2.2 _ hkM_20) dM_sum_172 ?_
    refine W.lcmp hx hb dM_sum_175 ?_
    refine lv_if_lt (tgt := 183) hx hb dM_sum_176 (by decide) (fun hc176 => ?_) (fun hc176 => ?_)
    · rw [if_pos hc176] at hfin
      refine lv_iconst (v := (0 : Int32)) hx hb dM_sum_183 (by decide) ?_
      exact B_184 u v4 t0 (0 : Int32) H locs ls (lv_sub hl [1, 2, 3, 4, 5, 0] rfl) hI hfin
    rw [if_neg hc176] at hfin
    exact B_179 u v4 t0 H locs ls (lv_sub hl [1, 2, 3, 4, 5, 0] rfl) hI hfin
  have B_70 : ∀ (u : MS) (v4 : Int32) (v5 : Int64) (v7 : Int64) (t0 : Int32) (H : Heap) (locs : List Loc) (ls : Array Slot), lv_has ls 12 [(0, .ref o), (1, .int a0), (2, .int a1), (3, .int a2), (4, .int v4), (5, .long v5), (7, .long v7)] → gI D (MW cA cB o q q1 q2) (MA o q q1 q2) s0.heap H locs u → m_sum_70 a0 a1 a2 u v4 v5 v7 t0 = some z → W p l e (rmF 5 141) s0 m args below meth c H locs 0 0 (MQ below (va_Qv (fun x => x = z) (gB D [(cA, .long), (cB, .int)] (MW cA cB o q q1 q2)) (MA o q q1 q2)) args s0 0 0 (MA o q q1 q2)) (F0 m 70 ls [.int t0]) := by
    intro u v4 v5 v7 t0 H locs ls hl hI hfin
    rw [m_sum_70] at hfin
    refine lv_istore (lv' := [(10, .int t0), (0, .ref o), (1, .int a0), (2, .int a1), (3, .int a2), (4, .int v4), (5, .long v5), (7, .long v7)]) hx hb dM_sum_70 hl (by decide) rfl (fun ls hl => ?_)
    refine lv_aload_n hx hb dM_sum_72 rfl (lv_at hl 1 rfl) ?_
    refine lv_iload hx hb dM_sum_73 (lv_at hl 0 rfl) ?_
    obtain ⟨z75, hz75, hfin⟩ := bd_ob hfin
    refine g_callMv [.int t0] [] X hK m_rcv hI (ctm_over l D cA cB o q q1 q2 hne u t0 z75 hz75) (cwM_M_over X.2.2.2.2 ⟨Nat.le_of_ble_eq_true rfl, Nat.le_of_ble_eq_true rfl⟩) rfl hl.1 rfl (Nat.le_of_ble_eq_true rfl) dM_sum_75 (fun H locs hI => ?_)
    refine lv_iload hx hb dM_sum_78 (lv_at hl 0 rfl) ?_
    refine lv_if_ne (tgt := 117) hx hb dM_sum_80 (by decide) (fun hc80 => ?_) (fun hc80 => ?_)
    · rw [if_neg hc80] at hfin
      exact g_vret X hr hlk hK hI hfin dM_sum_117
    rw [if_pos hc80] at hfin
    refine lv_aload_n hx hb dM_sum_83 rfl (lv_at hl 1 rfl) ?_
    refine lv_iload hx hb dM_sum_84 (lv_at hl 5 rfl) ?_
    refine lv_iload_n hx hb dM_sum_86 rfl (lv_at hl 3 rfl) ?_
    refine lv_iload_n hx hb dM_sum_87 rfl (lv_at hl 4 rfl) ?_
    refine lv_lload hx hb dM_sum_88 (lv_at hl 7 rfl) ?_
    refine lv_lload hx hb dM_sum_90 (lv_at hl 6 rfl) ?_
    obtain ⟨hd92, hfin⟩ := ck_if hfin
    refine lv_ldiv hx hb dM_sum_92 hd92 ?_
    obtain ⟨z93, hz93, hfin⟩ := bd_ob hfin
    refine g_callMv [.int v4, .int a1, .int a2, .long (v7 / v5)] [] X hK m_rcv hI (ctm_keep l D cA cB o q q1 q2 hne z75 v4 a1 a2 (v7 / v5) z93 hz93) (cwM_M_keep X.2.2.2.2 ⟨Nat.le_of_ble_eq_true rfl, Nat.le_of_ble_eq_true rfl⟩) rfl hl.1 rfl (Nat.le_of_ble_eq_true rfl) dM_sum_93 (fun H locs hI => ?_)
    refine lv_iload hx hb dM_sum_96 (lv_at hl 5 rfl) ?_
    refine lv_iconst (v := (2 : Int32)) hx hb dM_sum_98 (by decide) ?_
    refine lv_icmp_eq (tgt := 117) hx hb dM_sum_99 (by decide) (fun hc99 => ?_) (fun hc99 => ?_)
    · rw [if_pos hc99] at hfin
      exact g_vret X hr hlk hK hI hfin dM_sum_117
    rw [if_neg hc99] at hfin
    refine lv_aload_n hx hb dM_sum_102 rfl (lv_at hl 1 rfl) ?_
    refine lv_iload_n hx hb dM_sum_103 rfl (lv_at hl 3 rfl) ?_
    refine lv_iconst (v := (1 : Int32)) hx hb dM_sum_104 (by decide) ?_
    refine lv_iadd hx hb dM_sum_105 ?_
    refine lv_bipush (v := (16 : Int32)) hx hb dM_sum_106 (by decide) ?_
    refine lv_irem hx hb dM_sum_108 (by decide) ?_
    refine lv_lload hx hb dM_sum_109 (lv_at hl 7 rfl) ?_
    refine lv_lload hx hb dM_sum_111 (lv_at hl 6 rfl) ?_
    obtain ⟨hd113, hfin⟩ := ck_if hfin
    refine lv_lrem hx hb dM_sum_113 hd113 ?_
    obtain ⟨z114, hz114, hfin⟩ := bd_ob hfin
    refine g_callMv [.int ((a1 + (1 : Int32)) - (a1 + (1 : Int32)) / (16 : Int32) * (16 : Int32)), .long (v7 - v7 / v5 * v5)] [] X hK m_rcv hI (ctm_setAc l D cA cB o q q1 q2 hne z93 ((a1 + (1 : Int32)) - (a1 + (1 : Int32)) / (16 : Int32) * (16 : Int32)) (v7 - v7 / v5 * v5) z114 hz114) (cwM_M_setAc X.2.2.2.2 ⟨Nat.le_of_ble_eq_true rfl, Nat.le_of_ble_eq_true rfl⟩) rfl hl.1 rfl (Nat.le_of_ble_eq_true rfl) dM_sum_114 (fun H locs hI => ?_)
    exact g_vret X hr hlk hK hI hfin dM_sum_117
  have B_65 : ∀ (u : MS) (v4 : Int32) (v5 : Int64) (v7 : Int64) (H : Heap) (locs : List Loc) (ls : Array Slot), lv_has ls 12 [(0, .ref o), (1, .int a0), (2, .int a1), (3, .int a2), (4, .int v4), (5, .long v5), (7, .long v7)] → gI D (MW cA cB o q q1 q2) (MA o q q1 q2) s0.heap H locs u → m_sum_65 a0 a1 a2 u v4 v5 v7 = some z → W p l e (rmF 5 141) s0 m args below meth c H locs 0 0 (MQ below (va_Qv (fun x => x = z) (gB D [(cA, .long), (cB, .int)] (MW cA cB o q q1 q2)) (MA o q q1 q2)) args s0 0 0 (MA o q q1 q2)) (F0 m 65 ls []) := by
    intro u v4 v5 v7 H locs ls hl hI hfin
    rw [m_sum_65] at hfin
    refine lv_iconst (v := (1 : Int32)) hx hb dM_sum_65 (by decide) ?_
    refine lv_goto (tgt := 70) hx hb dM_sum_66 (by decide) ?_
    exact B_70 u v4 v5 v7 (1 : Int32) H locs ls (lv_sub hl [0, 1, 2, 3, 4, 5, 6] rfl) hI hfin
  have B_69 : ∀ (u : MS) (v4 : Int32) (v5 : Int64) (v7 : Int64) (H : Heap) (locs : List Loc) (ls : Array Slot), lv_has ls 12 [(0, .ref o), (1, .int a0), (2, .int a1), (3, .int a2), (4, .int v4), (5, .long v5), (7, .long v7)] → gI D (MW cA cB o q q1 q2) (MA o q q1 q2) s0.heap H locs u → m_sum_69 a0 a1 a2 u v4 v5 v7 = some z → W p l e (rmF 5 141) s0 m args below meth c H locs 0 0 (MQ below (va_Qv (fun x => x = z) (gB D [(cA, .long), (cB, .int)] (MW cA cB o q q1 q2)) (MA o q q1 q2)) args s0 0 0 (MA o q q1 q2)) (F0 m 69 ls []) := by
    intro u v4 v5 v7 H locs ls hl hI hfin
    rw [m_sum_69] at hfin
    refine lv_iconst (v := (0 : Int32)) hx hb dM_sum_69 (by decide) ?_
    exact B_70 u v4 v5 v7 (0 : Int32) H locs ls (lv_sub hl [0, 1, 2, 3, 4, 5, 6] rfl) hI hfin
  rw [m_sum] at hfin
  refine lv_iload_n hx hb dM_sum_0 rfl (lv_at hl 1 rfl) ?_
  refine lv_iconst (v := (4 : Int32)) hx hb dM_sum_1 (by decide) ?_
  refine lv_irem hx hb dM_sum_2 (by decide) ?_
  refine lv_topi (fun x3 e3 => ?_)
  replace hfin := nm_at hfin e3
  refine lv_istore (lv' := [(4, .int x3), (0, .ref o), (1, .int a0), (2, .int a1), (3, .int a2)]) hx hb dM_sum_3 hl (by decide) rfl (fun ls hl => ?_)
  refine lv_aload_n hx hb dM_sum_5 rfl (lv_at hl 1 rfl) ?_
  refine lv_iload hx hb dM_sum_6 (lv_at hl 0 rfl) ?_
  refine lv_iload_n hx hb dM_sum_8 rfl (lv_at hl 4 rfl) ?_
  obtain ⟨z9, hz9, hfin⟩ := bd_ob hfin
  refine g_callMl [.int x3, .int a2] [] X hK m_rcv hI (ctm_source l D cA cB o q q1 q2 hne u x3 a2 z9 hz9) (cwM_M_source X.2.2.2.2 ⟨Nat.le_of_ble_eq_true rfl, Nat.le_of_ble_eq_true rfl⟩) rfl hl.1 rfl (Nat.le_of_ble_eq_true rfl) dM_sum_9 (fun H locs hI => ?_)
  refine g_callPl [.long z9.1] [] X (ctm_num l z9.1) (cwM_M_num X.2.2.2.2 ⟨Nat.le_of_ble_eq_true rfl, Nat.le_of_ble_eq_true rfl⟩) rfl hl.1 rfl (Nat.le_of_ble_eq_true rfl) dM_sum_12 ?_
  refine lv_topl (fun x15 e15 => ?_)
  replace hfin := nm_at hfin e15
  refine lv_lstore (lv' := [(5, .long x15), (4, .int x3), (0, .ref o), (1, .int a0), (2, .int a1), (3, .int a2)]) hx hb dM_sum_15 hl (by decide) rfl (fun ls hl => ?_)
  refine lv_aload_n hx hb dM_sum_17 rfl (lv_at hl 2 rfl) ?_
  refine mg_store X hK hI.1 dM_sum_18 ?_
  refine lv_iload_n hx hb dM_sum_21 rfl (lv_at hl 4 rfl) ?_
  obtain ⟨hd22, hfin⟩ := ck_if hfin
  refine ml_store X hK hI.1 hd22 dM_sum_22 ?_
  refine g_callPl [.long (M_store z9.2 a1.toNatClampNeg)] [] X (ctm_num l (M_store z9.2 a1.toNatClampNeg)) (cwM_M_num X.2.2.2.2 ⟨Nat.le_of_ble_eq_true rfl, Nat.le_of_ble_eq_true rfl⟩) rfl hl.1 rfl (Nat.le_of_ble_eq_true rfl) dM_sum_23 ?_
  refine lv_topl (fun x26 e26 => ?_)
  replace hfin := nm_at hfin e26
  refine lv_lstore (lv' := [(7, .long x26), (5, .long x15), (4, .int x3), (0, .ref o), (1, .int a0), (2, .int a1), (3, .int a2)]) hx hb dM_sum_26 hl (by decide) rfl (fun ls hl => ?_)
  refine lv_iload_n hx hb dM_sum_28 rfl (lv_at hl 4 rfl) ?_
  refine lv_iconst (v := (4 : Int32)) hx hb dM_sum_29 (by decide) ?_
  refine lv_idiv hx hb dM_sum_30 (by decide) ?_
  refine lv_topi (fun x31 e31 => ?_)
  replace hfin := nm_at hfin e31
  refine lv_istore (lv' := [(9, .int x31), (7, .long x26), (5, .long x15), (4, .int x3), (0, .ref o), (1, .int a0), (2, .int a1), (3, .int a2)]) hx hb dM_sum_31 hl (by decide) rfl (fun ls hl => ?_)
  refine lv_iload hx hb dM_sum_33 (lv_at hl 0 rfl) ?_
  refine lv_bipush (v := (38 : Int32)) hx hb dM_sum_35 (by decide) ?_
  refine lv_icmp_ne (tgt := 118) hx hb dM_sum_37 (by decide) (fun hc37 => ?_) (fun hc37 => ?_)
  · rw [if_neg hc37] at hfin
    refine lv_iload hx hb dM_sum_118 (lv_at hl 0 rfl) ?_
    refine lv_bipush (v := (36 : Int32)) hx hb dM_sum_120 (by decide) ?_
    refine lv_icmp_ne (tgt := 138) hx hb dM_sum_122 (by decide) (fun hc122 => ?_) (fun hc122 => ?_)
    · rw [if_neg hc122] at hfin
      refine lv_iload hx hb dM_sum_138 (lv_at hl 0 rfl) ?_
      refine lv_bipush (v := (46 : Int32)) hx hb dM_sum_140 (by decide) ?_
      refine lv_icmp_ne (tgt := 153) hx hb dM_sum_142 (by decide) (fun hc142 => ?_) (fun hc142 => ?_)
      · rw [if_neg hc142] at hfin
        refine lv_lload hx hb dM_sum_153 (lv_at hl 1 rfl) ?_
        refine lv_lload hx hb dM_sum_155 (lv_at hl 2 rfl) ?_
        refine lv_lsub hx hb dM_sum_157 ?_
        exact B_158 z9.2 x3 (x26 - x15) H locs ls (lv_sub hl [4, 5, 6, 7, 3] rfl) hI hfin
      rw [if_pos hc142] at hfin
      refine lv_lload hx hb dM_sum_145 (lv_at hl 1 rfl) ?_
      refine lv_lload hx hb dM_sum_147 (lv_at hl 2 rfl) ?_
      refine lv_ladd hx hb dM_sum_149 ?_
      refine lv_goto (tgt := 158) hx hb dM_sum_150 (by decide) ?_
      exact B_158 z9.2 x3 (x26 + x15) H locs ls (lv_sub hl [4, 5, 6, 7, 3] rfl) hI hfin
    rw [if_pos hc122] at hfin
    refine lv_aload_n hx hb dM_sum_125 rfl (lv_at hl 4 rfl) ?_
    refine lv_iload hx hb dM_sum_126 (lv_at hl 3 rfl) ?_
    refine lv_iload_n hx hb dM_sum_128 rfl (lv_at hl 6 rfl) ?_
    refine lv_iload_n hx hb dM_sum_129 rfl (lv_at hl 7 rfl) ?_
    refine lv_lload hx hb dM_sum_130 (lv_at hl 1 rfl) ?_
    refine lv_lload hx hb dM_sum_132 (lv_at hl 2 rfl) ?_
    obtain ⟨z134, hz134, hfin⟩ := bd_ob hfin
    refine g_callMv [.int x3, .int a1, .int a2, .long x26, .long x15] [] X hK m_rcv hI (ctm_multiply l D cA cB o q q1 q2 hne z9.2 x3 a1 a2 x26 x15 z134 hz134) (cwM_M_multiply X.2.2.2.2 ⟨Nat.le_of_ble_eq_true rfl, Nat.le_of_ble_eq_true rfl⟩) rfl hl.1 rfl (Nat.le_of_ble_eq_true rfl) dM_sum_134 (fun H locs hI => ?_)
    exact g_vret X hr hlk hK hI hfin dM_sum_137
  rw [if_pos hc37] at hfin
  refine lv_lload hx hb dM_sum_40 (lv_at hl 2 rfl) ?_
  refine lv_lconst (v := (0 : Int64)) hx hb dM_sum_42 (by decide) ?_
  refine W.lcmp hx hb dM_sum_43 ?_
  refine lv_if_eq (tgt := 65) hx hb dM_sum_44 (by decide) (fun hc44 => ?_) (fun hc44 => ?_)
  · rw [if_pos hc44] at hfin
    exact B_65 z9.2 x3 x15 x26 H locs ls (lv_sub hl [4, 5, 6, 7, 3, 2, 1] rfl) hI hfin
  rw [if_neg hc44] at hfin
  refine lv_lload hx hb dM_sum_47 (lv_at hl 2 rfl) ?_
  refine lv_ldc2 hx hb X.2.2.2.1 (X.2.2.2.2 _ hkM_150) dM_sum_49 ?_
  refine W.lcmp hx hb dM_sum_52 ?_
  refine lv_if_ne (tgt := 69) hx hb dM_sum_53 (by decide) (fun hc53 => ?_) (fun hc53 => ?_)
  · rw [if_neg hc53] at hfin
    exact B_69 z9.2 x3 x15 x26 H locs ls (lv_sub hl [4, 5, 6, 7, 3, 2, 1] rfl) hI hfin
  rw [if_pos hc53] at hfin
  refine lv_lload hx hb dM_sum_56 (lv_at hl 1 rfl) ?_
  refine lv_ldc2 hx hb X.2.2.2.1 (X.2.2.2.2 _ hkM_152) dM_sum_58 ?_
  refine W.lcmp hx hb dM_sum_61 ?_
  refine lv_if_ne (tgt := 69) hx hb dM_sum_62 (by decide) (fun hc62 => ?_) (fun hc62 => ?_)
  · rw [if_neg hc62] at hfin
    exact B_69 z9.2 x3 x15 x26 H locs ls (lv_sub hl [4, 5, 6, 7, 3, 2, 1] rfl) hI hfin
  rw [if_pos hc62] at hfin
  exact B_65 z9.2 x3 x15 x26 H locs ls (lv_sub hl [4, 5, 6, 7, 3, 2, 1] rfl) hI hfin
