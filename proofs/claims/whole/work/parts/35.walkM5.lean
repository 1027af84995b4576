set_option maxHeartbeats 4000000 in
set_option maxRecDepth 100000 in
theorem ctm_flow (l : Launch) (D : va_G) (cA cB : ClassId) (o q q1 q2 : Nat) (hne : va_nd [o, q, q1, q2] = true) (u : MS) (a0 : Int32) (a1 : Int32) (a2 : Int32) (z : MS) (hfin : m_flow u a0 a1 a2 = some z) : gMv l yM_flow wM_flow (rmF 4 95) D [(cA, .long), (cB, .int)] (MW cA cB o q q1 q2) (MA o q q1 q2) [.ref o, .int a0, .int a1, .int a2] u z := by
  refine g_start (plainFor_of_name (by decide)) (Nat.le_of_ble_eq_true rfl) ?_
  intro p e s0 m args below meth c ls X hr hlk hB hl
  obtain ⟨hP0, hK⟩ := hB
  have hI : gI D (MW cA cB o q q1 q2) (MA o q q1 q2) s0.heap s0.heap [] u := ⟨hP0, va_S.rf⟩
  have hl : lv_has ls 8 [(0, .ref o), (1, .int a0), (2, .int a1), (3, .int a2)] := hl
  have hx := X.1
  have hb := X.2.1
  have B_219 : ∀ (u : MS) (t1 : Int32) (H : Heap) (locs : List Loc) (ls : Array Slot), lv_has ls 8 [(0, .ref o), (1, .int a0), (2, .int a1), (3, .int a2)] → gI D (MW cA cB o q q1 q2) (MA o q q1 q2) s0.heap H locs u → m_flow_219 a0 a1 a2 u t1 = some z → W p l e (rmF 4 95) s0 m args below meth c H locs 0 0 (MQ below (va_Qv (fun x => x = z) (gB D [(cA, .long), (cB, .int)] (MW cA cB o q q1 q2)) (MA o q q1 q2)) args s0 0 0 (MA o q q1 q2)) (F0 m 219 ls [.int t1, .ref o]) := by
    intro u t1 H locs ls hl hI hfin
    rw [m_flow_219] at hfin
    refine lv_iload_n hx hb dM_flow_219 rfl (lv_at hl 3 rfl) ?_
    obtain ⟨z220, hz220, hfin⟩ := bd_ob hfin
    refine g_callMv [.int t1, .int a2] [] X hK m_rcv hI (ctm_goIf l D cA cB o q q1 q2 hne u t1 a2 z220 hz220) (cwM_M_goIf X.2.2.2.2 ⟨Nat.le_of_ble_eq_true rfl, Nat.le_of_ble_eq_true rfl⟩) rfl hl.1 rfl (Nat.le_of_ble_eq_true rfl) dM_flow_220 (fun H locs hI => ?_)
    exact g_vret X hr hlk hK hI hfin dM_flow_223
  have B_211 : ∀ (u : MS) (t1 : Int32) (t2 : Int32) (H : Heap) (locs : List Loc) (ls : Array Slot), lv_has ls 8 [(0, .ref o), (1, .int a0), (2, .int a1), (3, .int a2)] → gI D (MW cA cB o q q1 q2) (MA o q q1 q2) s0.heap H locs u → m_flow_211 a0 a1 a2 u t1 t2 = some z → W p l e (rmF 4 95) s0 m args below meth c H locs 0 0 (MQ below (va_Qv (fun x => x = z) (gB D [(cA, .long), (cB, .int)] (MW cA cB o q q1 q2)) (MA o q q1 q2)) args s0 0 0 (MA o q q1 q2)) (F0 m 211 ls [.int t2, .int t1, .ref o]) := by
    intro u t1 t2 H locs ls hl hI hfin
    rw [m_flow_211] at hfin
    refine lv_icmp_ne (tgt := 218) hx hb dM_flow_211 (by decide) (fun hc211 => ?_) (fun hc211 => ?_)
    · rw [if_neg hc211] at hfin
      refine lv_iconst (v := (0 : Int32)) hx hb dM_flow_218 (by decide) ?_
      exact B_219 u (0 : Int32) H locs ls (lv_sub hl [0, 1, 2, 3] rfl) hI hfin
    rw [if_pos hc211] at hfin
    refine lv_iconst (v := (1 : Int32)) hx hb dM_flow_214 (by decide) ?_
    refine lv_goto (tgt := 219) hx hb dM_flow_215 (by decide) ?_
    exact B_219 u (1 : Int32) H locs ls (lv_sub hl [0, 1, 2, 3] rfl) hI hfin
  have B_199 : ∀ (u : MS) (t1 : Int32) (H : Heap) (locs : List Loc) (ls : Array Slot), lv_has ls 8 [(0, .ref o), (1, .int a0), (2, .int a1), (3, .int a2)] → gI D (MW cA cB o q q1 q2) (MA o q q1 q2) s0.heap H locs u → m_flow_199 a0 a1 a2 u t1 = some z → W p l e (rmF 4 95) s0 m args below meth c H locs 0 0 (MQ below (va_Qv (fun x => x = z) (gB D [(cA, .long), (cB, .int)] (MW cA cB o q q1 q2)) (MA o q q1 q2)) args s0 0 0 (MA o q q1 q2)) (F0 m 199 ls [.int t1, .ref o]) := by
    intro u t1 H locs ls hl hI hfin
    rw [m_flow_199] at hfin
    refine lv_iload_n hx hb dM_flow_199 rfl (lv_at hl 1 rfl) ?_
    refine lv_sipush (v := (171 : Int32)) hx hb dM_flow_200 (by decide) ?_
    refine lv_icmp_ne (tgt := 210) hx hb dM_flow_203 (by decide) (fun hc203 => ?_) (fun hc203 => ?_)
    · rw [if_neg hc203] at hfin
      refine lv_iconst (v := (0 : Int32)) hx hb dM_flow_210 (by decide) ?_
      exact B_211 u t1 (0 : Int32) H locs ls (lv_sub hl [0, 1, 2, 3] rfl) hI hfin
    rw [if_pos hc203] at hfin
    refine lv_iconst (v := (1 : Int32)) hx hb dM_flow_206 (by decide) ?_
    refine lv_goto (tgt := 211) hx hb dM_flow_207 (by decide) ?_
    exact B_211 u t1 (1 : Int32) H locs ls (lv_sub hl [0, 1, 2, 3] rfl) hI hfin
  rw [m_flow] at hfin
  refine lv_aload_n hx hb dM_flow_0 rfl (lv_at hl 0 rfl) ?_
  refine mg_store X hK hI.1 dM_flow_1 ?_
  refine lv_iload_n hx hb dM_flow_4 rfl (lv_at hl 2 rfl) ?_
  obtain ⟨hd5, hfin⟩ := ck_if hfin
  refine ml_store X hK hI.1 hd5 dM_flow_5 ?_
  refine lv_topl (fun x6 e6 => ?_)
  replace hfin := nm_at hfin e6
  refine lv_lstore (lv' := [(4, .long x6), (0, .ref o), (1, .int a0), (2, .int a1), (3, .int a2)]) hx hb dM_flow_6 hl (by decide) rfl (fun ls hl => ?_)
  refine lv_iload_n hx hb dM_flow_8 rfl (lv_at hl 2 rfl) ?_
  by_cases hk9_0 : a0 = (160 : Int32)
  · rw [if_pos hk9_0] at hfin
    refine lv_tableIn hx hb dM_flow_9 (off := 103) (tgt := 112) (by rw [hk9_0]; decide) (by rw [hk9_0]; decide) (by rw [hk9_0]; rfl) (by decide) ?_
    refine lv_aload_n hx hb dM_flow_112 rfl (lv_at hl 1 rfl) ?_
    refine lv_iload_n hx hb dM_flow_113 rfl (lv_at hl 2 rfl) ?_
    refine lv_iload_n hx hb dM_flow_114 rfl (lv_at hl 3 rfl) ?_
    refine lv_iload_n hx hb dM_flow_115 rfl (lv_at hl 4 rfl) ?_
    obtain ⟨z116, hz116, hfin⟩ := bd_ob hfin
    refine g_callMv [.int a0, .int a1, .int a2] [] X hK m_rcv hI (ctm_shift l D cA cB o q q1 q2 hne u a0 a1 a2 z116 hz116) (cwM_M_shift X.2.2.2.2 ⟨Nat.le_of_ble_eq_true rfl, Nat.le_of_ble_eq_true rfl⟩) rfl hl.1 rfl (Nat.le_of_ble_eq_true rfl) dM_flow_116 (fun H locs hI => ?_)
    exact g_vret X hr hlk hK hI hfin dM_flow_119
  rw [if_neg hk9_0] at hfin
  by_cases hk9_1 : a0 = (161 : Int32)
  · rw [if_pos hk9_1] at hfin
    refine lv_tableIn hx hb dM_flow_9 (off := 103) (tgt := 112) (by rw [hk9_1]; decide) (by rw [hk9_1]; decide) (by rw [hk9_1]; rfl) (by decide) ?_
    refine lv_aload_n hx hb dM_flow_112 rfl (lv_at hl 1 rfl) ?_
    refine lv_iload_n hx hb dM_flow_113 rfl (lv_at hl 2 rfl) ?_
    refine lv_iload_n hx hb dM_flow_114 rfl (lv_at hl 3 rfl) ?_
    refine lv_iload_n hx hb dM_flow_115 rfl (lv_at hl 4 rfl) ?_
    obtain ⟨z116, hz116, hfin⟩ := bd_ob hfin
    refine g_callMv [.int a0, .int a1, .int a2] [] X hK m_rcv hI (ctm_shift l D cA cB o q q1 q2 hne u a0 a1 a2 z116 hz116) (cwM_M_shift X.2.2.2.2 ⟨Nat.le_of_ble_eq_true rfl, Nat.le_of_ble_eq_true rfl⟩) rfl hl.1 rfl (Nat.le_of_ble_eq_true rfl) dM_flow_116 (fun H locs hI => ?_)
    exact g_vret X hr hlk hK hI hfin dM_flow_119
  rw [if_neg hk9_1] at hfin
  by_cases hk9_2 : a0 = (162 : Int32)
  · rw [if_pos hk9_2] at hfin
    refine lv_tableIn hx hb dM_flow_9 (off := 103) (tgt := 112) (by rw [hk9_2]; decide) (by rw [hk9_2]; decide) (by rw [hk9_2]; rfl) (by decide) ?_
    refine lv_aload_n hx hb dM_flow_112 rfl (lv_at hl 1 rfl) ?_
    refine lv_iload_n hx hb dM_flow_113 rfl (lv_at hl 2 rfl) ?_
    refine lv_iload_n hx hb dM_flow_114 rfl (lv_at hl 3 rfl) ?_
    refine lv_iload_n hx hb dM_flow_115 rfl (lv_at hl 4 rfl) ?_
    obtain ⟨z116, hz116, hfin⟩ := bd_ob hfin
    refine g_callMv [.int a0, .int a1, .int a2] [] X hK m_rcv hI (ctm_shift l D cA cB o q q1 q2 hne u a0 a1 a2 z116 hz116) (cwM_M_shift X.2.2.2.2 ⟨Nat.le_of_ble_eq_true rfl, Nat.le_of_ble_eq_true rfl⟩) rfl hl.1 rfl (Nat.le_of_ble_eq_true rfl) dM_flow_116 (fun H locs hI => ?_)
    exact g_vret X hr hlk hK hI hfin dM_flow_119
  rw [if_neg hk9_2] at hfin
  by_cases hk9_3 : a0 = (163 : Int32)
  · rw [if_pos hk9_3] at hfin
    refine lv_tableIn hx hb dM_flow_9 (off := 270) (tgt := 279) (by rw [hk9_3]; decide) (by rw [hk9_3]; decide) (by rw [hk9_3]; rfl) (by decide) ?_
    refine lv_aload_n hx hb dM_flow_279 rfl (lv_at hl 1 rfl) ?_
    refine lv_iconst (v := (2 : Int32)) hx hb dM_flow_280 (by decide) ?_
    obtain ⟨z281, hz281, hfin⟩ := bd_ob hfin
    refine g_callMv [.int (2 : Int32)] [] X hK m_rcv hI (ctm_fail l D cA cB o q q1 q2 hne u (2 : Int32) z281 hz281) (cwM_M_fail X.2.2.2.2 ⟨Nat.le_of_ble_eq_true rfl, Nat.le_of_ble_eq_true rfl⟩) rfl hl.1 rfl (Nat.le_of_ble_eq_true rfl) dM_flow_281 (fun H locs hI => ?_)
    exact g_vret X hr hlk hK hI hfin dM_flow_284
  rw [if_neg hk9_3] at hfin
  by_cases hk9_4 : a0 = (164 : Int32)
  · rw [if_pos hk9_4] at hfin
    refine lv_tableIn hx hb dM_flow_9 (off := 270) (tgt := 279) (by rw [hk9_4]; decide) (by rw [hk9_4]; decide) (by rw [hk9_4]; rfl) (by decide) ?_
    refine lv_aload_n hx hb dM_flow_279 rfl (lv_at hl 1 rfl) ?_
    refine lv_iconst (v := (2 : Int32)) hx hb dM_flow_280 (by decide) ?_
    obtain ⟨z281, hz281, hfin⟩ := bd_ob hfin
    refine g_callMv [.int (2 : Int32)] [] X hK m_rcv hI (ctm_fail l D cA cB o q q1 q2 hne u (2 : Int32) z281 hz281) (cwM_M_fail X.2.2.2.2 ⟨Nat.le_of_ble_eq_true rfl, Nat.le_of_ble_eq_true rfl⟩) rfl hl.1 rfl (Nat.le_of_ble_eq_true rfl) dM_flow_281 (fun H locs hI => ?_)
    exact g_vret X hr hlk hK hI hfin dM_flow_284
  rw [if_neg hk9_4] at hfin
  by_cases hk9_5 : a0 = (165 : Int32)
  · rw [if_pos hk9_5] at hfin
    refine lv_tableIn hx hb dM_flow_9 (off := 270) (tgt := 279) (by rw [hk9_5]; decide) (by rw [hk9_5]; decide) (by rw [hk9_5]; rfl) (by decide) ?_
    refine lv_aload_n hx hb dM_flow_279 rfl (lv_at hl 1 rfl) ?_
    refine lv_iconst (v := (2 : Int32)) hx hb dM_flow_280 (by decide) ?_
    obtain ⟨z281, hz281, hfin⟩ := bd_ob hfin
    refine g_callMv [.int (2 : Int32)] [] X hK m_rcv hI (ctm_fail l D cA cB o q q1 q2 hne u (2 : Int32) z281 hz281) (cwM_M_fail X.2.2.2.2 ⟨Nat.le_of_ble_eq_true rfl, Nat.le_of_ble_eq_true rfl⟩) rfl hl.1 rfl (Nat.le_of_ble_eq_true rfl) dM_flow_281 (fun H locs hI => ?_)
    exact g_vret X hr hlk hK hI hfin dM_flow_284
  rw [if_neg hk9_5] at hfin
  by_cases hk9_6 : a0 = (166 : Int32)
  · rw [if_pos hk9_6] at hfin
    refine lv_tableIn hx hb dM_flow_9 (off := 270) (tgt := 279) (by rw [hk9_6]; decide) (by rw [hk9_6]; decide) (by rw [hk9_6]; rfl) (by decide) ?_
    refine lv_aload_n hx hb dM_flow_279 rfl (lv_at hl 1 rfl) ?_
    refine lv_iconst (v := (2 : Int32)) hx hb dM_flow_280 (by decide) ?_
    obtain ⟨z281, hz281, hfin⟩ := bd_ob hfin
    refine g_callMv [.int (2 : Int32)] [] X hK m_rcv hI (ctm_fail l D cA cB o q q1 q2 hne u (2 : Int32) z281 hz281) (cwM_M_fail X.2.2.2.2 ⟨Nat.le_of_ble_eq_true rfl, Nat.le_of_ble_eq_true rfl⟩) rfl hl.1 rfl (Nat.le_of_ble_eq_true rfl) dM_flow_281 (fun H locs hI => ?_)
    exact g_vret X hr hlk hK hI hfin dM_flow_284
  rw [if_neg hk9_6] at hfin
  by_cases hk9_7 : a0 = (167 : Int32)
  · rw [if_pos hk9_7] at hfin
    refine lv_tableIn hx hb dM_flow_9 (off := 270) (tgt := 279) (by rw [hk9_7]; decide) (by rw [hk9_7]; decide) (by rw [hk9_7]; rfl) (by decide) ?_
    refine lv_aload_n hx hb dM_flow_279 rfl (lv_at hl 1 rfl) ?_
    refine lv_iconst (v := (2 : Int32)) hx hb dM_flow_280 (by decide) ?_
    obtain ⟨z281, hz281, hfin⟩ := bd_ob hfin
    refine g_callMv [.int (2 : Int32)] [] X hK m_rcv hI (ctm_fail l D cA cB o q q1 q2 hne u (2 : Int32) z281 hz281) (cwM_M_fail X.2.2.2.2 ⟨Nat.le_of_ble_eq_true rfl, Nat.le_of_ble_eq_true rfl⟩) rfl hl.1 rfl (Nat.le_of_ble_eq_true rfl) dM_flow_281 (fun H locs hI => ?_)
    exact g_vret X hr hlk hK hI hfin dM_flow_284
  rw [if_neg hk9_7] at hfin
  by_cases hk9_8 : a0 = (168 : Int32)
  · rw [if_pos hk9_8] at hfin
    refine lv_tableIn hx hb dM_flow_9 (off := 111) (tgt := 120) (by rw [hk9_8]; decide) (by rw [hk9_8]; decide) (by rw [hk9_8]; rfl) (by decide) ?_
    refine lv_aload_n hx hb dM_flow_120 rfl (lv_at hl 1 rfl) ?_
    refine lv_iload_n hx hb dM_flow_121 rfl (lv_at hl 4 rfl) ?_
    obtain ⟨z122, hz122, hfin⟩ := bd_ob hfin
    refine g_callMl [.int a2] [] X hK m_rcv hI (ctm_get l D cA cB o q q1 q2 hne u a2 z122 hz122) (cwM_M_get X.2.2.2.2 ⟨Nat.le_of_ble_eq_true rfl, Nat.le_of_ble_eq_true rfl⟩) rfl hl.1 rfl (Nat.le_of_ble_eq_true rfl) dM_flow_122 (fun H locs hI => ?_)
    refine lv_lstore (lv' := [(6, .long z122.1), (4, .long x6), (0, .ref o), (1, .int a0), (2, .int a1), (3, .int a2)]) hx hb dM_flow_125 hl (by decide) rfl (fun ls hl => ?_)
    refine lv_aload_n hx hb dM_flow_127 rfl (lv_at hl 2 rfl) ?_
    refine lv_iload_n hx hb dM_flow_128 rfl (lv_at hl 5 rfl) ?_
    refine lv_lload hx hb dM_flow_129 (lv_at hl 1 rfl) ?_
    obtain ⟨z131, hz131, hfin⟩ := bd_ob hfin
    refine g_callMv [.int a2, .long x6] [] X hK m_rcv hI (ctm_set l D cA cB o q q1 q2 hne z122.2 a2 x6 z131 hz131) (cwM_M_set X.2.2.2.2 ⟨Nat.le_of_ble_eq_true rfl, Nat.le_of_ble_eq_true rfl⟩) rfl hl.1 rfl (Nat.le_of_ble_eq_true rfl) dM_flow_131 (fun H locs hI => ?_)
    refine lv_aload_n hx hb dM_flow_134 rfl (lv_at hl 2 rfl) ?_
    refine lv_iload_n hx hb dM_flow_135 rfl (lv_at hl 4 rfl) ?_
    refine lv_lload hx hb dM_flow_136 (lv_at hl 0 rfl) ?_
    obtain ⟨z138, hz138, hfin⟩ := bd_ob hfin
    refine g_callMv [.int a1, .long z122.1] [] X hK m_rcv hI (ctm_setAc l D cA cB o q q1 q2 hne z131 a1 z122.1 z138 hz138) (cwM_M_setAc X.2.2.2.2 ⟨Nat.le_of_ble_eq_true rfl, Nat.le_of_ble_eq_true rfl⟩) rfl hl.1 rfl (Nat.le_of_ble_eq_true rfl) dM_flow_138 (fun H locs hI => ?_)
    exact g_vret X hr hlk hK hI hfin dM_flow_141
  rw [if_neg hk9_8] at hfin
  by_cases hk9_9 : a0 = (169 : Int32)
  · rw [if_pos hk9_9] at hfin
    refine lv_tableIn hx hb dM_flow_9 (off := 133) (tgt := 142) (by rw [hk9_9]; decide) (by rw [hk9_9]; decide) (by rw [hk9_9]; rfl) (by decide) ?_
    refine lv_aload_n hx hb dM_flow_142 rfl (lv_at hl 1 rfl) ?_
    refine lv_lload hx hb dM_flow_143 (lv_at hl 0 rfl) ?_
    refine g_callPi [.long x6] [.ref o] X (ctm_left l x6) (cwM_M_left X.2.2.2.2 ⟨Nat.le_of_ble_eq_true rfl, Nat.le_of_ble_eq_true rfl⟩) rfl hl.1 rfl (Nat.le_of_ble_eq_true rfl) dM_flow_145 ?_
    refine lv_lload hx hb dM_flow_148 (lv_at hl 0 rfl) ?_
    refine g_callPi [.long x6] [.int (m_left x6), .ref o] X (ctm_right l x6) (cwM_M_right X.2.2.2.2 ⟨Nat.le_of_ble_eq_true rfl, Nat.le_of_ble_eq_true rfl⟩) rfl hl.1 rfl (Nat.le_of_ble_eq_true rfl) dM_flow_150 ?_
    refine lv_iload_n hx hb dM_flow_153 rfl (lv_at hl 4 rfl) ?_
    obtain ⟨z154, hz154, hfin⟩ := bd_ob hfin
    refine g_callMv [.int (m_left x6), .int (m_right x6), .int a2] [] X hK m_rcv hI (ctm_block l D cA cB o q q1 q2 hne u (m_left x6) (m_right x6) a2 z154 hz154) (cwM_M_block X.2.2.2.2 ⟨Nat.le_of_ble_eq_true rfl, Nat.le_of_ble_eq_true rfl⟩) rfl hl.1 rfl (Nat.le_of_ble_eq_true rfl) dM_flow_154 (fun H locs hI => ?_)
    exact g_vret X hr hlk hK hI hfin dM_flow_157
  rw [if_neg hk9_9] at hfin
  by_cases hk9_10 : a0 = (170 : Int32)
  · rw [if_pos hk9_10] at hfin
    refine lv_tableIn hx hb dM_flow_9 (off := 149) (tgt := 158) (by rw [hk9_10]; decide) (by rw [hk9_10]; decide) (by rw [hk9_10]; rfl) (by decide) ?_
    refine lv_aload_n hx hb dM_flow_158 rfl (lv_at hl 1 rfl) ?_
    refine lv_iload_n hx hb dM_flow_159 rfl (lv_at hl 3 rfl) ?_
    refine lv_lload hx hb dM_flow_160 (lv_at hl 0 rfl) ?_
    refine g_callPi [.long x6] [.int a1, .ref o] X (ctm_left l x6) (cwM_M_left X.2.2.2.2 ⟨Nat.le_of_ble_eq_true rfl, Nat.le_of_ble_eq_true rfl⟩) rfl hl.1 rfl (Nat.le_of_ble_eq_true rfl) dM_flow_162 ?_
    refine lv_iconst (v := (1 : Int32)) hx hb dM_flow_165 (by decide) ?_
    refine lv_iadd hx hb dM_flow_166 ?_
    refine lv_lload hx hb dM_flow_167 (lv_at hl 0 rfl) ?_
    refine g_callPi [.long x6] [.int ((m_left x6) + (1 : Int32)), .int a1, .ref o] X (ctm_right l x6) (cwM_M_right X.2.2.2.2 ⟨Nat.le_of_ble_eq_true rfl, Nat.le_of_ble_eq_true rfl⟩) rfl hl.1 rfl (Nat.le_of_ble_eq_true rfl) dM_flow_169 ?_
    refine lv_iconst (v := (1 : Int32)) hx hb dM_flow_172 (by decide) ?_
    refine lv_iadd hx hb dM_flow_173 ?_
    refine g_callPl [.int ((m_left x6) + (1 : Int32)), .int ((m_right x6) + (1 : Int32))] [.int a1, .ref o] X (ctm_joined l ((m_left x6) + (1 : Int32)) ((m_right x6) + (1 : Int32))) (cwM_M_joined X.2.2.2.2 ⟨Nat.le_of_ble_eq_true rfl, Nat.le_of_ble_eq_true rfl⟩) rfl hl.1 rfl (Nat.le_of_ble_eq_true rfl) dM_flow_174 ?_
    obtain ⟨z177, hz177, hfin⟩ := bd_ob hfin
    refine g_callMv [.int a1, .long (m_joined ((m_left x6) + (1 : Int32)) ((m_right x6) + (1 : Int32)))] [] X hK m_rcv hI (ctm_setAc l D cA cB o q q1 q2 hne u a1 (m_joined ((m_left x6) + (1 : Int32)) ((m_right x6) + (1 : Int32))) z177 hz177) (cwM_M_setAc X.2.2.2.2 ⟨Nat.le_of_ble_eq_true rfl, Nat.le_of_ble_eq_true rfl⟩) rfl hl.1 rfl (Nat.le_of_ble_eq_true rfl) dM_flow_177 (fun H locs hI => ?_)
    refine lv_aload_n hx hb dM_flow_180 rfl (lv_at hl 1 rfl) ?_
    refine lv_aload_n hx hb dM_flow_181 rfl (lv_at hl 1 rfl) ?_
    refine mg_store X hK hI.1 dM_flow_182 ?_
    refine lv_iload_n hx hb dM_flow_185 rfl (lv_at hl 3 rfl) ?_
    obtain ⟨hd186, hfin⟩ := ck_if hfin
    refine ml_store X hK hI.1 hd186 dM_flow_186 ?_
    refine lv_ldc2 hx hb X.2.2.2.1 (X.2.2.2.2 _ hkM_20) dM_flow_187 ?_
    refine W.lcmp hx hb dM_flow_190 ?_
    refine lv_if_lt (tgt := 198) hx hb dM_flow_191 (by decide) (fun hc191 => ?_) (fun hc191 => ?_)
    · rw [if_pos hc191] at hfin
      refine lv_iconst (v := (0 : Int32)) hx hb dM_flow_198 (by decide) ?_
      exact B_199 z177 (0 : Int32) H locs ls (lv_sub hl [1, 2, 3, 4] rfl) hI hfin
    rw [if_neg hc191] at hfin
    refine lv_iconst (v := (1 : Int32)) hx hb dM_flow_194 (by decide) ?_
    refine lv_goto (tgt := 199) hx hb dM_flow_195 (by decide) ?_
    exact B_199 z177 (1 : Int32) H locs ls (lv_sub hl [1, 2, 3, 4] rfl) hI hfin
  rw [if_neg hk9_10] at hfin
  by_cases hk9_11 : a0 = (171 : Int32)
  · rw [if_pos hk9_11] at hfin
    refine lv_tableIn hx hb dM_flow_9 (off := 149) (tgt := 158) (by rw [hk9_11]; decide) (by rw [hk9_11]; decide) (by rw [hk9_11]; rfl) (by decide) ?_
    refine lv_aload_n hx hb dM_flow_158 rfl (lv_at hl 1 rfl) ?_
    refine lv_iload_n hx hb dM_flow_159 rfl (lv_at hl 3 rfl) ?_
    refine lv_lload hx hb dM_flow_160 (lv_at hl 0 rfl) ?_
    refine g_callPi [.long x6] [.int a1, .ref o] X (ctm_left l x6) (cwM_M_left X.2.2.2.2 ⟨Nat.le_of_ble_eq_true rfl, Nat.le_of_ble_eq_true rfl⟩) rfl hl.1 rfl (Nat.le_of_ble_eq_true rfl) dM_flow_162 ?_
    refine lv_iconst (v := (1 : Int32)) hx hb dM_flow_165 (by decide) ?_
    refine lv_iadd hx hb dM_flow_166 ?_
    refine lv_lload hx hb dM_flow_167 (lv_at hl 0 rfl) ?_
    refine g_callPi [.long x6] [.int ((m_left x6) + (1 : Int32)), .int a1, .ref o] X (ctm_right l x6) (cwM_M_right X.2.2.2.2 ⟨Nat.le_of_ble_eq_true rfl, Nat.le_of_ble_eq_true rfl⟩) rfl hl.1 rfl (Nat.le_of_ble_eq_true rfl) dM_flow_169 ?_
    refine lv_iconst (v := (1 : Int32)) hx hb dM_flow_172 (by decide) ?_
    refine lv_iadd hx hb dM_flow_173 ?_
    refine g_callPl [.int ((m_left x6) + (1 : Int32)), .int ((m_right x6) + (1 : Int32))] [.int a1, .ref o] X (ctm_joined l ((m_left x6) + (1 : Int32)) ((m_right x6) + (1 : Int32))) (cwM_M_joined X.2.2.2.2 ⟨Nat.le_of_ble_eq_true rfl, Nat.le_of_ble_eq_true rfl⟩) rfl hl.1 rfl (Nat.le_of_ble_eq_true rfl) dM_flow_174 ?_
    obtain ⟨z177, hz177, hfin⟩ := bd_ob hfin
    refine g_callMv [.int a1, .long (m_joined ((m_left x6) + (1 : Int32)) ((m_right x6) + (1 : Int32)))] [] X hK m_rcv hI (ctm_setAc l D cA cB o q q1 q2 hne u a1 (m_joined ((m_left x6) + (1 : Int32)) ((m_right x6) + (1 : Int32))) z177 hz177) (cwM_M_setAc X.2.2.2.2 ⟨Nat.le_of_ble_eq_true rfl, Nat.le_of_ble_eq_true rfl⟩) rfl hl.1 rfl (Nat.le_of_ble_eq_true rfl) dM_flow_177 (fun H locs hI => ?_)
    refine lv_aload_n hx hb dM_flow_180 rfl (lv_at hl 1 rfl) ?_
    refine lv_aload_n hx hb dM_flow_181 rfl (lv_at hl 1 rfl) ?_
    refine mg_store X hK hI.1 dM_flow_182 ?_
    refine lv_iload_n hx hb dM_flow_185 rfl (lv_at hl 3 rfl) ?_
    obtain ⟨hd186, hfin⟩ := ck_if hfin
    refine ml_store X hK hI.1 hd186 dM_flow_186 ?_
    refine lv_ldc2 hx hb X.2.2.2.1 (X.2.2.2.2 _ hkM_20) dM_flow_187 ?_
    refine W.lcmp hx hb dM_flow_190 ?_
    refine lv_if_lt (tgt := 198) hx hb dM_flow_191 (by decide) (fun hc191 => ?_) (fun hc191 => ?_)
    · rw [if_pos hc191] at hfin
      refine lv_iconst (v := (0 : Int32)) hx hb dM_flow_198 (by decide) ?_
      exact B_199 z177 (0 : Int32) H locs ls (lv_sub hl [1, 2, 3, 4] rfl) hI hfin
    rw [if_neg hc191] at hfin
    refine lv_iconst (v := (1 : Int32)) hx hb dM_flow_194 (by decide) ?_
    refine lv_goto (tgt := 199) hx hb dM_flow_195 (by decide) ?_
    exact B_199 z177 (1 : Int32) H locs ls (lv_sub hl [1, 2, 3, 4] rfl) hI hfin
  rw [if_neg hk9_11] at hfin
  by_cases hk9_12 : a0 = (172 : Int32)
  · rw [if_pos hk9_12] at hfin
    refine lv_tableIn hx hb dM_flow_9 (off := 215) (tgt := 224) (by rw [hk9_12]; decide) (by rw [hk9_12]; decide) (by rw [hk9_12]; rfl) (by decide) ?_
    refine lv_aload_n hx hb dM_flow_224 rfl (lv_at hl 1 rfl) ?_
    refine lv_iload_n hx hb dM_flow_225 rfl (lv_at hl 3 rfl) ?_
    refine lv_iload_n hx hb dM_flow_226 rfl (lv_at hl 4 rfl) ?_
    obtain ⟨z227, hz227, hfin⟩ := bd_ob hfin
    refine g_callMv [.int a1, .int a2] [] X hK m_rcv hI (ctm_jump l D cA cB o q q1 q2 hne u a1 a2 z227 hz227) (cwM_M_jump X.2.2.2.2 ⟨Nat.le_of_ble_eq_true rfl, Nat.le_of_ble_eq_true rfl⟩) rfl hl.1 rfl (Nat.le_of_ble_eq_true rfl) dM_flow_227 (fun H locs hI => ?_)
    exact g_vret X hr hlk hK hI hfin dM_flow_230
  rw [if_neg hk9_12] at hfin
  by_cases hk9_13 : a0 = (173 : Int32)
  · rw [if_pos hk9_13] at hfin
    refine lv_tableIn hx hb dM_flow_9 (off := 270) (tgt := 279) (by rw [hk9_13]; decide) (by rw [hk9_13]; decide) (by rw [hk9_13]; rfl) (by decide) ?_
    refine lv_aload_n hx hb dM_flow_279 rfl (lv_at hl 1 rfl) ?_
    refine lv_iconst (v := (2 : Int32)) hx hb dM_flow_280 (by decide) ?_
    obtain ⟨z281, hz281, hfin⟩ := bd_ob hfin
    refine g_callMv [.int (2 : Int32)] [] X hK m_rcv hI (ctm_fail l D cA cB o q q1 q2 hne u (2 : Int32) z281 hz281) (cwM_M_fail X.2.2.2.2 ⟨Nat.le_of_ble_eq_true rfl, Nat.le_of_ble_eq_true rfl⟩) rfl hl.1 rfl (Nat.le_of_ble_eq_true rfl) dM_flow_281 (fun H locs hI => ?_)
    exact g_vret X hr hlk hK hI hfin dM_flow_284
  rw [if_neg hk9_13] at hfin
  by_cases hk9_14 : a0 = (174 : Int32)
  · rw [if_pos hk9_14] at hfin
    refine lv_tableIn hx hb dM_flow_9 (off := 270) (tgt := 279) (by rw [hk9_14]; decide) (by rw [hk9_14]; decide) (by rw [hk9_14]; rfl) (by decide) ?_
    refine lv_aload_n hx hb dM_flow_279 rfl (lv_at hl 1 rfl) ?_
    refine lv_iconst (v := (2 : Int32)) hx hb dM_flow_280 (by decide) ?_
    obtain ⟨z281, hz281, hfin⟩ := bd_ob hfin
    refine g_callMv [.int (2 : Int32)] [] X hK m_rcv hI (ctm_fail l D cA cB o q q1 q2 hne u (2 : Int32) z281 hz281) (cwM_M_fail X.2.2.2.2 ⟨Nat.le_of_ble_eq_true rfl, Nat.le_of_ble_eq_true rfl⟩) rfl hl.1 rfl (Nat.le_of_ble_eq_true rfl) dM_flow_281 (fun H locs hI => ?_)
    exact g_vret X hr hlk hK hI hfin dM_flow_284
  rw [if_neg hk9_14] at hfin
  by_cases hk9_15 : a0 = (175 : Int32)
  · rw [if_pos hk9_15] at hfin
    refine lv_tableIn hx hb dM_flow_9 (off := 270) (tgt := 279) (by rw [hk9_15]; decide) (by rw [hk9_15]; decide) (by rw [hk9_15]; rfl) (by decide) ?_
    refine lv_aload_n hx hb dM_flow_279 rfl (lv_at hl 1 rfl) ?_
    refine lv_iconst (v := (2 : Int32)) hx hb dM_flow_280 (by decide) ?_
    obtain ⟨z281, hz281, hfin⟩ := bd_ob hfin
    refine g_callMv [.int (2 : Int32)] [] X hK m_rcv hI (ctm_fail l D cA cB o q q1 q2 hne u (2 : Int32) z281 hz281) (cwM_M_fail X.2.2.2.2 ⟨Nat.le_of_ble_eq_true rfl, Nat.le_of_ble_eq_true rfl⟩) rfl hl.1 rfl (Nat.le_of_ble_eq_true rfl) dM_flow_281 (fun H locs hI => ?_)
    exact g_vret X hr hlk hK hI hfin dM_flow_284
  rw [if_neg hk9_15] at hfin
  by_cases hk9_16 : a0 = (176 : Int32)
  · rw [if_pos hk9_16] at hfin
    refine lv_tableIn hx hb dM_flow_9 (off := 222) (tgt := 231) (by rw [hk9_16]; decide) (by rw [hk9_16]; decide) (by rw [hk9_16]; rfl) (by decide) ?_
    refine lv_aload_n hx hb dM_flow_231 rfl (lv_at hl 1 rfl) ?_
    refine lv_iload_n hx hb dM_flow_232 rfl (lv_at hl 2 rfl) ?_
    refine lv_iload_n hx hb dM_flow_233 rfl (lv_at hl 3 rfl) ?_
    refine lv_iload_n hx hb dM_flow_234 rfl (lv_at hl 4 rfl) ?_
    obtain ⟨z235, hz235, hfin⟩ := bd_ob hfin
    refine g_callMv [.int a0, .int a1, .int a2] [] X hK m_rcv hI (ctm_push l D cA cB o q q1 q2 hne u a0 a1 a2 z235 hz235) (cwM_M_push X.2.2.2.2 ⟨Nat.le_of_ble_eq_true rfl, Nat.le_of_ble_eq_true rfl⟩) rfl hl.1 rfl (Nat.le_of_ble_eq_true rfl) dM_flow_235 (fun H locs hI => ?_)
    exact g_vret X hr hlk hK hI hfin dM_flow_238
  rw [if_neg hk9_16] at hfin
  by_cases hk9_17 : a0 = (177 : Int32)
  · rw [if_pos hk9_17] at hfin
    refine lv_tableIn hx hb dM_flow_9 (off := 222) (tgt := 231) (by rw [hk9_17]; decide) (by rw [hk9_17]; decide) (by rw [hk9_17]; rfl) (by decide) ?_
    refine lv_aload_n hx hb dM_flow_231 rfl (lv_at hl 1 rfl) ?_
    refine lv_iload_n hx hb dM_flow_232 rfl (lv_at hl 2 rfl) ?_
    refine lv_iload_n hx hb dM_flow_233 rfl (lv_at hl 3 rfl) ?_
    refine lv_iload_n hx hb dM_flow_234 rfl (lv_at hl 4 rfl) ?_
    obtain ⟨z235, hz235, hfin⟩ := bd_ob hfin
    refine g_callMv [.int a0, .int a1, .int a2] [] X hK m_rcv hI (ctm_push l D cA cB o q q1 q2 hne u a0 a1 a2 z235 hz235) (cwM_M_push X.2.2.2.2 ⟨Nat.le_of_ble_eq_true rfl, Nat.le_of_ble_eq_true rfl⟩) rfl hl.1 rfl (Nat.le_of_ble_eq_true rfl) dM_flow_235 (fun H locs hI => ?_)
    exact g_vret X hr hlk hK hI hfin dM_flow_238
  rw [if_neg hk9_17] at hfin
  by_cases hk9_18 : a0 = (178 : Int32)
  · rw [if_pos hk9_18] at hfin
    refine lv_tableIn hx hb dM_flow_9 (off := 230) (tgt := 239) (by rw [hk9_18]; decide) (by rw [hk9_18]; decide) (by rw [hk9_18]; rfl) (by decide) ?_
    refine lv_aload_n hx hb dM_flow_239 rfl (lv_at hl 1 rfl) ?_
    refine lv_iload_n hx hb dM_flow_240 rfl (lv_at hl 2 rfl) ?_
    refine lv_iload_n hx hb dM_flow_241 rfl (lv_at hl 3 rfl) ?_
    refine lv_iload_n hx hb dM_flow_242 rfl (lv_at hl 4 rfl) ?_
    obtain ⟨z243, hz243, hfin⟩ := bd_ob hfin
    refine g_callMv [.int a0, .int a1, .int a2] [] X hK m_rcv hI (ctm_pop l D cA cB o q q1 q2 hne u a0 a1 a2 z243 hz243) (cwM_M_pop X.2.2.2.2 ⟨Nat.le_of_ble_eq_true rfl, Nat.le_of_ble_eq_true rfl⟩) rfl hl.1 rfl (Nat.le_of_ble_eq_true rfl) dM_flow_243 (fun H locs hI => ?_)
    exact g_vret X hr hlk hK hI hfin dM_flow_246
  rw [if_neg hk9_18] at hfin
  by_cases hk9_19 : a0 = (179 : Int32)
  · rw [if_pos hk9_19] at hfin
    refine lv_tableIn hx hb dM_flow_9 (off := 230) (tgt := 239) (by rw [hk9_19]; decide) (by rw [hk9_19]; decide) (by rw [hk9_19]; rfl) (by decide) ?_
    refine lv_aload_n hx hb dM_flow_239 rfl (lv_at hl 1 rfl) ?_
    refine lv_iload_n hx hb dM_flow_240 rfl (lv_at hl 2 rfl) ?_
    refine lv_iload_n hx hb dM_flow_241 rfl (lv_at hl 3 rfl) ?_
    refine lv_iload_n hx hb dM_flow_242 rfl (lv_at hl 4 rfl) ?_
    obtain ⟨z243, hz243, hfin⟩ := bd_ob hfin
    refine g_callMv [.int a0, .int a1, .int a2] [] X hK m_rcv hI (ctm_pop l D cA cB o q q1 q2 hne u a0 a1 a2 z243 hz243) (cwM_M_pop X.2.2.2.2 ⟨Nat.le_of_ble_eq_true rfl, Nat.le_of_ble_eq_true rfl⟩) rfl hl.1 rfl (Nat.le_of_ble_eq_true rfl) dM_flow_243 (fun H locs hI => ?_)
    exact g_vret X hr hlk hK hI hfin dM_flow_246
  rw [if_neg hk9_19] at hfin
  by_cases hk9_20 : a0 = (180 : Int32)
  · rw [if_pos hk9_20] at hfin
    refine lv_tableIn hx hb dM_flow_9 (off := 238) (tgt := 247) (by rw [hk9_20]; decide) (by rw [hk9_20]; decide) (by rw [hk9_20]; rfl) (by decide) ?_
    refine lv_aload_n hx hb dM_flow_247 rfl (lv_at hl 1 rfl) ?_
    refine lv_iload_n hx hb dM_flow_248 rfl (lv_at hl 4 rfl) ?_
    refine lv_aload_n hx hb dM_flow_249 rfl (lv_at hl 1 rfl) ?_
    refine g_callRl [] [.int a2, .ref o] X hK m_rcv hI.1 (ctm_flags l D cA cB o q q1 q2 u) (cwM_M_flags X.2.2.2.2 ⟨Nat.le_of_ble_eq_true rfl, Nat.le_of_ble_eq_true rfl⟩) rfl hl.1 rfl (Nat.le_of_ble_eq_true rfl) dM_flow_250 ?_
    obtain ⟨z253, hz253, hfin⟩ := bd_ob hfin
    refine g_callMv [.int a2, .long (m_flags u)] [] X hK m_rcv hI (ctm_set l D cA cB o q q1 q2 hne u a2 (m_flags u) z253 hz253) (cwM_M_set X.2.2.2.2 ⟨Nat.le_of_ble_eq_true rfl, Nat.le_of_ble_eq_true rfl⟩) rfl hl.1 rfl (Nat.le_of_ble_eq_true rfl) dM_flow_253 (fun H locs hI => ?_)
    refine lv_aload_n hx hb dM_flow_256 rfl (lv_at hl 1 rfl) ?_
    refine lv_iload_n hx hb dM_flow_257 rfl (lv_at hl 4 rfl) ?_
    refine lv_iconst (v := (1 : Int32)) hx hb dM_flow_258 (by decide) ?_
    refine lv_iadd hx hb dM_flow_259 ?_
    obtain ⟨z260, hz260, hfin⟩ := bd_ob hfin
    refine g_callMv [.int (a2 + (1 : Int32))] [] X hK m_rcv hI (ctm_go l D cA cB o q q1 q2 hne z253 (a2 + (1 : Int32)) z260 hz260) (cwM_M_go X.2.2.2.2 ⟨Nat.le_of_ble_eq_true rfl, Nat.le_of_ble_eq_true rfl⟩) rfl hl.1 rfl (Nat.le_of_ble_eq_true rfl) dM_flow_260 (fun H locs hI => ?_)
    exact g_vret X hr hlk hK hI hfin dM_flow_263
  rw [if_neg hk9_20] at hfin
  by_cases hk9_21 : a0 = (181 : Int32)
  · rw [if_pos hk9_21] at hfin
    refine lv_tableIn hx hb dM_flow_9 (off := 255) (tgt := 264) (by rw [hk9_21]; decide) (by rw [hk9_21]; decide) (by rw [hk9_21]; rfl) (by decide) ?_
    refine lv_aload_n hx hb dM_flow_264 rfl (lv_at hl 1 rfl) ?_
    refine lv_iload_n hx hb dM_flow_265 rfl (lv_at hl 3 rfl) ?_
    refine lv_aload_n hx hb dM_flow_266 rfl (lv_at hl 1 rfl) ?_
    refine g_callRl [] [.int a1, .ref o] X hK m_rcv hI.1 (ctm_flags l D cA cB o q q1 q2 u) (cwM_M_flags X.2.2.2.2 ⟨Nat.le_of_ble_eq_true rfl, Nat.le_of_ble_eq_true rfl⟩) rfl hl.1 rfl (Nat.le_of_ble_eq_true rfl) dM_flow_267 ?_
    obtain ⟨z270, hz270, hfin⟩ := bd_ob hfin
    refine g_callMv [.int a1, .long (m_flags u)] [] X hK m_rcv hI (ctm_setAc l D cA cB o q q1 q2 hne u a1 (m_flags u) z270 hz270) (cwM_M_setAc X.2.2.2.2 ⟨Nat.le_of_ble_eq_true rfl, Nat.le_of_ble_eq_true rfl⟩) rfl hl.1 rfl (Nat.le_of_ble_eq_true rfl) dM_flow_270 (fun H locs hI => ?_)
    refine lv_aload_n hx hb dM_flow_273 rfl (lv_at hl 1 rfl) ?_
    refine lv_iload_n hx hb dM_flow_274 rfl (lv_at hl 4 rfl) ?_
    obtain ⟨z275, hz275, hfin⟩ := bd_ob hfin
    refine g_callMv [.int a2] [] X hK m_rcv hI (ctm_go l D cA cB o q q1 q2 hne z270 a2 z275 hz275) (cwM_M_go X.2.2.2.2 ⟨Nat.le_of_ble_eq_true rfl, Nat.le_of_ble_eq_true rfl⟩) rfl hl.1 rfl (Nat.le_of_ble_eq_true rfl) dM_flow_275 (fun H locs hI => ?_)
    exact g_vret X hr hlk hK hI hfin dM_flow_278
  rw [if_neg hk9_21] at hfin
  have hn9_0 := i32_ne (160 : Int32) 160 (by decide) hk9_0
  have hn9_1 := i32_ne (161 : Int32) 161 (by decide) hk9_1
  have hn9_2 := i32_ne (162 : Int32) 162 (by decide) hk9_2
  have hn9_3 := i32_ne (163 : Int32) 163 (by decide) hk9_3
  have hn9_4 := i32_ne (164 : Int32) 164 (by decide) hk9_4
  have hn9_5 := i32_ne (165 : Int32) 165 (by decide) hk9_5
  have hn9_6 := i32_ne (166 : Int32) 166 (by decide) hk9_6
  have hn9_7 := i32_ne (167 : Int32) 167 (by decide) hk9_7
  have hn9_8 := i32_ne (168 : Int32) 168 (by decide) hk9_8
  have hn9_9 := i32_ne (169 : Int32) 169 (by decide) hk9_9
  have hn9_10 := i32_ne (170 : Int32) 170 (by decide) hk9_10
  have hn9_11 := i32_ne (171 : Int32) 171 (by decide) hk9_11
  have hn9_12 := i32_ne (172 : Int32) 172 (by decide) hk9_12
  have hn9_13 := i32_ne (173 : Int32) 173 (by decide) hk9_13
  have hn9_14 := i32_ne (174 : Int32) 174 (by decide) hk9_14
  have hn9_15 := i32_ne (175 : Int32) 175 (by decide) hk9_15
  have hn9_16 := i32_ne (176 : Int32) 176 (by decide) hk9_16
  have hn9_17 := i32_ne (177 : Int32) 177 (by decide) hk9_17
  have hn9_18 := i32_ne (178 : Int32) 178 (by decide) hk9_18
  have hn9_19 := i32_ne (179 : Int32) 179 (by decide) hk9_19
  have hn9_20 := i32_ne (180 : Int32) 180 (by decide) hk9_20
  have hn9_21 := i32_ne (181 : Int32) 181 (by decide) hk9_21
  refine lv_tableOut hx hb dM_flow_9 (tgt := 279) (by omega) (by decide) ?_
  refine lv_aload_n hx hb dM_flow_279 rfl (lv_at hl 1 rfl) ?_
  refine lv_iconst (v := (2 : Int32)) hx hb dM_flow_280 (by decide) ?_
  obtain ⟨z281, hz281, hfin⟩ := bd_ob hfin
  refine g_callMv [.int (2 : Int32)] [] X hK m_rcv hI (ctm_fail l D cA cB o q q1 q2 hne u (2 : Int32) z281 hz281) (cwM_M_fail X.2.2.2.2 ⟨Nat.le_of_ble_eq_true rfl, Nat.le_of_ble_eq_true rfl⟩) rfl hl.1 rfl (Nat.le_of_ble_eq_true rfl) dM_flow_281 (fun H locs hI => ?_)
  exact g_vret X hr hlk hK hI hfin dM_flow_284
set_option maxHeartbeats 4000000 in
set_option maxRecDepth 100000 in
theorem ctm_obey (l : Launch) (D : va_G) (cA cB : ClassId) (o q q1 q2 : Nat) (hne : va_nd [o, q, q1, q2] = true) (u : MS) (a0 : Int32) (a1 : Int32) (a2 : Int32) (z : MS) (hfin : m_obey u a0 a1 a2 = some z) : gMv l yM_obey wM_obey (rmF 6 172) D [(cA, .long), (cB, .int)] (MW cA cB o q q1 q2) (MA o q q1 q2) [.ref o, .int a0, .int a1, .int a2] u z := by
  refine g_start (plainFor_of_name (by decide)) (Nat.le_of_ble_eq_true rfl) ?_
  intro p e s0 m args below meth c ls X hr hlk hB hl
  obtain ⟨hP0, hK⟩ := hB
  have hI : gI D (MW cA cB o q q1 q2) (MA o q q1 q2) s0.heap s0.heap [] u := ⟨hP0, va_S.rf⟩
  have hl : lv_has ls 5 [(0, .ref o), (1, .int a0), (2, .int a1), (3, .int a2)] := hl
  have hx := X.1
  have hb := X.2.1
  have B_192 : ∀ (u : MS) (H : Heap) (locs : List Loc) (ls : Array Slot), lv_has ls 5 [(0, .ref o), (1, .int a0), (2, .int a1), (3, .int a2)] → gI D (MW cA cB o q q1 q2) (MA o q q1 q2) s0.heap H locs u → m_obey_192 a0 a1 a2 u = some z → W p l e (rmF 6 172) s0 m args below meth c H locs 0 0 (MQ below (va_Qv (fun x => x = z) (gB D [(cA, .long), (cB, .int)] (MW cA cB o q q1 q2)) (MA o q q1 q2)) args s0 0 0 (MA o q q1 q2)) (F0 m 192 ls []) := by
    intro u H locs ls hl hI hfin
    rw [m_obey_192] at hfin
    refine lv_aload_n hx hb dM_obey_192 rfl (lv_at hl 0 rfl) ?_
    refine lv_iconst (v := (2 : Int32)) hx hb dM_obey_193 (by decide) ?_
    obtain ⟨z194, hz194, hfin⟩ := bd_ob hfin
    refine g_callMv [.int (2 : Int32)] [] X hK m_rcv hI (ctm_fail l D cA cB o q q1 q2 hne u (2 : Int32) z194 hz194) (cwM_M_fail X.2.2.2.2 ⟨Nat.le_of_ble_eq_true rfl, Nat.le_of_ble_eq_true rfl⟩) rfl hl.1 rfl (Nat.le_of_ble_eq_true rfl) dM_obey_194 (fun H locs hI => ?_)
    exact g_vret X hr hlk hK hI hfin dM_obey_197
  have B_168 : ∀ (u : MS) (H : Heap) (locs : List Loc) (ls : Array Slot), lv_has ls 5 [(0, .ref o), (1, .int a0), (2, .int a1), (3, .int a2)] → gI D (MW cA cB o q q1 q2) (MA o q q1 q2) s0.heap H locs u → m_obey_168 a0 a1 a2 u = some z → W p l e (rmF 6 172) s0 m args below meth c H locs 0 0 (MQ below (va_Qv (fun x => x = z) (gB D [(cA, .long), (cB, .int)] (MW cA cB o q q1 q2)) (MA o q q1 q2)) args s0 0 0 (MA o q q1 q2)) (F0 m 168 ls []) := by
    intro u H locs ls hl hI hfin
    rw [m_obey_168] at hfin
    refine lv_iload_n hx hb dM_obey_168 rfl (lv_at hl 1 rfl) ?_
    refine lv_sipush (v := (159 : Int32)) hx hb dM_obey_169 (by decide) ?_
    refine lv_icmp_le (tgt := 192) hx hb dM_obey_172 (by decide) (fun hc172 => ?_) (fun hc172 => ?_)
    · rw [if_pos hc172] at hfin
      exact B_192 u H locs ls (lv_sub hl [0, 1, 2, 3] rfl) hI hfin
    rw [if_neg hc172] at hfin
    refine lv_iload_n hx hb dM_obey_175 rfl (lv_at hl 1 rfl) ?_
    refine lv_sipush (v := (184 : Int32)) hx hb dM_obey_176 (by decide) ?_
    refine lv_icmp_ge (tgt := 192) hx hb dM_obey_179 (by decide) (fun hc179 => ?_) (fun hc179 => ?_)
    · rw [if_pos hc179] at hfin
      exact B_192 u H locs ls (lv_sub hl [0, 1, 2, 3] rfl) hI hfin
    rw [if_neg hc179] at hfin
    refine lv_aload_n hx hb dM_obey_182 rfl (lv_at hl 0 rfl) ?_
    refine lv_iload_n hx hb dM_obey_183 rfl (lv_at hl 1 rfl) ?_
    refine lv_iload_n hx hb dM_obey_184 rfl (lv_at hl 2 rfl) ?_
    refine lv_iload_n hx hb dM_obey_185 rfl (lv_at hl 3 rfl) ?_
    obtain ⟨z186, hz186, hfin⟩ := bd_ob hfin
    refine g_callMv [.int a0, .int a1, .int a2] [] X hK m_rcv hI (ctm_flow l D cA cB o q q1 q2 hne u a0 a1 a2 z186 hz186) (cwM_M_flow X.2.2.2.2 ⟨Nat.le_of_ble_eq_true rfl, Nat.le_of_ble_eq_true rfl⟩) rfl hl.1 rfl (Nat.le_of_ble_eq_true rfl) dM_obey_186 (fun H locs hI => ?_)
    refine lv_goto (tgt := 197) hx hb dM_obey_189 (by decide) ?_
    exact g_vret X hr hlk hK hI hfin dM_obey_197
  have B_158 : ∀ (u : MS) (H : Heap) (locs : List Loc) (ls : Array Slot), lv_has ls 5 [(0, .ref o), (1, .int a0), (2, .int a1), (3, .int a2)] → gI D (MW cA cB o q q1 q2) (MA o q q1 q2) s0.heap H locs u → m_obey_158 a0 a1 a2 u = some z → W p l e (rmF 6 172) s0 m args below meth c H locs 0 0 (MQ below (va_Qv (fun x => x = z) (gB D [(cA, .long), (cB, .int)] (MW cA cB o q q1 q2)) (MA o q q1 q2)) args s0 0 0 (MA o q q1 q2)) (F0 m 158 ls []) := by
    intro u H locs ls hl hI hfin
    rw [m_obey_158] at hfin
    refine lv_aload_n hx hb dM_obey_158 rfl (lv_at hl 0 rfl) ?_
    refine lv_iload_n hx hb dM_obey_159 rfl (lv_at hl 1 rfl) ?_
    refine lv_iload_n hx hb dM_obey_160 rfl (lv_at hl 2 rfl) ?_
    refine lv_iload_n hx hb dM_obey_161 rfl (lv_at hl 3 rfl) ?_
    obtain ⟨z162, hz162, hfin⟩ := bd_ob hfin
    refine g_callMv [.int a0, .int a1, .int a2] [] X hK m_rcv hI (ctm_sum l D cA cB o q q1 q2 hne u a0 a1 a2 z162 hz162) (cwM_M_sum X.2.2.2.2 ⟨Nat.le_of_ble_eq_true rfl, Nat.le_of_ble_eq_true rfl⟩) rfl hl.1 rfl (Nat.le_of_ble_eq_true rfl) dM_obey_162 (fun H locs hI => ?_)
    refine lv_goto (tgt := 197) hx hb dM_obey_165 (by decide) ?_
    exact g_vret X hr hlk hK hI hfin dM_obey_197
  have B_144 : ∀ (u : MS) (H : Heap) (locs : List Loc) (ls : Array Slot), lv_has ls 5 [(0, .ref o), (1, .int a0), (2, .int a1), (3, .int a2)] → gI D (MW cA cB o q q1 q2) (MA o q q1 q2) s0.heap H locs u → m_obey_144 a0 a1 a2 u = some z → W p l e (rmF 6 172) s0 m args below meth c H locs 0 0 (MQ below (va_Qv (fun x => x = z) (gB D [(cA, .long), (cB, .int)] (MW cA cB o q q1 q2)) (MA o q q1 q2)) args s0 0 0 (MA o q q1 q2)) (F0 m 144 ls []) := by
    intro u H locs ls hl hI hfin
    rw [m_obey_144] at hfin
    refine lv_iload_n hx hb dM_obey_144 rfl (lv_at hl 1 rfl) ?_
    refine lv_sipush (v := (183 : Int32)) hx hb dM_obey_145 (by decide) ?_
    refine lv_icmp_le (tgt := 168) hx hb dM_obey_148 (by decide) (fun hc148 => ?_) (fun hc148 => ?_)
    · rw [if_pos hc148] at hfin
      exact B_168 u H locs ls (lv_sub hl [0, 1, 2, 3] rfl) hI hfin
    rw [if_neg hc148] at hfin
    refine lv_iload_n hx hb dM_obey_151 rfl (lv_at hl 1 rfl) ?_
    refine lv_sipush (v := (192 : Int32)) hx hb dM_obey_152 (by decide) ?_
    refine lv_icmp_ge (tgt := 168) hx hb dM_obey_155 (by decide) (fun hc155 => ?_) (fun hc155 => ?_)
    · rw [if_pos hc155] at hfin
      exact B_168 u H locs ls (lv_sub hl [0, 1, 2, 3] rfl) hI hfin
    rw [if_neg hc155] at hfin
    exact B_158 u H locs ls (lv_sub hl [0, 1, 2, 3] rfl) hI hfin
  have B_130 : ∀ (u : MS) (H : Heap) (locs : List Loc) (ls : Array Slot), lv_has ls 5 [(0, .ref o), (1, .int a0), (2, .int a1), (3, .int a2)] → gI D (MW cA cB o q q1 q2) (MA o q q1 q2) s0.heap H locs u → m_obey_130 a0 a1 a2 u = some z → W p l e (rmF 6 172) s0 m args below meth c H locs 0 0 (MQ below (va_Qv (fun x => x = z) (gB D [(cA, .long), (cB, .int)] (MW cA cB o q q1 q2)) (MA o q q1 q2)) args s0 0 0 (MA o q q1 q2)) (F0 m 130 ls []) := by
    intro u H locs ls hl hI hfin
    rw [m_obey_130] at hfin
    refine lv_iload_n hx hb dM_obey_130 rfl (lv_at hl 1 rfl) ?_
    refine lv_sipush (v := (151 : Int32)) hx hb dM_obey_131 (by decide) ?_
    refine lv_icmp_le (tgt := 144) hx hb dM_obey_134 (by decide) (fun hc134 => ?_) (fun hc134 => ?_)
    · rw [if_pos hc134] at hfin
      exact B_144 u H locs ls (lv_sub hl [0, 1, 2, 3] rfl) hI hfin
    rw [if_neg hc134] at hfin
    refine lv_iload_n hx hb dM_obey_137 rfl (lv_at hl 1 rfl) ?_
    refine lv_sipush (v := (156 : Int32)) hx hb dM_obey_138 (by decide) ?_
    refine lv_icmp_lt (tgt := 158) hx hb dM_obey_141 (by decide) (fun hc141 => ?_) (fun hc141 => ?_)
    · rw [if_pos hc141] at hfin
      exact B_158 u H locs ls (lv_sub hl [0, 1, 2, 3] rfl) hI hfin
    rw [if_neg hc141] at hfin
    exact B_144 u H locs ls (lv_sub hl [0, 1, 2, 3] rfl) hI hfin
  have B_116 : ∀ (u : MS) (H : Heap) (locs : List Loc) (ls : Array Slot), lv_has ls 5 [(0, .ref o), (1, .int a0), (2, .int a1), (3, .int a2)] → gI D (MW cA cB o q q1 q2) (MA o q q1 q2) s0.heap H locs u → m_obey_116 a0 a1 a2 u = some z → W p l e (rmF 6 172) s0 m args below meth c H locs 0 0 (MQ below (va_Qv (fun x => x = z) (gB D [(cA, .long), (cB, .int)] (MW cA cB o q q1 q2)) (MA o q q1 q2)) args s0 0 0 (MA o q q1 q2)) (F0 m 116 ls []) := by
    intro u H locs ls hl hI hfin
    rw [m_obey_116] at hfin
    refine lv_iload_n hx hb dM_obey_116 rfl (lv_at hl 1 rfl) ?_
    refine lv_sipush (v := (143 : Int32)) hx hb dM_obey_117 (by decide) ?_
    refine lv_icmp_le (tgt := 130) hx hb dM_obey_120 (by decide) (fun hc120 => ?_) (fun hc120 => ?_)
    · rw [if_pos hc120] at hfin
      exact B_130 u H locs ls (lv_sub hl [0, 1, 2, 3] rfl) hI hfin
    rw [if_neg hc120] at hfin
    refine lv_iload_n hx hb dM_obey_123 rfl (lv_at hl 1 rfl) ?_
    refine lv_sipush (v := (148 : Int32)) hx hb dM_obey_124 (by decide) ?_
    refine lv_icmp_lt (tgt := 158) hx hb dM_obey_127 (by decide) (fun hc127 => ?_) (fun hc127 => ?_)
    · rw [if_pos hc127] at hfin
      exact B_158 u H locs ls (lv_sub hl [0, 1, 2, 3] rfl) hI hfin
    rw [if_neg hc127] at hfin
    exact B_130 u H locs ls (lv_sub hl [0, 1, 2, 3] rfl) hI hfin
  have B_93 : ∀ (u : MS) (H : Heap) (locs : List Loc) (ls : Array Slot), lv_has ls 5 [(0, .ref o), (1, .int a0), (2, .int a1), (3, .int a2)] → gI D (MW cA cB o q q1 q2) (MA o q q1 q2) s0.heap H locs u → m_obey_93 a0 a1 a2 u = some z → W p l e (rmF 6 172) s0 m args below meth c H locs 0 0 (MQ below (va_Qv (fun x => x = z) (gB D [(cA, .long), (cB, .int)] (MW cA cB o q q1 q2)) (MA o q q1 q2)) args s0 0 0 (MA o q q1 q2)) (F0 m 93 ls []) := by
    intro u H locs ls hl hI hfin
    rw [m_obey_93] at hfin
    refine lv_iload_n hx hb dM_obey_93 rfl (lv_at hl 1 rfl) ?_
    refine lv_bipush (v := (127 : Int32)) hx hb dM_obey_94 (by decide) ?_
    refine lv_icmp_le (tgt := 116) hx hb dM_obey_96 (by decide) (fun hc96 => ?_) (fun hc96 => ?_)
    · rw [if_pos hc96] at hfin
      exact B_116 u H locs ls (lv_sub hl [0, 1, 2, 3] rfl) hI hfin
    rw [if_neg hc96] at hfin
    refine lv_iload_n hx hb dM_obey_99 rfl (lv_at hl 1 rfl) ?_
    refine lv_sipush (v := (144 : Int32)) hx hb dM_obey_100 (by decide) ?_
    refine lv_icmp_ge (tgt := 116) hx hb dM_obey_103 (by decide) (fun hc103 => ?_) (fun hc103 => ?_)
    · rw [if_pos hc103] at hfin
      exact B_116 u H locs ls (lv_sub hl [0, 1, 2, 3] rfl) hI hfin
    rw [if_neg hc103] at hfin
    refine lv_aload_n hx hb dM_obey_106 rfl (lv_at hl 0 rfl) ?_
    refine lv_iload_n hx hb dM_obey_107 rfl (lv_at hl 1 rfl) ?_
    refine lv_iload_n hx hb dM_obey_108 rfl (lv_at hl 2 rfl) ?_
    refine lv_iload_n hx hb dM_obey_109 rfl (lv_at hl 3 rfl) ?_
    obtain ⟨z110, hz110, hfin⟩ := bd_ob hfin
    refine g_callMv [.int a0, .int a1, .int a2] [] X hK m_rcv hI (ctm_move l D cA cB o q q1 q2 hne u a0 a1 a2 z110 hz110) (cwM_M_move X.2.2.2.2 ⟨Nat.le_of_ble_eq_true rfl, Nat.le_of_ble_eq_true rfl⟩) rfl hl.1 rfl (Nat.le_of_ble_eq_true rfl) dM_obey_110 (fun H locs hI => ?_)
    refine lv_goto (tgt := 197) hx hb dM_obey_113 (by decide) ?_
    exact g_vret X hr hlk hK hI hfin dM_obey_197
  rw [m_obey] at hfin
  refine lv_iload_n hx hb dM_obey_0 rfl (lv_at hl 1 rfl) ?_
  refine lv_bipush (v := (64 : Int32)) hx hb dM_obey_1 (by decide) ?_
  refine lv_idiv hx hb dM_obey_3 (by decide) ?_
  refine lv_topi (fun x4 e4 => ?_)
  replace hfin := nm_at hfin e4
  refine lv_istore (lv' := [(4, .int x4), (0, .ref o), (1, .int a0), (2, .int a1), (3, .int a2)]) hx hb dM_obey_4 hl (by decide) rfl (fun ls hl => ?_)
  refine lv_iload hx hb dM_obey_6 (lv_at hl 0 rfl) ?_
  refine lv_iconst (v := (3 : Int32)) hx hb dM_obey_8 (by decide) ?_
  refine lv_icmp_ne (tgt := 22) hx hb dM_obey_9 (by decide) (fun hc9 => ?_) (fun hc9 => ?_)
  · rw [if_neg hc9] at hfin
    refine lv_iload hx hb dM_obey_22 (lv_at hl 0 rfl) ?_
    refine lv_iconst (v := (4 : Int32)) hx hb dM_obey_24 (by decide) ?_
    refine lv_icmp_ne (tgt := 38) hx hb dM_obey_25 (by decide) (fun hc25 => ?_) (fun hc25 => ?_)
    · rw [if_neg hc25] at hfin
      refine lv_iload hx hb dM_obey_38 (lv_at hl 0 rfl) ?_
      refine lv_iconst (v := (5 : Int32)) hx hb dM_obey_40 (by decide) ?_
      refine lv_icmp_ne (tgt := 54) hx hb dM_obey_41 (by decide) (fun hc41 => ?_) (fun hc41 => ?_)
      · rw [if_neg hc41] at hfin
        refine lv_iload hx hb dM_obey_54 (lv_at hl 0 rfl) ?_
        refine lv_bipush (v := (6 : Int32)) hx hb dM_obey_56 (by decide) ?_
        refine lv_icmp_ne (tgt := 71) hx hb dM_obey_58 (by decide) (fun hc58 => ?_) (fun hc58 => ?_)
        · rw [if_neg hc58] at hfin
          refine lv_iload_n hx hb dM_obey_71 rfl (lv_at hl 2 rfl) ?_
          refine lv_bipush (v := (90 : Int32)) hx hb dM_obey_72 (by decide) ?_
          refine lv_icmp_le (tgt := 93) hx hb dM_obey_74 (by decide) (fun hc74 => ?_) (fun hc74 => ?_)
          · rw [if_pos hc74] at hfin
            exact B_93 u s0.heap [] ls (lv_sub hl [1, 2, 3, 4] rfl) hI hfin
          rw [if_neg hc74] at hfin
          refine lv_iload_n hx hb dM_obey_77 rfl (lv_at hl 2 rfl) ?_
          refine lv_bipush (v := (96 : Int32)) hx hb dM_obey_78 (by decide) ?_
          refine lv_icmp_ge (tgt := 93) hx hb dM_obey_80 (by decide) (fun hc80 => ?_) (fun hc80 => ?_)
          · rw [if_pos hc80] at hfin
            exact B_93 u s0.heap [] ls (lv_sub hl [1, 2, 3, 4] rfl) hI hfin
          rw [if_neg hc80] at hfin
          refine lv_aload_n hx hb dM_obey_83 rfl (lv_at hl 1 rfl) ?_
          refine lv_iload_n hx hb dM_obey_84 rfl (lv_at hl 2 rfl) ?_
          refine lv_iload_n hx hb dM_obey_85 rfl (lv_at hl 3 rfl) ?_
          refine lv_iload_n hx hb dM_obey_86 rfl (lv_at hl 4 rfl) ?_
          obtain ⟨z87, hz87, hfin⟩ := bd_ob hfin
          refine g_callMv [.int a0, .int a1, .int a2] [] X hK m_rcv hI (ctm_bytes l D cA cB o q q1 q2 hne u a0 a1 a2 z87 hz87) (cwM_M_bytes X.2.2.2.2 ⟨Nat.le_of_ble_eq_true rfl, Nat.le_of_ble_eq_true rfl⟩) rfl hl.1 rfl (Nat.le_of_ble_eq_true rfl) dM_obey_87 (fun H locs hI => ?_)
          refine lv_goto (tgt := 197) hx hb dM_obey_90 (by decide) ?_
          exact g_vret X hr hlk hK hI hfin dM_obey_197
        rw [if_pos hc58] at hfin
        refine lv_aload_n hx hb dM_obey_61 rfl (lv_at hl 1 rfl) ?_
        refine lv_iload_n hx hb dM_obey_62 rfl (lv_at hl 2 rfl) ?_
        refine lv_iload_n hx hb dM_obey_63 rfl (lv_at hl 3 rfl) ?_
        refine lv_iload_n hx hb dM_obey_64 rfl (lv_at hl 4 rfl) ?_
        obtain ⟨z65, hz65, hfin⟩ := bd_ob hfin
        refine g_callMv [.int a0, .int a1, .int a2] [] X hK m_rcv hI (ctm_test l D cA cB o q q1 q2 hne u a0 a1 a2 z65 hz65) (cwM_M_test X.2.2.2.2 ⟨Nat.le_of_ble_eq_true rfl, Nat.le_of_ble_eq_true rfl⟩) rfl hl.1 rfl (Nat.le_of_ble_eq_true rfl) dM_obey_65 (fun H locs hI => ?_)
        refine lv_goto (tgt := 197) hx hb dM_obey_68 (by decide) ?_
        exact g_vret X hr hlk hK hI hfin dM_obey_197
      rw [if_pos hc41] at hfin
      refine lv_aload_n hx hb dM_obey_44 rfl (lv_at hl 1 rfl) ?_
      refine lv_iload_n hx hb dM_obey_45 rfl (lv_at hl 2 rfl) ?_
      refine lv_iload_n hx hb dM_obey_46 rfl (lv_at hl 3 rfl) ?_
      refine lv_iload_n hx hb dM_obey_47 rfl (lv_at hl 4 rfl) ?_
      obtain ⟨z48, hz48, hfin⟩ := bd_ob hfin
      refine g_callMv [.int a0, .int a1, .int a2] [] X hK m_rcv hI (ctm_halves l D cA cB o q q1 q2 hne u a0 a1 a2 z48 hz48) (cwM_M_halves X.2.2.2.2 ⟨Nat.le_of_ble_eq_true rfl, Nat.le_of_ble_eq_true rfl⟩) rfl hl.1 rfl (Nat.le_of_ble_eq_true rfl) dM_obey_48 (fun H locs hI => ?_)
      refine lv_goto (tgt := 197) hx hb dM_obey_51 (by decide) ?_
      exact g_vret X hr hlk hK hI hfin dM_obey_197
    rw [if_pos hc25] at hfin
    refine lv_aload_n hx hb dM_obey_28 rfl (lv_at hl 1 rfl) ?_
    refine lv_iload_n hx hb dM_obey_29 rfl (lv_at hl 2 rfl) ?_
    refine lv_iload_n hx hb dM_obey_30 rfl (lv_at hl 3 rfl) ?_
    refine lv_iload_n hx hb dM_obey_31 rfl (lv_at hl 4 rfl) ?_
    obtain ⟨z32, hz32, hfin⟩ := bd_ob hfin
    refine g_callMv [.int a0, .int a1, .int a2] [] X hK m_rcv hI (ctm_logic l D cA cB o q q1 q2 hne u a0 a1 a2 z32 hz32) (cwM_M_logic X.2.2.2.2 ⟨Nat.le_of_ble_eq_true rfl, Nat.le_of_ble_eq_true rfl⟩) rfl hl.1 rfl (Nat.le_of_ble_eq_true rfl) dM_obey_32 (fun H locs hI => ?_)
    refine lv_goto (tgt := 197) hx hb dM_obey_35 (by decide) ?_
    exact g_vret X hr hlk hK hI hfin dM_obey_197
  rw [if_pos hc9] at hfin
  refine lv_aload_n hx hb dM_obey_12 rfl (lv_at hl 1 rfl) ?_
  refine lv_iload_n hx hb dM_obey_13 rfl (lv_at hl 2 rfl) ?_
  refine lv_iload_n hx hb dM_obey_14 rfl (lv_at hl 3 rfl) ?_
  refine lv_iload_n hx hb dM_obey_15 rfl (lv_at hl 4 rfl) ?_
  obtain ⟨z16, hz16, hfin⟩ := bd_ob hfin
  refine g_callMv [.int a0, .int a1, .int a2] [] X hK m_rcv hI (ctm_compare l D cA cB o q q1 q2 hne u a0 a1 a2 z16 hz16) (cwM_M_compare X.2.2.2.2 ⟨Nat.le_of_ble_eq_true rfl, Nat.le_of_ble_eq_true rfl⟩) rfl hl.1 rfl (Nat.le_of_ble_eq_true rfl) dM_obey_16 (fun H locs hI => ?_)
  refine lv_goto (tgt := 197) hx hb dM_obey_19 (by decide) ?_
  exact g_vret X hr hlk hK hI hfin dM_obey_197
set_option maxHeartbeats 4000000 in
set_option maxRecDepth 100000 in
theorem ctm_makeStep (l : Launch) (D : va_G) (cA cB : ClassId) (o q q1 q2 : Nat) (hne : va_nd [o, q, q1, q2] = true) (u : MS)  (z : MS) (hfin : m_makeStep u = some z) : gMv l yM_makeStep wM_makeStep (rmF 7 196) D [(cA, .long), (cB, .int)] (MW cA cB o q q1 q2) (MA o q q1 q2) [.ref o] u z := by
  refine g_start (plainFor_of_name (by decide)) (Nat.le_of_ble_eq_true rfl) ?_
  intro p e s0 m args below meth c ls X hr hlk hB hl
  obtain ⟨hP0, hK⟩ := hB
  have hI : gI D (MW cA cB o q q1 q2) (MA o q q1 q2) s0.heap s0.heap [] u := ⟨hP0, va_S.rf⟩
  have hl : lv_has ls 5 [(0, .ref o)] := hl
  have hx := X.1
  have hb := X.2.1
  have B_157 : ∀ (u : MS) (v1 : Int32) (t1 : Int32) (t2 : Int32) (t3 : Int32) (H : Heap) (locs : List Loc) (ls : Array Slot), lv_has ls 5 [(0, .ref o), (1, .int v1)] → gI D (MW cA cB o q q1 q2) (MA o q q1 q2) s0.heap H locs u → m_makeStep_157 u v1 t1 t2 t3 = some z → W p l e (rmF 7 196) s0 m args below meth c H locs 0 0 (MQ below (va_Qv (fun x => x = z) (gB D [(cA, .long), (cB, .int)] (MW cA cB o q q1 q2)) (MA o q q1 q2)) args s0 0 0 (MA o q q1 q2)) (F0 m 157 ls [.int t3, .int t2, .int t1, .ref q]) := by
    intro u v1 t1 t2 t3 H locs ls hl hI hfin
    rw [m_makeStep_157] at hfin
    refine lv_iadd hx hb dM_makeStep_157 ?_
    refine lv_aload_n hx hb dM_makeStep_158 rfl (lv_at hl 0 rfl) ?_
    refine mg_wrong X hK hI.1 dM_makeStep_159 ?_
    refine lv_iadd hx hb dM_makeStep_162 ?_
    refine lv_iload_n hx hb dM_makeStep_163 rfl (lv_at hl 1 rfl) ?_
    refine g_callPl [.int ((t2 + t3) + (M_wrong u)), .int v1] [.int t1, .ref q] X (ctm_joined l ((t2 + t3) + (M_wrong u)) v1) (cwM_M_joined X.2.2.2.2 ⟨Nat.le_of_ble_eq_true rfl, Nat.le_of_ble_eq_true rfl⟩) rfl hl.1 rfl (Nat.le_of_ble_eq_true rfl) dM_makeStep_164 ?_
    obtain ⟨hd167, hfin⟩ := ck_if hfin
    refine ms_store X hK (m_D hne) hI hd167 dM_makeStep_167 (fun H locs hI => ?_)
    refine lv_aload_n hx hb dM_makeStep_168 rfl (lv_at hl 0 rfl) ?_
    refine lv_iconst (v := (0 : Int32)) hx hb dM_makeStep_169 (by decide) ?_
    refine mp_user X hK (m_D hne) hI (Or.inl rfl) dM_makeStep_170 (fun H locs hI => ?_)
    refine lv_aload_n hx hb dM_makeStep_173 rfl (lv_at hl 0 rfl) ?_
    refine lv_bipush (v := (33 : Int32)) hx hb dM_makeStep_174 (by decide) ?_
    refine mp_pc X hK (m_D hne) hI dM_makeStep_176 (fun H locs hI => ?_)
    refine lv_aload_n hx hb dM_makeStep_179 rfl (lv_at hl 0 rfl) ?_
    refine lv_dup hx hb dM_makeStep_180 rfl ?_
    refine mg_traps X hK hI.1 dM_makeStep_181 ?_
    refine lv_iconst (v := (1 : Int32)) hx hb dM_makeStep_184 (by decide) ?_
    refine lv_iadd hx hb dM_makeStep_185 ?_
    refine mp_traps X hK (m_D hne) hI dM_makeStep_186 (fun H locs hI => ?_)
    refine lv_aload_n hx hb dM_makeStep_189 rfl (lv_at hl 0 rfl) ?_
    refine lv_aload_n hx hb dM_makeStep_190 rfl (lv_at hl 0 rfl) ?_
    refine mg_wrong X hK hI.1 dM_makeStep_191 ?_
    refine mp_latest X hK (m_D hne) hI dM_makeStep_194 (fun H locs hI => ?_)
    exact g_vret X hr hlk hK hI hfin dM_makeStep_197
  have B_143 : ∀ (u : MS) (v1 : Int32) (t1 : Int32) (t2 : Int32) (H : Heap) (locs : List Loc) (ls : Array Slot), lv_has ls 5 [(0, .ref o), (1, .int v1)] → gI D (MW cA cB o q q1 q2) (MA o q q1 q2) s0.heap H locs u → m_makeStep_143 u v1 t1 t2 = some z → W p l e (rmF 7 196) s0 m args below meth c H locs 0 0 (MQ below (va_Qv (fun x => x = z) (gB D [(cA, .long), (cB, .int)] (MW cA cB o q q1 q2)) (MA o q q1 q2)) args s0 0 0 (MA o q q1 q2)) (F0 m 143 ls [.int t2, .int t1, .ref q]) := by
    intro u v1 t1 t2 H locs ls hl hI hfin
    rw [m_makeStep_143] at hfin
    refine lv_aload_n hx hb dM_makeStep_143 rfl (lv_at hl 0 rfl) ?_
    refine mg_user X hK hI.1 dM_makeStep_144 ?_
    refine lv_if_eq (tgt := 156) hx hb dM_makeStep_147 (by decide) (fun hc147 => ?_) (fun hc147 => ?_)
    · rw [if_pos hc147] at hfin
      refine lv_iconst (v := (0 : Int32)) hx hb dM_makeStep_156 (by decide) ?_
      exact B_157 u v1 t1 t2 (0 : Int32) H locs ls (lv_sub hl [0, 1] rfl) hI hfin
    rw [if_neg hc147] at hfin
    refine lv_sipush (v := (4096 : Int32)) hx hb dM_makeStep_150 (by decide) ?_
    refine lv_goto (tgt := 157) hx hb dM_makeStep_153 (by decide) ?_
    exact B_157 u v1 t1 t2 (4096 : Int32) H locs ls (lv_sub hl [0, 1] rfl) hI hfin
  have B_117 : ∀ (u : MS) (v1 : Int32) (H : Heap) (locs : List Loc) (ls : Array Slot), lv_has ls 5 [(0, .ref o), (1, .int v1)] → gI D (MW cA cB o q q1 q2) (MA o q q1 q2) s0.heap H locs u → m_makeStep_117 u v1 = some z → W p l e (rmF 7 196) s0 m args below meth c H locs 0 0 (MQ below (va_Qv (fun x => x = z) (gB D [(cA, .long), (cB, .int)] (MW cA cB o q q1 q2)) (MA o q q1 q2)) args s0 0 0 (MA o q q1 q2)) (F0 m 117 ls []) := by
    intro u v1 H locs ls hl hI hfin
    rw [m_makeStep_117] at hfin
    refine lv_aload_n hx hb dM_makeStep_117 rfl (lv_at hl 0 rfl) ?_
    refine mg_wrong X hK hI.1 dM_makeStep_118 ?_
    refine lv_if_le (tgt := 197) hx hb dM_makeStep_121 (by decide) (fun hc121 => ?_) (fun hc121 => ?_)
    · rw [if_pos hc121] at hfin
      exact g_vret X hr hlk hK hI hfin dM_makeStep_197
    rw [if_neg hc121] at hfin
    refine lv_aload_n hx hb dM_makeStep_124 rfl (lv_at hl 0 rfl) ?_
    refine mg_store X hK hI.1 dM_makeStep_125 ?_
    refine lv_bipush (v := (32 : Int32)) hx hb dM_makeStep_128 (by decide) ?_
    refine lv_aload_n hx hb dM_makeStep_130 rfl (lv_at hl 0 rfl) ?_
    refine mg_overflow X hK hI.1 dM_makeStep_131 ?_
    refine lv_if_eq (tgt := 142) hx hb dM_makeStep_134 (by decide) (fun hc134 => ?_) (fun hc134 => ?_)
    · rw [if_pos hc134] at hfin
      refine lv_iconst (v := (0 : Int32)) hx hb dM_makeStep_142 (by decide) ?_
      exact B_143 u v1 (32 : Int32) (0 : Int32) H locs ls (lv_sub hl [0, 1] rfl) hI hfin
    rw [if_neg hc134] at hfin
    refine lv_ldc hx hb X.2.2.2.1 (X.2.2.2.2 _ hkM_35) dM_makeStep_137 ?_
    refine lv_goto (tgt := 143) hx hb dM_makeStep_139 (by decide) ?_
    exact B_143 u v1 (32 : Int32) (131072 : Int32) H locs ls (lv_sub hl [0, 1] rfl) hI hfin
  have B_90 : ∀ (u : MS) (v1 : Int32) (v2 : Int64) (v4 : Int32) (H : Heap) (locs : List Loc) (ls : Array Slot), lv_has ls 5 [(0, .ref o), (1, .int v1), (2, .long v2), (4, .int v4)] → gI D (MW cA cB o q q1 q2) (MA o q q1 q2) s0.heap H locs u → m_makeStep_90 u v1 v2 v4 = some z → W p l e (rmF 7 196) s0 m args below meth c H locs 0 0 (MQ below (va_Qv (fun x => x = z) (gB D [(cA, .long), (cB, .int)] (MW cA cB o q q1 q2)) (MA o q q1 q2)) args s0 0 0 (MA o q q1 q2)) (F0 m 90 ls []) := by
    intro u v1 v2 v4 H locs ls hl hI hfin
    rw [m_makeStep_90] at hfin
    refine lv_aload_n hx hb dM_makeStep_90 rfl (lv_at hl 0 rfl) ?_
    refine mg_wrong X hK hI.1 dM_makeStep_91 ?_
    refine lv_if_ne (tgt := 117) hx hb dM_makeStep_94 (by decide) (fun hc94 => ?_) (fun hc94 => ?_)
    · rw [if_neg hc94] at hfin
      exact B_117 u v1 H locs ls (lv_sub hl [0, 1] rfl) hI hfin
    rw [if_pos hc94] at hfin
    refine lv_aload_n hx hb dM_makeStep_97 rfl (lv_at hl 0 rfl) ?_
    refine lv_lload_n hx hb dM_makeStep_98 rfl (lv_at hl 2 rfl) ?_
    refine lv_bipush (v := (27 : Int32)) hx hb dM_makeStep_99 (by decide) ?_
    refine lv_lshr hx hb dM_makeStep_101 rfl ?_
    refine lv_l2i hx hb dM_makeStep_102 rfl ?_
    refine lv_lload_n hx hb dM_makeStep_103 rfl (lv_at hl 2 rfl) ?_
    refine lv_bipush (v := (23 : Int32)) hx hb dM_makeStep_104 (by decide) ?_
    refine lv_lshr hx hb dM_makeStep_106 rfl ?_
    refine lv_ldc2 hx hb X.2.2.2.1 (X.2.2.2.2 _ hkM_56) dM_makeStep_107 ?_
    refine lv_land hx hb dM_makeStep_110 ?_
    refine lv_l2i hx hb dM_makeStep_111 rfl ?_
    refine lv_iload hx hb dM_makeStep_112 (lv_at hl 3 rfl) ?_
    obtain ⟨z114, hz114, hfin⟩ := bd_ob hfin
    refine g_callMv [.int ((v2 >>> ((27 : Int32).toInt64 &&& 63)).toInt32), .int (((v2 >>> ((23 : Int32).toInt64 &&& 63)) &&& (15 : Int64)).toInt32), .int v4] [] X hK m_rcv hI (ctm_obey l D cA cB o q q1 q2 hne u ((v2 >>> ((27 : Int32).toInt64 &&& 63)).toInt32) (((v2 >>> ((23 : Int32).toInt64 &&& 63)) &&& (15 : Int64)).toInt32) v4 z114 hz114) (cwM_M_obey X.2.2.2.2 ⟨Nat.le_of_ble_eq_true rfl, Nat.le_of_ble_eq_true rfl⟩) rfl hl.1 rfl (Nat.le_of_ble_eq_true rfl) dM_makeStep_114 (fun H locs hI => ?_)
    exact B_117 z114 v1 H locs ls (lv_sub hl [0, 1] rfl) hI hfin
  have B_51 : ∀ (k : Nat) (u : MS) (v1 : Int32) (v2 : Int64) (v4 : Int32) (H : Heap) (locs : List Loc) (ls : Array Slot), lv_has ls 5 [(0, .ref o), (1, .int v1), (2, .long v2), (4, .int v4)] → gI D (MW cA cB o q q1 q2) (MA o q q1 q2) s0.heap H locs u → m_makeStep_51 k u v1 v2 v4 = some z → W p l e (rmF 7 196) s0 m args below meth c H locs 0 0 (MQ below (va_Qv (fun x => x = z) (gB D [(cA, .long), (cB, .int)] (MW cA cB o q q1 q2)) (MA o q q1 q2)) args s0 0 0 (MA o q q1 q2)) (F0 m 51 ls []) := by
    intro k
    induction k with
    | zero =>
      intro u v1 v2 v4 H locs ls hl hI hfin
      rw [m_makeStep_51] at hfin
      cases hfin
    | succ k IH =>
      intro u v1 v2 v4 H locs ls hl hI hfin
      rw [m_makeStep_51] at hfin
      refine lv_aload_n hx hb dM_makeStep_51 rfl (lv_at hl 0 rfl) ?_
      refine mg_wrong X hK hI.1 dM_makeStep_52 ?_
      refine lv_if_ne (tgt := 90) hx hb dM_makeStep_55 (by decide) (fun hc55 => ?_) (fun hc55 => ?_)
      · rw [if_neg hc55] at hfin
        exact B_90 u v1 v2 v4 H locs ls (lv_sub hl [0, 1, 2, 3] rfl) hI hfin
      rw [if_pos hc55] at hfin
      refine lv_lload_n hx hb dM_makeStep_58 rfl (lv_at hl 2 rfl) ?_
      refine lv_bipush (v := (27 : Int32)) hx hb dM_makeStep_59 (by decide) ?_
      refine lv_lshr hx hb dM_makeStep_61 rfl ?_
      refine lv_ldc2 hx hb X.2.2.2.1 (X.2.2.2.2 _ hkM_87) dM_makeStep_62 ?_
      refine W.lcmp hx hb dM_makeStep_65 ?_
      refine lv_if_ne (tgt := 90) hx hb dM_makeStep_66 (by decide) (fun hc66 => ?_) (fun hc66 => ?_)
      · rw [if_neg hc66] at hfin
        exact B_90 u v1 v2 v4 H locs ls (lv_sub hl [0, 1, 2, 3] rfl) hI hfin
      rw [if_pos hc66] at hfin
      refine lv_aload_n hx hb dM_makeStep_69 rfl (lv_at hl 0 rfl) ?_
      obtain ⟨z70, hz70, hfin⟩ := bd_ob hfin
      refine g_callMv [] [] X hK m_rcv hI (ctm_count l D cA cB o q q1 q2 hne u z70 hz70) (cwM_M_count X.2.2.2.2 ⟨Nat.le_of_ble_eq_true rfl, Nat.le_of_ble_eq_true rfl⟩) rfl hl.1 rfl (Nat.le_of_ble_eq_true rfl) dM_makeStep_70 (fun H locs hI => ?_)
      refine lv_aload_n hx hb dM_makeStep_73 rfl (lv_at hl 0 rfl) ?_
      refine lv_iload hx hb dM_makeStep_74 (lv_at hl 3 rfl) ?_
      obtain ⟨z76, hz76, hfin⟩ := bd_ob hfin
      refine g_callMl [.int v4] [] X hK m_rcv hI (ctm_get l D cA cB o q q1 q2 hne z70 v4 z76 hz76) (cwM_M_get X.2.2.2.2 ⟨Nat.le_of_ble_eq_true rfl, Nat.le_of_ble_eq_true rfl⟩) rfl hl.1 rfl (Nat.le_of_ble_eq_true rfl) dM_makeStep_76 (fun H locs hI => ?_)
      refine lv_lstore_n (lv' := [(2, .long z76.1), (0, .ref o), (1, .int v1), (4, .int v4)]) hx hb dM_makeStep_79 rfl hl (by decide) rfl (fun ls hl => ?_)
      refine lv_aload_n hx hb dM_makeStep_80 rfl (lv_at hl 1 rfl) ?_
      refine lv_lload_n hx hb dM_makeStep_81 rfl (lv_at hl 0 rfl) ?_
      obtain ⟨z82, hz82, hfin⟩ := bd_ob hfin
      refine g_callMi [.long z76.1] [] X hK m_rcv hI (ctm_effective l D cA cB o q q1 q2 hne z76.2 z76.1 z82 hz82) (cwM_M_effective X.2.2.2.2 ⟨Nat.le_of_ble_eq_true rfl, Nat.le_of_ble_eq_true rfl⟩) rfl hl.1 rfl (Nat.le_of_ble_eq_true rfl) dM_makeStep_82 (fun H locs hI => ?_)
      refine lv_istore (lv' := [(4, .int z82.1), (2, .long z76.1), (0, .ref o), (1, .int v1)]) hx hb dM_makeStep_85 hl (by decide) rfl (fun ls hl => ?_)
      refine lv_goto (tgt := 51) hx hb dM_makeStep_87 (by decide) ?_
      exact IH z82.2 v1 z76.1 z82.1 H locs ls (lv_sub hl [2, 3, 1, 0] rfl) hI hfin
  rw [m_makeStep] at hfin
  refine lv_aload_n hx hb dM_makeStep_0 rfl (lv_at hl 0 rfl) ?_
  refine mg_pc X hK hI.1 dM_makeStep_1 ?_
  refine lv_topi (fun x4 e4 => ?_)
  replace hfin := nm_at hfin e4
  refine lv_istore_n (lv' := [(1, .int x4), (0, .ref o)]) hx hb dM_makeStep_4 rfl hl (by decide) rfl (fun ls hl => ?_)
  refine lv_aload_n hx hb dM_makeStep_5 rfl (lv_at hl 1 rfl) ?_
  refine lv_iconst (v := (0 : Int32)) hx hb dM_makeStep_6 (by decide) ?_
  refine mp_wrong X hK (m_D hne) hI dM_makeStep_7 (fun H locs hI => ?_)
  refine lv_aload_n hx hb dM_makeStep_10 rfl (lv_at hl 1 rfl) ?_
  refine lv_iconst (v := (0 : Int32)) hx hb dM_makeStep_11 (by decide) ?_
  refine mp_taken X hK (m_D hne) hI dM_makeStep_12 (fun H locs hI => ?_)
  refine lv_aload_n hx hb dM_makeStep_15 rfl (lv_at hl 1 rfl) ?_
  refine lv_dup hx hb dM_makeStep_16 rfl ?_
  refine mg_steps X hK hI.1 dM_makeStep_17 ?_
  refine lv_iconst (v := (1 : Int32)) hx hb dM_makeStep_20 (by decide) ?_
  refine lv_iadd hx hb dM_makeStep_21 ?_
  refine mp_steps X hK (m_D hne) hI dM_makeStep_22 (fun H locs hI => ?_)
  refine lv_aload_n hx hb dM_makeStep_25 rfl (lv_at hl 1 rfl) ?_
  refine lv_aload_n hx hb dM_makeStep_26 rfl (lv_at hl 1 rfl) ?_
  refine mg_pc X hK hI.1 dM_makeStep_27 ?_
  obtain ⟨z30, hz30, hfin⟩ := bd_ob hfin
  refine g_callMl [.int (M_pc (M_s_steps (M_s_taken (M_s_wrong u (0 : Int32)) (0 : Int32)) ((M_steps (M_s_taken (M_s_wrong u (0 : Int32)) (0 : Int32))) + (1 : Int32))))] [] X hK m_rcv hI (ctm_get l D cA cB o q q1 q2 hne (M_s_steps (M_s_taken (M_s_wrong u (0 : Int32)) (0 : Int32)) ((M_steps (M_s_taken (M_s_wrong u (0 : Int32)) (0 : Int32))) + (1 : Int32))) (M_pc (M_s_steps (M_s_taken (M_s_wrong u (0 : Int32)) (0 : Int32)) ((M_steps (M_s_taken (M_s_wrong u (0 : Int32)) (0 : Int32))) + (1 : Int32)))) z30 hz30) (cwM_M_get X.2.2.2.2 ⟨Nat.le_of_ble_eq_true rfl, Nat.le_of_ble_eq_true rfl⟩) rfl hl.1 rfl (Nat.le_of_ble_eq_true rfl) dM_makeStep_30 (fun H locs hI => ?_)
  refine lv_lstore_n (lv' := [(2, .long z30.1), (1, .int x4), (0, .ref o)]) hx hb dM_makeStep_33 rfl hl (by decide) rfl (fun ls hl => ?_)
  refine lv_aload_n hx hb dM_makeStep_34 rfl (lv_at hl 2 rfl) ?_
  refine lv_aload_n hx hb dM_makeStep_35 rfl (lv_at hl 2 rfl) ?_
  refine mg_pc X hK hI.1 dM_makeStep_36 ?_
  refine lv_iconst (v := (1 : Int32)) hx hb dM_makeStep_39 (by decide) ?_
  refine lv_iadd hx hb dM_makeStep_40 ?_
  obtain ⟨z41, hz41, hfin⟩ := bd_ob hfin
  refine g_callMv [.int ((M_pc z30.2) + (1 : Int32))] [] X hK m_rcv hI (ctm_go l D cA cB o q q1 q2 hne z30.2 ((M_pc z30.2) + (1 : Int32)) z41 hz41) (cwM_M_go X.2.2.2.2 ⟨Nat.le_of_ble_eq_true rfl, Nat.le_of_ble_eq_true rfl⟩) rfl hl.1 rfl (Nat.le_of_ble_eq_true rfl) dM_makeStep_41 (fun H locs hI => ?_)
  refine lv_aload_n hx hb dM_makeStep_44 rfl (lv_at hl 2 rfl) ?_
  refine lv_lload_n hx hb dM_makeStep_45 rfl (lv_at hl 0 rfl) ?_
  obtain ⟨z46, hz46, hfin⟩ := bd_ob hfin
  refine g_callMi [.long z30.1] [] X hK m_rcv hI (ctm_effective l D cA cB o q q1 q2 hne z41 z30.1 z46 hz46) (cwM_M_effective X.2.2.2.2 ⟨Nat.le_of_ble_eq_true rfl, Nat.le_of_ble_eq_true rfl⟩) rfl hl.1 rfl (Nat.le_of_ble_eq_true rfl) dM_makeStep_46 (fun H locs hI => ?_)
  refine lv_istore (lv' := [(4, .int z46.1), (2, .long z30.1), (1, .int x4), (0, .ref o)]) hx hb dM_makeStep_49 hl (by decide) rfl (fun ls hl => ?_)
  exact B_51 11 z46.2 x4 z30.1 z46.1 H locs ls (lv_sub hl [3, 2, 1, 0] rfl) hI hfin
