set_option maxHeartbeats 4000000 in
set_option maxRecDepth 100000 in
theorem ctm_holds (l : Launch) (a0 : Int32) (a1 : Int64) : gPi l yM_holds wM_holds (rmF 1 22) [.int a0, .long a1] (m_holds a0 a1) := by
  obtain ⟨z, hz⟩ : ∃ z, z = m_holds a0 a1 := ⟨_, rfl⟩
  rw [← hz]
  have hfin := hz.symm
  clear hz
  refine g_start (plainFor_of_name (by decide)) (Nat.le_of_ble_eq_true rfl) ?_
  intro p e s0 m args below meth c ls X hr hlk hB hl
  have hl : lv_has ls 3 [(0, .int a0), (1, .long a1)] := hl
  have hx := X.1
  have hb := X.2.1
  rw [m_holds] at hfin
  refine lv_iload_n hx hb dM_holds_0 rfl (lv_at hl 0 rfl) ?_
  refine lv_iconst (v := (3 : Int32)) hx hb dM_holds_1 (by decide) ?_
  refine lv_icmp_le (tgt := 21) hx hb dM_holds_2 (by decide) (fun hc2 => ?_) (fun hc2 => ?_)
  · rw [if_pos hc2] at hfin
    refine lv_iload_n hx hb dM_holds_21 rfl (lv_at hl 0 rfl) ?_
    refine lv_lload_n hx hb dM_holds_22 rfl (lv_at hl 1 rfl) ?_
    refine g_callPi [.int a0, .long a1] [] X (ctm_holds0 l a0 a1) (cwM_M_holds0 X.2.2.2.2 ⟨Nat.le_of_ble_eq_true rfl, Nat.le_of_ble_eq_true rfl⟩) rfl hl.1 rfl (Nat.le_of_ble_eq_true rfl) dM_holds_23 ?_
    exact g_zretP X hr hlk (nar_z (m_holds0_z a0 a1)) hfin dM_holds_26
  rw [if_neg hc2] at hfin
  refine lv_iload_n hx hb dM_holds_5 rfl (lv_at hl 0 rfl) ?_
  refine lv_iconst (v := (4 : Int32)) hx hb dM_holds_6 (by decide) ?_
  refine lv_isub hx hb dM_holds_7 ?_
  refine lv_lload_n hx hb dM_holds_8 rfl (lv_at hl 1 rfl) ?_
  refine g_callPi [.int (a0 - (4 : Int32)), .long a1] [] X (ctm_holds0 l (a0 - (4 : Int32)) a1) (cwM_M_holds0 X.2.2.2.2 ⟨Nat.le_of_ble_eq_true rfl, Nat.le_of_ble_eq_true rfl⟩) rfl hl.1 rfl (Nat.le_of_ble_eq_true rfl) dM_holds_9 ?_
  refine lv_if_ne (tgt := 19) hx hb dM_holds_12 (by decide) (fun hc12 => ?_) (fun hc12 => ?_)
  · rw [if_neg hc12] at hfin
    refine lv_iconst (v := (0 : Int32)) hx hb dM_holds_19 (by decide) ?_
    exact g_zretP X hr hlk rfl hfin dM_holds_20
  rw [if_pos hc12] at hfin
  refine lv_iconst (v := (1 : Int32)) hx hb dM_holds_15 (by decide) ?_
  refine lv_goto (tgt := 20) hx hb dM_holds_16 (by decide) ?_
  exact g_zretP X hr hlk rfl hfin dM_holds_20
set_option maxHeartbeats 4000000 in
set_option maxRecDepth 100000 in
theorem ctm_compare (l : Launch) (D : va_G) (cA cB : ClassId) (o q q1 q2 : Nat) (hne : va_nd [o, q, q1, q2] = true) (u : MS) (a0 : Int32) (a1 : Int32) (a2 : Int32) (z : MS) (hfin : m_compare u a0 a1 a2 = some z) : gMv l yM_compare wM_compare (rmF 3 69) D [(cA, .long), (cB, .int)] (MW cA cB o q q1 q2) (MA o q q1 q2) [.ref o, .int a0, .int a1, .int a2] u z := by
  refine g_start (plainFor_of_name (by decide)) (Nat.le_of_ble_eq_true rfl) ?_
  intro p e s0 m args below meth c ls X hr hlk hB hl
  obtain ⟨hP0, hK⟩ := hB
  have hI : gI D (MW cA cB o q q1 q2) (MA o q q1 q2) s0.heap s0.heap [] u := ⟨hP0, va_S.rf⟩
  have hl : lv_has ls 12 [(0, .ref o), (1, .int a0), (2, .int a1), (3, .int a2)] := hl
  have hx := X.1
  have hb := X.2.1
  have B_252 : ∀ (u : MS) (v4 : Int32) (v9 : Int64) (H : Heap) (locs : List Loc) (ls : Array Slot), lv_has ls 12 [(0, .ref o), (1, .int a0), (2, .int a1), (3, .int a2), (4, .int v4), (9, .long v9)] → gI D (MW cA cB o q q1 q2) (MA o q q1 q2) s0.heap H locs u → m_compare_252 a0 a1 a2 u v4 v9 = some z → W p l e (rmF 3 69) s0 m args below meth c H locs 0 0 (MQ below (va_Qv (fun x => x = z) (gB D [(cA, .long), (cB, .int)] (MW cA cB o q q1 q2)) (MA o q q1 q2)) args s0 0 0 (MA o q q1 q2)) (F0 m 252 ls []) := by
    intro u v4 v9 H locs ls hl hI hfin
    rw [m_compare_252] at hfin
    refine lv_aload_n hx hb dM_compare_252 rfl (lv_at hl 0 rfl) ?_
    refine lv_iload hx hb dM_compare_253 (lv_at hl 4 rfl) ?_
    refine lv_lload hx hb dM_compare_255 (lv_at hl 5 rfl) ?_
    refine g_callPi [.int v4, .long v9] [.ref o] X (ctm_holds l v4 v9) (cwM_M_holds X.2.2.2.2 ⟨Nat.le_of_ble_eq_true rfl, Nat.le_of_ble_eq_true rfl⟩) rfl hl.1 rfl (Nat.le_of_ble_eq_true rfl) dM_compare_257 ?_
    obtain ⟨z260, hz260, hfin⟩ := bd_ob hfin
    refine g_callMv [.int (m_holds v4 v9)] [] X hK m_rcv hI (ctm_skipIf l D cA cB o q q1 q2 hne u (m_holds v4 v9) z260 hz260) (cwM_M_skipIf X.2.2.2.2 ⟨Nat.le_of_ble_eq_true rfl, Nat.le_of_ble_eq_true rfl⟩) rfl hl.1 rfl (Nat.le_of_ble_eq_true rfl) dM_compare_260 (fun H locs hI => ?_)
    exact g_vret X hr hlk hK hI hfin dM_compare_263
  have B_241 : ∀ (u : MS) (v4 : Int32) (v9 : Int64) (H : Heap) (locs : List Loc) (ls : Array Slot), lv_has ls 12 [(0, .ref o), (1, .int a0), (2, .int a1), (3, .int a2), (4, .int v4), (9, .long v9)] → gI D (MW cA cB o q q1 q2) (MA o q q1 q2) s0.heap H locs u → m_compare_241 a0 a1 a2 u v4 v9 = some z → W p l e (rmF 3 69) s0 m args below meth c H locs 0 0 (MQ below (va_Qv (fun x => x = z) (gB D [(cA, .long), (cB, .int)] (MW cA cB o q q1 q2)) (MA o q q1 q2)) args s0 0 0 (MA o q q1 q2)) (F0 m 241 ls []) := by
    intro u v4 v9 H locs ls hl hI hfin
    rw [m_compare_241] at hfin
    refine lv_iload_n hx hb dM_compare_241 rfl (lv_at hl 2 rfl) ?_
    refine lv_if_le (tgt := 252) hx hb dM_compare_242 (by decide) (fun hc242 => ?_) (fun hc242 => ?_)
    · rw [if_pos hc242] at hfin
      exact B_252 u v4 v9 H locs ls (lv_sub hl [0, 1, 2, 3, 4, 5] rfl) hI hfin
    rw [if_neg hc242] at hfin
    refine lv_aload_n hx hb dM_compare_245 rfl (lv_at hl 0 rfl) ?_
    refine lv_iload_n hx hb dM_compare_246 rfl (lv_at hl 2 rfl) ?_
    refine lv_lload hx hb dM_compare_247 (lv_at hl 5 rfl) ?_
    obtain ⟨z249, hz249, hfin⟩ := bd_ob hfin
    refine g_callMv [.int a1, .long v9] [] X hK m_rcv hI (ctm_setAc l D cA cB o q q1 q2 hne u a1 v9 z249 hz249) (cwM_M_setAc X.2.2.2.2 ⟨Nat.le_of_ble_eq_true rfl, Nat.le_of_ble_eq_true rfl⟩) rfl hl.1 rfl (Nat.le_of_ble_eq_true rfl) dM_compare_249 (fun H locs hI => ?_)
    exact B_252 z249 v4 v9 H locs ls (lv_sub hl [0, 1, 2, 3, 4, 5] rfl) hI hfin
  have B_214 : ∀ (u : MS) (v4 : Int32) (v9 : Int64) (H : Heap) (locs : List Loc) (ls : Array Slot), lv_has ls 12 [(0, .ref o), (1, .int a0), (2, .int a1), (3, .int a2), (4, .int v4), (9, .long v9)] → gI D (MW cA cB o q q1 q2) (MA o q q1 q2) s0.heap H locs u → m_compare_214 a0 a1 a2 u v4 v9 = some z → W p l e (rmF 3 69) s0 m args below meth c H locs 0 0 (MQ below (va_Qv (fun x => x = z) (gB D [(cA, .long), (cB, .int)] (MW cA cB o q q1 q2)) (MA o q q1 q2)) args s0 0 0 (MA o q q1 q2)) (F0 m 214 ls []) := by
    intro u v4 v9 H locs ls hl hI hfin
    rw [m_compare_214] at hfin
    refine lv_aload_n hx hb dM_compare_214 rfl (lv_at hl 0 rfl) ?_
    refine lv_iload hx hb dM_compare_215 (lv_at hl 4 rfl) ?_
    refine lv_lload hx hb dM_compare_217 (lv_at hl 5 rfl) ?_
    refine g_callPi [.int v4, .long v9] [.ref o] X (ctm_holds l v4 v9) (cwM_M_holds X.2.2.2.2 ⟨Nat.le_of_ble_eq_true rfl, Nat.le_of_ble_eq_true rfl⟩) rfl hl.1 rfl (Nat.le_of_ble_eq_true rfl) dM_compare_219 ?_
    refine lv_iload_n hx hb dM_compare_222 rfl (lv_at hl 3 rfl) ?_
    obtain ⟨z223, hz223, hfin⟩ := bd_ob hfin
    refine g_callMv [.int (m_holds v4 v9), .int a2] [] X hK m_rcv hI (ctm_goIf l D cA cB o q q1 q2 hne u (m_holds v4 v9) a2 z223 hz223) (cwM_M_goIf X.2.2.2.2 ⟨Nat.le_of_ble_eq_true rfl, Nat.le_of_ble_eq_true rfl⟩) rfl hl.1 rfl (Nat.le_of_ble_eq_true rfl) dM_compare_223 (fun H locs hI => ?_)
    exact g_vret X hr hlk hK hI hfin dM_compare_226
  have B_187 : ∀ (u : MS) (v4 : Int32) (v6 : Int64) (v8 : Int32) (v11 : Int32) (t0 : Int64) (H : Heap) (locs : List Loc) (ls : Array Slot), lv_has ls 12 [(0, .ref o), (1, .int a0), (2, .int a1), (3, .int a2), (4, .int v4), (6, .long v6), (8, .int v8), (11, .int v11)] → gI D (MW cA cB o q q1 q2) (MA o q q1 q2) s0.heap H locs u → m_compare_187 a0 a1 a2 u v4 v6 v8 v11 t0 = some z → W p l e (rmF 3 69) s0 m args below meth c H locs 0 0 (MQ below (va_Qv (fun x => x = z) (gB D [(cA, .long), (cB, .int)] (MW cA cB o q q1 q2)) (MA o q q1 q2)) args s0 0 0 (MA o q q1 q2)) (F0 m 187 ls [.long t0]) := by
    intro u v4 v6 v8 v11 t0 H locs ls hl hI hfin
    rw [m_compare_187] at hfin
    refine lv_lstore (lv' := [(9, .long t0), (0, .ref o), (1, .int a0), (2, .int a1), (3, .int a2), (4, .int v4), (6, .long v6), (8, .int v8), (11, .int v11)]) hx hb dM_compare_187 hl (by decide) rfl (fun ls hl => ?_)
    refine lv_aload_n hx hb dM_compare_189 rfl (lv_at hl 1 rfl) ?_
    refine lv_iload hx hb dM_compare_190 (lv_at hl 8 rfl) ?_
    obtain ⟨z192, hz192, hfin⟩ := bd_ob hfin
    refine g_callMv [.int v11] [] X hK m_rcv hI (ctm_over l D cA cB o q q1 q2 hne u v11 z192 hz192) (cwM_M_over X.2.2.2.2 ⟨Nat.le_of_ble_eq_true rfl, Nat.le_of_ble_eq_true rfl⟩) rfl hl.1 rfl (Nat.le_of_ble_eq_true rfl) dM_compare_192 (fun H locs hI => ?_)
    refine lv_iload hx hb dM_compare_195 (lv_at hl 7 rfl) ?_
    refine lv_if_eq (tgt := 227) hx hb dM_compare_197 (by decide) (fun hc197 => ?_) (fun hc197 => ?_)
    · rw [if_pos hc197] at hfin
      refine lv_lload hx hb dM_compare_227 (lv_at hl 6 rfl) ?_
      refine lv_lconst (v := (0 : Int64)) hx hb dM_compare_229 (by decide) ?_
      refine W.lcmp hx hb dM_compare_230 ?_
      refine lv_if_eq (tgt := 241) hx hb dM_compare_231 (by decide) (fun hc231 => ?_) (fun hc231 => ?_)
      · rw [if_pos hc231] at hfin
        exact B_241 z192 v4 t0 H locs ls (lv_sub hl [1, 2, 3, 4, 5, 0] rfl) hI hfin
      rw [if_neg hc231] at hfin
      refine lv_aload_n hx hb dM_compare_234 rfl (lv_at hl 1 rfl) ?_
      refine lv_iload_n hx hb dM_compare_235 rfl (lv_at hl 4 rfl) ?_
      refine lv_lload hx hb dM_compare_236 (lv_at hl 0 rfl) ?_
      obtain ⟨z238, hz238, hfin⟩ := bd_ob hfin
      refine g_callMv [.int a2, .long t0] [] X hK m_rcv hI (ctm_set l D cA cB o q q1 q2 hne z192 a2 t0 z238 hz238) (cwM_M_set X.2.2.2.2 ⟨Nat.le_of_ble_eq_true rfl, Nat.le_of_ble_eq_true rfl⟩) rfl hl.1 rfl (Nat.le_of_ble_eq_true rfl) dM_compare_238 (fun H locs hI => ?_)
      exact B_241 z238 v4 t0 H locs ls (lv_sub hl [1, 2, 3, 4, 5, 0] rfl) hI hfin
    rw [if_neg hc197] at hfin
    refine lv_lload hx hb dM_compare_200 (lv_at hl 6 rfl) ?_
    refine lv_lconst (v := (0 : Int64)) hx hb dM_compare_202 (by decide) ?_
    refine W.lcmp hx hb dM_compare_203 ?_
    refine lv_if_eq (tgt := 214) hx hb dM_compare_204 (by decide) (fun hc204 => ?_) (fun hc204 => ?_)
    · rw [if_pos hc204] at hfin
      exact B_214 z192 v4 t0 H locs ls (lv_sub hl [1, 2, 3, 4, 5, 0] rfl) hI hfin
    rw [if_neg hc204] at hfin
    refine lv_aload_n hx hb dM_compare_207 rfl (lv_at hl 1 rfl) ?_
    refine lv_iload_n hx hb dM_compare_208 rfl (lv_at hl 3 rfl) ?_
    refine lv_lload hx hb dM_compare_209 (lv_at hl 0 rfl) ?_
    obtain ⟨z211, hz211, hfin⟩ := bd_ob hfin
    refine g_callMv [.int a1, .long t0] [] X hK m_rcv hI (ctm_setAc l D cA cB o q q1 q2 hne z192 a1 t0 z211 hz211) (cwM_M_setAc X.2.2.2.2 ⟨Nat.le_of_ble_eq_true rfl, Nat.le_of_ble_eq_true rfl⟩) rfl hl.1 rfl (Nat.le_of_ble_eq_true rfl) dM_compare_211 (fun H locs hI => ?_)
    exact B_214 z211 v4 t0 H locs ls (lv_sub hl [1, 2, 3, 4, 5, 0] rfl) hI hfin
  have B_153 : ∀ (u : MS) (v4 : Int32) (v6 : Int64) (v8 : Int32) (v9 : Int64) (t0 : Int32) (H : Heap) (locs : List Loc) (ls : Array Slot), lv_has ls 12 [(0, .ref o), (1, .int a0), (2, .int a1), (3, .int a2), (4, .int v4), (6, .long v6), (8, .int v8), (9, .long v9)] → gI D (MW cA cB o q q1 q2) (MA o q q1 q2) s0.heap H locs u → m_compare_153 a0 a1 a2 u v4 v6 v8 v9 t0 = some z → W p l e (rmF 3 69) s0 m args below meth c H locs 0 0 (MQ below (va_Qv (fun x => x = z) (gB D [(cA, .long), (cB, .int)] (MW cA cB o q q1 q2)) (MA o q q1 q2)) args s0 0 0 (MA o q q1 q2)) (F0 m 153 ls [.int t0]) := by
    intro u v4 v6 v8 v9 t0 H locs ls hl hI hfin
    rw [m_compare_153] at hfin
    refine lv_istore (lv' := [(11, .int t0), (0, .ref o), (1, .int a0), (2, .int a1), (3, .int a2), (4, .int v4), (6, .long v6), (8, .int v8), (9, .long v9)]) hx hb dM_compare_153 hl (by decide) rfl (fun ls hl => ?_)
    refine lv_lload hx hb dM_compare_155 (lv_at hl 8 rfl) ?_
    refine lv_ldc2 hx hb X.2.2.2.1 (X.2.2.2.2 _ hkM_20) dM_compare_157 ?_
    refine W.lcmp hx hb dM_compare_160 ?_
    refine lv_if_ne (tgt := 170) hx hb dM_compare_161 (by decide) (fun hc161 => ?_) (fun hc161 => ?_)
    · rw [if_neg hc161] at hfin
      refine lv_lload hx hb dM_compare_170 (lv_at hl 8 rfl) ?_
      refine lv_ldc2 hx hb X.2.2.2.1 (X.2.2.2.2 _ hkM_152) dM_compare_172 ?_
      refine W.lcmp hx hb dM_compare_175 ?_
      refine lv_if_ge (tgt := 185) hx hb dM_compare_176 (by decide) (fun hc176 => ?_) (fun hc176 => ?_)
      · rw [if_pos hc176] at hfin
        refine lv_lload hx hb dM_compare_185 (lv_at hl 8 rfl) ?_
        exact B_187 u v4 v6 v8 t0 v9 H locs ls (lv_sub hl [1, 2, 3, 4, 5, 6, 7, 0] rfl) hI hfin
      rw [if_neg hc176] at hfin
      refine lv_ldc2 hx hb X.2.2.2.1 (X.2.2.2.2 _ hkM_172) dM_compare_179 ?_
      refine lv_goto (tgt := 187) hx hb dM_compare_182 (by decide) ?_
      exact B_187 u v4 v6 v8 t0 (34359738367 : Int64) H locs ls (lv_sub hl [1, 2, 3, 4, 5, 6, 7, 0] rfl) hI hfin
    rw [if_pos hc161] at hfin
    refine lv_ldc2 hx hb X.2.2.2.1 (X.2.2.2.2 _ hkM_152) dM_compare_164 ?_
    refine lv_goto (tgt := 187) hx hb dM_compare_167 (by decide) ?_
    exact B_187 u v4 v6 v8 t0 (-34359738368 : Int64) H locs ls (lv_sub hl [1, 2, 3, 4, 5, 6, 7, 0] rfl) hI hfin
  have B_148 : ∀ (u : MS) (v4 : Int32) (v6 : Int64) (v8 : Int32) (v9 : Int64) (H : Heap) (locs : List Loc) (ls : Array Slot), lv_has ls 12 [(0, .ref o), (1, .int a0), (2, .int a1), (3, .int a2), (4, .int v4), (6, .long v6), (8, .int v8), (9, .long v9)] → gI D (MW cA cB o q q1 q2) (MA o q q1 q2) s0.heap H locs u → m_compare_148 a0 a1 a2 u v4 v6 v8 v9 = some z → W p l e (rmF 3 69) s0 m args below meth c H locs 0 0 (MQ below (va_Qv (fun x => x = z) (gB D [(cA, .long), (cB, .int)] (MW cA cB o q q1 q2)) (MA o q q1 q2)) args s0 0 0 (MA o q q1 q2)) (F0 m 148 ls []) := by
    intro u v4 v6 v8 v9 H locs ls hl hI hfin
    rw [m_compare_148] at hfin
    refine lv_iconst (v := (1 : Int32)) hx hb dM_compare_148 (by decide) ?_
    refine lv_goto (tgt := 153) hx hb dM_compare_149 (by decide) ?_
    exact B_153 u v4 v6 v8 v9 (1 : Int32) H locs ls (lv_sub hl [0, 1, 2, 3, 4, 5, 6, 7] rfl) hI hfin
  have B_122 : ∀ (u : MS) (v4 : Int32) (v6 : Int64) (v8 : Int32) (t0 : Int64) (H : Heap) (locs : List Loc) (ls : Array Slot), lv_has ls 12 [(0, .ref o), (1, .int a0), (2, .int a1), (3, .int a2), (4, .int v4), (6, .long v6), (8, .int v8)] → gI D (MW cA cB o q q1 q2) (MA o q q1 q2) s0.heap H locs u → m_compare_122 a0 a1 a2 u v4 v6 v8 t0 = some z → W p l e (rmF 3 69) s0 m args below meth c H locs 0 0 (MQ below (va_Qv (fun x => x = z) (gB D [(cA, .long), (cB, .int)] (MW cA cB o q q1 q2)) (MA o q q1 q2)) args s0 0 0 (MA o q q1 q2)) (F0 m 122 ls [.long t0]) := by
    intro u v4 v6 v8 t0 H locs ls hl hI hfin
    rw [m_compare_122] at hfin
    refine g_callPl [.long t0] [] X (ctm_num l t0) (cwM_M_num X.2.2.2.2 ⟨Nat.le_of_ble_eq_true rfl, Nat.le_of_ble_eq_true rfl⟩) rfl hl.1 rfl (Nat.le_of_ble_eq_true rfl) dM_compare_122 ?_
    refine lv_lload hx hb dM_compare_125 (lv_at hl 5 rfl) ?_
    refine lv_ladd hx hb dM_compare_127 ?_
    refine lv_topl (fun x128 e128 => ?_)
    replace hfin := nm_at hfin e128
    refine lv_lstore (lv' := [(9, .long x128), (0, .ref o), (1, .int a0), (2, .int a1), (3, .int a2), (4, .int v4), (6, .long v6), (8, .int v8)]) hx hb dM_compare_128 hl (by decide) rfl (fun ls hl => ?_)
    refine lv_lload hx hb dM_compare_130 (lv_at hl 0 rfl) ?_
    refine lv_ldc2 hx hb X.2.2.2.1 (X.2.2.2.2 _ hkM_20) dM_compare_132 ?_
    refine W.lcmp hx hb dM_compare_135 ?_
    refine lv_if_eq (tgt := 148) hx hb dM_compare_136 (by decide) (fun hc136 => ?_) (fun hc136 => ?_)
    · rw [if_pos hc136] at hfin
      exact B_148 u v4 v6 v8 x128 H locs ls (lv_sub hl [1, 2, 3, 4, 5, 6, 7, 0] rfl) hI hfin
    rw [if_neg hc136] at hfin
    refine lv_lload hx hb dM_compare_139 (lv_at hl 0 rfl) ?_
    refine lv_ldc2 hx hb X.2.2.2.1 (X.2.2.2.2 _ hkM_152) dM_compare_141 ?_
    refine W.lcmp hx hb dM_compare_144 ?_
    refine lv_if_ge (tgt := 152) hx hb dM_compare_145 (by decide) (fun hc145 => ?_) (fun hc145 => ?_)
    · rw [if_pos hc145] at hfin
      refine lv_iconst (v := (0 : Int32)) hx hb dM_compare_152 (by decide) ?_
      exact B_153 u v4 v6 v8 x128 (0 : Int32) H locs ls (lv_sub hl [1, 2, 3, 4, 5, 6, 7, 0] rfl) hI hfin
    rw [if_neg hc145] at hfin
    exact B_148 u v4 v6 v8 x128 H locs ls (lv_sub hl [1, 2, 3, 4, 5, 6, 7, 0] rfl) hI hfin
  have B_101 : ∀ (u : MS) (v4 : Int32) (v6 : Int64) (t0 : Int32) (H : Heap) (locs : List Loc) (ls : Array Slot), lv_has ls 12 [(0, .ref o), (1, .int a0), (2, .int a1), (3, .int a2), (4, .int v4), (6, .long v6)] → gI D (MW cA cB o q q1 q2) (MA o q q1 q2) s0.heap H locs u → m_compare_101 a0 a1 a2 u v4 v6 t0 = some z → W p l e (rmF 3 69) s0 m args below meth c H locs 0 0 (MQ below (va_Qv (fun x => x = z) (gB D [(cA, .long), (cB, .int)] (MW cA cB o q q1 q2)) (MA o q q1 q2)) args s0 0 0 (MA o q q1 q2)) (F0 m 101 ls [.int t0]) := by
    intro u v4 v6 t0 H locs ls hl hI hfin
    rw [m_compare_101] at hfin
    refine lv_istore (lv' := [(8, .int t0), (0, .ref o), (1, .int a0), (2, .int a1), (3, .int a2), (4, .int v4), (6, .long v6)]) hx hb dM_compare_101 hl (by decide) rfl (fun ls hl => ?_)
    refine lv_iload hx hb dM_compare_103 (lv_at hl 0 rfl) ?_
    refine lv_if_eq (tgt := 117) hx hb dM_compare_105 (by decide) (fun hc105 => ?_) (fun hc105 => ?_)
    · rw [if_pos hc105] at hfin
      refine lv_aload_n hx hb dM_compare_117 rfl (lv_at hl 1 rfl) ?_
      refine lv_iload_n hx hb dM_compare_118 rfl (lv_at hl 4 rfl) ?_
      obtain ⟨z119, hz119, hfin⟩ := bd_ob hfin
      refine g_callMl [.int a2] [] X hK m_rcv hI (ctm_get l D cA cB o q q1 q2 hne u a2 z119 hz119) (cwM_M_get X.2.2.2.2 ⟨Nat.le_of_ble_eq_true rfl, Nat.le_of_ble_eq_true rfl⟩) rfl hl.1 rfl (Nat.le_of_ble_eq_true rfl) dM_compare_119 (fun H locs hI => ?_)
      exact B_122 z119.2 v4 v6 t0 z119.1 H locs ls (lv_sub hl [1, 2, 3, 4, 5, 6, 0] rfl) hI hfin
    rw [if_neg hc105] at hfin
    refine lv_aload_n hx hb dM_compare_108 rfl (lv_at hl 1 rfl) ?_
    refine mg_store X hK hI.1 dM_compare_109 ?_
    refine lv_iload_n hx hb dM_compare_112 rfl (lv_at hl 3 rfl) ?_
    obtain ⟨hd113, hfin⟩ := ck_if hfin
    refine ml_store X hK hI.1 hd113 dM_compare_113 ?_
    refine lv_goto (tgt := 122) hx hb dM_compare_114 (by decide) ?_
    exact B_122 u v4 v6 t0 (M_store u a1.toNatClampNeg) H locs ls (lv_sub hl [1, 2, 3, 4, 5, 6, 0] rfl) hI hfin
  have B_87 : ∀ (u : MS) (v4 : Int32) (v5 : Int32) (t0 : Int64) (H : Heap) (locs : List Loc) (ls : Array Slot), lv_has ls 12 [(0, .ref o), (1, .int a0), (2, .int a1), (3, .int a2), (4, .int v4), (5, .int v5)] → gI D (MW cA cB o q q1 q2) (MA o q q1 q2) s0.heap H locs u → m_compare_87 a0 a1 a2 u v4 v5 t0 = some z → W p l e (rmF 3 69) s0 m args below meth c H locs 0 0 (MQ below (va_Qv (fun x => x = z) (gB D [(cA, .long), (cB, .int)] (MW cA cB o q q1 q2)) (MA o q q1 q2)) args s0 0 0 (MA o q q1 q2)) (F0 m 87 ls [.long t0]) := by
    intro u v4 v5 t0 H locs ls hl hI hfin
    rw [m_compare_87] at hfin
    refine lv_lstore (lv' := [(6, .long t0), (0, .ref o), (1, .int a0), (2, .int a1), (3, .int a2), (4, .int v4), (5, .int v5)]) hx hb dM_compare_87 hl (by decide) rfl (fun ls hl => ?_)
    refine lv_iload hx hb dM_compare_89 (lv_at hl 6 rfl) ?_
    refine lv_iconst (v := (2 : Int32)) hx hb dM_compare_91 (by decide) ?_
    refine lv_irem hx hb dM_compare_92 (by decide) ?_
    refine lv_if_ne (tgt := 100) hx hb dM_compare_93 (by decide) (fun hc93 => ?_) (fun hc93 => ?_)
    · rw [if_neg hc93] at hfin
      refine lv_iconst (v := (0 : Int32)) hx hb dM_compare_100 (by decide) ?_
      exact B_101 u v4 t0 (0 : Int32) H locs ls (lv_sub hl [1, 2, 3, 4, 5, 0] rfl) hI hfin
    rw [if_pos hc93] at hfin
    refine lv_iconst (v := (1 : Int32)) hx hb dM_compare_96 (by decide) ?_
    refine lv_goto (tgt := 101) hx hb dM_compare_97 (by decide) ?_
    exact B_101 u v4 t0 (1 : Int32) H locs ls (lv_sub hl [1, 2, 3, 4, 5, 0] rfl) hI hfin
  have B_39 : ∀ (u : MS) (v4 : Int32) (t0 : Int64) (H : Heap) (locs : List Loc) (ls : Array Slot), lv_has ls 12 [(0, .ref o), (1, .int a0), (2, .int a1), (3, .int a2), (4, .int v4)] → gI D (MW cA cB o q q1 q2) (MA o q q1 q2) s0.heap H locs u → m_compare_39 a0 a1 a2 u v4 t0 = some z → W p l e (rmF 3 69) s0 m args below meth c H locs 0 0 (MQ below (va_Qv (fun x => x = z) (gB D [(cA, .long), (cB, .int)] (MW cA cB o q q1 q2)) (MA o q q1 q2)) args s0 0 0 (MA o q q1 q2)) (F0 m 39 ls [.long t0]) := by
    intro u v4 t0 H locs ls hl hI hfin
    rw [m_compare_39] at hfin
    refine lv_lstore (lv' := [(6, .long t0), (0, .ref o), (1, .int a0), (2, .int a1), (3, .int a2), (4, .int v4)]) hx hb dM_compare_39 hl (by decide) rfl (fun ls hl => ?_)
    refine lv_aload_n hx hb dM_compare_41 rfl (lv_at hl 1 rfl) ?_
    refine lv_iload hx hb dM_compare_42 (lv_at hl 5 rfl) ?_
    refine lv_aload_n hx hb dM_compare_44 rfl (lv_at hl 1 rfl) ?_
    refine mg_store X hK hI.1 dM_compare_45 ?_
    refine lv_iload_n hx hb dM_compare_48 rfl (lv_at hl 3 rfl) ?_
    obtain ⟨hd49, hfin⟩ := ck_if hfin
    refine ml_store X hK hI.1 hd49 dM_compare_49 ?_
    refine g_callPl [.long (M_store u a1.toNatClampNeg)] [.int v4, .ref o] X (ctm_num l (M_store u a1.toNatClampNeg)) (cwM_M_num X.2.2.2.2 ⟨Nat.le_of_ble_eq_true rfl, Nat.le_of_ble_eq_true rfl⟩) rfl hl.1 rfl (Nat.le_of_ble_eq_true rfl) dM_compare_50 ?_
    refine lv_lload hx hb dM_compare_53 (lv_at hl 0 rfl) ?_
    refine lv_lsub hx hb dM_compare_55 ?_
    refine g_callPi [.int v4, .long ((m_num (M_store u a1.toNatClampNeg)) - t0)] [.ref o] X (ctm_holds l v4 ((m_num (M_store u a1.toNatClampNeg)) - t0)) (cwM_M_holds X.2.2.2.2 ⟨Nat.le_of_ble_eq_true rfl, Nat.le_of_ble_eq_true rfl⟩) rfl hl.1 rfl (Nat.le_of_ble_eq_true rfl) dM_compare_56 ?_
    obtain ⟨z59, hz59, hfin⟩ := bd_ob hfin
    refine g_callMv [.int (m_holds v4 ((m_num (M_store u a1.toNatClampNeg)) - t0))] [] X hK m_rcv hI (ctm_skipIf l D cA cB o q q1 q2 hne u (m_holds v4 ((m_num (M_store u a1.toNatClampNeg)) - t0)) z59 hz59) (cwM_M_skipIf X.2.2.2.2 ⟨Nat.le_of_ble_eq_true rfl, Nat.le_of_ble_eq_true rfl⟩) rfl hl.1 rfl (Nat.le_of_ble_eq_true rfl) dM_compare_59 (fun H locs hI => ?_)
    exact g_vret X hr hlk hK hI hfin dM_compare_62
  rw [m_compare] at hfin
  refine lv_iload_n hx hb dM_compare_0 rfl (lv_at hl 1 rfl) ?_
  refine lv_bipush (v := (8 : Int32)) hx hb dM_compare_1 (by decide) ?_
  refine lv_irem hx hb dM_compare_3 (by decide) ?_
  refine lv_topi (fun x4 e4 => ?_)
  replace hfin := nm_at hfin e4
  refine lv_istore (lv' := [(4, .int x4), (0, .ref o), (1, .int a0), (2, .int a1), (3, .int a2)]) hx hb dM_compare_4 hl (by decide) rfl (fun ls hl => ?_)
  refine lv_iload_n hx hb dM_compare_6 rfl (lv_at hl 2 rfl) ?_
  refine lv_bipush (v := (8 : Int32)) hx hb dM_compare_7 (by decide) ?_
  refine lv_idiv hx hb dM_compare_9 (by decide) ?_
  refine lv_bipush (v := (8 : Int32)) hx hb dM_compare_10 (by decide) ?_
  refine lv_irem hx hb dM_compare_12 (by decide) ?_
  refine lv_topi (fun x13 e13 => ?_)
  replace hfin := nm_at hfin e13
  refine lv_istore (lv' := [(5, .int x13), (4, .int x4), (0, .ref o), (1, .int a0), (2, .int a1), (3, .int a2)]) hx hb dM_compare_13 hl (by decide) rfl (fun ls hl => ?_)
  refine lv_iload hx hb dM_compare_15 (lv_at hl 0 rfl) ?_
  refine lv_iconst (v := (2 : Int32)) hx hb dM_compare_17 (by decide) ?_
  refine lv_icmp_ge (tgt := 63) hx hb dM_compare_18 (by decide) (fun hc18 => ?_) (fun hc18 => ?_)
  · rw [if_pos hc18] at hfin
    refine lv_iload hx hb dM_compare_63 (lv_at hl 0 rfl) ?_
    refine lv_iconst (v := (4 : Int32)) hx hb dM_compare_65 (by decide) ?_
    refine lv_icmp_ge (tgt := 73) hx hb dM_compare_66 (by decide) (fun hc66 => ?_) (fun hc66 => ?_)
    · rw [if_pos hc66] at hfin
      refine lv_iload hx hb dM_compare_73 (lv_at hl 0 rfl) ?_
      refine lv_bipush (v := (6 : Int32)) hx hb dM_compare_75 (by decide) ?_
      refine lv_icmp_ge (tgt := 84) hx hb dM_compare_77 (by decide) (fun hc77 => ?_) (fun hc77 => ?_)
      · rw [if_pos hc77] at hfin
        refine lv_ldc2 hx hb X.2.2.2.1 (X.2.2.2.2 _ hkM_150) dM_compare_84 ?_
        exact B_87 u x4 x13 (-1 : Int64) s0.heap [] ls (lv_sub hl [2, 3, 4, 5, 1, 0] rfl) hI hfin
      rw [if_neg hc77] at hfin
      refine lv_lconst (v := (1 : Int64)) hx hb dM_compare_80 (by decide) ?_
      refine lv_goto (tgt := 87) hx hb dM_compare_81 (by decide) ?_
      exact B_87 u x4 x13 (1 : Int64) s0.heap [] ls (lv_sub hl [2, 3, 4, 5, 1, 0] rfl) hI hfin
    rw [if_neg hc66] at hfin
    refine lv_lconst (v := (0 : Int64)) hx hb dM_compare_69 (by decide) ?_
    refine lv_goto (tgt := 87) hx hb dM_compare_70 (by decide) ?_
    exact B_87 u x4 x13 (0 : Int64) s0.heap [] ls (lv_sub hl [2, 3, 4, 5, 1, 0] rfl) hI hfin
  rw [if_neg hc18] at hfin
  refine lv_iload hx hb dM_compare_21 (lv_at hl 0 rfl) ?_
  refine lv_if_ne (tgt := 31) hx hb dM_compare_23 (by decide) (fun hc23 => ?_) (fun hc23 => ?_)
  · rw [if_neg hc23] at hfin
    refine lv_aload_n hx hb dM_compare_31 rfl (lv_at hl 2 rfl) ?_
    refine lv_iload_n hx hb dM_compare_32 rfl (lv_at hl 5 rfl) ?_
    obtain ⟨z33, hz33, hfin⟩ := bd_ob hfin
    refine g_callMl [.int a2] [] X hK m_rcv hI (ctm_get l D cA cB o q q1 q2 hne u a2 z33 hz33) (cwM_M_get X.2.2.2.2 ⟨Nat.le_of_ble_eq_true rfl, Nat.le_of_ble_eq_true rfl⟩) rfl hl.1 rfl (Nat.le_of_ble_eq_true rfl) dM_compare_33 (fun H locs hI => ?_)
    refine g_callPl [.long z33.1] [] X (ctm_num l z33.1) (cwM_M_num X.2.2.2.2 ⟨Nat.le_of_ble_eq_true rfl, Nat.le_of_ble_eq_true rfl⟩) rfl hl.1 rfl (Nat.le_of_ble_eq_true rfl) dM_compare_36 ?_
    exact B_39 z33.2 x4 (m_num z33.1) H locs ls (lv_sub hl [2, 3, 4, 5, 1] rfl) hI hfin
  rw [if_pos hc23] at hfin
  refine lv_iload_n hx hb dM_compare_26 rfl (lv_at hl 5 rfl) ?_
  refine lv_i2l hx hb dM_compare_27 rfl ?_
  refine lv_goto (tgt := 39) hx hb dM_compare_28 (by decide) ?_
  exact B_39 u x4 (a2.toInt64) s0.heap [] ls (lv_sub hl [2, 3, 4, 5, 1] rfl) hI hfin
set_option maxHeartbeats 4000000 in
set_option maxRecDepth 100000 in
theorem ctm_source (l : Launch) (D : va_G) (cA cB : ClassId) (o q q1 q2 : Nat) (hne : va_nd [o, q, q1, q2] = true) (u : MS) (a0 : Int32) (a1 : Int32) (z : Int64 × MS) (hfin : m_source u a0 a1 = some z) : gMl l yM_source wM_source (rmF 3 67) D [(cA, .long), (cB, .int)] (MW cA cB o q q1 q2) (MA o q q1 q2) [.ref o, .int a0, .int a1] u z := by
  refine g_start (plainFor_of_name (by decide)) (Nat.le_of_ble_eq_true rfl) ?_
  intro p e s0 m args below meth c ls X hr hlk hB hl
  obtain ⟨hP0, hK⟩ := hB
  have hI : gI D (MW cA cB o q q1 q2) (MA o q q1 q2) s0.heap s0.heap [] u := ⟨hP0, va_S.rf⟩
  have hl : lv_has ls 3 [(0, .ref o), (1, .int a0), (2, .int a1)] := hl
  have hx := X.1
  have hb := X.2.1
  rw [m_source] at hfin
  refine lv_iload_n hx hb dM_source_0 rfl (lv_at hl 1 rfl) ?_
  refine lv_iconst (v := (1 : Int32)) hx hb dM_source_1 (by decide) ?_
  refine lv_icmp_ne (tgt := 10) hx hb dM_source_2 (by decide) (fun hc2 => ?_) (fun hc2 => ?_)
  · rw [if_neg hc2] at hfin
    refine lv_aload_n hx hb dM_source_10 rfl (lv_at hl 0 rfl) ?_
    refine lv_iload_n hx hb dM_source_11 rfl (lv_at hl 2 rfl) ?_
    obtain ⟨z12, hz12, hfin⟩ := bd_ob hfin
    refine g_callMl [.int a1] [] X hK m_rcv hI (ctm_get l D cA cB o q q1 q2 hne u a1 z12 hz12) (cwM_M_get X.2.2.2.2 ⟨Nat.le_of_ble_eq_true rfl, Nat.le_of_ble_eq_true rfl⟩) rfl hl.1 rfl (Nat.le_of_ble_eq_true rfl) dM_source_12 (fun H locs hI => ?_)
    exact g_lret X hr hlk hK hI hfin dM_source_15
  rw [if_pos hc2] at hfin
  refine lv_iload_n hx hb dM_source_5 rfl (lv_at hl 2 rfl) ?_
  refine lv_i2l hx hb dM_source_6 rfl ?_
  refine lv_goto (tgt := 15) hx hb dM_source_7 (by decide) ?_
  exact g_lret X hr hlk hK hI hfin dM_source_15
set_option maxHeartbeats 4000000 in
set_option maxRecDepth 100000 in
theorem ctm_keep (l : Launch) (D : va_G) (cA cB : ClassId) (o q q1 q2 : Nat) (hne : va_nd [o, q, q1, q2] = true) (u : MS) (a0 : Int32) (a1 : Int32) (a2 : Int32) (a3 : Int64) (z : MS) (hfin : m_keep u a0 a1 a2 a3 = some z) : gMv l yM_keep wM_keep (rmF 3 69) D [(cA, .long), (cB, .int)] (MW cA cB o q q1 q2) (MA o q q1 q2) [.ref o, .int a0, .int a1, .int a2, .long a3] u z := by
  refine g_start (plainFor_of_name (by decide)) (Nat.le_of_ble_eq_true rfl) ?_
  intro p e s0 m args below meth c ls X hr hlk hB hl
  obtain ⟨hP0, hK⟩ := hB
  have hI : gI D (MW cA cB o q q1 q2) (MA o q q1 q2) s0.heap s0.heap [] u := ⟨hP0, va_S.rf⟩
  have hl : lv_has ls 6 [(0, .ref o), (1, .int a0), (2, .int a1), (3, .int a2), (4, .long a3)] := hl
  have hx := X.1
  have hb := X.2.1
  have B_12 : ∀ (u : MS) (H : Heap) (locs : List Loc) (ls : Array Slot), lv_has ls 6 [(0, .ref o), (1, .int a0), (2, .int a1), (3, .int a2), (4, .long a3)] → gI D (MW cA cB o q q1 q2) (MA o q q1 q2) s0.heap H locs u → m_keep_12 a0 a1 a2 a3 u = some z → W p l e (rmF 3 69) s0 m args below meth c H locs 0 0 (MQ below (va_Qv (fun x => x = z) (gB D [(cA, .long), (cB, .int)] (MW cA cB o q q1 q2)) (MA o q q1 q2)) args s0 0 0 (MA o q q1 q2)) (F0 m 12 ls []) := by
    intro u H locs ls hl hI hfin
    rw [m_keep_12] at hfin
    refine lv_iload_n hx hb dM_keep_12 rfl (lv_at hl 1 rfl) ?_
    refine lv_iconst (v := (2 : Int32)) hx hb dM_keep_13 (by decide) ?_
    refine lv_icmp_eq (tgt := 24) hx hb dM_keep_14 (by decide) (fun hc14 => ?_) (fun hc14 => ?_)
    · rw [if_pos hc14] at hfin
      exact g_vret X hr hlk hK hI hfin dM_keep_24
    rw [if_neg hc14] at hfin
    refine lv_aload_n hx hb dM_keep_17 rfl (lv_at hl 0 rfl) ?_
    refine lv_iload_n hx hb dM_keep_18 rfl (lv_at hl 2 rfl) ?_
    refine lv_lload hx hb dM_keep_19 (lv_at hl 4 rfl) ?_
    obtain ⟨z21, hz21, hfin⟩ := bd_ob hfin
    refine g_callMv [.int a1, .long a3] [] X hK m_rcv hI (ctm_setAc l D cA cB o q q1 q2 hne u a1 a3 z21 hz21) (cwM_M_setAc X.2.2.2.2 ⟨Nat.le_of_ble_eq_true rfl, Nat.le_of_ble_eq_true rfl⟩) rfl hl.1 rfl (Nat.le_of_ble_eq_true rfl) dM_keep_21 (fun H locs hI => ?_)
    exact g_vret X hr hlk hK hI hfin dM_keep_24
  rw [m_keep] at hfin
  refine lv_iload_n hx hb dM_keep_0 rfl (lv_at hl 1 rfl) ?_
  refine lv_iconst (v := (1 : Int32)) hx hb dM_keep_1 (by decide) ?_
  refine lv_icmp_le (tgt := 12) hx hb dM_keep_2 (by decide) (fun hc2 => ?_) (fun hc2 => ?_)
  · rw [if_pos hc2] at hfin
    exact B_12 u s0.heap [] ls (lv_sub hl [0, 1, 2, 3, 4] rfl) hI hfin
  rw [if_neg hc2] at hfin
  refine lv_aload_n hx hb dM_keep_5 rfl (lv_at hl 0 rfl) ?_
  refine lv_iload_n hx hb dM_keep_6 rfl (lv_at hl 3 rfl) ?_
  refine lv_lload hx hb dM_keep_7 (lv_at hl 4 rfl) ?_
  obtain ⟨z9, hz9, hfin⟩ := bd_ob hfin
  refine g_callMv [.int a2, .long a3] [] X hK m_rcv hI (ctm_set l D cA cB o q q1 q2 hne u a2 a3 z9 hz9) (cwM_M_set X.2.2.2.2 ⟨Nat.le_of_ble_eq_true rfl, Nat.le_of_ble_eq_true rfl⟩) rfl hl.1 rfl (Nat.le_of_ble_eq_true rfl) dM_keep_9 (fun H locs hI => ?_)
  exact B_12 z9 H locs ls (lv_sub hl [0, 1, 2, 3, 4] rfl) hI hfin
set_option maxHeartbeats 4000000 in
set_option maxRecDepth 100000 in
theorem ctm_logic (l : Launch) (D : va_G) (cA cB : ClassId) (o q q1 q2 : Nat) (hne : va_nd [o, q, q1, q2] = true) (u : MS) (a0 : Int32) (a1 : Int32) (a2 : Int32) (z : MS) (hfin : m_logic u a0 a1 a2 = some z) : gMv l yM_logic wM_logic (rmF 4 94) D [(cA, .long), (cB, .int)] (MW cA cB o q q1 q2) (MA o q q1 q2) [.ref o, .int a0, .int a1, .int a2] u z := by
  refine g_start (plainFor_of_name (by decide)) (Nat.le_of_ble_eq_true rfl) ?_
  intro p e s0 m args below meth c ls X hr hlk hB hl
  obtain ⟨hP0, hK⟩ := hB
  have hI : gI D (MW cA cB o q q1 q2) (MA o q q1 q2) s0.heap s0.heap [] u := ⟨hP0, va_S.rf⟩
  have hl : lv_has ls 13 [(0, .ref o), (1, .int a0), (2, .int a1), (3, .int a2)] := hl
  have hx := X.1
  have hb := X.2.1
  have B_32 : ∀ (k : Nat) (u : MS) (v4 : Int32) (v5 : Int64) (v7 : Int64) (v9 : Int64) (v11 : Int32) (H : Heap) (locs : List Loc) (ls : Array Slot), lv_has ls 13 [(0, .ref o), (1, .int a0), (2, .int a1), (3, .int a2), (4, .int v4), (5, .long v5), (7, .long v7), (9, .long v9), (11, .int v11)] → gI D (MW cA cB o q q1 q2) (MA o q q1 q2) s0.heap H locs u → m_logic_32 a0 a1 a2 k u v4 v5 v7 v9 v11 = some z → W p l e (rmF 4 94) s0 m args below meth c H locs 0 0 (MQ below (va_Qv (fun x => x = z) (gB D [(cA, .long), (cB, .int)] (MW cA cB o q q1 q2)) (MA o q q1 q2)) args s0 0 0 (MA o q q1 q2)) (F0 m 32 ls []) := by
    intro k
    induction k with
    | zero =>
      intro u v4 v5 v7 v9 v11 H locs ls hl hI hfin
      rw [m_logic_32] at hfin
      cases hfin
    | succ k IH =>
      intro u v4 v5 v7 v9 v11 H locs ls hl hI hfin
      rw [m_logic_32] at hfin
      refine lv_iload hx hb dM_logic_32 (lv_at hl 8 rfl) ?_
      refine lv_bipush (v := (36 : Int32)) hx hb dM_logic_34 (by decide) ?_
      refine lv_icmp_ge (tgt := 82) hx hb dM_logic_36 (by decide) (fun hc36 => ?_) (fun hc36 => ?_)
      · rw [if_pos hc36] at hfin
        refine lv_aload_n hx hb dM_logic_82 rfl (lv_at hl 0 rfl) ?_
        refine lv_iload_n hx hb dM_logic_83 rfl (lv_at hl 1 rfl) ?_
        refine lv_iconst (v := (4 : Int32)) hx hb dM_logic_84 (by decide) ?_
        refine lv_irem hx hb dM_logic_85 (by decide) ?_
        refine lv_iload_n hx hb dM_logic_86 rfl (lv_at hl 2 rfl) ?_
        refine lv_iload_n hx hb dM_logic_87 rfl (lv_at hl 3 rfl) ?_
        refine lv_lload hx hb dM_logic_88 (lv_at hl 7 rfl) ?_
        obtain ⟨z90, hz90, hfin⟩ := bd_ob hfin
        refine g_callMv [.int (a0 - a0 / (4 : Int32) * (4 : Int32)), .int a1, .int a2, .long v9] [] X hK m_rcv hI (ctm_keep l D cA cB o q q1 q2 hne u (a0 - a0 / (4 : Int32) * (4 : Int32)) a1 a2 v9 z90 hz90) (cwM_M_keep X.2.2.2.2 ⟨Nat.le_of_ble_eq_true rfl, Nat.le_of_ble_eq_true rfl⟩) rfl hl.1 rfl (Nat.le_of_ble_eq_true rfl) dM_logic_90 (fun H locs hI => ?_)
        exact g_vret X hr hlk hK hI hfin dM_logic_93
      rw [if_neg hc36] at hfin
      refine lv_iconst (v := (2 : Int32)) hx hb dM_logic_39 (by decide) ?_
      refine lv_lload hx hb dM_logic_40 (lv_at hl 6 rfl) ?_
      refine lv_iload hx hb dM_logic_42 (lv_at hl 8 rfl) ?_
      refine g_callPi [.long v7, .int v11] [.int (2 : Int32)] X (ctm_bit l v7 v11) (cwM_M_bit X.2.2.2.2 ⟨Nat.le_of_ble_eq_true rfl, Nat.le_of_ble_eq_true rfl⟩) rfl hl.1 rfl (Nat.le_of_ble_eq_true rfl) dM_logic_44 ?_
      refine lv_imul hx hb dM_logic_47 ?_
      refine lv_lload hx hb dM_logic_48 (lv_at hl 5 rfl) ?_
      refine lv_iload hx hb dM_logic_50 (lv_at hl 8 rfl) ?_
      refine g_callPi [.long v5, .int v11] [.int ((2 : Int32) * (m_bit v7 v11))] X (ctm_bit l v5 v11) (cwM_M_bit X.2.2.2.2 ⟨Nat.le_of_ble_eq_true rfl, Nat.le_of_ble_eq_true rfl⟩) rfl hl.1 rfl (Nat.le_of_ble_eq_true rfl) dM_logic_52 ?_
      refine lv_iadd hx hb dM_logic_55 ?_
      refine lv_topi (fun x56 e56 => ?_)
      replace hfin := nm_at hfin e56
      refine lv_istore (lv' := [(12, .int x56), (0, .ref o), (1, .int a0), (2, .int a1), (3, .int a2), (4, .int v4), (5, .long v5), (7, .long v7), (9, .long v9), (11, .int v11)]) hx hb dM_logic_56 hl (by decide) rfl (fun ls hl => ?_)
      refine lv_lload hx hb dM_logic_58 (lv_at hl 8 rfl) ?_
      refine lv_iload hx hb dM_logic_60 (lv_at hl 5 rfl) ?_
      refine lv_iconst (v := (3 : Int32)) hx hb dM_logic_62 (by decide) ?_
      refine lv_iload hx hb dM_logic_63 (lv_at hl 0 rfl) ?_
      refine lv_isub hx hb dM_logic_65 ?_
      refine lv_ishr hx hb dM_logic_66 ?_
      refine lv_iconst (v := (1 : Int32)) hx hb dM_logic_67 (by decide) ?_
      refine lv_iand hx hb dM_logic_68 ?_
      refine lv_i2l hx hb dM_logic_69 rfl ?_
      refine lv_iload hx hb dM_logic_70 (lv_at hl 9 rfl) ?_
      refine lv_lshl hx hb dM_logic_72 rfl ?_
      refine lv_lor hx hb dM_logic_73 ?_
      refine lv_topl (fun x74 e74 => ?_)
      replace hfin := nm_at hfin e74
      refine lv_lstore (lv' := [(9, .long x74), (12, .int x56), (0, .ref o), (1, .int a0), (2, .int a1), (3, .int a2), (4, .int v4), (5, .long v5), (7, .long v7), (11, .int v11)]) hx hb dM_logic_74 hl (by decide) rfl (fun ls hl => ?_)
      refine lv_iinc (lv' := [(11, .int (v11 + Int32.ofInt 1)), (9, .long x74), (12, .int x56), (0, .ref o), (1, .int a0), (2, .int a1), (3, .int a2), (4, .int v4), (5, .long v5), (7, .long v7)]) (k := 9) hx hb dM_logic_76 hl rfl rfl (by decide) rfl (fun ls hl => ?_)
      refine lv_goto (tgt := 32) hx hb dM_logic_79 (by decide) ?_
      exact IH u v4 v5 v7 x74 (v11 + Int32.ofInt 1) H locs ls (lv_sub hl [3, 4, 5, 6, 7, 8, 9, 1, 0] rfl) hI hfin
  rw [m_logic] at hfin
  refine lv_iload_n hx hb dM_logic_0 rfl (lv_at hl 1 rfl) ?_
  refine lv_iconst (v := (4 : Int32)) hx hb dM_logic_1 (by decide) ?_
  refine lv_idiv hx hb dM_logic_2 (by decide) ?_
  refine lv_bipush (v := (16 : Int32)) hx hb dM_logic_3 (by decide) ?_
  refine lv_irem hx hb dM_logic_5 (by decide) ?_
  refine lv_topi (fun x6 e6 => ?_)
  replace hfin := nm_at hfin e6
  refine lv_istore (lv' := [(4, .int x6), (0, .ref o), (1, .int a0), (2, .int a1), (3, .int a2)]) hx hb dM_logic_6 hl (by decide) rfl (fun ls hl => ?_)
  refine lv_aload_n hx hb dM_logic_8 rfl (lv_at hl 1 rfl) ?_
  refine lv_iload_n hx hb dM_logic_9 rfl (lv_at hl 2 rfl) ?_
  refine lv_iconst (v := (4 : Int32)) hx hb dM_logic_10 (by decide) ?_
  refine lv_irem hx hb dM_logic_11 (by decide) ?_
  refine lv_iload_n hx hb dM_logic_12 rfl (lv_at hl 4 rfl) ?_
  obtain ⟨z13, hz13, hfin⟩ := bd_ob hfin
  refine g_callMl [.int (a0 - a0 / (4 : Int32) * (4 : Int32)), .int a2] [] X hK m_rcv hI (ctm_source l D cA cB o q q1 q2 hne u (a0 - a0 / (4 : Int32) * (4 : Int32)) a2 z13 hz13) (cwM_M_source X.2.2.2.2 ⟨Nat.le_of_ble_eq_true rfl, Nat.le_of_ble_eq_true rfl⟩) rfl hl.1 rfl (Nat.le_of_ble_eq_true rfl) dM_logic_13 (fun H locs hI => ?_)
  refine lv_lstore (lv' := [(5, .long z13.1), (4, .int x6), (0, .ref o), (1, .int a0), (2, .int a1), (3, .int a2)]) hx hb dM_logic_16 hl (by decide) rfl (fun ls hl => ?_)
  refine lv_aload_n hx hb dM_logic_18 rfl (lv_at hl 2 rfl) ?_
  refine mg_store X hK hI.1 dM_logic_19 ?_
  refine lv_iload_n hx hb dM_logic_22 rfl (lv_at hl 4 rfl) ?_
  obtain ⟨hd23, hfin⟩ := ck_if hfin
  refine ml_store X hK hI.1 hd23 dM_logic_23 ?_
  refine lv_topl (fun x24 e24 => ?_)
  replace hfin := nm_at hfin e24
  refine lv_lstore (lv' := [(7, .long x24), (5, .long z13.1), (4, .int x6), (0, .ref o), (1, .int a0), (2, .int a1), (3, .int a2)]) hx hb dM_logic_24 hl (by decide) rfl (fun ls hl => ?_)
  refine lv_lconst (v := (0 : Int64)) hx hb dM_logic_26 (by decide) ?_
  refine lv_lstore (lv' := [(9, .long (0 : Int64)), (7, .long x24), (5, .long z13.1), (4, .int x6), (0, .ref o), (1, .int a0), (2, .int a1), (3, .int a2)]) hx hb dM_logic_27 hl (by decide) rfl (fun ls hl => ?_)
  refine lv_iconst (v := (0 : Int32)) hx hb dM_logic_29 (by decide) ?_
  refine lv_istore (lv' := [(11, .int (0 : Int32)), (9, .long (0 : Int64)), (7, .long x24), (5, .long z13.1), (4, .int x6), (0, .ref o), (1, .int a0), (2, .int a1), (3, .int a2)]) hx hb dM_logic_30 hl (by decide) rfl (fun ls hl => ?_)
  exact B_32 37 z13.2 x6 z13.1 x24 (0 : Int64) (0 : Int32) H locs ls (lv_sub hl [5, 6, 7, 8, 4, 3, 2, 1, 0] rfl) hI hfin
set_option maxHeartbeats 4000000 in
set_option maxRecDepth 100000 in
theorem ctm_place (l : Launch) (D : va_G) (cA cB : ClassId) (o q q1 q2 : Nat) (hne : va_nd [o, q, q1, q2] = true) (u : MS) (a0 : Int32) (a1 : Int32) (a2 : Int32) (a3 : Int64) (z : MS) (hfin : m_place u a0 a1 a2 a3 = some z) : gMv l yM_place wM_place (rmF 3 69) D [(cA, .long), (cB, .int)] (MW cA cB o q q1 q2) (MA o q q1 q2) [.ref o, .int a0, .int a1, .int a2, .long a3] u z := by
  refine g_start (plainFor_of_name (by decide)) (Nat.le_of_ble_eq_true rfl) ?_
  intro p e s0 m args below meth c ls X hr hlk hB hl
  obtain ⟨hP0, hK⟩ := hB
  have hI : gI D (MW cA cB o q q1 q2) (MA o q q1 q2) s0.heap s0.heap [] u := ⟨hP0, va_S.rf⟩
  have hl : lv_has ls 6 [(0, .ref o), (1, .int a0), (2, .int a1), (3, .int a2), (4, .long a3)] := hl
  have hx := X.1
  have hb := X.2.1
  rw [m_place] at hfin
  refine lv_iload_n hx hb dM_place_0 rfl (lv_at hl 1 rfl) ?_
  refine lv_iconst (v := (2 : Int32)) hx hb dM_place_1 (by decide) ?_
  refine lv_icmp_ge (tgt := 13) hx hb dM_place_2 (by decide) (fun hc2 => ?_) (fun hc2 => ?_)
  · rw [if_pos hc2] at hfin
    refine lv_aload_n hx hb dM_place_13 rfl (lv_at hl 0 rfl) ?_
    refine lv_iload_n hx hb dM_place_14 rfl (lv_at hl 3 rfl) ?_
    refine lv_lload hx hb dM_place_15 (lv_at hl 4 rfl) ?_
    obtain ⟨z17, hz17, hfin⟩ := bd_ob hfin
    refine g_callMv [.int a2, .long a3] [] X hK m_rcv hI (ctm_set l D cA cB o q q1 q2 hne u a2 a3 z17 hz17) (cwM_M_set X.2.2.2.2 ⟨Nat.le_of_ble_eq_true rfl, Nat.le_of_ble_eq_true rfl⟩) rfl hl.1 rfl (Nat.le_of_ble_eq_true rfl) dM_place_17 (fun H locs hI => ?_)
    refine lv_iload_n hx hb dM_place_20 rfl (lv_at hl 1 rfl) ?_
    refine lv_iconst (v := (3 : Int32)) hx hb dM_place_21 (by decide) ?_
    refine lv_icmp_ne (tgt := 36) hx hb dM_place_22 (by decide) (fun hc22 => ?_) (fun hc22 => ?_)
    · rw [if_neg hc22] at hfin
      exact g_vret X hr hlk hK hI hfin dM_place_36
    rw [if_pos hc22] at hfin
    refine lv_iload_n hx hb dM_place_25 rfl (lv_at hl 2 rfl) ?_
    refine lv_if_le (tgt := 36) hx hb dM_place_26 (by decide) (fun hc26 => ?_) (fun hc26 => ?_)
    · rw [if_pos hc26] at hfin
      exact g_vret X hr hlk hK hI hfin dM_place_36
    rw [if_neg hc26] at hfin
    refine lv_aload_n hx hb dM_place_29 rfl (lv_at hl 0 rfl) ?_
    refine lv_iload_n hx hb dM_place_30 rfl (lv_at hl 2 rfl) ?_
    refine lv_lload hx hb dM_place_31 (lv_at hl 4 rfl) ?_
    obtain ⟨z33, hz33, hfin⟩ := bd_ob hfin
    refine g_callMv [.int a1, .long a3] [] X hK m_rcv hI (ctm_setAc l D cA cB o q q1 q2 hne z17 a1 a3 z33 hz33) (cwM_M_setAc X.2.2.2.2 ⟨Nat.le_of_ble_eq_true rfl, Nat.le_of_ble_eq_true rfl⟩) rfl hl.1 rfl (Nat.le_of_ble_eq_true rfl) dM_place_33 (fun H locs hI => ?_)
    exact g_vret X hr hlk hK hI hfin dM_place_36
  rw [if_neg hc2] at hfin
  refine lv_aload_n hx hb dM_place_5 rfl (lv_at hl 0 rfl) ?_
  refine lv_iload_n hx hb dM_place_6 rfl (lv_at hl 2 rfl) ?_
  refine lv_lload hx hb dM_place_7 (lv_at hl 4 rfl) ?_
  obtain ⟨z9, hz9, hfin⟩ := bd_ob hfin
  refine g_callMv [.int a1, .long a3] [] X hK m_rcv hI (ctm_setAc l D cA cB o q q1 q2 hne u a1 a3 z9 hz9) (cwM_M_setAc X.2.2.2.2 ⟨Nat.le_of_ble_eq_true rfl, Nat.le_of_ble_eq_true rfl⟩) rfl hl.1 rfl (Nat.le_of_ble_eq_true rfl) dM_place_9 (fun H locs hI => ?_)
  exact g_vret X hr hlk hK hI hfin dM_place_12
set_option maxHeartbeats 4000000 in
set_option maxRecDepth 100000 in
theorem ctm_halves (l : Launch) (D : va_G) (cA cB : ClassId) (o q q1 q2 : Nat) (hne : va_nd [o, q, q1, q2] = true) (u : MS) (a0 : Int32) (a1 : Int32) (a2 : Int32) (z : MS) (hfin : m_halves u a0 a1 a2 = some z) : gMv l yM_halves wM_halves (rmF 4 94) D [(cA, .long), (cB, .int)] (MW cA cB o q q1 q2) (MA o q q1 q2) [.ref o, .int a0, .int a1, .int a2] u z := by
  refine g_start (plainFor_of_name (by decide)) (Nat.le_of_ble_eq_true rfl) ?_
  intro p e s0 m args below meth c ls X hr hlk hB hl
  obtain ⟨hP0, hK⟩ := hB
  have hI : gI D (MW cA cB o q q1 q2) (MA o q q1 q2) s0.heap s0.heap [] u := ⟨hP0, va_S.rf⟩
  have hl : lv_has ls 15 [(0, .ref o), (1, .int a0), (2, .int a1), (3, .int a2)] := hl
  have hx := X.1
  have hb := X.2.1
  have B_189 : ∀ (u : MS) (t1 : Int32) (t2 : Int32) (t3 : Int32) (t4 : Int64) (H : Heap) (locs : List Loc) (ls : Array Slot), lv_has ls 15 [(0, .ref o), (1, .int a0), (2, .int a1), (3, .int a2)] → gI D (MW cA cB o q q1 q2) (MA o q q1 q2) s0.heap H locs u → m_halves_189 a0 a1 a2 u t1 t2 t3 t4 = some z → W p l e (rmF 4 94) s0 m args below meth c H locs 0 0 (MQ below (va_Qv (fun x => x = z) (gB D [(cA, .long), (cB, .int)] (MW cA cB o q q1 q2)) (MA o q q1 q2)) args s0 0 0 (MA o q q1 q2)) (F0 m 189 ls [.long t4, .int t3, .int t2, .int t1, .ref o]) := by
    intro u t1 t2 t3 t4 H locs ls hl hI hfin
    rw [m_halves_189] at hfin
    obtain ⟨z189, hz189, hfin⟩ := bd_ob hfin
    refine g_callMv [.int t1, .int t2, .int t3, .long t4] [] X hK m_rcv hI (ctm_place l D cA cB o q q1 q2 hne u t1 t2 t3 t4 z189 hz189) (cwM_M_place X.2.2.2.2 ⟨Nat.le_of_ble_eq_true rfl, Nat.le_of_ble_eq_true rfl⟩) rfl hl.1 rfl (Nat.le_of_ble_eq_true rfl) dM_halves_189 (fun H locs hI => ?_)
    exact g_vret X hr hlk hK hI hfin dM_halves_192
  have B_160 : ∀ (u : MS) (v4 : Int32) (v7 : Int32) (v10 : Int32) (t0 : Int32) (H : Heap) (locs : List Loc) (ls : Array Slot), lv_has ls 15 [(0, .ref o), (1, .int a0), (2, .int a1), (3, .int a2), (4, .int v4), (7, .int v7), (10, .int v10)] → gI D (MW cA cB o q q1 q2) (MA o q q1 q2) s0.heap H locs u → m_halves_160 a0 a1 a2 u v4 v7 v10 t0 = some z → W p l e (rmF 4 94) s0 m args below meth c H locs 0 0 (MQ below (va_Qv (fun x => x = z) (gB D [(cA, .long), (cB, .int)] (MW cA cB o q q1 q2)) (MA o q q1 q2)) args s0 0 0 (MA o q q1 q2)) (F0 m 160 ls [.int t0]) := by
    intro u v4 v7 v10 t0 H locs ls hl hI hfin
    rw [m_halves_160] at hfin
    refine lv_istore (lv' := [(14, .int t0), (0, .ref o), (1, .int a0), (2, .int a1), (3, .int a2), (4, .int v4), (7, .int v7), (10, .int v10)]) hx hb dM_halves_160 hl (by decide) rfl (fun ls hl => ?_)
    refine lv_aload_n hx hb dM_halves_162 rfl (lv_at hl 1 rfl) ?_
    refine lv_iload hx hb dM_halves_163 (lv_at hl 5 rfl) ?_
    refine lv_iload_n hx hb dM_halves_165 rfl (lv_at hl 3 rfl) ?_
    refine lv_iload_n hx hb dM_halves_166 rfl (lv_at hl 4 rfl) ?_
    refine lv_iload hx hb dM_halves_167 (lv_at hl 6 rfl) ?_
    refine lv_if_ne (tgt := 182) hx hb dM_halves_169 (by decide) (fun hc169 => ?_) (fun hc169 => ?_)
    · rw [if_neg hc169] at hfin
      refine lv_iload hx hb dM_halves_182 (lv_at hl 0 rfl) ?_
      refine lv_iload hx hb dM_halves_184 (lv_at hl 7 rfl) ?_
      refine g_callPl [.int t0, .int v10] [.int a2, .int a1, .int v4, .ref o] X (ctm_joined l t0 v10) (cwM_M_joined X.2.2.2.2 ⟨Nat.le_of_ble_eq_true rfl, Nat.le_of_ble_eq_true rfl⟩) rfl hl.1 rfl (Nat.le_of_ble_eq_true rfl) dM_halves_186 ?_
      exact B_189 u v4 a1 a2 (m_joined t0 v10) H locs ls (lv_sub hl [1, 2, 3, 4] rfl) hI hfin
    rw [if_pos hc169] at hfin
    refine lv_iload hx hb dM_halves_172 (lv_at hl 7 rfl) ?_
    refine lv_iload hx hb dM_halves_174 (lv_at hl 0 rfl) ?_
    refine g_callPl [.int v10, .int t0] [.int a2, .int a1, .int v4, .ref o] X (ctm_joined l v10 t0) (cwM_M_joined X.2.2.2.2 ⟨Nat.le_of_ble_eq_true rfl, Nat.le_of_ble_eq_true rfl⟩) rfl hl.1 rfl (Nat.le_of_ble_eq_true rfl) dM_halves_176 ?_
    refine lv_goto (tgt := 189) hx hb dM_halves_179 (by decide) ?_
    exact B_189 u v4 a1 a2 (m_joined v10 t0) H locs ls (lv_sub hl [1, 2, 3, 4] rfl) hI hfin
  have B_114 : ∀ (u : MS) (v4 : Int32) (v6 : Int32) (v7 : Int32) (v10 : Int32) (t0 : Int32) (H : Heap) (locs : List Loc) (ls : Array Slot), lv_has ls 15 [(0, .ref o), (1, .int a0), (2, .int a1), (3, .int a2), (4, .int v4), (6, .int v6), (7, .int v7), (10, .int v10)] → gI D (MW cA cB o q q1 q2) (MA o q q1 q2) s0.heap H locs u → m_halves_114 a0 a1 a2 u v4 v6 v7 v10 t0 = some z → W p l e (rmF 4 94) s0 m args below meth c H locs 0 0 (MQ below (va_Qv (fun x => x = z) (gB D [(cA, .long), (cB, .int)] (MW cA cB o q q1 q2)) (MA o q q1 q2)) args s0 0 0 (MA o q q1 q2)) (F0 m 114 ls [.int t0]) := by
    intro u v4 v6 v7 v10 t0 H locs ls hl hI hfin
    rw [m_halves_114] at hfin
    refine lv_istore (lv' := [(13, .int t0), (0, .ref o), (1, .int a0), (2, .int a1), (3, .int a2), (4, .int v4), (6, .int v6), (7, .int v7), (10, .int v10)]) hx hb dM_halves_114 hl (by decide) rfl (fun ls hl => ?_)
    refine lv_iload hx hb dM_halves_116 (lv_at hl 6 rfl) ?_
    refine lv_if_ne (tgt := 126) hx hb dM_halves_118 (by decide) (fun hc118 => ?_) (fun hc118 => ?_)
    · rw [if_neg hc118] at hfin
      refine lv_iload hx hb dM_halves_126 (lv_at hl 6 rfl) ?_
      refine lv_iconst (v := (1 : Int32)) hx hb dM_halves_128 (by decide) ?_
      refine lv_icmp_ne (tgt := 136) hx hb dM_halves_129 (by decide) (fun hc129 => ?_) (fun hc129 => ?_)
      · rw [if_neg hc129] at hfin
        refine lv_iload hx hb dM_halves_136 (lv_at hl 6 rfl) ?_
        refine lv_iconst (v := (2 : Int32)) hx hb dM_halves_138 (by decide) ?_
        refine lv_icmp_ne (tgt := 147) hx hb dM_halves_139 (by decide) (fun hc139 => ?_) (fun hc139 => ?_)
        · rw [if_neg hc139] at hfin
          refine lv_iload hx hb dM_halves_147 (lv_at hl 8 rfl) ?_
          refine lv_ldc hx hb X.2.2.2.1 (X.2.2.2.2 _ hkM_165) dM_halves_149 ?_
          refine lv_icmp_le (tgt := 159) hx hb dM_halves_151 (by decide) (fun hc151 => ?_) (fun hc151 => ?_)
          · rw [if_pos hc151] at hfin
            refine lv_iconst (v := (0 : Int32)) hx hb dM_halves_159 (by decide) ?_
            exact B_160 u v4 v7 v10 (0 : Int32) H locs ls (lv_sub hl [1, 2, 3, 4, 5, 7, 8] rfl) hI hfin
          rw [if_neg hc151] at hfin
          refine lv_ldc hx hb X.2.2.2.1 (X.2.2.2.2 _ hkM_26) dM_halves_154 ?_
          refine lv_goto (tgt := 160) hx hb dM_halves_156 (by decide) ?_
          exact B_160 u v4 v7 v10 (262143 : Int32) H locs ls (lv_sub hl [1, 2, 3, 4, 5, 7, 8] rfl) hI hfin
        rw [if_pos hc139] at hfin
        refine lv_ldc hx hb X.2.2.2.1 (X.2.2.2.2 _ hkM_26) dM_halves_142 ?_
        refine lv_goto (tgt := 160) hx hb dM_halves_144 (by decide) ?_
        exact B_160 u v4 v7 v10 (262143 : Int32) H locs ls (lv_sub hl [1, 2, 3, 4, 5, 7, 8] rfl) hI hfin
      rw [if_pos hc129] at hfin
      refine lv_iconst (v := (0 : Int32)) hx hb dM_halves_132 (by decide) ?_
      refine lv_goto (tgt := 160) hx hb dM_halves_133 (by decide) ?_
      exact B_160 u v4 v7 v10 (0 : Int32) H locs ls (lv_sub hl [1, 2, 3, 4, 5, 7, 8] rfl) hI hfin
    rw [if_pos hc118] at hfin
    refine lv_iload hx hb dM_halves_121 (lv_at hl 0 rfl) ?_
    refine lv_goto (tgt := 160) hx hb dM_halves_123 (by decide) ?_
    exact B_160 u v4 v7 v10 t0 H locs ls (lv_sub hl [1, 2, 3, 4, 5, 7, 8] rfl) hI hfin
  have B_94 : ∀ (u : MS) (v4 : Int32) (v6 : Int32) (v7 : Int32) (v10 : Int32) (t0 : Int64) (H : Heap) (locs : List Loc) (ls : Array Slot), lv_has ls 15 [(0, .ref o), (1, .int a0), (2, .int a1), (3, .int a2), (4, .int v4), (6, .int v6), (7, .int v7), (10, .int v10)] → gI D (MW cA cB o q q1 q2) (MA o q q1 q2) s0.heap H locs u → m_halves_94 a0 a1 a2 u v4 v6 v7 v10 t0 = some z → W p l e (rmF 4 94) s0 m args below meth c H locs 0 0 (MQ below (va_Qv (fun x => x = z) (gB D [(cA, .long), (cB, .int)] (MW cA cB o q q1 q2)) (MA o q q1 q2)) args s0 0 0 (MA o q q1 q2)) (F0 m 94 ls [.long t0]) := by
    intro u v4 v6 v7 v10 t0 H locs ls hl hI hfin
    rw [m_halves_94] at hfin
    refine lv_lstore (lv' := [(11, .long t0), (0, .ref o), (1, .int a0), (2, .int a1), (3, .int a2), (4, .int v4), (6, .int v6), (7, .int v7), (10, .int v10)]) hx hb dM_halves_94 hl (by decide) rfl (fun ls hl => ?_)
    refine lv_iload hx hb dM_halves_96 (lv_at hl 7 rfl) ?_
    refine lv_if_ne (tgt := 109) hx hb dM_halves_98 (by decide) (fun hc98 => ?_) (fun hc98 => ?_)
    · rw [if_neg hc98] at hfin
      refine lv_lload hx hb dM_halves_109 (lv_at hl 0 rfl) ?_
      refine g_callPi [.long t0] [] X (ctm_left l t0) (cwM_M_left X.2.2.2.2 ⟨Nat.le_of_ble_eq_true rfl, Nat.le_of_ble_eq_true rfl⟩) rfl hl.1 rfl (Nat.le_of_ble_eq_true rfl) dM_halves_111 ?_
      exact B_114 u v4 v6 v7 v10 (m_left t0) H locs ls (lv_sub hl [1, 2, 3, 4, 5, 6, 7, 8] rfl) hI hfin
    rw [if_pos hc98] at hfin
    refine lv_lload hx hb dM_halves_101 (lv_at hl 0 rfl) ?_
    refine g_callPi [.long t0] [] X (ctm_right l t0) (cwM_M_right X.2.2.2.2 ⟨Nat.le_of_ble_eq_true rfl, Nat.le_of_ble_eq_true rfl⟩) rfl hl.1 rfl (Nat.le_of_ble_eq_true rfl) dM_halves_103 ?_
    refine lv_goto (tgt := 114) hx hb dM_halves_106 (by decide) ?_
    exact B_114 u v4 v6 v7 v10 (m_right t0) H locs ls (lv_sub hl [1, 2, 3, 4, 5, 6, 7, 8] rfl) hI hfin
  have B_72 : ∀ (u : MS) (v4 : Int32) (v6 : Int32) (v7 : Int32) (t0 : Int32) (H : Heap) (locs : List Loc) (ls : Array Slot), lv_has ls 15 [(0, .ref o), (1, .int a0), (2, .int a1), (3, .int a2), (4, .int v4), (6, .int v6), (7, .int v7)] → gI D (MW cA cB o q q1 q2) (MA o q q1 q2) s0.heap H locs u → m_halves_72 a0 a1 a2 u v4 v6 v7 t0 = some z → W p l e (rmF 4 94) s0 m args below meth c H locs 0 0 (MQ below (va_Qv (fun x => x = z) (gB D [(cA, .long), (cB, .int)] (MW cA cB o q q1 q2)) (MA o q q1 q2)) args s0 0 0 (MA o q q1 q2)) (F0 m 72 ls [.int t0]) := by
    intro u v4 v6 v7 t0 H locs ls hl hI hfin
    rw [m_halves_72] at hfin
    refine lv_istore (lv' := [(10, .int t0), (0, .ref o), (1, .int a0), (2, .int a1), (3, .int a2), (4, .int v4), (6, .int v6), (7, .int v7)]) hx hb dM_halves_72 hl (by decide) rfl (fun ls hl => ?_)
    refine lv_iload hx hb dM_halves_74 (lv_at hl 5 rfl) ?_
    refine lv_iconst (v := (2 : Int32)) hx hb dM_halves_76 (by decide) ?_
    refine lv_icmp_ge (tgt := 89) hx hb dM_halves_77 (by decide) (fun hc77 => ?_) (fun hc77 => ?_)
    · rw [if_pos hc77] at hfin
      refine lv_aload_n hx hb dM_halves_89 rfl (lv_at hl 1 rfl) ?_
      refine lv_iload_n hx hb dM_halves_90 rfl (lv_at hl 4 rfl) ?_
      obtain ⟨z91, hz91, hfin⟩ := bd_ob hfin
      refine g_callMl [.int a2] [] X hK m_rcv hI (ctm_get l D cA cB o q q1 q2 hne u a2 z91 hz91) (cwM_M_get X.2.2.2.2 ⟨Nat.le_of_ble_eq_true rfl, Nat.le_of_ble_eq_true rfl⟩) rfl hl.1 rfl (Nat.le_of_ble_eq_true rfl) dM_halves_91 (fun H locs hI => ?_)
      exact B_94 z91.2 v4 v6 v7 t0 z91.1 H locs ls (lv_sub hl [1, 2, 3, 4, 5, 6, 7, 0] rfl) hI hfin
    rw [if_neg hc77] at hfin
    refine lv_aload_n hx hb dM_halves_80 rfl (lv_at hl 1 rfl) ?_
    refine mg_store X hK hI.1 dM_halves_81 ?_
    refine lv_iload_n hx hb dM_halves_84 rfl (lv_at hl 3 rfl) ?_
    obtain ⟨hd85, hfin⟩ := ck_if hfin
    refine ml_store X hK hI.1 hd85 dM_halves_85 ?_
    refine lv_goto (tgt := 94) hx hb dM_halves_86 (by decide) ?_
    exact B_94 u v4 v6 v7 t0 (M_store u a1.toNatClampNeg) H locs ls (lv_sub hl [1, 2, 3, 4, 5, 6, 7, 0] rfl) hI hfin
  have B_50 : ∀ (u : MS) (v4 : Int32) (v5 : Int32) (v6 : Int32) (v7 : Int32) (t0 : Int64) (H : Heap) (locs : List Loc) (ls : Array Slot), lv_has ls 15 [(0, .ref o), (1, .int a0), (2, .int a1), (3, .int a2), (4, .int v4), (5, .int v5), (6, .int v6), (7, .int v7)] → gI D (MW cA cB o q q1 q2) (MA o q q1 q2) s0.heap H locs u → m_halves_50 a0 a1 a2 u v4 v5 v6 v7 t0 = some z → W p l e (rmF 4 94) s0 m args below meth c H locs 0 0 (MQ below (va_Qv (fun x => x = z) (gB D [(cA, .long), (cB, .int)] (MW cA cB o q q1 q2)) (MA o q q1 q2)) args s0 0 0 (MA o q q1 q2)) (F0 m 50 ls [.long t0]) := by
    intro u v4 v5 v6 v7 t0 H locs ls hl hI hfin
    rw [m_halves_50] at hfin
    refine lv_lstore (lv' := [(8, .long t0), (0, .ref o), (1, .int a0), (2, .int a1), (3, .int a2), (4, .int v4), (5, .int v5), (6, .int v6), (7, .int v7)]) hx hb dM_halves_50 hl (by decide) rfl (fun ls hl => ?_)
    refine lv_iload hx hb dM_halves_52 (lv_at hl 8 rfl) ?_
    refine lv_iload hx hb dM_halves_54 (lv_at hl 6 rfl) ?_
    refine lv_icmp_ne (tgt := 67) hx hb dM_halves_56 (by decide) (fun hc56 => ?_) (fun hc56 => ?_)
    · rw [if_neg hc56] at hfin
      refine lv_lload hx hb dM_halves_67 (lv_at hl 0 rfl) ?_
      refine g_callPi [.long t0] [] X (ctm_right l t0) (cwM_M_right X.2.2.2.2 ⟨Nat.le_of_ble_eq_true rfl, Nat.le_of_ble_eq_true rfl⟩) rfl hl.1 rfl (Nat.le_of_ble_eq_true rfl) dM_halves_69 ?_
      exact B_72 u v4 v6 v7 (m_right t0) H locs ls (lv_sub hl [1, 2, 3, 4, 5, 7, 8] rfl) hI hfin
    rw [if_pos hc56] at hfin
    refine lv_lload hx hb dM_halves_59 (lv_at hl 0 rfl) ?_
    refine g_callPi [.long t0] [] X (ctm_left l t0) (cwM_M_left X.2.2.2.2 ⟨Nat.le_of_ble_eq_true rfl, Nat.le_of_ble_eq_true rfl⟩) rfl hl.1 rfl (Nat.le_of_ble_eq_true rfl) dM_halves_61 ?_
    refine lv_goto (tgt := 72) hx hb dM_halves_64 (by decide) ?_
    exact B_72 u v4 v6 v7 (m_left t0) H locs ls (lv_sub hl [1, 2, 3, 4, 5, 7, 8] rfl) hI hfin
  rw [m_halves] at hfin
  refine lv_iload_n hx hb dM_halves_0 rfl (lv_at hl 1 rfl) ?_
  refine lv_iconst (v := (4 : Int32)) hx hb dM_halves_1 (by decide) ?_
  refine lv_irem hx hb dM_halves_2 (by decide) ?_
  refine lv_topi (fun x3 e3 => ?_)
  replace hfin := nm_at hfin e3
  refine lv_istore (lv' := [(4, .int x3), (0, .ref o), (1, .int a0), (2, .int a1), (3, .int a2)]) hx hb dM_halves_3 hl (by decide) rfl (fun ls hl => ?_)
  refine lv_iload_n hx hb dM_halves_5 rfl (lv_at hl 2 rfl) ?_
  refine lv_iconst (v := (4 : Int32)) hx hb dM_halves_6 (by decide) ?_
  refine lv_idiv hx hb dM_halves_7 (by decide) ?_
  refine lv_iconst (v := (2 : Int32)) hx hb dM_halves_8 (by decide) ?_
  refine lv_irem hx hb dM_halves_9 (by decide) ?_
  refine lv_topi (fun x10 e10 => ?_)
  replace hfin := nm_at hfin e10
  refine lv_istore (lv' := [(5, .int x10), (4, .int x3), (0, .ref o), (1, .int a0), (2, .int a1), (3, .int a2)]) hx hb dM_halves_10 hl (by decide) rfl (fun ls hl => ?_)
  refine lv_iload_n hx hb dM_halves_12 rfl (lv_at hl 3 rfl) ?_
  refine lv_bipush (v := (8 : Int32)) hx hb dM_halves_13 (by decide) ?_
  refine lv_idiv hx hb dM_halves_15 (by decide) ?_
  refine lv_iconst (v := (4 : Int32)) hx hb dM_halves_16 (by decide) ?_
  refine lv_irem hx hb dM_halves_17 (by decide) ?_
  refine lv_topi (fun x18 e18 => ?_)
  replace hfin := nm_at hfin e18
  refine lv_istore (lv' := [(6, .int x18), (5, .int x10), (4, .int x3), (0, .ref o), (1, .int a0), (2, .int a1), (3, .int a2)]) hx hb dM_halves_18 hl (by decide) rfl (fun ls hl => ?_)
  refine lv_iload_n hx hb dM_halves_20 rfl (lv_at hl 4 rfl) ?_
  refine lv_bipush (v := (32 : Int32)) hx hb dM_halves_21 (by decide) ?_
  refine lv_idiv hx hb dM_halves_23 (by decide) ?_
  refine lv_iconst (v := (2 : Int32)) hx hb dM_halves_24 (by decide) ?_
  refine lv_irem hx hb dM_halves_25 (by decide) ?_
  refine lv_topi (fun x26 e26 => ?_)
  replace hfin := nm_at hfin e26
  refine lv_istore (lv' := [(7, .int x26), (6, .int x18), (5, .int x10), (4, .int x3), (0, .ref o), (1, .int a0), (2, .int a1), (3, .int a2)]) hx hb dM_halves_26 hl (by decide) rfl (fun ls hl => ?_)
  refine lv_iload hx hb dM_halves_28 (lv_at hl 3 rfl) ?_
  refine lv_iconst (v := (2 : Int32)) hx hb dM_halves_30 (by decide) ?_
  refine lv_icmp_ne (tgt := 43) hx hb dM_halves_31 (by decide) (fun hc31 => ?_) (fun hc31 => ?_)
  · rw [if_neg hc31] at hfin
    refine lv_aload_n hx hb dM_halves_43 rfl (lv_at hl 4 rfl) ?_
    refine lv_iload hx hb dM_halves_44 (lv_at hl 3 rfl) ?_
    refine lv_iload_n hx hb dM_halves_46 rfl (lv_at hl 7 rfl) ?_
    obtain ⟨z47, hz47, hfin⟩ := bd_ob hfin
    refine g_callMl [.int x3, .int a2] [] X hK m_rcv hI (ctm_source l D cA cB o q q1 q2 hne u x3 a2 z47 hz47) (cwM_M_source X.2.2.2.2 ⟨Nat.le_of_ble_eq_true rfl, Nat.le_of_ble_eq_true rfl⟩) rfl hl.1 rfl (Nat.le_of_ble_eq_true rfl) dM_halves_47 (fun H locs hI => ?_)
    exact B_50 z47.2 x3 x10 x18 x26 z47.1 H locs ls (lv_sub hl [4, 5, 6, 7, 3, 2, 1, 0] rfl) hI hfin
  rw [if_pos hc31] at hfin
  refine lv_aload_n hx hb dM_halves_34 rfl (lv_at hl 4 rfl) ?_
  refine mg_store X hK hI.1 dM_halves_35 ?_
  refine lv_iload_n hx hb dM_halves_38 rfl (lv_at hl 6 rfl) ?_
  obtain ⟨hd39, hfin⟩ := ck_if hfin
  refine ml_store X hK hI.1 hd39 dM_halves_39 ?_
  refine lv_goto (tgt := 50) hx hb dM_halves_40 (by decide) ?_
  exact B_50 u x3 x10 x18 x26 (M_store u a1.toNatClampNeg) s0.heap [] ls (lv_sub hl [4, 5, 6, 7, 3, 2, 1, 0] rfl) hI hfin
