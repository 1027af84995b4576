set_option maxHeartbeats 4000000 in
set_option maxRecDepth 100000 in
theorem ctm_test (l : Launch) (D : va_G) (cA cB : ClassId) (o q q1 q2 : Nat) (hne : va_nd [o, q, q1, q2] = true) (u : MS) (a0 : Int32) (a1 : Int32) (a2 : Int32) (z : MS) (hfin : m_test u a0 a1 a2 = some z) : gMv l yM_test wM_test (rmF 3 67) D [(cA, .long), (cB, .int)] (MW cA cB o q q1 q2) (MA o q q1 q2) [.ref o, .int a0, .int a1, .int a2] u z := by
  refine g_start (plainFor_of_name (by decide)) (Nat.le_of_ble_eq_true rfl) ?_
  intro p e s0 m args below meth c ls X hr hlk hB hl
  obtain ⟨hP0, hK⟩ := hB
  have hI : gI D (MW cA cB o q q1 q2) (MA o q q1 q2) s0.heap s0.heap [] u := ⟨hP0, va_S.rf⟩
  have hl : lv_has ls 17 [(0, .ref o), (1, .int a0), (2, .int a1), (3, .int a2)] := hl
  have hx := X.1
  have hb := X.2.1
  have B_252 : ∀ (u : MS) (v13 : Int64) (t1 : Int32) (H : Heap) (locs : List Loc) (ls : Array Slot), lv_has ls 17 [(0, .ref o), (1, .int a0), (2, .int a1), (3, .int a2), (13, .long v13)] → gI D (MW cA cB o q q1 q2) (MA o q q1 q2) s0.heap H locs u → m_test_252 a0 a1 a2 u v13 t1 = some z → W p l e (rmF 3 67) s0 m args below meth c H locs 0 0 (MQ below (va_Qv (fun x => x = z) (gB D [(cA, .long), (cB, .int)] (MW cA cB o q q1 q2)) (MA o q q1 q2)) args s0 0 0 (MA o q q1 q2)) (F0 m 252 ls [.int t1, .ref o]) := by
    intro u v13 t1 H locs ls hl hI hfin
    rw [m_test_252] at hfin
    obtain ⟨z252, hz252, hfin⟩ := bd_ob hfin
    refine g_callMv [.int t1] [] X hK m_rcv hI (ctm_skipIf l D cA cB o q q1 q2 hne u t1 z252 hz252) (cwM_M_skipIf X.2.2.2.2 ⟨Nat.le_of_ble_eq_true rfl, Nat.le_of_ble_eq_true rfl⟩) rfl hl.1 rfl (Nat.le_of_ble_eq_true rfl) dM_test_252 (fun H locs hI => ?_)
    refine lv_aload_n hx hb dM_test_255 rfl (lv_at hl 0 rfl) ?_
    refine lv_iload_n hx hb dM_test_256 rfl (lv_at hl 2 rfl) ?_
    refine lv_lload hx hb dM_test_257 (lv_at hl 4 rfl) ?_
    obtain ⟨z259, hz259, hfin⟩ := bd_ob hfin
    refine g_callMv [.int a1, .long v13] [] X hK m_rcv hI (ctm_setAc l D cA cB o q q1 q2 hne z252 a1 v13 z259 hz259) (cwM_M_setAc X.2.2.2.2 ⟨Nat.le_of_ble_eq_true rfl, Nat.le_of_ble_eq_true rfl⟩) rfl hl.1 rfl (Nat.le_of_ble_eq_true rfl) dM_test_259 (fun H locs hI => ?_)
    exact g_vret X hr hlk hK hI hfin dM_test_262
  have B_247 : ∀ (u : MS) (v13 : Int64) (H : Heap) (locs : List Loc) (ls : Array Slot), lv_has ls 17 [(0, .ref o), (1, .int a0), (2, .int a1), (3, .int a2), (13, .long v13)] → gI D (MW cA cB o q q1 q2) (MA o q q1 q2) s0.heap H locs u → m_test_247 a0 a1 a2 u v13 = some z → W p l e (rmF 3 67) s0 m args below meth c H locs 0 0 (MQ below (va_Qv (fun x => x = z) (gB D [(cA, .long), (cB, .int)] (MW cA cB o q q1 q2)) (MA o q q1 q2)) args s0 0 0 (MA o q q1 q2)) (F0 m 247 ls [.ref o]) := by
    intro u v13 H locs ls hl hI hfin
    rw [m_test_247] at hfin
    refine lv_iconst (v := (1 : Int32)) hx hb dM_test_247 (by decide) ?_
    refine lv_goto (tgt := 252) hx hb dM_test_248 (by decide) ?_
    exact B_252 u v13 (1 : Int32) H locs ls (lv_sub hl [0, 1, 2, 3, 4] rfl) hI hfin
  have B_251 : ∀ (u : MS) (v13 : Int64) (H : Heap) (locs : List Loc) (ls : Array Slot), lv_has ls 17 [(0, .ref o), (1, .int a0), (2, .int a1), (3, .int a2), (13, .long v13)] → gI D (MW cA cB o q q1 q2) (MA o q q1 q2) s0.heap H locs u → m_test_251 a0 a1 a2 u v13 = some z → W p l e (rmF 3 67) s0 m args below meth c H locs 0 0 (MQ below (va_Qv (fun x => x = z) (gB D [(cA, .long), (cB, .int)] (MW cA cB o q q1 q2)) (MA o q q1 q2)) args s0 0 0 (MA o q q1 q2)) (F0 m 251 ls [.ref o]) := by
    intro u v13 H locs ls hl hI hfin
    rw [m_test_251] at hfin
    refine lv_iconst (v := (0 : Int32)) hx hb dM_test_251 (by decide) ?_
    exact B_252 u v13 (0 : Int32) H locs ls (lv_sub hl [0, 1, 2, 3, 4] rfl) hI hfin
  have B_236 : ∀ (u : MS) (v10 : Int32) (v12 : Int32) (v13 : Int64) (H : Heap) (locs : List Loc) (ls : Array Slot), lv_has ls 17 [(0, .ref o), (1, .int a0), (2, .int a1), (3, .int a2), (10, .int v10), (12, .int v12), (13, .long v13)] → gI D (MW cA cB o q q1 q2) (MA o q q1 q2) s0.heap H locs u → m_test_236 a0 a1 a2 u v10 v12 v13 = some z → W p l e (rmF 3 67) s0 m args below meth c H locs 0 0 (MQ below (va_Qv (fun x => x = z) (gB D [(cA, .long), (cB, .int)] (MW cA cB o q q1 q2)) (MA o q q1 q2)) args s0 0 0 (MA o q q1 q2)) (F0 m 236 ls [.ref o]) := by
    intro u v10 v12 v13 H locs ls hl hI hfin
    rw [m_test_236] at hfin
    refine lv_iload hx hb dM_test_236 (lv_at hl 4 rfl) ?_
    refine lv_iconst (v := (3 : Int32)) hx hb dM_test_238 (by decide) ?_
    refine lv_icmp_ne (tgt := 251) hx hb dM_test_239 (by decide) (fun hc239 => ?_) (fun hc239 => ?_)
    · rw [if_neg hc239] at hfin
      exact B_251 u v13 H locs ls (lv_sub hl [0, 1, 2, 3, 6] rfl) hI hfin
    rw [if_pos hc239] at hfin
    refine lv_iload hx hb dM_test_242 (lv_at hl 5 rfl) ?_
    refine lv_if_eq (tgt := 251) hx hb dM_test_244 (by decide) (fun hc244 => ?_) (fun hc244 => ?_)
    · rw [if_pos hc244] at hfin
      exact B_251 u v13 H locs ls (lv_sub hl [0, 1, 2, 3, 6] rfl) hI hfin
    rw [if_neg hc244] at hfin
    exact B_247 u v13 H locs ls (lv_sub hl [0, 1, 2, 3, 6] rfl) hI hfin
  have B_212 : ∀ (kl : MS → Int64 → Int64 → Int32 → Int32 → Int32 → Int64 → Int32 → Option MS), (∀ (u : MS) (v6 : Int64) (v8 : Int64) (v10 : Int32) (v11 : Int32) (v12 : Int32) (v13 : Int64) (v15 : Int32) (H : Heap) (locs : List Loc) (ls : Array Slot), lv_has ls 17 [(0, .ref o), (1, .int a0), (2, .int a1), (3, .int a2), (6, .long v6), (8, .long v8), (10, .int v10), (11, .int v11), (12, .int v12), (13, .long v13), (15, .int v15)] → gI D (MW cA cB o q q1 q2) (MA o q q1 q2) s0.heap H locs u → kl u v6 v8 v10 v11 v12 v13 v15 = some z → W p l e (rmF 3 67) s0 m args below meth c H locs 0 0 (MQ below (va_Qv (fun x => x = z) (gB D [(cA, .long), (cB, .int)] (MW cA cB o q q1 q2)) (MA o q q1 q2)) args s0 0 0 (MA o q q1 q2)) (F0 m 82 ls [])) → ∀ (u : MS) (v6 : Int64) (v8 : Int64) (v10 : Int32) (v11 : Int32) (v12 : Int32) (v13 : Int64) (v15 : Int32) (H : Heap) (locs : List Loc) (ls : Array Slot), lv_has ls 17 [(0, .ref o), (1, .int a0), (2, .int a1), (3, .int a2), (6, .long v6), (8, .long v8), (10, .int v10), (11, .int v11), (12, .int v12), (13, .long v13), (15, .int v15)] → gI D (MW cA cB o q q1 q2) (MA o q q1 q2) s0.heap H locs u → m_test_212 kl a0 a1 a2 u v6 v8 v10 v11 v12 v13 v15 = some z → W p l e (rmF 3 67) s0 m args below meth c H locs 0 0 (MQ below (va_Qv (fun x => x = z) (gB D [(cA, .long), (cB, .int)] (MW cA cB o q q1 q2)) (MA o q q1 q2)) args s0 0 0 (MA o q q1 q2)) (F0 m 212 ls []) := by
    intro kl IH u v6 v8 v10 v11 v12 v13 v15 H locs ls hl hI hfin
    rw [m_test_212] at hfin
    refine lv_iinc (lv' := [(15, .int (v15 + Int32.ofInt 1)), (0, .ref o), (1, .int a0), (2, .int a1), (3, .int a2), (6, .long v6), (8, .long v8), (10, .int v10), (11, .int v11), (12, .int v12), (13, .long v13)]) (k := 10) hx hb dM_test_212 hl rfl rfl (by decide) rfl (fun ls hl => ?_)
    refine lv_goto (tgt := 82) hx hb dM_test_215 (by decide) ?_
    exact IH u v6 v8 v10 v11 v12 v13 (v15 + Int32.ofInt 1) H locs ls (lv_sub hl [1, 2, 3, 4, 5, 6, 7, 8, 9, 10, 0] rfl) hI hfin
  have B_210 : ∀ (kl : MS → Int64 → Int64 → Int32 → Int32 → Int32 → Int64 → Int32 → Option MS), (∀ (u : MS) (v6 : Int64) (v8 : Int64) (v10 : Int32) (v11 : Int32) (v12 : Int32) (v13 : Int64) (v15 : Int32) (H : Heap) (locs : List Loc) (ls : Array Slot), lv_has ls 17 [(0, .ref o), (1, .int a0), (2, .int a1), (3, .int a2), (6, .long v6), (8, .long v8), (10, .int v10), (11, .int v11), (12, .int v12), (13, .long v13), (15, .int v15)] → gI D (MW cA cB o q q1 q2) (MA o q q1 q2) s0.heap H locs u → kl u v6 v8 v10 v11 v12 v13 v15 = some z → W p l e (rmF 3 67) s0 m args below meth c H locs 0 0 (MQ below (va_Qv (fun x => x = z) (gB D [(cA, .long), (cB, .int)] (MW cA cB o q q1 q2)) (MA o q q1 q2)) args s0 0 0 (MA o q q1 q2)) (F0 m 82 ls [])) → ∀ (u : MS) (v6 : Int64) (v8 : Int64) (v10 : Int32) (v11 : Int32) (v12 : Int32) (v15 : Int32) (t0 : Int64) (H : Heap) (locs : List Loc) (ls : Array Slot), lv_has ls 17 [(0, .ref o), (1, .int a0), (2, .int a1), (3, .int a2), (6, .long v6), (8, .long v8), (10, .int v10), (11, .int v11), (12, .int v12), (15, .int v15)] → gI D (MW cA cB o q q1 q2) (MA o q q1 q2) s0.heap H locs u → m_test_210 kl a0 a1 a2 u v6 v8 v10 v11 v12 v15 t0 = some z → W p l e (rmF 3 67) s0 m args below meth c H locs 0 0 (MQ below (va_Qv (fun x => x = z) (gB D [(cA, .long), (cB, .int)] (MW cA cB o q q1 q2)) (MA o q q1 q2)) args s0 0 0 (MA o q q1 q2)) (F0 m 210 ls [.long t0]) := by
    intro kl IH u v6 v8 v10 v11 v12 v15 t0 H locs ls hl hI hfin
    rw [m_test_210] at hfin
    refine lv_lstore (lv' := [(13, .long t0), (0, .ref o), (1, .int a0), (2, .int a1), (3, .int a2), (6, .long v6), (8, .long v8), (10, .int v10), (11, .int v11), (12, .int v12), (15, .int v15)]) hx hb dM_test_210 hl (by decide) rfl (fun ls hl => ?_)
    exact B_212 kl IH u v6 v8 v10 v11 v12 t0 v15 H locs ls (lv_sub hl [1, 2, 3, 4, 5, 6, 7, 8, 9, 0, 10] rfl) hI hfin
  have B_182 : ∀ (kl : MS → Int64 → Int64 → Int32 → Int32 → Int32 → Int64 → Int32 → Option MS), (∀ (u : MS) (v6 : Int64) (v8 : Int64) (v10 : Int32) (v11 : Int32) (v12 : Int32) (v13 : Int64) (v15 : Int32) (H : Heap) (locs : List Loc) (ls : Array Slot), lv_has ls 17 [(0, .ref o), (1, .int a0), (2, .int a1), (3, .int a2), (6, .long v6), (8, .long v8), (10, .int v10), (11, .int v11), (12, .int v12), (13, .long v13), (15, .int v15)] → gI D (MW cA cB o q q1 q2) (MA o q q1 q2) s0.heap H locs u → kl u v6 v8 v10 v11 v12 v13 v15 = some z → W p l e (rmF 3 67) s0 m args below meth c H locs 0 0 (MQ below (va_Qv (fun x => x = z) (gB D [(cA, .long), (cB, .int)] (MW cA cB o q q1 q2)) (MA o q q1 q2)) args s0 0 0 (MA o q q1 q2)) (F0 m 82 ls [])) → ∀ (u : MS) (v6 : Int64) (v8 : Int64) (v10 : Int32) (v11 : Int32) (v12 : Int32) (v13 : Int64) (v15 : Int32) (t0 : Int32) (H : Heap) (locs : List Loc) (ls : Array Slot), lv_has ls 17 [(0, .ref o), (1, .int a0), (2, .int a1), (3, .int a2), (6, .long v6), (8, .long v8), (10, .int v10), (11, .int v11), (12, .int v12), (13, .long v13), (15, .int v15)] → gI D (MW cA cB o q q1 q2) (MA o q q1 q2) s0.heap H locs u → m_test_182 kl a0 a1 a2 u v6 v8 v10 v11 v12 v13 v15 t0 = some z → W p l e (rmF 3 67) s0 m args below meth c H locs 0 0 (MQ below (va_Qv (fun x => x = z) (gB D [(cA, .long), (cB, .int)] (MW cA cB o q q1 q2)) (MA o q q1 q2)) args s0 0 0 (MA o q q1 q2)) (F0 m 182 ls [.int t0]) := by
    intro kl IH u v6 v8 v10 v11 v12 v13 v15 t0 H locs ls hl hI hfin
    rw [m_test_182] at hfin
    refine lv_istore (lv' := [(16, .int t0), (0, .ref o), (1, .int a0), (2, .int a1), (3, .int a2), (6, .long v6), (8, .long v8), (10, .int v10), (11, .int v11), (12, .int v12), (13, .long v13), (15, .int v15)]) hx hb dM_test_182 hl (by decide) rfl (fun ls hl => ?_)
    refine lv_iload hx hb dM_test_184 (lv_at hl 0 rfl) ?_
    refine lv_if_eq (tgt := 199) hx hb dM_test_186 (by decide) (fun hc186 => ?_) (fun hc186 => ?_)
    · rw [if_pos hc186] at hfin
      refine lv_lload hx hb dM_test_199 (lv_at hl 10 rfl) ?_
      refine lv_lconst (v := (1 : Int64)) hx hb dM_test_201 (by decide) ?_
      refine lv_iload hx hb dM_test_202 (lv_at hl 11 rfl) ?_
      refine lv_lshl hx hb dM_test_204 rfl ?_
      refine lv_ldc2 hx hb X.2.2.2.1 (X.2.2.2.2 _ hkM_150) dM_test_205 ?_
      refine lv_lxor hx hb dM_test_208 ?_
      refine lv_land hx hb dM_test_209 ?_
      exact B_210 kl IH u v6 v8 v10 v11 v12 v15 (v13 &&& (((1 : Int64) <<< (v15.toInt64 &&& 63)) ^^^ (-1 : Int64))) H locs ls (lv_sub hl [1, 2, 3, 4, 5, 6, 7, 8, 9, 11] rfl) hI hfin
    rw [if_neg hc186] at hfin
    refine lv_lload hx hb dM_test_189 (lv_at hl 10 rfl) ?_
    refine lv_lconst (v := (1 : Int64)) hx hb dM_test_191 (by decide) ?_
    refine lv_iload hx hb dM_test_192 (lv_at hl 11 rfl) ?_
    refine lv_lshl hx hb dM_test_194 rfl ?_
    refine lv_lor hx hb dM_test_195 ?_
    refine lv_goto (tgt := 210) hx hb dM_test_196 (by decide) ?_
    exact B_210 kl IH u v6 v8 v10 v11 v12 v15 (v13 ||| ((1 : Int64) <<< (v15.toInt64 &&& 63))) H locs ls (lv_sub hl [1, 2, 3, 4, 5, 6, 7, 8, 9, 11] rfl) hI hfin
  have B_121 : ∀ (kl : MS → Int64 → Int64 → Int32 → Int32 → Int32 → Int64 → Int32 → Option MS), (∀ (u : MS) (v6 : Int64) (v8 : Int64) (v10 : Int32) (v11 : Int32) (v12 : Int32) (v13 : Int64) (v15 : Int32) (H : Heap) (locs : List Loc) (ls : Array Slot), lv_has ls 17 [(0, .ref o), (1, .int a0), (2, .int a1), (3, .int a2), (6, .long v6), (8, .long v8), (10, .int v10), (11, .int v11), (12, .int v12), (13, .long v13), (15, .int v15)] → gI D (MW cA cB o q q1 q2) (MA o q q1 q2) s0.heap H locs u → kl u v6 v8 v10 v11 v12 v13 v15 = some z → W p l e (rmF 3 67) s0 m args below meth c H locs 0 0 (MQ below (va_Qv (fun x => x = z) (gB D [(cA, .long), (cB, .int)] (MW cA cB o q q1 q2)) (MA o q q1 q2)) args s0 0 0 (MA o q q1 q2)) (F0 m 82 ls [])) → ∀ (u : MS) (v6 : Int64) (v8 : Int64) (v10 : Int32) (v11 : Int32) (v13 : Int64) (v15 : Int32) (t0 : Int32) (H : Heap) (locs : List Loc) (ls : Array Slot), lv_has ls 17 [(0, .ref o), (1, .int a0), (2, .int a1), (3, .int a2), (6, .long v6), (8, .long v8), (10, .int v10), (11, .int v11), (13, .long v13), (15, .int v15)] → gI D (MW cA cB o q q1 q2) (MA o q q1 q2) s0.heap H locs u → m_test_121 kl a0 a1 a2 u v6 v8 v10 v11 v13 v15 t0 = some z → W p l e (rmF 3 67) s0 m args below meth c H locs 0 0 (MQ below (va_Qv (fun x => x = z) (gB D [(cA, .long), (cB, .int)] (MW cA cB o q q1 q2)) (MA o q q1 q2)) args s0 0 0 (MA o q q1 q2)) (F0 m 121 ls [.int t0]) := by
    intro kl IH u v6 v8 v10 v11 v13 v15 t0 H locs ls hl hI hfin
    rw [m_test_121] at hfin
    refine lv_istore (lv' := [(12, .int t0), (0, .ref o), (1, .int a0), (2, .int a1), (3, .int a2), (6, .long v6), (8, .long v8), (10, .int v10), (11, .int v11), (13, .long v13), (15, .int v15)]) hx hb dM_test_121 hl (by decide) rfl (fun ls hl => ?_)
    refine lv_iload hx hb dM_test_123 (lv_at hl 8 rfl) ?_
    refine lv_if_ne (tgt := 147) hx hb dM_test_125 (by decide) (fun hc125 => ?_) (fun hc125 => ?_)
    · rw [if_neg hc125] at hfin
      refine lv_iload hx hb dM_test_147 (lv_at hl 8 rfl) ?_
      refine lv_iconst (v := (1 : Int32)) hx hb dM_test_149 (by decide) ?_
      refine lv_icmp_ne (tgt := 157) hx hb dM_test_150 (by decide) (fun hc150 => ?_) (fun hc150 => ?_)
      · rw [if_neg hc150] at hfin
        refine lv_iload hx hb dM_test_157 (lv_at hl 8 rfl) ?_
        refine lv_iconst (v := (2 : Int32)) hx hb dM_test_159 (by decide) ?_
        refine lv_icmp_ne (tgt := 181) hx hb dM_test_160 (by decide) (fun hc160 => ?_) (fun hc160 => ?_)
        · rw [if_neg hc160] at hfin
          refine lv_iconst (v := (1 : Int32)) hx hb dM_test_181 (by decide) ?_
          exact B_182 kl IH u v6 v8 v10 v11 t0 v13 v15 (1 : Int32) H locs ls (lv_sub hl [1, 2, 3, 4, 5, 6, 7, 8, 0, 9, 10] rfl) hI hfin
        rw [if_pos hc160] at hfin
        refine lv_lload hx hb dM_test_163 (lv_at hl 6 rfl) ?_
        refine lv_iload hx hb dM_test_165 (lv_at hl 10 rfl) ?_
        refine g_callPi [.long v8, .int v15] [] X (ctm_bit l v8 v15) (cwM_M_bit X.2.2.2.2 ⟨Nat.le_of_ble_eq_true rfl, Nat.le_of_ble_eq_true rfl⟩) rfl hl.1 rfl (Nat.le_of_ble_eq_true rfl) dM_test_167 ?_
        refine lv_if_ne (tgt := 177) hx hb dM_test_170 (by decide) (fun hc170 => ?_) (fun hc170 => ?_)
        · rw [if_neg hc170] at hfin
          refine lv_iconst (v := (0 : Int32)) hx hb dM_test_177 (by decide) ?_
          refine lv_goto (tgt := 182) hx hb dM_test_178 (by decide) ?_
          exact B_182 kl IH u v6 v8 v10 v11 t0 v13 v15 (0 : Int32) H locs ls (lv_sub hl [1, 2, 3, 4, 5, 6, 7, 8, 0, 9, 10] rfl) hI hfin
        rw [if_pos hc170] at hfin
        refine lv_iconst (v := (1 : Int32)) hx hb dM_test_173 (by decide) ?_
        refine lv_goto (tgt := 182) hx hb dM_test_174 (by decide) ?_
        exact B_182 kl IH u v6 v8 v10 v11 t0 v13 v15 (1 : Int32) H locs ls (lv_sub hl [1, 2, 3, 4, 5, 6, 7, 8, 0, 9, 10] rfl) hI hfin
      rw [if_pos hc150] at hfin
      refine lv_iconst (v := (0 : Int32)) hx hb dM_test_153 (by decide) ?_
      refine lv_goto (tgt := 182) hx hb dM_test_154 (by decide) ?_
      exact B_182 kl IH u v6 v8 v10 v11 t0 v13 v15 (0 : Int32) H locs ls (lv_sub hl [1, 2, 3, 4, 5, 6, 7, 8, 0, 9, 10] rfl) hI hfin
    rw [if_pos hc125] at hfin
    refine lv_lload hx hb dM_test_128 (lv_at hl 6 rfl) ?_
    refine lv_iload hx hb dM_test_130 (lv_at hl 10 rfl) ?_
    refine g_callPi [.long v8, .int v15] [] X (ctm_bit l v8 v15) (cwM_M_bit X.2.2.2.2 ⟨Nat.le_of_ble_eq_true rfl, Nat.le_of_ble_eq_true rfl⟩) rfl hl.1 rfl (Nat.le_of_ble_eq_true rfl) dM_test_132 ?_
    refine lv_iconst (v := (1 : Int32)) hx hb dM_test_135 (by decide) ?_
    refine lv_icmp_ne (tgt := 143) hx hb dM_test_136 (by decide) (fun hc136 => ?_) (fun hc136 => ?_)
    · rw [if_neg hc136] at hfin
      refine lv_iconst (v := (0 : Int32)) hx hb dM_test_143 (by decide) ?_
      refine lv_goto (tgt := 182) hx hb dM_test_144 (by decide) ?_
      exact B_182 kl IH u v6 v8 v10 v11 t0 v13 v15 (0 : Int32) H locs ls (lv_sub hl [1, 2, 3, 4, 5, 6, 7, 8, 0, 9, 10] rfl) hI hfin
    rw [if_pos hc136] at hfin
    refine lv_iconst (v := (1 : Int32)) hx hb dM_test_139 (by decide) ?_
    refine lv_goto (tgt := 182) hx hb dM_test_140 (by decide) ?_
    exact B_182 kl IH u v6 v8 v10 v11 t0 v13 v15 (1 : Int32) H locs ls (lv_sub hl [1, 2, 3, 4, 5, 6, 7, 8, 0, 9, 10] rfl) hI hfin
  have B_116 : ∀ (kl : MS → Int64 → Int64 → Int32 → Int32 → Int32 → Int64 → Int32 → Option MS), (∀ (u : MS) (v6 : Int64) (v8 : Int64) (v10 : Int32) (v11 : Int32) (v12 : Int32) (v13 : Int64) (v15 : Int32) (H : Heap) (locs : List Loc) (ls : Array Slot), lv_has ls 17 [(0, .ref o), (1, .int a0), (2, .int a1), (3, .int a2), (6, .long v6), (8, .long v8), (10, .int v10), (11, .int v11), (12, .int v12), (13, .long v13), (15, .int v15)] → gI D (MW cA cB o q q1 q2) (MA o q q1 q2) s0.heap H locs u → kl u v6 v8 v10 v11 v12 v13 v15 = some z → W p l e (rmF 3 67) s0 m args below meth c H locs 0 0 (MQ below (va_Qv (fun x => x = z) (gB D [(cA, .long), (cB, .int)] (MW cA cB o q q1 q2)) (MA o q q1 q2)) args s0 0 0 (MA o q q1 q2)) (F0 m 82 ls [])) → ∀ (u : MS) (v6 : Int64) (v8 : Int64) (v10 : Int32) (v11 : Int32) (v13 : Int64) (v15 : Int32) (H : Heap) (locs : List Loc) (ls : Array Slot), lv_has ls 17 [(0, .ref o), (1, .int a0), (2, .int a1), (3, .int a2), (6, .long v6), (8, .long v8), (10, .int v10), (11, .int v11), (13, .long v13), (15, .int v15)] → gI D (MW cA cB o q q1 q2) (MA o q q1 q2) s0.heap H locs u → m_test_116 kl a0 a1 a2 u v6 v8 v10 v11 v13 v15 = some z → W p l e (rmF 3 67) s0 m args below meth c H locs 0 0 (MQ below (va_Qv (fun x => x = z) (gB D [(cA, .long), (cB, .int)] (MW cA cB o q q1 q2)) (MA o q q1 q2)) args s0 0 0 (MA o q q1 q2)) (F0 m 116 ls []) := by
    intro kl IH u v6 v8 v10 v11 v13 v15 H locs ls hl hI hfin
    rw [m_test_116] at hfin
    refine lv_iconst (v := (1 : Int32)) hx hb dM_test_116 (by decide) ?_
    refine lv_goto (tgt := 121) hx hb dM_test_117 (by decide) ?_
    exact B_121 kl IH u v6 v8 v10 v11 v13 v15 (1 : Int32) H locs ls (lv_sub hl [0, 1, 2, 3, 4, 5, 6, 7, 8, 9] rfl) hI hfin
  have B_82 : ∀ (k : Nat) (u : MS) (v6 : Int64) (v8 : Int64) (v10 : Int32) (v11 : Int32) (v12 : Int32) (v13 : Int64) (v15 : Int32) (H : Heap) (locs : List Loc) (ls : Array Slot), lv_has ls 17 [(0, .ref o), (1, .int a0), (2, .int a1), (3, .int a2), (6, .long v6), (8, .long v8), (10, .int v10), (11, .int v11), (12, .int v12), (13, .long v13), (15, .int v15)] → gI D (MW cA cB o q q1 q2) (MA o q q1 q2) s0.heap H locs u → m_test_82 a0 a1 a2 k u v6 v8 v10 v11 v12 v13 v15 = some z → W p l e (rmF 3 67) s0 m args below meth c H locs 0 0 (MQ below (va_Qv (fun x => x = z) (gB D [(cA, .long), (cB, .int)] (MW cA cB o q q1 q2)) (MA o q q1 q2)) args s0 0 0 (MA o q q1 q2)) (F0 m 82 ls []) := by
    intro k
    induction k with
    | zero =>
      intro u v6 v8 v10 v11 v12 v13 v15 H locs ls hl hI hfin
      rw [m_test_82] at hfin
      cases hfin
    | succ k IH =>
      intro u v6 v8 v10 v11 v12 v13 v15 H locs ls hl hI hfin
      rw [m_test_82] at hfin
      refine lv_iload hx hb dM_test_82 (lv_at hl 10 rfl) ?_
      refine lv_bipush (v := (36 : Int32)) hx hb dM_test_84 (by decide) ?_
      refine lv_icmp_ge (tgt := 218) hx hb dM_test_86 (by decide) (fun hc86 => ?_) (fun hc86 => ?_)
      · rw [if_pos hc86] at hfin
        refine lv_aload_n hx hb dM_test_218 rfl (lv_at hl 0 rfl) ?_
        refine lv_iload hx hb dM_test_219 (lv_at hl 6 rfl) ?_
        refine lv_iconst (v := (2 : Int32)) hx hb dM_test_221 (by decide) ?_
        refine lv_icmp_eq (tgt := 247) hx hb dM_test_222 (by decide) (fun hc222 => ?_) (fun hc222 => ?_)
        · rw [if_pos hc222] at hfin
          exact B_247 u v13 H locs ls (lv_sub hl [0, 1, 2, 3, 9] rfl) hI hfin
        rw [if_neg hc222] at hfin
        refine lv_iload hx hb dM_test_225 (lv_at hl 6 rfl) ?_
        refine lv_iconst (v := (1 : Int32)) hx hb dM_test_227 (by decide) ?_
        refine lv_icmp_ne (tgt := 236) hx hb dM_test_228 (by decide) (fun hc228 => ?_) (fun hc228 => ?_)
        · rw [if_neg hc228] at hfin
          exact B_236 u v10 v12 v13 H locs ls (lv_sub hl [0, 1, 2, 3, 6, 8, 9] rfl) hI hfin
        rw [if_pos hc228] at hfin
        refine lv_iload hx hb dM_test_231 (lv_at hl 8 rfl) ?_
        refine lv_if_eq (tgt := 247) hx hb dM_test_233 (by decide) (fun hc233 => ?_) (fun hc233 => ?_)
        · rw [if_pos hc233] at hfin
          exact B_247 u v13 H locs ls (lv_sub hl [0, 1, 2, 3, 9] rfl) hI hfin
        rw [if_neg hc233] at hfin
        exact B_236 u v10 v12 v13 H locs ls (lv_sub hl [0, 1, 2, 3, 6, 8, 9] rfl) hI hfin
      rw [if_neg hc86] at hfin
      refine lv_lload hx hb dM_test_89 (lv_at hl 4 rfl) ?_
      refine lv_iload hx hb dM_test_91 (lv_at hl 10 rfl) ?_
      refine g_callPi [.long v6, .int v15] [] X (ctm_bit l v6 v15) (cwM_M_bit X.2.2.2.2 ⟨Nat.le_of_ble_eq_true rfl, Nat.le_of_ble_eq_true rfl⟩) rfl hl.1 rfl (Nat.le_of_ble_eq_true rfl) dM_test_93 ?_
      refine lv_iconst (v := (1 : Int32)) hx hb dM_test_96 (by decide) ?_
      refine lv_icmp_ne (tgt := 212) hx hb dM_test_97 (by decide) (fun hc97 => ?_) (fun hc97 => ?_)
      · rw [if_neg hc97] at hfin
        exact B_212 _ IH u v6 v8 v10 v11 v12 v13 v15 H locs ls (lv_sub hl [0, 1, 2, 3, 4, 5, 6, 7, 8, 9, 10] rfl) hI hfin
      rw [if_pos hc97] at hfin
      refine lv_iload hx hb dM_test_100 (lv_at hl 8 rfl) ?_
      refine lv_if_ne (tgt := 116) hx hb dM_test_102 (by decide) (fun hc102 => ?_) (fun hc102 => ?_)
      · rw [if_neg hc102] at hfin
        exact B_116 _ IH u v6 v8 v10 v11 v13 v15 H locs ls (lv_sub hl [0, 1, 2, 3, 4, 5, 6, 7, 9, 10] rfl) hI hfin
      rw [if_pos hc102] at hfin
      refine lv_lload hx hb dM_test_105 (lv_at hl 5 rfl) ?_
      refine lv_iload hx hb dM_test_107 (lv_at hl 10 rfl) ?_
      refine g_callPi [.long v8, .int v15] [] X (ctm_bit l v8 v15) (cwM_M_bit X.2.2.2.2 ⟨Nat.le_of_ble_eq_true rfl, Nat.le_of_ble_eq_true rfl⟩) rfl hl.1 rfl (Nat.le_of_ble_eq_true rfl) dM_test_109 ?_
      refine lv_iconst (v := (1 : Int32)) hx hb dM_test_112 (by decide) ?_
      refine lv_icmp_ne (tgt := 120) hx hb dM_test_113 (by decide) (fun hc113 => ?_) (fun hc113 => ?_)
      · rw [if_neg hc113] at hfin
        refine lv_iconst (v := (0 : Int32)) hx hb dM_test_120 (by decide) ?_
        exact B_121 _ IH u v6 v8 v10 v11 v13 v15 (0 : Int32) H locs ls (lv_sub hl [0, 1, 2, 3, 4, 5, 6, 7, 9, 10] rfl) hI hfin
      rw [if_pos hc113] at hfin
      exact B_116 _ IH u v6 v8 v10 v11 v13 v15 H locs ls (lv_sub hl [0, 1, 2, 3, 4, 5, 6, 7, 9, 10] rfl) hI hfin
  have B_47 : ∀ (u : MS) (t0 : Int64) (H : Heap) (locs : List Loc) (ls : Array Slot), lv_has ls 17 [(0, .ref o), (1, .int a0), (2, .int a1), (3, .int a2)] → gI D (MW cA cB o q q1 q2) (MA o q q1 q2) s0.heap H locs u → m_test_47 a0 a1 a2 u t0 = some z → W p l e (rmF 3 67) s0 m args below meth c H locs 0 0 (MQ below (va_Qv (fun x => x = z) (gB D [(cA, .long), (cB, .int)] (MW cA cB o q q1 q2)) (MA o q q1 q2)) args s0 0 0 (MA o q q1 q2)) (F0 m 47 ls [.long t0]) := by
    intro u t0 H locs ls hl hI hfin
    rw [m_test_47] at hfin
    refine lv_lstore (lv' := [(6, .long t0), (0, .ref o), (1, .int a0), (2, .int a1), (3, .int a2)]) hx hb dM_test_47 hl (by decide) rfl (fun ls hl => ?_)
    refine lv_aload_n hx hb dM_test_49 rfl (lv_at hl 1 rfl) ?_
    refine mg_store X hK hI.1 dM_test_50 ?_
    refine lv_iload_n hx hb dM_test_53 rfl (lv_at hl 3 rfl) ?_
    obtain ⟨hd54, hfin⟩ := ck_if hfin
    refine ml_store X hK hI.1 hd54 dM_test_54 ?_
    refine lv_topl (fun x55 e55 => ?_)
    replace hfin := nm_at hfin e55
    refine lv_lstore (lv' := [(8, .long x55), (6, .long t0), (0, .ref o), (1, .int a0), (2, .int a1), (3, .int a2)]) hx hb dM_test_55 hl (by decide) rfl (fun ls hl => ?_)
    refine lv_iload_n hx hb dM_test_57 rfl (lv_at hl 3 rfl) ?_
    refine lv_iconst (v := (2 : Int32)) hx hb dM_test_58 (by decide) ?_
    refine lv_idiv hx hb dM_test_59 (by decide) ?_
    refine lv_iconst (v := (4 : Int32)) hx hb dM_test_60 (by decide) ?_
    refine lv_irem hx hb dM_test_61 (by decide) ?_
    refine lv_topi (fun x62 e62 => ?_)
    replace hfin := nm_at hfin e62
    refine lv_istore (lv' := [(10, .int x62), (8, .long x55), (6, .long t0), (0, .ref o), (1, .int a0), (2, .int a1), (3, .int a2)]) hx hb dM_test_62 hl (by decide) rfl (fun ls hl => ?_)
    refine lv_iload_n hx hb dM_test_64 rfl (lv_at hl 4 rfl) ?_
    refine lv_bipush (v := (16 : Int32)) hx hb dM_test_65 (by decide) ?_
    refine lv_idiv hx hb dM_test_67 (by decide) ?_
    refine lv_iconst (v := (4 : Int32)) hx hb dM_test_68 (by decide) ?_
    refine lv_irem hx hb dM_test_69 (by decide) ?_
    refine lv_topi (fun x70 e70 => ?_)
    replace hfin := nm_at hfin e70
    refine lv_istore (lv' := [(11, .int x70), (10, .int x62), (8, .long x55), (6, .long t0), (0, .ref o), (1, .int a0), (2, .int a1), (3, .int a2)]) hx hb dM_test_70 hl (by decide) rfl (fun ls hl => ?_)
    refine lv_iconst (v := (0 : Int32)) hx hb dM_test_72 (by decide) ?_
    refine lv_istore (lv' := [(12, .int (0 : Int32)), (11, .int x70), (10, .int x62), (8, .long x55), (6, .long t0), (0, .ref o), (1, .int a0), (2, .int a1), (3, .int a2)]) hx hb dM_test_73 hl (by decide) rfl (fun ls hl => ?_)
    refine lv_lload hx hb dM_test_75 (lv_at hl 3 rfl) ?_
    refine lv_lstore (lv' := [(13, .long x55), (12, .int (0 : Int32)), (11, .int x70), (10, .int x62), (8, .long x55), (6, .long t0), (0, .ref o), (1, .int a0), (2, .int a1), (3, .int a2)]) hx hb dM_test_77 hl (by decide) rfl (fun ls hl => ?_)
    refine lv_iconst (v := (0 : Int32)) hx hb dM_test_79 (by decide) ?_
    refine lv_istore (lv' := [(15, .int (0 : Int32)), (13, .long x55), (12, .int (0 : Int32)), (11, .int x70), (10, .int x62), (8, .long x55), (6, .long t0), (0, .ref o), (1, .int a0), (2, .int a1), (3, .int a2)]) hx hb dM_test_80 hl (by decide) rfl (fun ls hl => ?_)
    exact B_82 37 u t0 x55 x62 x70 (0 : Int32) x55 (0 : Int32) H locs ls (lv_sub hl [7, 8, 9, 10, 6, 5, 4, 3, 2, 1, 0] rfl) hI hfin
  have B_20 : ∀ (u : MS) (t0 : Int64) (H : Heap) (locs : List Loc) (ls : Array Slot), lv_has ls 17 [(0, .ref o), (1, .int a0), (2, .int a1), (3, .int a2)] → gI D (MW cA cB o q q1 q2) (MA o q q1 q2) s0.heap H locs u → m_test_20 a0 a1 a2 u t0 = some z → W p l e (rmF 3 67) s0 m args below meth c H locs 0 0 (MQ below (va_Qv (fun x => x = z) (gB D [(cA, .long), (cB, .int)] (MW cA cB o q q1 q2)) (MA o q q1 q2)) args s0 0 0 (MA o q q1 q2)) (F0 m 20 ls [.long t0]) := by
    intro u t0 H locs ls hl hI hfin
    rw [m_test_20] at hfin
    refine lv_lstore (lv' := [(4, .long t0), (0, .ref o), (1, .int a0), (2, .int a1), (3, .int a2)]) hx hb dM_test_20 hl (by decide) rfl (fun ls hl => ?_)
    refine lv_iload_n hx hb dM_test_22 rfl (lv_at hl 2 rfl) ?_
    refine lv_iconst (v := (2 : Int32)) hx hb dM_test_23 (by decide) ?_
    refine lv_irem hx hb dM_test_24 (by decide) ?_
    refine lv_iconst (v := (1 : Int32)) hx hb dM_test_25 (by decide) ?_
    refine lv_icmp_ne (tgt := 45) hx hb dM_test_26 (by decide) (fun hc26 => ?_) (fun hc26 => ?_)
    · rw [if_neg hc26] at hfin
      refine lv_lload hx hb dM_test_45 (lv_at hl 0 rfl) ?_
      exact B_47 u t0 H locs ls (lv_sub hl [1, 2, 3, 4] rfl) hI hfin
    rw [if_pos hc26] at hfin
    refine lv_lload hx hb dM_test_29 (lv_at hl 0 rfl) ?_
    refine g_callPi [.long t0] [] X (ctm_right l t0) (cwM_M_right X.2.2.2.2 ⟨Nat.le_of_ble_eq_true rfl, Nat.le_of_ble_eq_true rfl⟩) rfl hl.1 rfl (Nat.le_of_ble_eq_true rfl) dM_test_31 ?_
    refine lv_lload hx hb dM_test_34 (lv_at hl 0 rfl) ?_
    refine g_callPi [.long t0] [.int (m_right t0)] X (ctm_left l t0) (cwM_M_left X.2.2.2.2 ⟨Nat.le_of_ble_eq_true rfl, Nat.le_of_ble_eq_true rfl⟩) rfl hl.1 rfl (Nat.le_of_ble_eq_true rfl) dM_test_36 ?_
    refine g_callPl [.int (m_right t0), .int (m_left t0)] [] X (ctm_joined l (m_right t0) (m_left t0)) (cwM_M_joined X.2.2.2.2 ⟨Nat.le_of_ble_eq_true rfl, Nat.le_of_ble_eq_true rfl⟩) rfl hl.1 rfl (Nat.le_of_ble_eq_true rfl) dM_test_39 ?_
    refine lv_goto (tgt := 47) hx hb dM_test_42 (by decide) ?_
    exact B_47 u (m_joined (m_right t0) (m_left t0)) H locs ls (lv_sub hl [1, 2, 3, 4] rfl) hI hfin
  rw [m_test] at hfin
  refine lv_iload_n hx hb dM_test_0 rfl (lv_at hl 1 rfl) ?_
  refine lv_bipush (v := (8 : Int32)) hx hb dM_test_1 (by decide) ?_
  refine lv_idiv hx hb dM_test_3 (by decide) ?_
  refine lv_iconst (v := (2 : Int32)) hx hb dM_test_4 (by decide) ?_
  refine lv_irem hx hb dM_test_5 (by decide) ?_
  refine lv_iconst (v := (1 : Int32)) hx hb dM_test_6 (by decide) ?_
  refine lv_icmp_ne (tgt := 18) hx hb dM_test_7 (by decide) (fun hc7 => ?_) (fun hc7 => ?_)
  · rw [if_neg hc7] at hfin
    refine lv_iload_n hx hb dM_test_18 rfl (lv_at hl 3 rfl) ?_
    refine lv_i2l hx hb dM_test_19 rfl ?_
    exact B_20 u (a2.toInt64) s0.heap [] ls (lv_sub hl [0, 1, 2, 3] rfl) hI hfin
  rw [if_pos hc7] at hfin
  refine lv_aload_n hx hb dM_test_10 rfl (lv_at hl 0 rfl) ?_
  refine lv_iload_n hx hb dM_test_11 rfl (lv_at hl 3 rfl) ?_
  obtain ⟨z12, hz12, hfin⟩ := bd_ob hfin
  refine g_callMl [.int a2] [] X hK m_rcv hI (ctm_get l D cA cB o q q1 q2 hne u a2 z12 hz12) (cwM_M_get X.2.2.2.2 ⟨Nat.le_of_ble_eq_true rfl, Nat.le_of_ble_eq_true rfl⟩) rfl hl.1 rfl (Nat.le_of_ble_eq_true rfl) dM_test_12 (fun H locs hI => ?_)
  refine lv_goto (tgt := 20) hx hb dM_test_15 (by decide) ?_
  exact B_20 z12.2 z12.1 H locs ls (lv_sub hl [0, 1, 2, 3] rfl) hI hfin
set_option maxHeartbeats 4000000 in
set_option maxRecDepth 100000 in
theorem ctm_bytes (l : Launch) (D : va_G) (cA cB : ClassId) (o q q1 q2 : Nat) (hne : va_nd [o, q, q1, q2] = true) (u : MS) (a0 : Int32) (a1 : Int32) (a2 : Int32) (z : MS) (hfin : m_bytes u a0 a1 a2 = some z) : gMv l yM_bytes wM_bytes (rmF 4 95) D [(cA, .long), (cB, .int)] (MW cA cB o q q1 q2) (MA o q q1 q2) [.ref o, .int a0, .int a1, .int a2] u z := by
  refine g_start (plainFor_of_name (by decide)) (Nat.le_of_ble_eq_true rfl) ?_
  intro p e s0 m args below meth c ls X hr hlk hB hl
  obtain ⟨hP0, hK⟩ := hB
  have hI : gI D (MW cA cB o q q1 q2) (MA o q q1 q2) s0.heap s0.heap [] u := ⟨hP0, va_S.rf⟩
  have hl : lv_has ls 16 [(0, .ref o), (1, .int a0), (2, .int a1), (3, .int a2)] := hl
  have hx := X.1
  have hb := X.2.1
  have B_274 : ∀ (u : MS) (v6 : Int32) (v9 : Int64) (v11 : Int64) (H : Heap) (locs : List Loc) (ls : Array Slot), lv_has ls 16 [(0, .ref o), (1, .int a0), (2, .int a1), (3, .int a2), (6, .int v6), (9, .long v9), (11, .long v11)] → gI D (MW cA cB o q q1 q2) (MA o q q1 q2) s0.heap H locs u → m_bytes_274 a0 a1 a2 u v6 v9 v11 = some z → W p l e (rmF 4 95) s0 m args below meth c H locs 0 0 (MQ below (va_Qv (fun x => x = z) (gB D [(cA, .long), (cB, .int)] (MW cA cB o q q1 q2)) (MA o q q1 q2)) args s0 0 0 (MA o q q1 q2)) (F0 m 274 ls []) := by
    intro u v6 v9 v11 H locs ls hl hI hfin
    rw [m_bytes_274] at hfin
    refine lv_iload_n hx hb dM_bytes_274 rfl (lv_at hl 1 rfl) ?_
    refine lv_bipush (v := (94 : Int32)) hx hb dM_bytes_275 (by decide) ?_
    refine lv_icmp_ge (tgt := 290) hx hb dM_bytes_277 (by decide) (fun hc277 => ?_) (fun hc277 => ?_)
    · rw [if_pos hc277] at hfin
      refine lv_aload_n hx hb dM_bytes_290 rfl (lv_at hl 0 rfl) ?_
      refine lv_iload hx hb dM_bytes_291 (lv_at hl 4 rfl) ?_
      refine lv_lload hx hb dM_bytes_293 (lv_at hl 5 rfl) ?_
      obtain ⟨z295, hz295, hfin⟩ := bd_ob hfin
      refine g_callMv [.int v6, .long v9] [] X hK m_rcv hI (ctm_set l D cA cB o q q1 q2 hne u v6 v9 z295 hz295) (cwM_M_set X.2.2.2.2 ⟨Nat.le_of_ble_eq_true rfl, Nat.le_of_ble_eq_true rfl⟩) rfl hl.1 rfl (Nat.le_of_ble_eq_true rfl) dM_bytes_295 (fun H locs hI => ?_)
      exact g_vret X hr hlk hK hI hfin dM_bytes_298
    rw [if_neg hc277] at hfin
    refine lv_aload_n hx hb dM_bytes_280 rfl (lv_at hl 0 rfl) ?_
    refine lv_iload_n hx hb dM_bytes_281 rfl (lv_at hl 2 rfl) ?_
    refine lv_lload hx hb dM_bytes_282 (lv_at hl 6 rfl) ?_
    obtain ⟨z284, hz284, hfin⟩ := bd_ob hfin
    refine g_callMv [.int a1, .long v11] [] X hK m_rcv hI (ctm_setAc l D cA cB o q q1 q2 hne u a1 v11 z284 hz284) (cwM_M_setAc X.2.2.2.2 ⟨Nat.le_of_ble_eq_true rfl, Nat.le_of_ble_eq_true rfl⟩) rfl hl.1 rfl (Nat.le_of_ble_eq_true rfl) dM_bytes_284 (fun H locs hI => ?_)
    refine lv_goto (tgt := 298) hx hb dM_bytes_287 (by decide) ?_
    exact g_vret X hr hlk hK hI hfin dM_bytes_298
  have B_268 : ∀ (kl : MS → Int32 → Int32 → Int32 → Int64 → Int64 → Int32 → Option MS), (∀ (u : MS) (v6 : Int32) (v7 : Int32) (v8 : Int32) (v9 : Int64) (v11 : Int64) (v13 : Int32) (H : Heap) (locs : List Loc) (ls : Array Slot), lv_has ls 16 [(0, .ref o), (1, .int a0), (2, .int a1), (3, .int a2), (6, .int v6), (7, .int v7), (8, .int v8), (9, .long v9), (11, .long v11), (13, .int v13)] → gI D (MW cA cB o q q1 q2) (MA o q q1 q2) s0.heap H locs u → kl u v6 v7 v8 v9 v11 v13 = some z → W p l e (rmF 4 95) s0 m args below meth c H locs 0 0 (MQ below (va_Qv (fun x => x = z) (gB D [(cA, .long), (cB, .int)] (MW cA cB o q q1 q2)) (MA o q q1 q2)) args s0 0 0 (MA o q q1 q2)) (F0 m 186 ls [])) → ∀ (u : MS) (v6 : Int32) (v7 : Int32) (v8 : Int32) (v9 : Int64) (v11 : Int64) (v13 : Int32) (H : Heap) (locs : List Loc) (ls : Array Slot), lv_has ls 16 [(0, .ref o), (1, .int a0), (2, .int a1), (3, .int a2), (6, .int v6), (7, .int v7), (8, .int v8), (9, .long v9), (11, .long v11), (13, .int v13)] → gI D (MW cA cB o q q1 q2) (MA o q q1 q2) s0.heap H locs u → m_bytes_268 kl a0 a1 a2 u v6 v7 v8 v9 v11 v13 = some z → W p l e (rmF 4 95) s0 m args below meth c H locs 0 0 (MQ below (va_Qv (fun x => x = z) (gB D [(cA, .long), (cB, .int)] (MW cA cB o q q1 q2)) (MA o q q1 q2)) args s0 0 0 (MA o q q1 q2)) (F0 m 268 ls []) := by
    intro kl IH u v6 v7 v8 v9 v11 v13 H locs ls hl hI hfin
    rw [m_bytes_268] at hfin
    refine lv_iinc (lv' := [(13, .int (v13 + Int32.ofInt 1)), (0, .ref o), (1, .int a0), (2, .int a1), (3, .int a2), (6, .int v6), (7, .int v7), (8, .int v8), (9, .long v9), (11, .long v11)]) (k := 9) hx hb dM_bytes_268 hl rfl rfl (by decide) rfl (fun ls hl => ?_)
    refine lv_goto (tgt := 186) hx hb dM_bytes_271 (by decide) ?_
    exact IH u v6 v7 v8 v9 v11 (v13 + Int32.ofInt 1) H locs ls (lv_sub hl [1, 2, 3, 4, 5, 6, 7, 8, 9, 0] rfl) hI hfin
  have B_186 : ∀ (k : Nat) (u : MS) (v6 : Int32) (v7 : Int32) (v8 : Int32) (v9 : Int64) (v11 : Int64) (v13 : Int32) (H : Heap) (locs : List Loc) (ls : Array Slot), lv_has ls 16 [(0, .ref o), (1, .int a0), (2, .int a1), (3, .int a2), (6, .int v6), (7, .int v7), (8, .int v8), (9, .long v9), (11, .long v11), (13, .int v13)] → gI D (MW cA cB o q q1 q2) (MA o q q1 q2) s0.heap H locs u → m_bytes_186 a0 a1 a2 k u v6 v7 v8 v9 v11 v13 = some z → W p l e (rmF 4 95) s0 m args below meth c H locs 0 0 (MQ below (va_Qv (fun x => x = z) (gB D [(cA, .long), (cB, .int)] (MW cA cB o q q1 q2)) (MA o q q1 q2)) args s0 0 0 (MA o q q1 q2)) (F0 m 186 ls []) := by
    intro k
    induction k with
    | zero =>
      intro u v6 v7 v8 v9 v11 v13 H locs ls hl hI hfin
      rw [m_bytes_186] at hfin
      cases hfin
    | succ k IH =>
      intro u v6 v7 v8 v9 v11 v13 H locs ls hl hI hfin
      rw [m_bytes_186] at hfin
      refine lv_iload hx hb dM_bytes_186 (lv_at hl 9 rfl) ?_
      refine lv_iload hx hb dM_bytes_188 (lv_at hl 6 rfl) ?_
      refine lv_icmp_ge (tgt := 274) hx hb dM_bytes_190 (by decide) (fun hc190 => ?_) (fun hc190 => ?_)
      · rw [if_pos hc190] at hfin
        exact B_274 u v6 v9 v11 H locs ls (lv_sub hl [0, 1, 2, 3, 4, 7, 8] rfl) hI hfin
      rw [if_neg hc190] at hfin
      refine lv_iload hx hb dM_bytes_193 (lv_at hl 9 rfl) ?_
      refine lv_bipush (v := (36 : Int32)) hx hb dM_bytes_195 (by decide) ?_
      refine lv_icmp_ge (tgt := 274) hx hb dM_bytes_197 (by decide) (fun hc197 => ?_) (fun hc197 => ?_)
      · rw [if_pos hc197] at hfin
        exact B_274 u v6 v9 v11 H locs ls (lv_sub hl [0, 1, 2, 3, 4, 7, 8] rfl) hI hfin
      rw [if_neg hc197] at hfin
      refine lv_iload hx hb dM_bytes_200 (lv_at hl 5 rfl) ?_
      refine lv_iload hx hb dM_bytes_202 (lv_at hl 9 rfl) ?_
      refine lv_iadd hx hb dM_bytes_204 ?_
      refine lv_bipush (v := (36 : Int32)) hx hb dM_bytes_205 (by decide) ?_
      refine lv_icmp_ge (tgt := 268) hx hb dM_bytes_207 (by decide) (fun hc207 => ?_) (fun hc207 => ?_)
      · rw [if_pos hc207] at hfin
        exact B_268 _ IH u v6 v7 v8 v9 v11 v13 H locs ls (lv_sub hl [0, 1, 2, 3, 4, 5, 6, 7, 8, 9] rfl) hI hfin
      rw [if_neg hc207] at hfin
      refine lv_lload hx hb dM_bytes_210 (lv_at hl 8 rfl) ?_
      refine lv_lload hx hb dM_bytes_212 (lv_at hl 7 rfl) ?_
      refine lv_iload hx hb dM_bytes_214 (lv_at hl 5 rfl) ?_
      refine lv_iload hx hb dM_bytes_216 (lv_at hl 9 rfl) ?_
      refine lv_iadd hx hb dM_bytes_218 ?_
      refine g_callPi [.long v9, .int (v7 + v13)] [.long v11] X (ctm_bit l v9 (v7 + v13)) (cwM_M_bit X.2.2.2.2 ⟨Nat.le_of_ble_eq_true rfl, Nat.le_of_ble_eq_true rfl⟩) rfl hl.1 rfl (Nat.le_of_ble_eq_true rfl) dM_bytes_219 ?_
      refine lv_i2l hx hb dM_bytes_222 rfl ?_
      refine lv_iload hx hb dM_bytes_223 (lv_at hl 9 rfl) ?_
      refine lv_lshl hx hb dM_bytes_225 rfl ?_
      refine lv_lor hx hb dM_bytes_226 ?_
      refine lv_topl (fun x227 e227 => ?_)
      replace hfin := nm_at hfin e227
      refine lv_lstore (lv' := [(11, .long x227), (0, .ref o), (1, .int a0), (2, .int a1), (3, .int a2), (6, .int v6), (7, .int v7), (8, .int v8), (9, .long v9), (13, .int v13)]) hx hb dM_bytes_227 hl (by decide) rfl (fun ls hl => ?_)
      refine lv_aload_n hx hb dM_bytes_229 rfl (lv_at hl 1 rfl) ?_
      refine mg_store X hK hI.1 dM_bytes_230 ?_
      refine lv_iload_n hx hb dM_bytes_233 rfl (lv_at hl 3 rfl) ?_
      obtain ⟨hd234, hfin⟩ := ck_if hfin
      refine ml_store X hK hI.1 hd234 dM_bytes_234 ?_
      refine lv_iload hx hb dM_bytes_235 (lv_at hl 9 rfl) ?_
      refine g_callPi [.long (M_store u a1.toNatClampNeg), .int v13] [] X (ctm_bit l (M_store u a1.toNatClampNeg) v13) (cwM_M_bit X.2.2.2.2 ⟨Nat.le_of_ble_eq_true rfl, Nat.le_of_ble_eq_true rfl⟩) rfl hl.1 rfl (Nat.le_of_ble_eq_true rfl) dM_bytes_237 ?_
      refine lv_i2l hx hb dM_bytes_240 rfl ?_
      refine lv_topl (fun x241 e241 => ?_)
      replace hfin := nm_at hfin e241
      refine lv_lstore (lv' := [(14, .long x241), (11, .long x227), (0, .ref o), (1, .int a0), (2, .int a1), (3, .int a2), (6, .int v6), (7, .int v7), (8, .int v8), (9, .long v9), (13, .int v13)]) hx hb dM_bytes_241 hl (by decide) rfl (fun ls hl => ?_)
      refine lv_lload hx hb dM_bytes_243 (lv_at hl 9 rfl) ?_
      refine lv_lconst (v := (1 : Int64)) hx hb dM_bytes_245 (by decide) ?_
      refine lv_iload hx hb dM_bytes_246 (lv_at hl 7 rfl) ?_
      refine lv_iload hx hb dM_bytes_248 (lv_at hl 10 rfl) ?_
      refine lv_iadd hx hb dM_bytes_250 ?_
      refine lv_lshl hx hb dM_bytes_251 rfl ?_
      refine lv_ldc2 hx hb X.2.2.2.1 (X.2.2.2.2 _ hkM_150) dM_bytes_252 ?_
      refine lv_lxor hx hb dM_bytes_255 ?_
      refine lv_land hx hb dM_bytes_256 ?_
      refine lv_lload hx hb dM_bytes_257 (lv_at hl 0 rfl) ?_
      refine lv_iload hx hb dM_bytes_259 (lv_at hl 7 rfl) ?_
      refine lv_iload hx hb dM_bytes_261 (lv_at hl 10 rfl) ?_
      refine lv_iadd hx hb dM_bytes_263 ?_
      refine lv_lshl hx hb dM_bytes_264 rfl ?_
      refine lv_lor hx hb dM_bytes_265 ?_
      refine lv_topl (fun x266 e266 => ?_)
      replace hfin := nm_at hfin e266
      refine lv_lstore (lv' := [(9, .long x266), (14, .long x241), (11, .long x227), (0, .ref o), (1, .int a0), (2, .int a1), (3, .int a2), (6, .int v6), (7, .int v7), (8, .int v8), (13, .int v13)]) hx hb dM_bytes_266 hl (by decide) rfl (fun ls hl => ?_)
      exact B_268 _ IH u v6 v7 v8 x266 x227 v13 H locs ls (lv_sub hl [3, 4, 5, 6, 7, 8, 9, 0, 2, 10] rfl) hI hfin
  have B_133 : ∀ (u : MS) (v4 : Int64) (H : Heap) (locs : List Loc) (ls : Array Slot), lv_has ls 16 [(0, .ref o), (1, .int a0), (2, .int a1), (3, .int a2), (4, .long v4)] → gI D (MW cA cB o q q1 q2) (MA o q q1 q2) s0.heap H locs u → m_bytes_133 a0 a1 a2 u v4 = some z → W p l e (rmF 4 95) s0 m args below meth c H locs 0 0 (MQ below (va_Qv (fun x => x = z) (gB D [(cA, .long), (cB, .int)] (MW cA cB o q q1 q2)) (MA o q q1 q2)) args s0 0 0 (MA o q q1 q2)) (F0 m 133 ls []) := by
    intro u v4 H locs ls hl hI hfin
    rw [m_bytes_133] at hfin
    refine lv_iload_n hx hb dM_bytes_133 rfl (lv_at hl 1 rfl) ?_
    refine lv_bipush (v := (91 : Int32)) hx hb dM_bytes_134 (by decide) ?_
    refine lv_icmp_ne (tgt := 140) hx hb dM_bytes_136 (by decide) (fun hc136 => ?_) (fun hc136 => ?_)
    · rw [if_neg hc136] at hfin
      refine lv_aload_n hx hb dM_bytes_140 rfl (lv_at hl 0 rfl) ?_
      refine lv_lload hx hb dM_bytes_141 (lv_at hl 4 rfl) ?_
      obtain ⟨z143, hz143, hfin⟩ := bd_ob hfin
      refine g_callMi [.long v4] [] X hK m_rcv hI (ctm_effective l D cA cB o q q1 q2 hne u v4 z143 hz143) (cwM_M_effective X.2.2.2.2 ⟨Nat.le_of_ble_eq_true rfl, Nat.le_of_ble_eq_true rfl⟩) rfl hl.1 rfl (Nat.le_of_ble_eq_true rfl) dM_bytes_143 (fun H locs hI => ?_)
      refine lv_istore (lv' := [(6, .int z143.1), (0, .ref o), (1, .int a0), (2, .int a1), (3, .int a2), (4, .long v4)]) hx hb dM_bytes_146 hl (by decide) rfl (fun ls hl => ?_)
      refine lv_lload hx hb dM_bytes_148 (lv_at hl 5 rfl) ?_
      refine lv_bipush (v := (30 : Int32)) hx hb dM_bytes_150 (by decide) ?_
      refine lv_lshr hx hb dM_bytes_152 rfl ?_
      refine lv_ldc2 hx hb X.2.2.2.1 (X.2.2.2.2 _ hkM_178) dM_bytes_153 ?_
      refine lv_land hx hb dM_bytes_156 ?_
      refine lv_l2i hx hb dM_bytes_157 rfl ?_
      refine lv_topi (fun x158 e158 => ?_)
      replace hfin := nm_at hfin e158
      refine lv_istore (lv' := [(7, .int x158), (6, .int z143.1), (0, .ref o), (1, .int a0), (2, .int a1), (3, .int a2), (4, .long v4)]) hx hb dM_bytes_158 hl (by decide) rfl (fun ls hl => ?_)
      refine lv_lload hx hb dM_bytes_160 (lv_at hl 6 rfl) ?_
      refine lv_bipush (v := (24 : Int32)) hx hb dM_bytes_162 (by decide) ?_
      refine lv_lshr hx hb dM_bytes_164 rfl ?_
      refine lv_ldc2 hx hb X.2.2.2.1 (X.2.2.2.2 _ hkM_178) dM_bytes_165 ?_
      refine lv_land hx hb dM_bytes_168 ?_
      refine lv_l2i hx hb dM_bytes_169 rfl ?_
      refine lv_topi (fun x170 e170 => ?_)
      replace hfin := nm_at hfin e170
      refine lv_istore (lv' := [(8, .int x170), (7, .int x158), (6, .int z143.1), (0, .ref o), (1, .int a0), (2, .int a1), (3, .int a2), (4, .long v4)]) hx hb dM_bytes_170 hl (by decide) rfl (fun ls hl => ?_)
      refine lv_aload_n hx hb dM_bytes_172 rfl (lv_at hl 3 rfl) ?_
      refine lv_iload hx hb dM_bytes_173 (lv_at hl 2 rfl) ?_
      obtain ⟨z175, hz175, hfin⟩ := bd_ob hfin
      refine g_callMl [.int z143.1] [] X hK m_rcv hI (ctm_get l D cA cB o q q1 q2 hne z143.2 z143.1 z175 hz175) (cwM_M_get X.2.2.2.2 ⟨Nat.le_of_ble_eq_true rfl, Nat.le_of_ble_eq_true rfl⟩) rfl hl.1 rfl (Nat.le_of_ble_eq_true rfl) dM_bytes_175 (fun H locs hI => ?_)
      refine lv_lstore (lv' := [(9, .long z175.1), (8, .int x170), (7, .int x158), (6, .int z143.1), (0, .ref o), (1, .int a0), (2, .int a1), (3, .int a2), (4, .long v4)]) hx hb dM_bytes_178 hl (by decide) rfl (fun ls hl => ?_)
      refine lv_lconst (v := (0 : Int64)) hx hb dM_bytes_180 (by decide) ?_
      refine lv_lstore (lv' := [(11, .long (0 : Int64)), (9, .long z175.1), (8, .int x170), (7, .int x158), (6, .int z143.1), (0, .ref o), (1, .int a0), (2, .int a1), (3, .int a2), (4, .long v4)]) hx hb dM_bytes_181 hl (by decide) rfl (fun ls hl => ?_)
      refine lv_iconst (v := (0 : Int32)) hx hb dM_bytes_183 (by decide) ?_
      refine lv_istore (lv' := [(13, .int (0 : Int32)), (11, .long (0 : Int64)), (9, .long z175.1), (8, .int x170), (7, .int x158), (6, .int z143.1), (0, .ref o), (1, .int a0), (2, .int a1), (3, .int a2), (4, .long v4)]) hx hb dM_bytes_184 hl (by decide) rfl (fun ls hl => ?_)
      exact B_186 37 z175.2 z143.1 x158 x170 z175.1 (0 : Int64) (0 : Int32) H locs ls (lv_sub hl [6, 7, 8, 9, 5, 4, 3, 2, 1, 0] rfl) hI hfin
    rw [if_pos hc136] at hfin
    exact g_vret X hr hlk hK hI hfin dM_bytes_139
  have B_109 : ∀ (u : MS) (v6 : Int32) (v8 : Int64) (v10 : Int64) (H : Heap) (locs : List Loc) (ls : Array Slot), lv_has ls 16 [(0, .ref o), (1, .int a0), (2, .int a1), (3, .int a2), (6, .int v6), (8, .long v8), (10, .long v10)] → gI D (MW cA cB o q q1 q2) (MA o q q1 q2) s0.heap H locs u → m_bytes_109 a0 a1 a2 u v6 v8 v10 = some z → W p l e (rmF 4 95) s0 m args below meth c H locs 0 0 (MQ below (va_Qv (fun x => x = z) (gB D [(cA, .long), (cB, .int)] (MW cA cB o q q1 q2)) (MA o q q1 q2)) args s0 0 0 (MA o q q1 q2)) (F0 m 109 ls []) := by
    intro u v6 v8 v10 H locs ls hl hI hfin
    rw [m_bytes_109] at hfin
    refine lv_iload hx hb dM_bytes_109 (lv_at hl 4 rfl) ?_
    refine lv_i2l hx hb dM_bytes_111 rfl ?_
    refine lv_bipush (v := (30 : Int32)) hx hb dM_bytes_112 (by decide) ?_
    refine lv_lshl hx hb dM_bytes_114 rfl ?_
    refine lv_lload hx hb dM_bytes_115 (lv_at hl 5 rfl) ?_
    refine lv_bipush (v := (18 : Int32)) hx hb dM_bytes_117 (by decide) ?_
    refine lv_lshl hx hb dM_bytes_119 rfl ?_
    refine lv_ladd hx hb dM_bytes_120 ?_
    refine lv_lload hx hb dM_bytes_121 (lv_at hl 6 rfl) ?_
    refine lv_ladd hx hb dM_bytes_123 ?_
    refine lv_topl (fun x124 e124 => ?_)
    replace hfin := nm_at hfin e124
    refine lv_lstore (lv' := [(4, .long x124), (0, .ref o), (1, .int a0), (2, .int a1), (3, .int a2), (6, .int v6), (8, .long v8), (10, .long v10)]) hx hb dM_bytes_124 hl (by decide) rfl (fun ls hl => ?_)
    refine lv_aload_n hx hb dM_bytes_126 rfl (lv_at hl 1 rfl) ?_
    refine lv_iload_n hx hb dM_bytes_127 rfl (lv_at hl 4 rfl) ?_
    refine lv_lload hx hb dM_bytes_128 (lv_at hl 0 rfl) ?_
    obtain ⟨z130, hz130, hfin⟩ := bd_ob hfin
    refine g_callMv [.int a2, .long x124] [] X hK m_rcv hI (ctm_set l D cA cB o q q1 q2 hne u a2 x124 z130 hz130) (cwM_M_set X.2.2.2.2 ⟨Nat.le_of_ble_eq_true rfl, Nat.le_of_ble_eq_true rfl⟩) rfl hl.1 rfl (Nat.le_of_ble_eq_true rfl) dM_bytes_130 (fun H locs hI => ?_)
    exact B_133 z130 x124 H locs ls (lv_sub hl [1, 2, 3, 4, 0] rfl) hI hfin
  have B_107 : ∀ (u : MS) (v8 : Int64) (v10 : Int64) (t0 : Int32) (H : Heap) (locs : List Loc) (ls : Array Slot), lv_has ls 16 [(0, .ref o), (1, .int a0), (2, .int a1), (3, .int a2), (8, .long v8), (10, .long v10)] → gI D (MW cA cB o q q1 q2) (MA o q q1 q2) s0.heap H locs u → m_bytes_107 a0 a1 a2 u v8 v10 t0 = some z → W p l e (rmF 4 95) s0 m args below meth c H locs 0 0 (MQ below (va_Qv (fun x => x = z) (gB D [(cA, .long), (cB, .int)] (MW cA cB o q q1 q2)) (MA o q q1 q2)) args s0 0 0 (MA o q q1 q2)) (F0 m 107 ls [.int t0]) := by
    intro u v8 v10 t0 H locs ls hl hI hfin
    rw [m_bytes_107] at hfin
    refine lv_istore (lv' := [(6, .int t0), (0, .ref o), (1, .int a0), (2, .int a1), (3, .int a2), (8, .long v8), (10, .long v10)]) hx hb dM_bytes_107 hl (by decide) rfl (fun ls hl => ?_)
    exact B_109 u t0 v8 v10 H locs ls (lv_sub hl [1, 2, 3, 4, 0, 5, 6] rfl) hI hfin
  have B_25 : ∀ (u : MS) (v4 : Int64) (H : Heap) (locs : List Loc) (ls : Array Slot), lv_has ls 16 [(0, .ref o), (1, .int a0), (2, .int a1), (3, .int a2), (4, .long v4)] → gI D (MW cA cB o q q1 q2) (MA o q q1 q2) s0.heap H locs u → m_bytes_25 a0 a1 a2 u v4 = some z → W p l e (rmF 4 95) s0 m args below meth c H locs 0 0 (MQ below (va_Qv (fun x => x = z) (gB D [(cA, .long), (cB, .int)] (MW cA cB o q q1 q2)) (MA o q q1 q2)) args s0 0 0 (MA o q q1 q2)) (F0 m 25 ls []) := by
    intro u v4 H locs ls hl hI hfin
    rw [m_bytes_25] at hfin
    refine lv_lload hx hb dM_bytes_25 (lv_at hl 4 rfl) ?_
    refine lv_bipush (v := (30 : Int32)) hx hb dM_bytes_27 (by decide) ?_
    refine lv_lshr hx hb dM_bytes_29 rfl ?_
    refine lv_l2i hx hb dM_bytes_30 rfl ?_
    refine lv_topi (fun x31 e31 => ?_)
    replace hfin := nm_at hfin e31
    refine lv_istore (lv' := [(6, .int x31), (0, .ref o), (1, .int a0), (2, .int a1), (3, .int a2), (4, .long v4)]) hx hb dM_bytes_31 hl (by decide) rfl (fun ls hl => ?_)
    refine lv_lload hx hb dM_bytes_33 (lv_at hl 5 rfl) ?_
    refine lv_bipush (v := (24 : Int32)) hx hb dM_bytes_35 (by decide) ?_
    refine lv_lshr hx hb dM_bytes_37 rfl ?_
    refine lv_ldc2 hx hb X.2.2.2.1 (X.2.2.2.2 _ hkM_178) dM_bytes_38 ?_
    refine lv_land hx hb dM_bytes_41 ?_
    refine lv_l2i hx hb dM_bytes_42 rfl ?_
    refine lv_topi (fun x43 e43 => ?_)
    replace hfin := nm_at hfin e43
    refine lv_istore (lv' := [(7, .int x43), (6, .int x31), (0, .ref o), (1, .int a0), (2, .int a1), (3, .int a2), (4, .long v4)]) hx hb dM_bytes_43 hl (by decide) rfl (fun ls hl => ?_)
    refine lv_lload hx hb dM_bytes_45 (lv_at hl 6 rfl) ?_
    refine lv_bipush (v := (18 : Int32)) hx hb dM_bytes_47 (by decide) ?_
    refine lv_lshr hx hb dM_bytes_49 rfl ?_
    refine lv_ldc2 hx hb X.2.2.2.1 (X.2.2.2.2 _ hkM_180) dM_bytes_50 ?_
    refine lv_land hx hb dM_bytes_53 ?_
    refine lv_topl (fun x54 e54 => ?_)
    replace hfin := nm_at hfin e54
    refine lv_lstore (lv' := [(8, .long x54), (7, .int x43), (6, .int x31), (0, .ref o), (1, .int a0), (2, .int a1), (3, .int a2), (4, .long v4)]) hx hb dM_bytes_54 hl (by decide) rfl (fun ls hl => ?_)
    refine lv_lload hx hb dM_bytes_56 (lv_at hl 7 rfl) ?_
    refine lv_ldc2 hx hb X.2.2.2.1 (X.2.2.2.2 _ hkM_161) dM_bytes_58 ?_
    refine lv_land hx hb dM_bytes_61 ?_
    refine lv_topl (fun x62 e62 => ?_)
    replace hfin := nm_at hfin e62
    refine lv_lstore (lv' := [(10, .long x62), (8, .long x54), (7, .int x43), (6, .int x31), (0, .ref o), (1, .int a0), (2, .int a1), (3, .int a2), (4, .long v4)]) hx hb dM_bytes_62 hl (by decide) rfl (fun ls hl => ?_)
    refine lv_iload hx hb dM_bytes_64 (lv_at hl 3 rfl) ?_
    refine lv_iload hx hb dM_bytes_66 (lv_at hl 2 rfl) ?_
    refine lv_icmp_lt (tgt := 81) hx hb dM_bytes_68 (by decide) (fun hc68 => ?_) (fun hc68 => ?_)
    · rw [if_pos hc68] at hfin
      refine lv_lload hx hb dM_bytes_81 (lv_at hl 0 rfl) ?_
      refine lv_lconst (v := (1 : Int64)) hx hb dM_bytes_83 (by decide) ?_
      refine lv_ladd hx hb dM_bytes_84 ?_
      refine lv_ldc2 hx hb X.2.2.2.1 (X.2.2.2.2 _ hkM_24) dM_bytes_85 ?_
      refine lv_lrem hx hb dM_bytes_88 (by decide) ?_
      refine lv_topl (fun x89 e89 => ?_)
      replace hfin := nm_at hfin e89
      refine lv_lstore (lv' := [(10, .long x89), (8, .long x54), (7, .int x43), (6, .int x31), (0, .ref o), (1, .int a0), (2, .int a1), (3, .int a2), (4, .long v4)]) hx hb dM_bytes_89 hl (by decide) rfl (fun ls hl => ?_)
      refine lv_iload hx hb dM_bytes_91 (lv_at hl 2 rfl) ?_
      refine lv_bipush (v := (36 : Int32)) hx hb dM_bytes_93 (by decide) ?_
      refine lv_icmp_le (tgt := 102) hx hb dM_bytes_95 (by decide) (fun hc95 => ?_) (fun hc95 => ?_)
      · rw [if_pos hc95] at hfin
        refine lv_bipush (v := (36 : Int32)) hx hb dM_bytes_102 (by decide) ?_
        refine lv_iload hx hb dM_bytes_104 (lv_at hl 2 rfl) ?_
        refine lv_isub hx hb dM_bytes_106 ?_
        exact B_107 u x54 x89 ((36 : Int32) - x43) H locs ls (lv_sub hl [4, 5, 6, 7, 1, 0] rfl) hI hfin
      rw [if_neg hc95] at hfin
      refine lv_iconst (v := (0 : Int32)) hx hb dM_bytes_98 (by decide) ?_
      refine lv_goto (tgt := 107) hx hb dM_bytes_99 (by decide) ?_
      exact B_107 u x54 x89 (0 : Int32) H locs ls (lv_sub hl [4, 5, 6, 7, 1, 0] rfl) hI hfin
    rw [if_neg hc68] at hfin
    refine lv_iload hx hb dM_bytes_71 (lv_at hl 3 rfl) ?_
    refine lv_iload hx hb dM_bytes_73 (lv_at hl 2 rfl) ?_
    refine lv_isub hx hb dM_bytes_75 ?_
    refine lv_topi (fun x76 e76 => ?_)
    replace hfin := nm_at hfin e76
    refine lv_istore (lv' := [(6, .int x76), (10, .long x62), (8, .long x54), (7, .int x43), (0, .ref o), (1, .int a0), (2, .int a1), (3, .int a2), (4, .long v4)]) hx hb dM_bytes_76 hl (by decide) rfl (fun ls hl => ?_)
    refine lv_goto (tgt := 109) hx hb dM_bytes_78 (by decide) ?_
    exact B_109 u x76 x54 x62 H locs ls (lv_sub hl [4, 5, 6, 7, 0, 2, 1] rfl) hI hfin
  rw [m_bytes] at hfin
  refine lv_aload_n hx hb dM_bytes_0 rfl (lv_at hl 0 rfl) ?_
  refine lv_iload_n hx hb dM_bytes_1 rfl (lv_at hl 3 rfl) ?_
  obtain ⟨z2, hz2, hfin⟩ := bd_ob hfin
  refine g_callMl [.int a2] [] X hK m_rcv hI (ctm_get l D cA cB o q q1 q2 hne u a2 z2 hz2) (cwM_M_get X.2.2.2.2 ⟨Nat.le_of_ble_eq_true rfl, Nat.le_of_ble_eq_true rfl⟩) rfl hl.1 rfl (Nat.le_of_ble_eq_true rfl) dM_bytes_2 (fun H locs hI => ?_)
  refine lv_lstore (lv' := [(4, .long z2.1), (0, .ref o), (1, .int a0), (2, .int a1), (3, .int a2)]) hx hb dM_bytes_5 hl (by decide) rfl (fun ls hl => ?_)
  refine lv_iload_n hx hb dM_bytes_7 rfl (lv_at hl 2 rfl) ?_
  refine lv_bipush (v := (91 : Int32)) hx hb dM_bytes_8 (by decide) ?_
  refine lv_icmp_eq (tgt := 25) hx hb dM_bytes_10 (by decide) (fun hc10 => ?_) (fun hc10 => ?_)
  · rw [if_pos hc10] at hfin
    exact B_25 z2.2 z2.1 H locs ls (lv_sub hl [1, 2, 3, 4, 0] rfl) hI hfin
  rw [if_neg hc10] at hfin
  refine lv_iload_n hx hb dM_bytes_13 rfl (lv_at hl 2 rfl) ?_
  refine lv_bipush (v := (92 : Int32)) hx hb dM_bytes_14 (by decide) ?_
  refine lv_icmp_eq (tgt := 25) hx hb dM_bytes_16 (by decide) (fun hc16 => ?_) (fun hc16 => ?_)
  · rw [if_pos hc16] at hfin
    exact B_25 z2.2 z2.1 H locs ls (lv_sub hl [1, 2, 3, 4, 0] rfl) hI hfin
  rw [if_neg hc16] at hfin
  refine lv_iload_n hx hb dM_bytes_19 rfl (lv_at hl 2 rfl) ?_
  refine lv_bipush (v := (94 : Int32)) hx hb dM_bytes_20 (by decide) ?_
  refine lv_icmp_ne (tgt := 133) hx hb dM_bytes_22 (by decide) (fun hc22 => ?_) (fun hc22 => ?_)
  · rw [if_neg hc22] at hfin
    exact B_133 z2.2 z2.1 H locs ls (lv_sub hl [1, 2, 3, 4, 0] rfl) hI hfin
  rw [if_pos hc22] at hfin
  exact B_25 z2.2 z2.1 H locs ls (lv_sub hl [1, 2, 3, 4, 0] rfl) hI hfin
