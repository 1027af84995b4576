set_option maxHeartbeats 4000000 in
set_option maxRecDepth 100000 in
theorem ctm_shift (l : Launch) (D : va_G) (cA cB : ClassId) (o q q1 q2 : Nat) (hne : va_nd [o, q, q1, q2] = true) (u : MS) (a0 : Int32) (a1 : Int32) (a2 : Int32) (z : MS) (hfin : m_shift u a0 a1 a2 = some z) : gMv l yM_shift wM_shift (rmF 1 23) D [(cA, .long), (cB, .int)] (MW cA cB o q q1 q2) (MA o q q1 q2) [.ref o, .int a0, .int a1, .int a2] u z := by
  refine g_start (plainFor_of_name (by decide)) (Nat.le_of_ble_eq_true rfl) ?_
  intro p e s0 m args below meth c ls X hr hlk hB hl
  obtain ⟨hP0, hK⟩ := hB
  have hI : gI D (MW cA cB o q q1 q2) (MA o q q1 q2) s0.heap s0.heap [] u := ⟨hP0, va_S.rf⟩
  have hl : lv_has ls 13 [(0, .ref o), (1, .int a0), (2, .int a1), (3, .int a2)] := hl
  have hx := X.1
  have hb := X.2.1
  have B_261 : ∀ (u : MS) (v7 : Int64) (v10 : Int32) (H : Heap) (locs : List Loc) (ls : Array Slot), lv_has ls 13 [(0, .ref o), (1, .int a0), (2, .int a1), (3, .int a2), (7, .long v7), (10, .int v10)] → gI D (MW cA cB o q q1 q2) (MA o q q1 q2) s0.heap H locs u → m_shift_261 a0 a1 a2 u v7 v10 = some z → W p l e (rmF 1 23) s0 m args below meth c H locs 0 0 (MQ below (va_Qv (fun x => x = z) (gB D [(cA, .long), (cB, .int)] (MW cA cB o q q1 q2)) (MA o q q1 q2)) args s0 0 0 (MA o q q1 q2)) (F0 m 261 ls []) := by
    intro u v7 v10 H locs ls hl hI hfin
    rw [m_shift_261] at hfin
    refine lv_aload_n hx hb dM_shift_261 rfl (lv_at hl 0 rfl) ?_
    refine lv_iload hx hb dM_shift_262 (lv_at hl 5 rfl) ?_
    obtain ⟨z264, hz264, hfin⟩ := bd_ob hfin
    refine g_callMv [.int v10] [] X hK m_rcv hI (ctm_over l D cA cB o q q1 q2 hne u v10 z264 hz264) (cwM_M_over X.2.2.2.2 ⟨Nat.le_of_ble_eq_true rfl, Nat.le_of_ble_eq_true rfl⟩) rfl hl.1 rfl (Nat.le_of_ble_eq_true rfl) dM_shift_264 (fun H locs hI => ?_)
    refine lv_aload_n hx hb dM_shift_267 rfl (lv_at hl 0 rfl) ?_
    refine lv_iload_n hx hb dM_shift_268 rfl (lv_at hl 2 rfl) ?_
    refine lv_lload hx hb dM_shift_269 (lv_at hl 4 rfl) ?_
    obtain ⟨z271, hz271, hfin⟩ := bd_ob hfin
    refine g_callMv [.int a1, .long v7] [] X hK m_rcv hI (ctm_setAc l D cA cB o q q1 q2 hne z264 a1 v7 z271 hz271) (cwM_M_setAc X.2.2.2.2 ⟨Nat.le_of_ble_eq_true rfl, Nat.le_of_ble_eq_true rfl⟩) rfl hl.1 rfl (Nat.le_of_ble_eq_true rfl) dM_shift_271 (fun H locs hI => ?_)
    exact g_vret X hr hlk hK hI hfin dM_shift_274
  have B_253 : ∀ (kl : MS → Int32 → Int64 → Int64 → Int32 → Int32 → Int32 → Option MS), (∀ (u : MS) (v4 : Int32) (v5 : Int64) (v7 : Int64) (v9 : Int32) (v10 : Int32) (v11 : Int32) (H : Heap) (locs : List Loc) (ls : Array Slot), lv_has ls 13 [(0, .ref o), (1, .int a0), (2, .int a1), (3, .int a2), (4, .int v4), (5, .long v5), (7, .long v7), (9, .int v9), (10, .int v10), (11, .int v11)] → gI D (MW cA cB o q q1 q2) (MA o q q1 q2) s0.heap H locs u → kl u v4 v5 v7 v9 v10 v11 = some z → W p l e (rmF 1 23) s0 m args below meth c H locs 0 0 (MQ below (va_Qv (fun x => x = z) (gB D [(cA, .long), (cB, .int)] (MW cA cB o q q1 q2)) (MA o q q1 q2)) args s0 0 0 (MA o q q1 q2)) (F0 m 209 ls [])) → ∀ (u : MS) (v4 : Int32) (v5 : Int64) (v7 : Int64) (v9 : Int32) (v11 : Int32) (t0 : Int32) (H : Heap) (locs : List Loc) (ls : Array Slot), lv_has ls 13 [(0, .ref o), (1, .int a0), (2, .int a1), (3, .int a2), (4, .int v4), (5, .long v5), (7, .long v7), (9, .int v9), (11, .int v11)] → gI D (MW cA cB o q q1 q2) (MA o q q1 q2) s0.heap H locs u → m_shift_253 kl a0 a1 a2 u v4 v5 v7 v9 v11 t0 = some z → W p l e (rmF 1 23) s0 m args below meth c H locs 0 0 (MQ below (va_Qv (fun x => x = z) (gB D [(cA, .long), (cB, .int)] (MW cA cB o q q1 q2)) (MA o q q1 q2)) args s0 0 0 (MA o q q1 q2)) (F0 m 253 ls [.int t0]) := by
    intro kl IH u v4 v5 v7 v9 v11 t0 H locs ls hl hI hfin
    rw [m_shift_253] at hfin
    refine lv_istore (lv' := [(10, .int t0), (0, .ref o), (1, .int a0), (2, .int a1), (3, .int a2), (4, .int v4), (5, .long v5), (7, .long v7), (9, .int v9), (11, .int v11)]) hx hb dM_shift_253 hl (by decide) rfl (fun ls hl => ?_)
    refine lv_iinc (lv' := [(11, .int (v11 + Int32.ofInt (-1))), (10, .int t0), (0, .ref o), (1, .int a0), (2, .int a1), (3, .int a2), (4, .int v4), (5, .long v5), (7, .long v7), (9, .int v9)]) (k := 9) hx hb dM_shift_255 hl rfl rfl (by decide) rfl (fun ls hl => ?_)
    refine lv_goto (tgt := 209) hx hb dM_shift_258 (by decide) ?_
    exact IH u v4 v5 v7 v9 t0 (v11 + Int32.ofInt (-1)) H locs ls (lv_sub hl [2, 3, 4, 5, 6, 7, 8, 9, 1, 0] rfl) hI hfin
  have B_248 : ∀ (kl : MS → Int32 → Int64 → Int64 → Int32 → Int32 → Int32 → Option MS), (∀ (u : MS) (v4 : Int32) (v5 : Int64) (v7 : Int64) (v9 : Int32) (v10 : Int32) (v11 : Int32) (H : Heap) (locs : List Loc) (ls : Array Slot), lv_has ls 13 [(0, .ref o), (1, .int a0), (2, .int a1), (3, .int a2), (4, .int v4), (5, .long v5), (7, .long v7), (9, .int v9), (10, .int v10), (11, .int v11)] → gI D (MW cA cB o q q1 q2) (MA o q q1 q2) s0.heap H locs u → kl u v4 v5 v7 v9 v10 v11 = some z → W p l e (rmF 1 23) s0 m args below meth c H locs 0 0 (MQ below (va_Qv (fun x => x = z) (gB D [(cA, .long), (cB, .int)] (MW cA cB o q q1 q2)) (MA o q q1 q2)) args s0 0 0 (MA o q q1 q2)) (F0 m 209 ls [])) → ∀ (u : MS) (v4 : Int32) (v5 : Int64) (v7 : Int64) (v9 : Int32) (v11 : Int32) (H : Heap) (locs : List Loc) (ls : Array Slot), lv_has ls 13 [(0, .ref o), (1, .int a0), (2, .int a1), (3, .int a2), (4, .int v4), (5, .long v5), (7, .long v7), (9, .int v9), (11, .int v11)] → gI D (MW cA cB o q q1 q2) (MA o q q1 q2) s0.heap H locs u → m_shift_248 kl a0 a1 a2 u v4 v5 v7 v9 v11 = some z → W p l e (rmF 1 23) s0 m args below meth c H locs 0 0 (MQ below (va_Qv (fun x => x = z) (gB D [(cA, .long), (cB, .int)] (MW cA cB o q q1 q2)) (MA o q q1 q2)) args s0 0 0 (MA o q q1 q2)) (F0 m 248 ls []) := by
    intro kl IH u v4 v5 v7 v9 v11 H locs ls hl hI hfin
    rw [m_shift_248] at hfin
    refine lv_iconst (v := (1 : Int32)) hx hb dM_shift_248 (by decide) ?_
    refine lv_goto (tgt := 253) hx hb dM_shift_249 (by decide) ?_
    exact B_253 kl IH u v4 v5 v7 v9 v11 (1 : Int32) H locs ls (lv_sub hl [0, 1, 2, 3, 4, 5, 6, 7, 8] rfl) hI hfin
  have B_209 : ∀ (k : Nat) (u : MS) (v4 : Int32) (v5 : Int64) (v7 : Int64) (v9 : Int32) (v10 : Int32) (v11 : Int32) (H : Heap) (locs : List Loc) (ls : Array Slot), lv_has ls 13 [(0, .ref o), (1, .int a0), (2, .int a1), (3, .int a2), (4, .int v4), (5, .long v5), (7, .long v7), (9, .int v9), (10, .int v10), (11, .int v11)] → gI D (MW cA cB o q q1 q2) (MA o q q1 q2) s0.heap H locs u → m_shift_209 a0 a1 a2 k u v4 v5 v7 v9 v10 v11 = some z → W p l e (rmF 1 23) s0 m args below meth c H locs 0 0 (MQ below (va_Qv (fun x => x = z) (gB D [(cA, .long), (cB, .int)] (MW cA cB o q q1 q2)) (MA o q q1 q2)) args s0 0 0 (MA o q q1 q2)) (F0 m 209 ls []) := by
    intro k
    induction k with
    | zero =>
      intro u v4 v5 v7 v9 v10 v11 H locs ls hl hI hfin
      rw [m_shift_209] at hfin
      cases hfin
    | succ k IH =>
      intro u v4 v5 v7 v9 v10 v11 H locs ls hl hI hfin
      rw [m_shift_209] at hfin
      refine lv_iload hx hb dM_shift_209 (lv_at hl 9 rfl) ?_
      refine lv_bipush (v := (34 : Int32)) hx hb dM_shift_211 (by decide) ?_
      refine lv_iload hx hb dM_shift_213 (lv_at hl 4 rfl) ?_
      refine lv_isub hx hb dM_shift_215 ?_
      refine lv_icmp_le (tgt := 261) hx hb dM_shift_216 (by decide) (fun hc216 => ?_) (fun hc216 => ?_)
      · rw [if_pos hc216] at hfin
        exact B_261 u v7 v10 H locs ls (lv_sub hl [0, 1, 2, 3, 6, 8] rfl) hI hfin
      rw [if_neg hc216] at hfin
      refine lv_iload hx hb dM_shift_219 (lv_at hl 9 rfl) ?_
      refine lv_if_lt (tgt := 261) hx hb dM_shift_221 (by decide) (fun hc221 => ?_) (fun hc221 => ?_)
      · rw [if_pos hc221] at hfin
        exact B_261 u v7 v10 H locs ls (lv_sub hl [0, 1, 2, 3, 6, 8] rfl) hI hfin
      rw [if_neg hc221] at hfin
      refine lv_iload_n hx hb dM_shift_224 rfl (lv_at hl 1 rfl) ?_
      refine lv_sipush (v := (160 : Int32)) hx hb dM_shift_225 (by decide) ?_
      refine lv_icmp_ne (tgt := 261) hx hb dM_shift_228 (by decide) (fun hc228 => ?_) (fun hc228 => ?_)
      · rw [if_neg hc228] at hfin
        exact B_261 u v7 v10 H locs ls (lv_sub hl [0, 1, 2, 3, 6, 8] rfl) hI hfin
      rw [if_pos hc228] at hfin
      refine lv_iload hx hb dM_shift_231 (lv_at hl 8 rfl) ?_
      refine lv_if_ne (tgt := 248) hx hb dM_shift_233 (by decide) (fun hc233 => ?_) (fun hc233 => ?_)
      · rw [if_neg hc233] at hfin
        exact B_248 _ IH u v4 v5 v7 v9 v11 H locs ls (lv_sub hl [0, 1, 2, 3, 4, 5, 6, 7, 9] rfl) hI hfin
      rw [if_pos hc233] at hfin
      refine lv_lload hx hb dM_shift_236 (lv_at hl 5 rfl) ?_
      refine lv_iload hx hb dM_shift_238 (lv_at hl 9 rfl) ?_
      refine g_callPi [.long v5, .int v11] [] X (ctm_bit l v5 v11) (cwM_M_bit X.2.2.2.2 ⟨Nat.le_of_ble_eq_true rfl, Nat.le_of_ble_eq_true rfl⟩) rfl hl.1 rfl (Nat.le_of_ble_eq_true rfl) dM_shift_240 ?_
      refine lv_iload hx hb dM_shift_243 (lv_at hl 7 rfl) ?_
      refine lv_icmp_eq (tgt := 252) hx hb dM_shift_245 (by decide) (fun hc245 => ?_) (fun hc245 => ?_)
      · rw [if_pos hc245] at hfin
        refine lv_iconst (v := (0 : Int32)) hx hb dM_shift_252 (by decide) ?_
        exact B_253 _ IH u v4 v5 v7 v9 v11 (0 : Int32) H locs ls (lv_sub hl [0, 1, 2, 3, 4, 5, 6, 7, 9] rfl) hI hfin
      rw [if_neg hc245] at hfin
      exact B_248 _ IH u v4 v5 v7 v9 v11 H locs ls (lv_sub hl [0, 1, 2, 3, 4, 5, 6, 7, 9] rfl) hI hfin
  have B_203 : ∀ (u : MS) (v4 : Int32) (v5 : Int64) (v7 : Int64) (v9 : Int32) (t0 : Int32) (H : Heap) (locs : List Loc) (ls : Array Slot), lv_has ls 13 [(0, .ref o), (1, .int a0), (2, .int a1), (3, .int a2), (4, .int v4), (5, .long v5), (7, .long v7), (9, .int v9)] → gI D (MW cA cB o q q1 q2) (MA o q q1 q2) s0.heap H locs u → m_shift_203 a0 a1 a2 u v4 v5 v7 v9 t0 = some z → W p l e (rmF 1 23) s0 m args below meth c H locs 0 0 (MQ below (va_Qv (fun x => x = z) (gB D [(cA, .long), (cB, .int)] (MW cA cB o q q1 q2)) (MA o q q1 q2)) args s0 0 0 (MA o q q1 q2)) (F0 m 203 ls [.int t0]) := by
    intro u v4 v5 v7 v9 t0 H locs ls hl hI hfin
    rw [m_shift_203] at hfin
    refine lv_istore (lv' := [(10, .int t0), (0, .ref o), (1, .int a0), (2, .int a1), (3, .int a2), (4, .int v4), (5, .long v5), (7, .long v7), (9, .int v9)]) hx hb dM_shift_203 hl (by decide) rfl (fun ls hl => ?_)
    refine lv_bipush (v := (34 : Int32)) hx hb dM_shift_205 (by decide) ?_
    refine lv_istore (lv' := [(11, .int (34 : Int32)), (10, .int t0), (0, .ref o), (1, .int a0), (2, .int a1), (3, .int a2), (4, .int v4), (5, .long v5), (7, .long v7), (9, .int v9)]) hx hb dM_shift_207 hl (by decide) rfl (fun ls hl => ?_)
    exact B_209 37 u v4 v5 v7 v9 t0 (34 : Int32) H locs ls (lv_sub hl [2, 3, 4, 5, 6, 7, 8, 9, 1, 0] rfl) hI hfin
  have B_202 : ∀ (u : MS) (v4 : Int32) (v5 : Int64) (v7 : Int64) (v9 : Int32) (H : Heap) (locs : List Loc) (ls : Array Slot), lv_has ls 13 [(0, .ref o), (1, .int a0), (2, .int a1), (3, .int a2), (4, .int v4), (5, .long v5), (7, .long v7), (9, .int v9)] → gI D (MW cA cB o q q1 q2) (MA o q q1 q2) s0.heap H locs u → m_shift_202 a0 a1 a2 u v4 v5 v7 v9 = some z → W p l e (rmF 1 23) s0 m args below meth c H locs 0 0 (MQ below (va_Qv (fun x => x = z) (gB D [(cA, .long), (cB, .int)] (MW cA cB o q q1 q2)) (MA o q q1 q2)) args s0 0 0 (MA o q q1 q2)) (F0 m 202 ls []) := by
    intro u v4 v5 v7 v9 H locs ls hl hI hfin
    rw [m_shift_202] at hfin
    refine lv_iconst (v := (0 : Int32)) hx hb dM_shift_202 (by decide) ?_
    exact B_203 u v4 v5 v7 v9 (0 : Int32) H locs ls (lv_sub hl [0, 1, 2, 3, 4, 5, 6, 7] rfl) hI hfin
  have B_161 : ∀ (kl : MS → Int32 → Int64 → Int64 → Int32 → Int32 → Option MS), (∀ (u : MS) (v4 : Int32) (v5 : Int64) (v7 : Int64) (v9 : Int32) (v10 : Int32) (H : Heap) (locs : List Loc) (ls : Array Slot), lv_has ls 13 [(0, .ref o), (1, .int a0), (2, .int a1), (3, .int a2), (4, .int v4), (5, .long v5), (7, .long v7), (9, .int v9), (10, .int v10)] → gI D (MW cA cB o q q1 q2) (MA o q q1 q2) s0.heap H locs u → kl u v4 v5 v7 v9 v10 = some z → W p l e (rmF 1 23) s0 m args below meth c H locs 0 0 (MQ below (va_Qv (fun x => x = z) (gB D [(cA, .long), (cB, .int)] (MW cA cB o q q1 q2)) (MA o q q1 q2)) args s0 0 0 (MA o q q1 q2)) (F0 m 44 ls [])) → ∀ (u : MS) (v4 : Int32) (v5 : Int64) (v7 : Int64) (v9 : Int32) (v10 : Int32) (v12 : Int32) (H : Heap) (locs : List Loc) (ls : Array Slot), lv_has ls 13 [(0, .ref o), (1, .int a0), (2, .int a1), (3, .int a2), (4, .int v4), (5, .long v5), (7, .long v7), (9, .int v9), (10, .int v10), (12, .int v12)] → gI D (MW cA cB o q q1 q2) (MA o q q1 q2) s0.heap H locs u → m_shift_161 kl a0 a1 a2 u v4 v5 v7 v9 v10 v12 = some z → W p l e (rmF 1 23) s0 m args below meth c H locs 0 0 (MQ below (va_Qv (fun x => x = z) (gB D [(cA, .long), (cB, .int)] (MW cA cB o q q1 q2)) (MA o q q1 q2)) args s0 0 0 (MA o q q1 q2)) (F0 m 161 ls []) := by
    intro kl IH u v4 v5 v7 v9 v10 v12 H locs ls hl hI hfin
    rw [m_shift_161] at hfin
    refine lv_lload hx hb dM_shift_161 (lv_at hl 6 rfl) ?_
    refine lv_iload hx hb dM_shift_163 (lv_at hl 9 rfl) ?_
    refine lv_i2l hx hb dM_shift_165 rfl ?_
    refine lv_iload hx hb dM_shift_166 (lv_at hl 8 rfl) ?_
    refine lv_lshl hx hb dM_shift_168 rfl ?_
    refine lv_lor hx hb dM_shift_169 ?_
    refine lv_topl (fun x170 e170 => ?_)
    replace hfin := nm_at hfin e170
    refine lv_lstore (lv' := [(7, .long x170), (0, .ref o), (1, .int a0), (2, .int a1), (3, .int a2), (4, .int v4), (5, .long v5), (9, .int v9), (10, .int v10), (12, .int v12)]) hx hb dM_shift_170 hl (by decide) rfl (fun ls hl => ?_)
    refine lv_iinc (lv' := [(10, .int (v10 + Int32.ofInt 1)), (7, .long x170), (0, .ref o), (1, .int a0), (2, .int a1), (3, .int a2), (4, .int v4), (5, .long v5), (9, .int v9), (12, .int v12)]) (k := 8) hx hb dM_shift_172 hl rfl rfl (by decide) rfl (fun ls hl => ?_)
    refine lv_goto (tgt := 44) hx hb dM_shift_175 (by decide) ?_
    exact IH u v4 v5 x170 v9 (v10 + Int32.ofInt 1) H locs ls (lv_sub hl [2, 3, 4, 5, 6, 7, 1, 8, 0] rfl) hI hfin
  have B_159 : ∀ (kl : MS → Int32 → Int64 → Int64 → Int32 → Int32 → Option MS), (∀ (u : MS) (v4 : Int32) (v5 : Int64) (v7 : Int64) (v9 : Int32) (v10 : Int32) (H : Heap) (locs : List Loc) (ls : Array Slot), lv_has ls 13 [(0, .ref o), (1, .int a0), (2, .int a1), (3, .int a2), (4, .int v4), (5, .long v5), (7, .long v7), (9, .int v9), (10, .int v10)] → gI D (MW cA cB o q q1 q2) (MA o q q1 q2) s0.heap H locs u → kl u v4 v5 v7 v9 v10 = some z → W p l e (rmF 1 23) s0 m args below meth c H locs 0 0 (MQ below (va_Qv (fun x => x = z) (gB D [(cA, .long), (cB, .int)] (MW cA cB o q q1 q2)) (MA o q q1 q2)) args s0 0 0 (MA o q q1 q2)) (F0 m 44 ls [])) → ∀ (u : MS) (v4 : Int32) (v5 : Int64) (v7 : Int64) (v9 : Int32) (v10 : Int32) (t0 : Int32) (H : Heap) (locs : List Loc) (ls : Array Slot), lv_has ls 13 [(0, .ref o), (1, .int a0), (2, .int a1), (3, .int a2), (4, .int v4), (5, .long v5), (7, .long v7), (9, .int v9), (10, .int v10)] → gI D (MW cA cB o q q1 q2) (MA o q q1 q2) s0.heap H locs u → m_shift_159 kl a0 a1 a2 u v4 v5 v7 v9 v10 t0 = some z → W p l e (rmF 1 23) s0 m args below meth c H locs 0 0 (MQ below (va_Qv (fun x => x = z) (gB D [(cA, .long), (cB, .int)] (MW cA cB o q q1 q2)) (MA o q q1 q2)) args s0 0 0 (MA o q q1 q2)) (F0 m 159 ls [.int t0]) := by
    intro kl IH u v4 v5 v7 v9 v10 t0 H locs ls hl hI hfin
    rw [m_shift_159] at hfin
    refine lv_istore (lv' := [(12, .int t0), (0, .ref o), (1, .int a0), (2, .int a1), (3, .int a2), (4, .int v4), (5, .long v5), (7, .long v7), (9, .int v9), (10, .int v10)]) hx hb dM_shift_159 hl (by decide) rfl (fun ls hl => ?_)
    exact B_161 kl IH u v4 v5 v7 v9 v10 t0 H locs ls (lv_sub hl [1, 2, 3, 4, 5, 6, 7, 8, 9, 0] rfl) hI hfin
  have B_138 : ∀ (kl : MS → Int32 → Int64 → Int64 → Int32 → Int32 → Option MS), (∀ (u : MS) (v4 : Int32) (v5 : Int64) (v7 : Int64) (v9 : Int32) (v10 : Int32) (H : Heap) (locs : List Loc) (ls : Array Slot), lv_has ls 13 [(0, .ref o), (1, .int a0), (2, .int a1), (3, .int a2), (4, .int v4), (5, .long v5), (7, .long v7), (9, .int v9), (10, .int v10)] → gI D (MW cA cB o q q1 q2) (MA o q q1 q2) s0.heap H locs u → kl u v4 v5 v7 v9 v10 = some z → W p l e (rmF 1 23) s0 m args below meth c H locs 0 0 (MQ below (va_Qv (fun x => x = z) (gB D [(cA, .long), (cB, .int)] (MW cA cB o q q1 q2)) (MA o q q1 q2)) args s0 0 0 (MA o q q1 q2)) (F0 m 44 ls [])) → ∀ (u : MS) (v4 : Int32) (v5 : Int64) (v7 : Int64) (v9 : Int32) (v10 : Int32) (H : Heap) (locs : List Loc) (ls : Array Slot), lv_has ls 13 [(0, .ref o), (1, .int a0), (2, .int a1), (3, .int a2), (4, .int v4), (5, .long v5), (7, .long v7), (9, .int v9), (10, .int v10)] → gI D (MW cA cB o q q1 q2) (MA o q q1 q2) s0.heap H locs u → m_shift_138 kl a0 a1 a2 u v4 v5 v7 v9 v10 = some z → W p l e (rmF 1 23) s0 m args below meth c H locs 0 0 (MQ below (va_Qv (fun x => x = z) (gB D [(cA, .long), (cB, .int)] (MW cA cB o q q1 q2)) (MA o q q1 q2)) args s0 0 0 (MA o q q1 q2)) (F0 m 138 ls []) := by
    intro kl IH u v4 v5 v7 v9 v10 H locs ls hl hI hfin
    rw [m_shift_138] at hfin
    refine lv_iload hx hb dM_shift_138 (lv_at hl 7 rfl) ?_
    refine lv_goto (tgt := 159) hx hb dM_shift_140 (by decide) ?_
    exact B_159 kl IH u v4 v5 v7 v9 v10 v9 H locs ls (lv_sub hl [0, 1, 2, 3, 4, 5, 6, 7, 8] rfl) hI hfin
  have B_119 : ∀ (kl : MS → Int32 → Int64 → Int64 → Int32 → Int32 → Option MS), (∀ (u : MS) (v4 : Int32) (v5 : Int64) (v7 : Int64) (v9 : Int32) (v10 : Int32) (H : Heap) (locs : List Loc) (ls : Array Slot), lv_has ls 13 [(0, .ref o), (1, .int a0), (2, .int a1), (3, .int a2), (4, .int v4), (5, .long v5), (7, .long v7), (9, .int v9), (10, .int v10)] → gI D (MW cA cB o q q1 q2) (MA o q q1 q2) s0.heap H locs u → kl u v4 v5 v7 v9 v10 = some z → W p l e (rmF 1 23) s0 m args below meth c H locs 0 0 (MQ below (va_Qv (fun x => x = z) (gB D [(cA, .long), (cB, .int)] (MW cA cB o q q1 q2)) (MA o q q1 q2)) args s0 0 0 (MA o q q1 q2)) (F0 m 44 ls [])) → ∀ (u : MS) (v4 : Int32) (v5 : Int64) (v7 : Int64) (v9 : Int32) (v10 : Int32) (t0 : Int32) (H : Heap) (locs : List Loc) (ls : Array Slot), lv_has ls 13 [(0, .ref o), (1, .int a0), (2, .int a1), (3, .int a2), (4, .int v4), (5, .long v5), (7, .long v7), (9, .int v9), (10, .int v10)] → gI D (MW cA cB o q q1 q2) (MA o q q1 q2) s0.heap H locs u → m_shift_119 kl a0 a1 a2 u v4 v5 v7 v9 v10 t0 = some z → W p l e (rmF 1 23) s0 m args below meth c H locs 0 0 (MQ below (va_Qv (fun x => x = z) (gB D [(cA, .long), (cB, .int)] (MW cA cB o q q1 q2)) (MA o q q1 q2)) args s0 0 0 (MA o q q1 q2)) (F0 m 119 ls [.int t0]) := by
    intro kl IH u v4 v5 v7 v9 v10 t0 H locs ls hl hI hfin
    rw [m_shift_119] at hfin
    refine lv_istore (lv' := [(12, .int t0), (0, .ref o), (1, .int a0), (2, .int a1), (3, .int a2), (4, .int v4), (5, .long v5), (7, .long v7), (9, .int v9), (10, .int v10)]) hx hb dM_shift_119 hl (by decide) rfl (fun ls hl => ?_)
    refine lv_goto (tgt := 161) hx hb dM_shift_121 (by decide) ?_
    exact B_161 kl IH u v4 v5 v7 v9 v10 t0 H locs ls (lv_sub hl [1, 2, 3, 4, 5, 6, 7, 8, 9, 0] rfl) hI hfin
  have B_108 : ∀ (kl : MS → Int32 → Int64 → Int64 → Int32 → Int32 → Option MS), (∀ (u : MS) (v4 : Int32) (v5 : Int64) (v7 : Int64) (v9 : Int32) (v10 : Int32) (H : Heap) (locs : List Loc) (ls : Array Slot), lv_has ls 13 [(0, .ref o), (1, .int a0), (2, .int a1), (3, .int a2), (4, .int v4), (5, .long v5), (7, .long v7), (9, .int v9), (10, .int v10)] → gI D (MW cA cB o q q1 q2) (MA o q q1 q2) s0.heap H locs u → kl u v4 v5 v7 v9 v10 = some z → W p l e (rmF 1 23) s0 m args below meth c H locs 0 0 (MQ below (va_Qv (fun x => x = z) (gB D [(cA, .long), (cB, .int)] (MW cA cB o q q1 q2)) (MA o q q1 q2)) args s0 0 0 (MA o q q1 q2)) (F0 m 44 ls [])) → ∀ (u : MS) (v4 : Int32) (v5 : Int64) (v7 : Int64) (v9 : Int32) (v10 : Int32) (H : Heap) (locs : List Loc) (ls : Array Slot), lv_has ls 13 [(0, .ref o), (1, .int a0), (2, .int a1), (3, .int a2), (4, .int v4), (5, .long v5), (7, .long v7), (9, .int v9), (10, .int v10)] → gI D (MW cA cB o q q1 q2) (MA o q q1 q2) s0.heap H locs u → m_shift_108 kl a0 a1 a2 u v4 v5 v7 v9 v10 = some z → W p l e (rmF 1 23) s0 m args below meth c H locs 0 0 (MQ below (va_Qv (fun x => x = z) (gB D [(cA, .long), (cB, .int)] (MW cA cB o q q1 q2)) (MA o q q1 q2)) args s0 0 0 (MA o q q1 q2)) (F0 m 108 ls []) := by
    intro kl IH u v4 v5 v7 v9 v10 H locs ls hl hI hfin
    rw [m_shift_108] at hfin
    refine lv_iconst (v := (0 : Int32)) hx hb dM_shift_108 (by decide) ?_
    refine lv_goto (tgt := 119) hx hb dM_shift_109 (by decide) ?_
    exact B_119 kl IH u v4 v5 v7 v9 v10 (0 : Int32) H locs ls (lv_sub hl [0, 1, 2, 3, 4, 5, 6, 7, 8] rfl) hI hfin
  have B_44 : ∀ (k : Nat) (u : MS) (v4 : Int32) (v5 : Int64) (v7 : Int64) (v9 : Int32) (v10 : Int32) (H : Heap) (locs : List Loc) (ls : Array Slot), lv_has ls 13 [(0, .ref o), (1, .int a0), (2, .int a1), (3, .int a2), (4, .int v4), (5, .long v5), (7, .long v7), (9, .int v9), (10, .int v10)] → gI D (MW cA cB o q q1 q2) (MA o q q1 q2) s0.heap H locs u → m_shift_44 a0 a1 a2 k u v4 v5 v7 v9 v10 = some z → W p l e (rmF 1 23) s0 m args below meth c H locs 0 0 (MQ below (va_Qv (fun x => x = z) (gB D [(cA, .long), (cB, .int)] (MW cA cB o q q1 q2)) (MA o q q1 q2)) args s0 0 0 (MA o q q1 q2)) (F0 m 44 ls []) := by
    intro k
    induction k with
    | zero =>
      intro u v4 v5 v7 v9 v10 H locs ls hl hI hfin
      rw [m_shift_44] at hfin
      cases hfin
    | succ k IH =>
      intro u v4 v5 v7 v9 v10 H locs ls hl hI hfin
      rw [m_shift_44] at hfin
      refine lv_iload hx hb dM_shift_44 (lv_at hl 8 rfl) ?_
      refine lv_bipush (v := (36 : Int32)) hx hb dM_shift_46 (by decide) ?_
      refine lv_icmp_ge (tgt := 178) hx hb dM_shift_48 (by decide) (fun hc48 => ?_) (fun hc48 => ?_)
      · rw [if_pos hc48] at hfin
        refine lv_iload_n hx hb dM_shift_178 rfl (lv_at hl 1 rfl) ?_
        refine lv_sipush (v := (160 : Int32)) hx hb dM_shift_179 (by decide) ?_
        refine lv_icmp_ne (tgt := 202) hx hb dM_shift_182 (by decide) (fun hc182 => ?_) (fun hc182 => ?_)
        · rw [if_neg hc182] at hfin
          exact B_202 u v4 v5 v7 v9 H locs ls (lv_sub hl [0, 1, 2, 3, 4, 5, 6, 7] rfl) hI hfin
        rw [if_pos hc182] at hfin
        refine lv_iload hx hb dM_shift_185 (lv_at hl 4 rfl) ?_
        refine lv_bipush (v := (35 : Int32)) hx hb dM_shift_187 (by decide) ?_
        refine lv_icmp_le (tgt := 202) hx hb dM_shift_189 (by decide) (fun hc189 => ?_) (fun hc189 => ?_)
        · rw [if_pos hc189] at hfin
          exact B_202 u v4 v5 v7 v9 H locs ls (lv_sub hl [0, 1, 2, 3, 4, 5, 6, 7] rfl) hI hfin
        rw [if_neg hc189] at hfin
        refine lv_iload hx hb dM_shift_192 (lv_at hl 7 rfl) ?_
        refine lv_iconst (v := (1 : Int32)) hx hb dM_shift_194 (by decide) ?_
        refine lv_icmp_ne (tgt := 202) hx hb dM_shift_195 (by decide) (fun hc195 => ?_) (fun hc195 => ?_)
        · rw [if_neg hc195] at hfin
          exact B_202 u v4 v5 v7 v9 H locs ls (lv_sub hl [0, 1, 2, 3, 4, 5, 6, 7] rfl) hI hfin
        rw [if_pos hc195] at hfin
        refine lv_iconst (v := (1 : Int32)) hx hb dM_shift_198 (by decide) ?_
        refine lv_goto (tgt := 203) hx hb dM_shift_199 (by decide) ?_
        exact B_203 u v4 v5 v7 v9 (1 : Int32) H locs ls (lv_sub hl [0, 1, 2, 3, 4, 5, 6, 7] rfl) hI hfin
      rw [if_neg hc48] at hfin
      refine lv_iload hx hb dM_shift_51 (lv_at hl 8 rfl) ?_
      refine lv_iload hx hb dM_shift_53 (lv_at hl 4 rfl) ?_
      refine lv_isub hx hb dM_shift_55 ?_
      refine lv_topi (fun x56 e56 => ?_)
      replace hfin := nm_at hfin e56
      refine lv_istore (lv' := [(11, .int x56), (0, .ref o), (1, .int a0), (2, .int a1), (3, .int a2), (4, .int v4), (5, .long v5), (7, .long v7), (9, .int v9), (10, .int v10)]) hx hb dM_shift_56 hl (by decide) rfl (fun ls hl => ?_)
      refine lv_iconst (v := (0 : Int32)) hx hb dM_shift_58 (by decide) ?_
      refine lv_istore (lv' := [(12, .int (0 : Int32)), (11, .int x56), (0, .ref o), (1, .int a0), (2, .int a1), (3, .int a2), (4, .int v4), (5, .long v5), (7, .long v7), (9, .int v9), (10, .int v10)]) hx hb dM_shift_59 hl (by decide) rfl (fun ls hl => ?_)
      refine lv_iload_n hx hb dM_shift_61 rfl (lv_at hl 3 rfl) ?_
      refine lv_sipush (v := (161 : Int32)) hx hb dM_shift_62 (by decide) ?_
      refine lv_icmp_ne (tgt := 89) hx hb dM_shift_65 (by decide) (fun hc65 => ?_) (fun hc65 => ?_)
      · rw [if_neg hc65] at hfin
        refine lv_iload_n hx hb dM_shift_89 rfl (lv_at hl 3 rfl) ?_
        refine lv_sipush (v := (162 : Int32)) hx hb dM_shift_90 (by decide) ?_
        refine lv_icmp_ne (tgt := 124) hx hb dM_shift_93 (by decide) (fun hc93 => ?_) (fun hc93 => ?_)
        · rw [if_neg hc93] at hfin
          refine lv_iload hx hb dM_shift_124 (lv_at hl 10 rfl) ?_
          refine lv_bipush (v := (35 : Int32)) hx hb dM_shift_126 (by decide) ?_
          refine lv_icmp_eq (tgt := 138) hx hb dM_shift_128 (by decide) (fun hc128 => ?_) (fun hc128 => ?_)
          · rw [if_pos hc128] at hfin
            exact B_138 _ IH u v4 v5 v7 v9 v10 H locs ls (lv_sub hl [2, 3, 4, 5, 6, 7, 8, 9, 10] rfl) hI hfin
          rw [if_neg hc128] at hfin
          refine lv_iload hx hb dM_shift_131 (lv_at hl 1 rfl) ?_
          refine lv_bipush (v := (34 : Int32)) hx hb dM_shift_133 (by decide) ?_
          refine lv_icmp_le (tgt := 143) hx hb dM_shift_135 (by decide) (fun hc135 => ?_) (fun hc135 => ?_)
          · rw [if_pos hc135] at hfin
            refine lv_iload hx hb dM_shift_143 (lv_at hl 1 rfl) ?_
            refine lv_if_ge (tgt := 152) hx hb dM_shift_145 (by decide) (fun hc145 => ?_) (fun hc145 => ?_)
            · rw [if_pos hc145] at hfin
              refine lv_lload hx hb dM_shift_152 (lv_at hl 7 rfl) ?_
              refine lv_iload hx hb dM_shift_154 (lv_at hl 1 rfl) ?_
              refine g_callPi [.long v5, .int x56] [] X (ctm_bit l v5 x56) (cwM_M_bit X.2.2.2.2 ⟨Nat.le_of_ble_eq_true rfl, Nat.le_of_ble_eq_true rfl⟩) rfl hl.1 rfl (Nat.le_of_ble_eq_true rfl) dM_shift_156 ?_
              exact B_159 _ IH u v4 v5 v7 v9 v10 (m_bit v5 x56) H locs ls (lv_sub hl [2, 3, 4, 5, 6, 7, 8, 9, 10] rfl) hI hfin
            rw [if_neg hc145] at hfin
            refine lv_iconst (v := (0 : Int32)) hx hb dM_shift_148 (by decide) ?_
            refine lv_goto (tgt := 159) hx hb dM_shift_149 (by decide) ?_
            exact B_159 _ IH u v4 v5 v7 v9 v10 (0 : Int32) H locs ls (lv_sub hl [2, 3, 4, 5, 6, 7, 8, 9, 10] rfl) hI hfin
          rw [if_neg hc135] at hfin
          exact B_138 _ IH u v4 v5 v7 v9 v10 H locs ls (lv_sub hl [2, 3, 4, 5, 6, 7, 8, 9, 10] rfl) hI hfin
        rw [if_pos hc93] at hfin
        refine lv_iload hx hb dM_shift_96 (lv_at hl 1 rfl) ?_
        refine lv_if_lt (tgt := 108) hx hb dM_shift_98 (by decide) (fun hc98 => ?_) (fun hc98 => ?_)
        · rw [if_pos hc98] at hfin
          exact B_108 _ IH u v4 v5 v7 v9 v10 H locs ls (lv_sub hl [2, 3, 4, 5, 6, 7, 8, 9, 10] rfl) hI hfin
        rw [if_neg hc98] at hfin
        refine lv_iload hx hb dM_shift_101 (lv_at hl 1 rfl) ?_
        refine lv_bipush (v := (35 : Int32)) hx hb dM_shift_103 (by decide) ?_
        refine lv_icmp_le (tgt := 112) hx hb dM_shift_105 (by decide) (fun hc105 => ?_) (fun hc105 => ?_)
        · rw [if_pos hc105] at hfin
          refine lv_lload hx hb dM_shift_112 (lv_at hl 7 rfl) ?_
          refine lv_iload hx hb dM_shift_114 (lv_at hl 1 rfl) ?_
          refine g_callPi [.long v5, .int x56] [] X (ctm_bit l v5 x56) (cwM_M_bit X.2.2.2.2 ⟨Nat.le_of_ble_eq_true rfl, Nat.le_of_ble_eq_true rfl⟩) rfl hl.1 rfl (Nat.le_of_ble_eq_true rfl) dM_shift_116 ?_
          exact B_119 _ IH u v4 v5 v7 v9 v10 (m_bit v5 x56) H locs ls (lv_sub hl [2, 3, 4, 5, 6, 7, 8, 9, 10] rfl) hI hfin
        rw [if_neg hc105] at hfin
        exact B_108 _ IH u v4 v5 v7 v9 v10 H locs ls (lv_sub hl [2, 3, 4, 5, 6, 7, 8, 9, 10] rfl) hI hfin
      rw [if_pos hc65] at hfin
      refine lv_lload hx hb dM_shift_68 (lv_at hl 7 rfl) ?_
      refine lv_iload hx hb dM_shift_70 (lv_at hl 1 rfl) ?_
      refine lv_bipush (v := (36 : Int32)) hx hb dM_shift_72 (by decide) ?_
      refine lv_irem hx hb dM_shift_74 (by decide) ?_
      refine lv_bipush (v := (36 : Int32)) hx hb dM_shift_75 (by decide) ?_
      refine lv_iadd hx hb dM_shift_77 ?_
      refine lv_bipush (v := (36 : Int32)) hx hb dM_shift_78 (by decide) ?_
      refine lv_irem hx hb dM_shift_80 (by decide) ?_
      refine g_callPi [.long v5, .int (((x56 - x56 / (36 : Int32) * (36 : Int32)) + (36 : Int32)) - ((x56 - x56 / (36 : Int32) * (36 : Int32)) + (36 : Int32)) / (36 : Int32) * (36 : Int32))] [] X (ctm_bit l v5 (((x56 - x56 / (36 : Int32) * (36 : Int32)) + (36 : Int32)) - ((x56 - x56 / (36 : Int32) * (36 : Int32)) + (36 : Int32)) / (36 : Int32) * (36 : Int32))) (cwM_M_bit X.2.2.2.2 ⟨Nat.le_of_ble_eq_true rfl, Nat.le_of_ble_eq_true rfl⟩) rfl hl.1 rfl (Nat.le_of_ble_eq_true rfl) dM_shift_81 ?_
      refine lv_topi (fun x84 e84 => ?_)
      replace hfin := nm_at hfin e84
      refine lv_istore (lv' := [(12, .int x84), (11, .int x56), (0, .ref o), (1, .int a0), (2, .int a1), (3, .int a2), (4, .int v4), (5, .long v5), (7, .long v7), (9, .int v9), (10, .int v10)]) hx hb dM_shift_84 hl (by decide) rfl (fun ls hl => ?_)
      refine lv_goto (tgt := 161) hx hb dM_shift_86 (by decide) ?_
      exact B_161 _ IH u v4 v5 v7 v9 v10 x84 H locs ls (lv_sub hl [2, 3, 4, 5, 6, 7, 8, 9, 10, 0] rfl) hI hfin
  have B_18 : ∀ (u : MS) (t0 : Int32) (t1 : Int32) (H : Heap) (locs : List Loc) (ls : Array Slot), lv_has ls 13 [(0, .ref o), (1, .int a0), (2, .int a1), (3, .int a2)] → gI D (MW cA cB o q q1 q2) (MA o q q1 q2) s0.heap H locs u → m_shift_18 a0 a1 a2 u t0 t1 = some z → W p l e (rmF 1 23) s0 m args below meth c H locs 0 0 (MQ below (va_Qv (fun x => x = z) (gB D [(cA, .long), (cB, .int)] (MW cA cB o q q1 q2)) (MA o q q1 q2)) args s0 0 0 (MA o q q1 q2)) (F0 m 18 ls [.int t1, .int t0]) := by
    intro u t0 t1 H locs ls hl hI hfin
    rw [m_shift_18] at hfin
    refine lv_isub hx hb dM_shift_18 ?_
    refine lv_topi (fun x19 e19 => ?_)
    replace hfin := nm_at hfin e19
    refine lv_istore (lv' := [(4, .int x19), (0, .ref o), (1, .int a0), (2, .int a1), (3, .int a2)]) hx hb dM_shift_19 hl (by decide) rfl (fun ls hl => ?_)
    refine lv_aload_n hx hb dM_shift_21 rfl (lv_at hl 1 rfl) ?_
    refine mg_store X hK hI.1 dM_shift_22 ?_
    refine lv_iload_n hx hb dM_shift_25 rfl (lv_at hl 3 rfl) ?_
    obtain ⟨hd26, hfin⟩ := ck_if hfin
    refine ml_store X hK hI.1 hd26 dM_shift_26 ?_
    refine lv_topl (fun x27 e27 => ?_)
    replace hfin := nm_at hfin e27
    refine lv_lstore (lv' := [(5, .long x27), (4, .int x19), (0, .ref o), (1, .int a0), (2, .int a1), (3, .int a2)]) hx hb dM_shift_27 hl (by decide) rfl (fun ls hl => ?_)
    refine lv_lconst (v := (0 : Int64)) hx hb dM_shift_29 (by decide) ?_
    refine lv_lstore (lv' := [(7, .long (0 : Int64)), (5, .long x27), (4, .int x19), (0, .ref o), (1, .int a0), (2, .int a1), (3, .int a2)]) hx hb dM_shift_30 hl (by decide) rfl (fun ls hl => ?_)
    refine lv_lload hx hb dM_shift_32 (lv_at hl 1 rfl) ?_
    refine lv_bipush (v := (35 : Int32)) hx hb dM_shift_34 (by decide) ?_
    refine g_callPi [.long x27, .int (35 : Int32)] [] X (ctm_bit l x27 (35 : Int32)) (cwM_M_bit X.2.2.2.2 ⟨Nat.le_of_ble_eq_true rfl, Nat.le_of_ble_eq_true rfl⟩) rfl hl.1 rfl (Nat.le_of_ble_eq_true rfl) dM_shift_36 ?_
    refine lv_topi (fun x39 e39 => ?_)
    replace hfin := nm_at hfin e39
    refine lv_istore (lv' := [(9, .int x39), (7, .long (0 : Int64)), (5, .long x27), (4, .int x19), (0, .ref o), (1, .int a0), (2, .int a1), (3, .int a2)]) hx hb dM_shift_39 hl (by decide) rfl (fun ls hl => ?_)
    refine lv_iconst (v := (0 : Int32)) hx hb dM_shift_41 (by decide) ?_
    refine lv_istore (lv' := [(10, .int (0 : Int32)), (9, .int x39), (7, .long (0 : Int64)), (5, .long x27), (4, .int x19), (0, .ref o), (1, .int a0), (2, .int a1), (3, .int a2)]) hx hb dM_shift_42 hl (by decide) rfl (fun ls hl => ?_)
    exact B_44 37 u x19 x27 (0 : Int64) x39 (0 : Int32) H locs ls (lv_sub hl [5, 6, 7, 8, 4, 3, 2, 1, 0] rfl) hI hfin
  rw [m_shift] at hfin
  refine lv_iload_n hx hb dM_shift_0 rfl (lv_at hl 3 rfl) ?_
  refine lv_sipush (v := (256 : Int32)) hx hb dM_shift_1 (by decide) ?_
  refine lv_irem hx hb dM_shift_4 (by decide) ?_
  refine lv_iload_n hx hb dM_shift_5 rfl (lv_at hl 3 rfl) ?_
  refine lv_ldc hx hb X.2.2.2.1 (X.2.2.2.2 _ hkM_165) dM_shift_6 ?_
  refine lv_icmp_le (tgt := 17) hx hb dM_shift_8 (by decide) (fun hc8 => ?_) (fun hc8 => ?_)
  · rw [if_pos hc8] at hfin
    refine lv_iconst (v := (0 : Int32)) hx hb dM_shift_17 (by decide) ?_
    exact B_18 u (a2 - a2 / (256 : Int32) * (256 : Int32)) (0 : Int32) s0.heap [] ls (lv_sub hl [0, 1, 2, 3] rfl) hI hfin
  rw [if_neg hc8] at hfin
  refine lv_sipush (v := (256 : Int32)) hx hb dM_shift_11 (by decide) ?_
  refine lv_goto (tgt := 18) hx hb dM_shift_14 (by decide) ?_
  exact B_18 u (a2 - a2 / (256 : Int32) * (256 : Int32)) (256 : Int32) s0.heap [] ls (lv_sub hl [0, 1, 2, 3] rfl) hI hfin
set_option maxHeartbeats 4000000 in
set_option maxRecDepth 100000 in
theorem ctm_block (l : Launch) (D : va_G) (cA cB : ClassId) (o q q1 q2 : Nat) (hne : va_nd [o, q, q1, q2] = true) (u : MS) (a0 : Int32) (a1 : Int32) (a2 : Int32) (z : MS) (hfin : m_block u a0 a1 a2 = some z) : gMv l yM_block wM_block (rmF 3 69) D [(cA, .long), (cB, .int)] (MW cA cB o q q1 q2) (MA o q q1 q2) [.ref o, .int a0, .int a1, .int a2] u z := by
  refine g_start (plainFor_of_name (by decide)) (Nat.le_of_ble_eq_true rfl) ?_
  intro p e s0 m args below meth c ls X hr hlk hB hl
  obtain ⟨hP0, hK⟩ := hB
  have hI : gI D (MW cA cB o q q1 q2) (MA o q q1 q2) s0.heap s0.heap [] u := ⟨hP0, va_S.rf⟩
  have hl : lv_has ls 6 [(0, .ref o), (1, .int a0), (2, .int a1), (3, .int a2)] := hl
  have hx := X.1
  have hb := X.2.1
  have B_18 : ∀ (k : Nat) (u : MS) (v4 : Int32) (v5 : Int32) (H : Heap) (locs : List Loc) (ls : Array Slot), lv_has ls 6 [(0, .ref o), (1, .int a0), (2, .int a1), (3, .int a2), (4, .int v4), (5, .int v5)] → gI D (MW cA cB o q q1 q2) (MA o q q1 q2) s0.heap H locs u → m_block_18 a0 a1 a2 k u v4 v5 = some z → W p l e (rmF 3 69) s0 m args below meth c H locs 0 0 (MQ below (va_Qv (fun x => x = z) (gB D [(cA, .long), (cB, .int)] (MW cA cB o q q1 q2)) (MA o q q1 q2)) args s0 0 0 (MA o q q1 q2)) (F0 m 18 ls []) := by
    intro k
    induction k with
    | zero =>
      intro u v4 v5 H locs ls hl hI hfin
      rw [m_block_18] at hfin
      cases hfin
    | succ k IH =>
      intro u v4 v5 H locs ls hl hI hfin
      rw [m_block_18] at hfin
      refine lv_iload hx hb dM_block_18 (lv_at hl 5 rfl) ?_
      refine lv_iload_n hx hb dM_block_20 rfl (lv_at hl 3 rfl) ?_
      refine lv_icmp_ge (tgt := 58) hx hb dM_block_21 (by decide) (fun hc21 => ?_) (fun hc21 => ?_)
      · rw [if_pos hc21] at hfin
        exact g_vret X hr hlk hK hI hfin dM_block_58
      rw [if_neg hc21] at hfin
      refine lv_aload_n hx hb dM_block_24 rfl (lv_at hl 0 rfl) ?_
      refine mg_wrong X hK hI.1 dM_block_25 ?_
      refine lv_if_ne (tgt := 58) hx hb dM_block_28 (by decide) (fun hc28 => ?_) (fun hc28 => ?_)
      · rw [if_neg hc28] at hfin
        exact g_vret X hr hlk hK hI hfin dM_block_58
      rw [if_pos hc28] at hfin
      refine lv_iload hx hb dM_block_31 (lv_at hl 4 rfl) ?_
      refine lv_iconst (v := (1 : Int32)) hx hb dM_block_33 (by decide) ?_
      refine lv_iadd hx hb dM_block_34 ?_
      refine lv_ldc hx hb X.2.2.2.1 (X.2.2.2.2 _ hkM_26) dM_block_35 ?_
      refine lv_iand hx hb dM_block_37 ?_
      refine lv_topi (fun x38 e38 => ?_)
      replace hfin := nm_at hfin e38
      refine lv_istore (lv' := [(4, .int x38), (0, .ref o), (1, .int a0), (2, .int a1), (3, .int a2), (5, .int v5)]) hx hb dM_block_38 hl (by decide) rfl (fun ls hl => ?_)
      refine lv_iinc (lv' := [(5, .int (v5 + Int32.ofInt 1)), (4, .int x38), (0, .ref o), (1, .int a0), (2, .int a1), (3, .int a2)]) (k := 5) hx hb dM_block_40 hl rfl rfl (by decide) rfl (fun ls hl => ?_)
      refine lv_aload_n hx hb dM_block_43 rfl (lv_at hl 2 rfl) ?_
      refine lv_iload hx hb dM_block_44 (lv_at hl 0 rfl) ?_
      refine lv_aload_n hx hb dM_block_46 rfl (lv_at hl 2 rfl) ?_
      refine lv_iload hx hb dM_block_47 (lv_at hl 1 rfl) ?_
      obtain ⟨z49, hz49, hfin⟩ := bd_ob hfin
      refine g_callMl [.int x38] [.int (v5 + Int32.ofInt 1), .ref o] X hK m_rcv hI (ctm_get l D cA cB o q q1 q2 hne u x38 z49 hz49) (cwM_M_get X.2.2.2.2 ⟨Nat.le_of_ble_eq_true rfl, Nat.le_of_ble_eq_true rfl⟩) rfl hl.1 rfl (Nat.le_of_ble_eq_true rfl) dM_block_49 (fun H locs hI => ?_)
      obtain ⟨z52, hz52, hfin⟩ := bd_ob hfin
      refine g_callMv [.int (v5 + Int32.ofInt 1), .long z49.1] [] X hK m_rcv hI (ctm_set l D cA cB o q q1 q2 hne z49.2 (v5 + Int32.ofInt 1) z49.1 z52 hz52) (cwM_M_set X.2.2.2.2 ⟨Nat.le_of_ble_eq_true rfl, Nat.le_of_ble_eq_true rfl⟩) rfl hl.1 rfl (Nat.le_of_ble_eq_true rfl) dM_block_52 (fun H locs hI => ?_)
      refine lv_goto (tgt := 18) hx hb dM_block_55 (by decide) ?_
      exact IH z52 x38 (v5 + Int32.ofInt 1) H locs ls (lv_sub hl [2, 3, 4, 5, 1, 0] rfl) hI hfin
  rw [m_block] at hfin
  refine lv_iload_n hx hb dM_block_0 rfl (lv_at hl 1 rfl) ?_
  refine lv_istore (lv' := [(4, .int a0), (0, .ref o), (1, .int a0), (2, .int a1), (3, .int a2)]) hx hb dM_block_1 hl (by decide) rfl (fun ls hl => ?_)
  refine lv_iload_n hx hb dM_block_3 rfl (lv_at hl 3 rfl) ?_
  refine lv_istore (lv' := [(5, .int a1), (4, .int a0), (0, .ref o), (1, .int a0), (2, .int a1), (3, .int a2)]) hx hb dM_block_4 hl (by decide) rfl (fun ls hl => ?_)
  refine lv_aload_n hx hb dM_block_6 rfl (lv_at hl 2 rfl) ?_
  refine lv_iload hx hb dM_block_7 (lv_at hl 0 rfl) ?_
  refine lv_aload_n hx hb dM_block_9 rfl (lv_at hl 2 rfl) ?_
  refine lv_iload hx hb dM_block_10 (lv_at hl 1 rfl) ?_
  obtain ⟨z12, hz12, hfin⟩ := bd_ob hfin
  refine g_callMl [.int a0] [.int a1, .ref o] X hK m_rcv hI (ctm_get l D cA cB o q q1 q2 hne u a0 z12 hz12) (cwM_M_get X.2.2.2.2 ⟨Nat.le_of_ble_eq_true rfl, Nat.le_of_ble_eq_true rfl⟩) rfl hl.1 rfl (Nat.le_of_ble_eq_true rfl) dM_block_12 (fun H locs hI => ?_)
  obtain ⟨z15, hz15, hfin⟩ := bd_ob hfin
  refine g_callMv [.int a1, .long z12.1] [] X hK m_rcv hI (ctm_set l D cA cB o q q1 q2 hne z12.2 a1 z12.1 z15 hz15) (cwM_M_set X.2.2.2.2 ⟨Nat.le_of_ble_eq_true rfl, Nat.le_of_ble_eq_true rfl⟩) rfl hl.1 rfl (Nat.le_of_ble_eq_true rfl) dM_block_15 (fun H locs hI => ?_)
  exact B_18 300000 z15 a0 a1 H locs ls (lv_sub hl [2, 3, 4, 5, 1, 0] rfl) hI hfin
set_option maxHeartbeats 4000000 in
set_option maxRecDepth 100000 in
theorem ctm_jump (l : Launch) (D : va_G) (cA cB : ClassId) (o q q1 q2 : Nat) (hne : va_nd [o, q, q1, q2] = true) (u : MS) (a0 : Int32) (a1 : Int32) (z : MS) (hfin : m_jump u a0 a1 = some z) : gMv l yM_jump wM_jump (rmF 1 21) D [(cA, .long), (cB, .int)] (MW cA cB o q q1 q2) (MA o q q1 q2) [.ref o, .int a0, .int a1] u z := by
  refine g_start (plainFor_of_name (by decide)) (Nat.le_of_ble_eq_true rfl) ?_
  intro p e s0 m args below meth c ls X hr hlk hB hl
  obtain ⟨hP0, hK⟩ := hB
  have hI : gI D (MW cA cB o q q1 q2) (MA o q q1 q2) s0.heap s0.heap [] u := ⟨hP0, va_S.rf⟩
  have hl : lv_has ls 3 [(0, .ref o), (1, .int a0), (2, .int a1)] := hl
  have hx := X.1
  have hb := X.2.1
  have B_60 : ∀ (u : MS) (t1 : Int32) (H : Heap) (locs : List Loc) (ls : Array Slot), lv_has ls 3 [(0, .ref o), (1, .int a0), (2, .int a1)] → gI D (MW cA cB o q q1 q2) (MA o q q1 q2) s0.heap H locs u → m_jump_60 a0 a1 u t1 = some z → W p l e (rmF 1 21) s0 m args below meth c H locs 0 0 (MQ below (va_Qv (fun x => x = z) (gB D [(cA, .long), (cB, .int)] (MW cA cB o q q1 q2)) (MA o q q1 q2)) args s0 0 0 (MA o q q1 q2)) (F0 m 60 ls [.int t1, .ref o]) := by
    intro u t1 H locs ls hl hI hfin
    rw [m_jump_60] at hfin
    obtain ⟨hd60, hfin⟩ := ck_if hfin
    refine mp_stopped X hK (m_D hne) hI (Classical.not_not.mp hd60) dM_jump_60 (fun H locs hI => ?_)
    exact g_vret X hr hlk hK hI hfin dM_jump_63
  have B_46 : ∀ (u : MS) (t1 : Int32) (H : Heap) (locs : List Loc) (ls : Array Slot), lv_has ls 3 [(0, .ref o), (1, .int a0), (2, .int a1)] → gI D (MW cA cB o q q1 q2) (MA o q q1 q2) s0.heap H locs u → m_jump_46 a0 a1 u t1 = some z → W p l e (rmF 1 21) s0 m args below meth c H locs 0 0 (MQ below (va_Qv (fun x => x = z) (gB D [(cA, .long), (cB, .int)] (MW cA cB o q q1 q2)) (MA o q q1 q2)) args s0 0 0 (MA o q q1 q2)) (F0 m 46 ls [.int t1, .ref o]) := by
    intro u t1 H locs ls hl hI hfin
    rw [m_jump_46] at hfin
    obtain ⟨hd46, hfin⟩ := ck_if hfin
    refine mp_user X hK (m_D hne) hI (Classical.not_not.mp hd46) dM_jump_46 (fun H locs hI => ?_)
    refine lv_aload_n hx hb dM_jump_49 rfl (lv_at hl 0 rfl) ?_
    refine lv_iload_n hx hb dM_jump_50 rfl (lv_at hl 1 rfl) ?_
    refine lv_iconst (v := (4 : Int32)) hx hb dM_jump_51 (by decide) ?_
    refine lv_icmp_ne (tgt := 59) hx hb dM_jump_52 (by decide) (fun hc52 => ?_) (fun hc52 => ?_)
    · rw [if_neg hc52] at hfin
      refine lv_iconst (v := (0 : Int32)) hx hb dM_jump_59 (by decide) ?_
      exact B_60 (M_s_user u t1) (0 : Int32) H locs ls (lv_sub hl [0, 1, 2] rfl) hI hfin
    rw [if_pos hc52] at hfin
    refine lv_iconst (v := (1 : Int32)) hx hb dM_jump_55 (by decide) ?_
    refine lv_goto (tgt := 60) hx hb dM_jump_56 (by decide) ?_
    exact B_60 (M_s_user u t1) (1 : Int32) H locs ls (lv_sub hl [0, 1, 2] rfl) hI hfin
  have B_41 : ∀ (u : MS) (H : Heap) (locs : List Loc) (ls : Array Slot), lv_has ls 3 [(0, .ref o), (1, .int a0), (2, .int a1)] → gI D (MW cA cB o q q1 q2) (MA o q q1 q2) s0.heap H locs u → m_jump_41 a0 a1 u = some z → W p l e (rmF 1 21) s0 m args below meth c H locs 0 0 (MQ below (va_Qv (fun x => x = z) (gB D [(cA, .long), (cB, .int)] (MW cA cB o q q1 q2)) (MA o q q1 q2)) args s0 0 0 (MA o q q1 q2)) (F0 m 41 ls [.ref o]) := by
    intro u H locs ls hl hI hfin
    rw [m_jump_41] at hfin
    refine lv_iconst (v := (1 : Int32)) hx hb dM_jump_41 (by decide) ?_
    refine lv_goto (tgt := 46) hx hb dM_jump_42 (by decide) ?_
    exact B_46 u (1 : Int32) H locs ls (lv_sub hl [0, 1, 2] rfl) hI hfin
  have B_23 : ∀ (u : MS) (H : Heap) (locs : List Loc) (ls : Array Slot), lv_has ls 3 [(0, .ref o), (1, .int a0), (2, .int a1)] → gI D (MW cA cB o q q1 q2) (MA o q q1 q2) s0.heap H locs u → m_jump_23 a0 a1 u = some z → W p l e (rmF 1 21) s0 m args below meth c H locs 0 0 (MQ below (va_Qv (fun x => x = z) (gB D [(cA, .long), (cB, .int)] (MW cA cB o q q1 q2)) (MA o q q1 q2)) args s0 0 0 (MA o q q1 q2)) (F0 m 23 ls []) := by
    intro u H locs ls hl hI hfin
    rw [m_jump_23] at hfin
    refine lv_aload_n hx hb dM_jump_23 rfl (lv_at hl 0 rfl) ?_
    refine lv_iload_n hx hb dM_jump_24 rfl (lv_at hl 2 rfl) ?_
    obtain ⟨z25, hz25, hfin⟩ := bd_ob hfin
    refine g_callMv [.int a1] [] X hK m_rcv hI (ctm_go l D cA cB o q q1 q2 hne u a1 z25 hz25) (cwM_M_go X.2.2.2.2 ⟨Nat.le_of_ble_eq_true rfl, Nat.le_of_ble_eq_true rfl⟩) rfl hl.1 rfl (Nat.le_of_ble_eq_true rfl) dM_jump_25 (fun H locs hI => ?_)
    refine lv_aload_n hx hb dM_jump_28 rfl (lv_at hl 0 rfl) ?_
    refine lv_aload_n hx hb dM_jump_29 rfl (lv_at hl 0 rfl) ?_
    refine mg_user X hK hI.1 dM_jump_30 ?_
    refine lv_if_ne (tgt := 41) hx hb dM_jump_33 (by decide) (fun hc33 => ?_) (fun hc33 => ?_)
    · rw [if_neg hc33] at hfin
      exact B_41 z25 H locs ls (lv_sub hl [0, 1, 2] rfl) hI hfin
    rw [if_pos hc33] at hfin
    refine lv_iload_n hx hb dM_jump_36 rfl (lv_at hl 1 rfl) ?_
    refine lv_iconst (v := (1 : Int32)) hx hb dM_jump_37 (by decide) ?_
    refine lv_icmp_ne (tgt := 45) hx hb dM_jump_38 (by decide) (fun hc38 => ?_) (fun hc38 => ?_)
    · rw [if_neg hc38] at hfin
      refine lv_iconst (v := (0 : Int32)) hx hb dM_jump_45 (by decide) ?_
      exact B_46 z25 (0 : Int32) H locs ls (lv_sub hl [0, 1, 2] rfl) hI hfin
    rw [if_pos hc38] at hfin
    exact B_41 z25 H locs ls (lv_sub hl [0, 1, 2] rfl) hI hfin
  have B_17 : ∀ (u : MS) (H : Heap) (locs : List Loc) (ls : Array Slot), lv_has ls 3 [(0, .ref o), (1, .int a0), (2, .int a1)] → gI D (MW cA cB o q q1 q2) (MA o q q1 q2) s0.heap H locs u → m_jump_17 a0 a1 u = some z → W p l e (rmF 1 21) s0 m args below meth c H locs 0 0 (MQ below (va_Qv (fun x => x = z) (gB D [(cA, .long), (cB, .int)] (MW cA cB o q q1 q2)) (MA o q q1 q2)) args s0 0 0 (MA o q q1 q2)) (F0 m 17 ls []) := by
    intro u H locs ls hl hI hfin
    rw [m_jump_17] at hfin
    refine lv_aload_n hx hb dM_jump_17 rfl (lv_at hl 0 rfl) ?_
    refine lv_iconst (v := (2 : Int32)) hx hb dM_jump_18 (by decide) ?_
    obtain ⟨z19, hz19, hfin⟩ := bd_ob hfin
    refine g_callMv [.int (2 : Int32)] [] X hK m_rcv hI (ctm_fail l D cA cB o q q1 q2 hne u (2 : Int32) z19 hz19) (cwM_M_fail X.2.2.2.2 ⟨Nat.le_of_ble_eq_true rfl, Nat.le_of_ble_eq_true rfl⟩) rfl hl.1 rfl (Nat.le_of_ble_eq_true rfl) dM_jump_19 (fun H locs hI => ?_)
    exact g_vret X hr hlk hK hI hfin dM_jump_22
  rw [m_jump] at hfin
  refine lv_iload_n hx hb dM_jump_0 rfl (lv_at hl 1 rfl) ?_
  refine lv_iconst (v := (1 : Int32)) hx hb dM_jump_1 (by decide) ?_
  refine lv_icmp_le (tgt := 23) hx hb dM_jump_2 (by decide) (fun hc2 => ?_) (fun hc2 => ?_)
  · rw [if_pos hc2] at hfin
    exact B_23 u s0.heap [] ls (lv_sub hl [0, 1, 2] rfl) hI hfin
  rw [if_neg hc2] at hfin
  refine lv_iload_n hx hb dM_jump_5 rfl (lv_at hl 1 rfl) ?_
  refine lv_iconst (v := (4 : Int32)) hx hb dM_jump_6 (by decide) ?_
  refine lv_icmp_ne (tgt := 17) hx hb dM_jump_7 (by decide) (fun hc7 => ?_) (fun hc7 => ?_)
  · rw [if_neg hc7] at hfin
    exact B_17 u s0.heap [] ls (lv_sub hl [0, 1, 2] rfl) hI hfin
  rw [if_pos hc7] at hfin
  refine lv_aload_n hx hb dM_jump_10 rfl (lv_at hl 0 rfl) ?_
  refine mg_user X hK hI.1 dM_jump_11 ?_
  refine lv_if_eq (tgt := 23) hx hb dM_jump_14 (by decide) (fun hc14 => ?_) (fun hc14 => ?_)
  · rw [if_pos hc14] at hfin
    exact B_23 u s0.heap [] ls (lv_sub hl [0, 1, 2] rfl) hI hfin
  rw [if_neg hc14] at hfin
  exact B_17 u s0.heap [] ls (lv_sub hl [0, 1, 2] rfl) hI hfin
set_option maxHeartbeats 4000000 in
set_option maxRecDepth 100000 in
theorem ctm_push (l : Launch) (D : va_G) (cA cB : ClassId) (o q q1 q2 : Nat) (hne : va_nd [o, q, q1, q2] = true) (u : MS) (a0 : Int32) (a1 : Int32) (a2 : Int32) (z : MS) (hfin : m_push u a0 a1 a2 = some z) : gMv l yM_push wM_push (rmF 3 69) D [(cA, .long), (cB, .int)] (MW cA cB o q q1 q2) (MA o q q1 q2) [.ref o, .int a0, .int a1, .int a2] u z := by
  refine g_start (plainFor_of_name (by decide)) (Nat.le_of_ble_eq_true rfl) ?_
  intro p e s0 m args below meth c ls X hr hlk hB hl
  obtain ⟨hP0, hK⟩ := hB
  have hI : gI D (MW cA cB o q q1 q2) (MA o q q1 q2) s0.heap s0.heap [] u := ⟨hP0, va_S.rf⟩
  have hl : lv_has ls 7 [(0, .ref o), (1, .int a0), (2, .int a1), (3, .int a2)] := hl
  have hx := X.1
  have hb := X.2.1
  have B_48 : ∀ (u : MS) (t1 : Int32) (H : Heap) (locs : List Loc) (ls : Array Slot), lv_has ls 7 [(0, .ref o), (1, .int a0), (2, .int a1), (3, .int a2)] → gI D (MW cA cB o q q1 q2) (MA o q q1 q2) s0.heap H locs u → m_push_48 a0 a1 a2 u t1 = some z → W p l e (rmF 3 69) s0 m args below meth c H locs 0 0 (MQ below (va_Qv (fun x => x = z) (gB D [(cA, .long), (cB, .int)] (MW cA cB o q q1 q2)) (MA o q q1 q2)) args s0 0 0 (MA o q q1 q2)) (F0 m 48 ls [.int t1, .ref o]) := by
    intro u t1 H locs ls hl hI hfin
    rw [m_push_48] at hfin
    obtain ⟨z48, hz48, hfin⟩ := bd_ob hfin
    refine g_callMv [.int t1] [] X hK m_rcv hI (ctm_over l D cA cB o q q1 q2 hne u t1 z48 hz48) (cwM_M_over X.2.2.2.2 ⟨Nat.le_of_ble_eq_true rfl, Nat.le_of_ble_eq_true rfl⟩) rfl hl.1 rfl (Nat.le_of_ble_eq_true rfl) dM_push_48 (fun H locs hI => ?_)
    refine lv_aload_n hx hb dM_push_51 rfl (lv_at hl 0 rfl) ?_
    refine mg_store X hK hI.1 dM_push_52 ?_
    refine lv_iload_n hx hb dM_push_55 rfl (lv_at hl 2 rfl) ?_
    obtain ⟨hd56, hfin⟩ := ck_if hfin
    refine ml_store X hK hI.1 hd56 dM_push_56 ?_
    refine g_callPi [.long (M_store z48 a1.toNatClampNeg)] [] X (ctm_right l (M_store z48 a1.toNatClampNeg)) (cwM_M_right X.2.2.2.2 ⟨Nat.le_of_ble_eq_true rfl, Nat.le_of_ble_eq_true rfl⟩) rfl hl.1 rfl (Nat.le_of_ble_eq_true rfl) dM_push_57 ?_
    refine lv_topi (fun x60 e60 => ?_)
    replace hfin := nm_at hfin e60
    refine lv_istore (lv' := [(4, .int x60), (0, .ref o), (1, .int a0), (2, .int a1), (3, .int a2)]) hx hb dM_push_60 hl (by decide) rfl (fun ls hl => ?_)
    refine lv_iload_n hx hb dM_push_62 rfl (lv_at hl 2 rfl) ?_
    refine lv_sipush (v := (176 : Int32)) hx hb dM_push_63 (by decide) ?_
    refine lv_icmp_ne (tgt := 87) hx hb dM_push_66 (by decide) (fun hc66 => ?_) (fun hc66 => ?_)
    · rw [if_neg hc66] at hfin
      refine lv_aload_n hx hb dM_push_87 rfl (lv_at hl 1 rfl) ?_
      refine lv_iload_n hx hb dM_push_88 rfl (lv_at hl 4 rfl) ?_
      obtain ⟨z89, hz89, hfin⟩ := bd_ob hfin
      refine g_callMl [.int a2] [] X hK m_rcv hI (ctm_get l D cA cB o q q1 q2 hne z48 a2 z89 hz89) (cwM_M_get X.2.2.2.2 ⟨Nat.le_of_ble_eq_true rfl, Nat.le_of_ble_eq_true rfl⟩) rfl hl.1 rfl (Nat.le_of_ble_eq_true rfl) dM_push_89 (fun H locs hI => ?_)
      refine lv_lstore (lv' := [(5, .long z89.1), (4, .int x60), (0, .ref o), (1, .int a0), (2, .int a1), (3, .int a2)]) hx hb dM_push_92 hl (by decide) rfl (fun ls hl => ?_)
      refine lv_aload_n hx hb dM_push_94 rfl (lv_at hl 2 rfl) ?_
      refine lv_iload hx hb dM_push_95 (lv_at hl 1 rfl) ?_
      refine lv_lload hx hb dM_push_97 (lv_at hl 0 rfl) ?_
      obtain ⟨z99, hz99, hfin⟩ := bd_ob hfin
      refine g_callMv [.int x60, .long z89.1] [] X hK m_rcv hI (ctm_set l D cA cB o q q1 q2 hne z89.2 x60 z89.1 z99 hz99) (cwM_M_set X.2.2.2.2 ⟨Nat.le_of_ble_eq_true rfl, Nat.le_of_ble_eq_true rfl⟩) rfl hl.1 rfl (Nat.le_of_ble_eq_true rfl) dM_push_99 (fun H locs hI => ?_)
      exact g_vret X hr hlk hK hI hfin dM_push_102
    rw [if_pos hc66] at hfin
    refine lv_aload_n hx hb dM_push_69 rfl (lv_at hl 1 rfl) ?_
    refine lv_iload hx hb dM_push_70 (lv_at hl 0 rfl) ?_
    refine lv_aload_n hx hb dM_push_72 rfl (lv_at hl 1 rfl) ?_
    refine g_callRl [] [.int x60, .ref o] X hK m_rcv hI.1 (ctm_flags l D cA cB o q q1 q2 z48) (cwM_M_flags X.2.2.2.2 ⟨Nat.le_of_ble_eq_true rfl, Nat.le_of_ble_eq_true rfl⟩) rfl hl.1 rfl (Nat.le_of_ble_eq_true rfl) dM_push_73 ?_
    obtain ⟨z76, hz76, hfin⟩ := bd_ob hfin
    refine g_callMv [.int x60, .long (m_flags z48)] [] X hK m_rcv hI (ctm_set l D cA cB o q q1 q2 hne z48 x60 (m_flags z48) z76 hz76) (cwM_M_set X.2.2.2.2 ⟨Nat.le_of_ble_eq_true rfl, Nat.le_of_ble_eq_true rfl⟩) rfl hl.1 rfl (Nat.le_of_ble_eq_true rfl) dM_push_76 (fun H locs hI => ?_)
    refine lv_aload_n hx hb dM_push_79 rfl (lv_at hl 1 rfl) ?_
    refine lv_iload_n hx hb dM_push_80 rfl (lv_at hl 4 rfl) ?_
    obtain ⟨z81, hz81, hfin⟩ := bd_ob hfin
    refine g_callMv [.int a2] [] X hK m_rcv hI (ctm_go l D cA cB o q q1 q2 hne z76 a2 z81 hz81) (cwM_M_go X.2.2.2.2 ⟨Nat.le_of_ble_eq_true rfl, Nat.le_of_ble_eq_true rfl⟩) rfl hl.1 rfl (Nat.le_of_ble_eq_true rfl) dM_push_81 (fun H locs hI => ?_)
    refine lv_goto (tgt := 102) hx hb dM_push_84 (by decide) ?_
    exact g_vret X hr hlk hK hI hfin dM_push_102
  rw [m_push] at hfin
  refine lv_aload_n hx hb dM_push_0 rfl (lv_at hl 0 rfl) ?_
  refine lv_iload_n hx hb dM_push_1 rfl (lv_at hl 2 rfl) ?_
  refine lv_aload_n hx hb dM_push_2 rfl (lv_at hl 0 rfl) ?_
  refine mg_store X hK hI.1 dM_push_3 ?_
  refine lv_iload_n hx hb dM_push_6 rfl (lv_at hl 2 rfl) ?_
  obtain ⟨hd7, hfin⟩ := ck_if hfin
  refine ml_store X hK hI.1 hd7 dM_push_7 ?_
  refine g_callPi [.long (M_store u a1.toNatClampNeg)] [.int a1, .ref o] X (ctm_left l (M_store u a1.toNatClampNeg)) (cwM_M_left X.2.2.2.2 ⟨Nat.le_of_ble_eq_true rfl, Nat.le_of_ble_eq_true rfl⟩) rfl hl.1 rfl (Nat.le_of_ble_eq_true rfl) dM_push_8 ?_
  refine lv_iconst (v := (1 : Int32)) hx hb dM_push_11 (by decide) ?_
  refine lv_iadd hx hb dM_push_12 ?_
  refine lv_aload_n hx hb dM_push_13 rfl (lv_at hl 0 rfl) ?_
  refine mg_store X hK hI.1 dM_push_14 ?_
  refine lv_iload_n hx hb dM_push_17 rfl (lv_at hl 2 rfl) ?_
  obtain ⟨hd18, hfin⟩ := ck_if hfin
  refine ml_store X hK hI.1 hd18 dM_push_18 ?_
  refine g_callPi [.long (M_store u a1.toNatClampNeg)] [.int ((m_left (M_store u a1.toNatClampNeg)) + (1 : Int32)), .int a1, .ref o] X (ctm_right l (M_store u a1.toNatClampNeg)) (cwM_M_right X.2.2.2.2 ⟨Nat.le_of_ble_eq_true rfl, Nat.le_of_ble_eq_true rfl⟩) rfl hl.1 rfl (Nat.le_of_ble_eq_true rfl) dM_push_19 ?_
  refine lv_iconst (v := (1 : Int32)) hx hb dM_push_22 (by decide) ?_
  refine lv_iadd hx hb dM_push_23 ?_
  refine g_callPl [.int ((m_left (M_store u a1.toNatClampNeg)) + (1 : Int32)), .int ((m_right (M_store u a1.toNatClampNeg)) + (1 : Int32))] [.int a1, .ref o] X (ctm_joined l ((m_left (M_store u a1.toNatClampNeg)) + (1 : Int32)) ((m_right (M_store u a1.toNatClampNeg)) + (1 : Int32))) (cwM_M_joined X.2.2.2.2 ⟨Nat.le_of_ble_eq_true rfl, Nat.le_of_ble_eq_true rfl⟩) rfl hl.1 rfl (Nat.le_of_ble_eq_true rfl) dM_push_24 ?_
  obtain ⟨z27, hz27, hfin⟩ := bd_ob hfin
  refine g_callMv [.int a1, .long (m_joined ((m_left (M_store u a1.toNatClampNeg)) + (1 : Int32)) ((m_right (M_store u a1.toNatClampNeg)) + (1 : Int32)))] [] X hK m_rcv hI (ctm_setAc l D cA cB o q q1 q2 hne u a1 (m_joined ((m_left (M_store u a1.toNatClampNeg)) + (1 : Int32)) ((m_right (M_store u a1.toNatClampNeg)) + (1 : Int32))) z27 hz27) (cwM_M_setAc X.2.2.2.2 ⟨Nat.le_of_ble_eq_true rfl, Nat.le_of_ble_eq_true rfl⟩) rfl hl.1 rfl (Nat.le_of_ble_eq_true rfl) dM_push_27 (fun H locs hI => ?_)
  refine lv_aload_n hx hb dM_push_30 rfl (lv_at hl 0 rfl) ?_
  refine lv_aload_n hx hb dM_push_31 rfl (lv_at hl 0 rfl) ?_
  refine mg_store X hK hI.1 dM_push_32 ?_
  refine lv_iload_n hx hb dM_push_35 rfl (lv_at hl 2 rfl) ?_
  obtain ⟨hd36, hfin⟩ := ck_if hfin
  refine ml_store X hK hI.1 hd36 dM_push_36 ?_
  refine g_callPi [.long (M_store z27 a1.toNatClampNeg)] [.ref o] X (ctm_left l (M_store z27 a1.toNatClampNeg)) (cwM_M_left X.2.2.2.2 ⟨Nat.le_of_ble_eq_true rfl, Nat.le_of_ble_eq_true rfl⟩) rfl hl.1 rfl (Nat.le_of_ble_eq_true rfl) dM_push_37 ?_
  refine lv_if_ne (tgt := 47) hx hb dM_push_40 (by decide) (fun hc40 => ?_) (fun hc40 => ?_)
  · rw [if_neg hc40] at hfin
    refine lv_iconst (v := (0 : Int32)) hx hb dM_push_47 (by decide) ?_
    exact B_48 z27 (0 : Int32) H locs ls (lv_sub hl [0, 1, 2, 3] rfl) hI hfin
  rw [if_pos hc40] at hfin
  refine lv_iconst (v := (1 : Int32)) hx hb dM_push_43 (by decide) ?_
  refine lv_goto (tgt := 48) hx hb dM_push_44 (by decide) ?_
  exact B_48 z27 (1 : Int32) H locs ls (lv_sub hl [0, 1, 2, 3] rfl) hI hfin
set_option maxHeartbeats 4000000 in
set_option maxRecDepth 100000 in
theorem ctm_pop (l : Launch) (D : va_G) (cA cB : ClassId) (o q q1 q2 : Nat) (hne : va_nd [o, q, q1, q2] = true) (u : MS) (a0 : Int32) (a1 : Int32) (a2 : Int32) (z : MS) (hfin : m_pop u a0 a1 a2 = some z) : gMv l yM_pop wM_pop (rmF 3 69) D [(cA, .long), (cB, .int)] (MW cA cB o q q1 q2) (MA o q q1 q2) [.ref o, .int a0, .int a1, .int a2] u z := by
  refine g_start (plainFor_of_name (by decide)) (Nat.le_of_ble_eq_true rfl) ?_
  intro p e s0 m args below meth c ls X hr hlk hB hl
  obtain ⟨hP0, hK⟩ := hB
  have hI : gI D (MW cA cB o q q1 q2) (MA o q q1 q2) s0.heap s0.heap [] u := ⟨hP0, va_S.rf⟩
  have hl : lv_has ls 6 [(0, .ref o), (1, .int a0), (2, .int a1), (3, .int a2)] := hl
  have hx := X.1
  have hb := X.2.1
  have B_98 : ∀ (u : MS) (t1 : Int32) (H : Heap) (locs : List Loc) (ls : Array Slot), lv_has ls 6 [(0, .ref o), (1, .int a0), (2, .int a1), (3, .int a2)] → gI D (MW cA cB o q q1 q2) (MA o q q1 q2) s0.heap H locs u → m_pop_98 a0 a1 a2 u t1 = some z → W p l e (rmF 3 69) s0 m args below meth c H locs 0 0 (MQ below (va_Qv (fun x => x = z) (gB D [(cA, .long), (cB, .int)] (MW cA cB o q q1 q2)) (MA o q q1 q2)) args s0 0 0 (MA o q q1 q2)) (F0 m 98 ls [.int t1, .ref o]) := by
    intro u t1 H locs ls hl hI hfin
    rw [m_pop_98] at hfin
    obtain ⟨z98, hz98, hfin⟩ := bd_ob hfin
    refine g_callMv [.int t1] [] X hK m_rcv hI (ctm_over l D cA cB o q q1 q2 hne u t1 z98 hz98) (cwM_M_over X.2.2.2.2 ⟨Nat.le_of_ble_eq_true rfl, Nat.le_of_ble_eq_true rfl⟩) rfl hl.1 rfl (Nat.le_of_ble_eq_true rfl) dM_pop_98 (fun H locs hI => ?_)
    exact g_vret X hr hlk hK hI hfin dM_pop_101
  have B_41 : ∀ (u : MS) (H : Heap) (locs : List Loc) (ls : Array Slot), lv_has ls 6 [(0, .ref o), (1, .int a0), (2, .int a1), (3, .int a2)] → gI D (MW cA cB o q q1 q2) (MA o q q1 q2) s0.heap H locs u → m_pop_41 a0 a1 a2 u = some z → W p l e (rmF 3 69) s0 m args below meth c H locs 0 0 (MQ below (va_Qv (fun x => x = z) (gB D [(cA, .long), (cB, .int)] (MW cA cB o q q1 q2)) (MA o q q1 q2)) args s0 0 0 (MA o q q1 q2)) (F0 m 41 ls []) := by
    intro u H locs ls hl hI hfin
    rw [m_pop_41] at hfin
    refine lv_aload_n hx hb dM_pop_41 rfl (lv_at hl 0 rfl) ?_
    refine mg_wrong X hK hI.1 dM_pop_42 ?_
    refine lv_if_ne (tgt := 101) hx hb dM_pop_45 (by decide) (fun hc45 => ?_) (fun hc45 => ?_)
    · rw [if_neg hc45] at hfin
      exact g_vret X hr hlk hK hI hfin dM_pop_101
    rw [if_pos hc45] at hfin
    refine lv_aload_n hx hb dM_pop_48 rfl (lv_at hl 0 rfl) ?_
    refine lv_iload_n hx hb dM_pop_49 rfl (lv_at hl 2 rfl) ?_
    refine lv_aload_n hx hb dM_pop_50 rfl (lv_at hl 0 rfl) ?_
    refine mg_store X hK hI.1 dM_pop_51 ?_
    refine lv_iload_n hx hb dM_pop_54 rfl (lv_at hl 2 rfl) ?_
    obtain ⟨hd55, hfin⟩ := ck_if hfin
    refine ml_store X hK hI.1 hd55 dM_pop_55 ?_
    refine g_callPi [.long (M_store u a1.toNatClampNeg)] [.int a1, .ref o] X (ctm_left l (M_store u a1.toNatClampNeg)) (cwM_M_left X.2.2.2.2 ⟨Nat.le_of_ble_eq_true rfl, Nat.le_of_ble_eq_true rfl⟩) rfl hl.1 rfl (Nat.le_of_ble_eq_true rfl) dM_pop_56 ?_
    refine lv_iconst (v := (1 : Int32)) hx hb dM_pop_59 (by decide) ?_
    refine lv_isub hx hb dM_pop_60 ?_
    refine lv_aload_n hx hb dM_pop_61 rfl (lv_at hl 0 rfl) ?_
    refine mg_store X hK hI.1 dM_pop_62 ?_
    refine lv_iload_n hx hb dM_pop_65 rfl (lv_at hl 2 rfl) ?_
    obtain ⟨hd66, hfin⟩ := ck_if hfin
    refine ml_store X hK hI.1 hd66 dM_pop_66 ?_
    refine g_callPi [.long (M_store u a1.toNatClampNeg)] [.int ((m_left (M_store u a1.toNatClampNeg)) - (1 : Int32)), .int a1, .ref o] X (ctm_right l (M_store u a1.toNatClampNeg)) (cwM_M_right X.2.2.2.2 ⟨Nat.le_of_ble_eq_true rfl, Nat.le_of_ble_eq_true rfl⟩) rfl hl.1 rfl (Nat.le_of_ble_eq_true rfl) dM_pop_67 ?_
    refine lv_iconst (v := (1 : Int32)) hx hb dM_pop_70 (by decide) ?_
    refine lv_isub hx hb dM_pop_71 ?_
    refine g_callPl [.int ((m_left (M_store u a1.toNatClampNeg)) - (1 : Int32)), .int ((m_right (M_store u a1.toNatClampNeg)) - (1 : Int32))] [.int a1, .ref o] X (ctm_joined l ((m_left (M_store u a1.toNatClampNeg)) - (1 : Int32)) ((m_right (M_store u a1.toNatClampNeg)) - (1 : Int32))) (cwM_M_joined X.2.2.2.2 ⟨Nat.le_of_ble_eq_true rfl, Nat.le_of_ble_eq_true rfl⟩) rfl hl.1 rfl (Nat.le_of_ble_eq_true rfl) dM_pop_72 ?_
    obtain ⟨z75, hz75, hfin⟩ := bd_ob hfin
    refine g_callMv [.int a1, .long (m_joined ((m_left (M_store u a1.toNatClampNeg)) - (1 : Int32)) ((m_right (M_store u a1.toNatClampNeg)) - (1 : Int32)))] [] X hK m_rcv hI (ctm_setAc l D cA cB o q q1 q2 hne u a1 (m_joined ((m_left (M_store u a1.toNatClampNeg)) - (1 : Int32)) ((m_right (M_store u a1.toNatClampNeg)) - (1 : Int32))) z75 hz75) (cwM_M_setAc X.2.2.2.2 ⟨Nat.le_of_ble_eq_true rfl, Nat.le_of_ble_eq_true rfl⟩) rfl hl.1 rfl (Nat.le_of_ble_eq_true rfl) dM_pop_75 (fun H locs hI => ?_)
    refine lv_aload_n hx hb dM_pop_78 rfl (lv_at hl 0 rfl) ?_
    refine lv_aload_n hx hb dM_pop_79 rfl (lv_at hl 0 rfl) ?_
    refine mg_store X hK hI.1 dM_pop_80 ?_
    refine lv_iload_n hx hb dM_pop_83 rfl (lv_at hl 2 rfl) ?_
    obtain ⟨hd84, hfin⟩ := ck_if hfin
    refine ml_store X hK hI.1 hd84 dM_pop_84 ?_
    refine g_callPi [.long (M_store z75 a1.toNatClampNeg)] [.ref o] X (ctm_left l (M_store z75 a1.toNatClampNeg)) (cwM_M_left X.2.2.2.2 ⟨Nat.le_of_ble_eq_true rfl, Nat.le_of_ble_eq_true rfl⟩) rfl hl.1 rfl (Nat.le_of_ble_eq_true rfl) dM_pop_85 ?_
    refine lv_ldc hx hb X.2.2.2.1 (X.2.2.2.2 _ hkM_26) dM_pop_88 ?_
    refine lv_icmp_ne (tgt := 97) hx hb dM_pop_90 (by decide) (fun hc90 => ?_) (fun hc90 => ?_)
    · rw [if_neg hc90] at hfin
      refine lv_iconst (v := (0 : Int32)) hx hb dM_pop_97 (by decide) ?_
      exact B_98 z75 (0 : Int32) H locs ls (lv_sub hl [0, 1, 2, 3] rfl) hI hfin
    rw [if_pos hc90] at hfin
    refine lv_iconst (v := (1 : Int32)) hx hb dM_pop_93 (by decide) ?_
    refine lv_goto (tgt := 98) hx hb dM_pop_94 (by decide) ?_
    exact B_98 z75 (1 : Int32) H locs ls (lv_sub hl [0, 1, 2, 3] rfl) hI hfin
  rw [m_pop] at hfin
  refine lv_aload_n hx hb dM_pop_0 rfl (lv_at hl 0 rfl) ?_
  refine lv_aload_n hx hb dM_pop_1 rfl (lv_at hl 0 rfl) ?_
  refine mg_store X hK hI.1 dM_pop_2 ?_
  refine lv_iload_n hx hb dM_pop_5 rfl (lv_at hl 2 rfl) ?_
  obtain ⟨hd6, hfin⟩ := ck_if hfin
  refine ml_store X hK hI.1 hd6 dM_pop_6 ?_
  refine g_callPi [.long (M_store u a1.toNatClampNeg)] [.ref o] X (ctm_right l (M_store u a1.toNatClampNeg)) (cwM_M_right X.2.2.2.2 ⟨Nat.le_of_ble_eq_true rfl, Nat.le_of_ble_eq_true rfl⟩) rfl hl.1 rfl (Nat.le_of_ble_eq_true rfl) dM_pop_7 ?_
  obtain ⟨z10, hz10, hfin⟩ := bd_ob hfin
  refine g_callMl [.int (m_right (M_store u a1.toNatClampNeg))] [] X hK m_rcv hI (ctm_get l D cA cB o q q1 q2 hne u (m_right (M_store u a1.toNatClampNeg)) z10 hz10) (cwM_M_get X.2.2.2.2 ⟨Nat.le_of_ble_eq_true rfl, Nat.le_of_ble_eq_true rfl⟩) rfl hl.1 rfl (Nat.le_of_ble_eq_true rfl) dM_pop_10 (fun H locs hI => ?_)
  refine lv_lstore (lv' := [(4, .long z10.1), (0, .ref o), (1, .int a0), (2, .int a1), (3, .int a2)]) hx hb dM_pop_13 hl (by decide) rfl (fun ls hl => ?_)
  refine lv_iload_n hx hb dM_pop_15 rfl (lv_at hl 2 rfl) ?_
  refine lv_sipush (v := (178 : Int32)) hx hb dM_pop_16 (by decide) ?_
  refine lv_icmp_ne (tgt := 32) hx hb dM_pop_19 (by decide) (fun hc19 => ?_) (fun hc19 => ?_)
  · rw [if_neg hc19] at hfin
    refine lv_aload_n hx hb dM_pop_32 rfl (lv_at hl 1 rfl) ?_
    refine lv_lload hx hb dM_pop_33 (lv_at hl 0 rfl) ?_
    refine g_callPi [.long z10.1] [.ref o] X (ctm_right l z10.1) (cwM_M_right X.2.2.2.2 ⟨Nat.le_of_ble_eq_true rfl, Nat.le_of_ble_eq_true rfl⟩) rfl hl.1 rfl (Nat.le_of_ble_eq_true rfl) dM_pop_35 ?_
    obtain ⟨z38, hz38, hfin⟩ := bd_ob hfin
    refine g_callMv [.int (m_right z10.1)] [] X hK m_rcv hI (ctm_go l D cA cB o q q1 q2 hne z10.2 (m_right z10.1) z38 hz38) (cwM_M_go X.2.2.2.2 ⟨Nat.le_of_ble_eq_true rfl, Nat.le_of_ble_eq_true rfl⟩) rfl hl.1 rfl (Nat.le_of_ble_eq_true rfl) dM_pop_38 (fun H locs hI => ?_)
    exact B_41 z38 H locs ls (lv_sub hl [1, 2, 3, 4] rfl) hI hfin
  rw [if_pos hc19] at hfin
  refine lv_aload_n hx hb dM_pop_22 rfl (lv_at hl 1 rfl) ?_
  refine lv_iload_n hx hb dM_pop_23 rfl (lv_at hl 4 rfl) ?_
  refine lv_lload hx hb dM_pop_24 (lv_at hl 0 rfl) ?_
  obtain ⟨z26, hz26, hfin⟩ := bd_ob hfin
  refine g_callMv [.int a2, .long z10.1] [] X hK m_rcv hI (ctm_set l D cA cB o q q1 q2 hne z10.2 a2 z10.1 z26 hz26) (cwM_M_set X.2.2.2.2 ⟨Nat.le_of_ble_eq_true rfl, Nat.le_of_ble_eq_true rfl⟩) rfl hl.1 rfl (Nat.le_of_ble_eq_true rfl) dM_pop_26 (fun H locs hI => ?_)
  refine lv_goto (tgt := 41) hx hb dM_pop_29 (by decide) ?_
  exact B_41 z26 H locs ls (lv_sub hl [1, 2, 3, 4] rfl) hI hfin
