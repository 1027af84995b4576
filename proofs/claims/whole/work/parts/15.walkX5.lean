set_option maxHeartbeats 4000000 in
set_option maxRecDepth 100000 in
theorem ctx_countAndSkip (l : Launch) (D : va_G) (cA : ClassId) (o q : Nat) (hne : va_nd [o, q] = true) (u : XS) (a0 : Int32) (a1 : Int32) (a2 : Int32) (a3 : Int32) (z : XS) (hfin : x_countAndSkip u a0 a1 a2 a3 = some z) : gMv l yX_countAndSkip wX_countAndSkip (rmF 3 70) D [(cA, .long)] (XW cA o q) (XA o q) [.ref o, .int a0, .int a1, .int a2, .int a3] u z := by
  refine g_start (plainFor_of_name (by decide)) (Nat.le_of_ble_eq_true rfl) ?_
  intro p e s0 m args below meth c ls X hr hlk hB hl
  obtain ⟨hP0, hK⟩ := hB
  have hI : gI D (XW cA o q) (XA o q) s0.heap s0.heap [] u := ⟨hP0, va_S.rf⟩
  have hl : lv_has ls 7 [(0, .ref o), (1, .int a0), (2, .int a1), (3, .int a2), (4, .int a3)] := hl
  have hx := X.1
  have hb := X.2.1
  rw [x_countAndSkip] at hfin
  refine lv_aload_n hx hb dX_countAndSkip_0 rfl (lv_at hl 0 rfl) ?_
  refine lv_aload_n hx hb dX_countAndSkip_1 rfl (lv_at hl 0 rfl) ?_
  refine lv_iload_n hx hb dX_countAndSkip_2 rfl (lv_at hl 3 rfl) ?_
  obtain ⟨z3, hz3, hfin⟩ := bd_ob hfin
  refine g_callMl [.int a2] [.ref o] X hK x_rcv hI (ctx_read l D cA o q hne u a2 z3 hz3) (cwX_X_read X.2.2.2.2 ⟨Nat.le_of_ble_eq_true rfl, Nat.le_of_ble_eq_true rfl⟩) rfl hl.1 rfl (Nat.le_of_ble_eq_true rfl) dX_countAndSkip_3 (fun H locs hI => ?_)
  refine g_callPl [.long z3.1] [.ref o] X (ctx_signed l z3.1) (cwX_X_signed X.2.2.2.2 ⟨Nat.le_of_ble_eq_true rfl, Nat.le_of_ble_eq_true rfl⟩) rfl hl.1 rfl (Nat.le_of_ble_eq_true rfl) dX_countAndSkip_6 ?_
  refine lv_iload hx hb dX_countAndSkip_9 (lv_at hl 4 rfl) ?_
  refine lv_i2l hx hb dX_countAndSkip_11 rfl ?_
  refine lv_ladd hx hb dX_countAndSkip_12 ?_
  obtain ⟨z13, hz13, hfin⟩ := bd_ob hfin
  refine g_callMl [.long ((x_signed z3.1) + (a3.toInt64))] [] X hK x_rcv hI (ctx_fitted l D cA o q hne z3.2 ((x_signed z3.1) + (a3.toInt64)) z13 hz13) (cwX_X_fitted X.2.2.2.2 ⟨Nat.le_of_ble_eq_true rfl, Nat.le_of_ble_eq_true rfl⟩) rfl hl.1 rfl (Nat.le_of_ble_eq_true rfl) dX_countAndSkip_13 (fun H locs hI => ?_)
  refine lv_lstore (lv' := [(5, .long z13.1), (0, .ref o), (1, .int a0), (2, .int a1), (3, .int a2), (4, .int a3)]) hx hb dX_countAndSkip_16 hl (by decide) rfl (fun ls hl => ?_)
  refine lv_aload_n hx hb dX_countAndSkip_18 rfl (lv_at hl 1 rfl) ?_
  refine lv_iload_n hx hb dX_countAndSkip_19 rfl (lv_at hl 4 rfl) ?_
  refine lv_lload hx hb dX_countAndSkip_20 (lv_at hl 0 rfl) ?_
  obtain ⟨z22, hz22, hfin⟩ := bd_ob hfin
  refine g_callMv [.int a2, .long z13.1] [] X hK x_rcv hI (ctx_write l D cA o q hne z13.2 a2 z13.1 z22 hz22) (cwX_X_write X.2.2.2.2 ⟨Nat.le_of_ble_eq_true rfl, Nat.le_of_ble_eq_true rfl⟩) rfl hl.1 rfl (Nat.le_of_ble_eq_true rfl) dX_countAndSkip_22 (fun H locs hI => ?_)
  refine lv_aload_n hx hb dX_countAndSkip_25 rfl (lv_at hl 1 rfl) ?_
  refine lv_iload_n hx hb dX_countAndSkip_26 rfl (lv_at hl 2 rfl) ?_
  refine lv_iload_n hx hb dX_countAndSkip_27 rfl (lv_at hl 3 rfl) ?_
  refine lv_lload hx hb dX_countAndSkip_28 (lv_at hl 0 rfl) ?_
  obtain ⟨z30, hz30, hfin⟩ := bd_ob hfin
  refine g_callMv [.int a0, .int a1, .long z13.1] [] X hK x_rcv hI (ctx_skipOnWord l D cA o q hne z22 a0 a1 z13.1 z30 hz30) (cwX_X_skipOnWord X.2.2.2.2 ⟨Nat.le_of_ble_eq_true rfl, Nat.le_of_ble_eq_true rfl⟩) rfl hl.1 rfl (Nat.le_of_ble_eq_true rfl) dX_countAndSkip_30 (fun H locs hI => ?_)
  exact g_vret X hr hlk hK hI hfin dX_countAndSkip_33
set_option maxHeartbeats 4000000 in
set_option maxRecDepth 100000 in
theorem ctx_compare (l : Launch) (D : va_G) (cA : ClassId) (o q : Nat) (hne : va_nd [o, q] = true) (u : XS) (a0 : Int32) (a1 : Int32) (a2 : Int32) (z : XS) (hfin : x_compare u a0 a1 a2 = some z) : gMv l yX_compare wX_compare (rmF 4 96) D [(cA, .long)] (XW cA o q) (XA o q) [.ref o, .int a0, .int a1, .int a2] u z := by
  refine g_start (plainFor_of_name (by decide)) (Nat.le_of_ble_eq_true rfl) ?_
  intro p e s0 m args below meth c ls X hr hlk hB hl
  obtain ⟨hP0, hK⟩ := hB
  have hI : gI D (XW cA o q) (XA o q) s0.heap s0.heap [] u := ⟨hP0, va_S.rf⟩
  have hl : lv_has ls 7 [(0, .ref o), (1, .int a0), (2, .int a1), (3, .int a2)] := hl
  have hx := X.1
  have hb := X.2.1
  rw [x_compare] at hfin
  refine lv_iload_n hx hb dX_compare_0 rfl (lv_at hl 1 rfl) ?_
  refine lv_bipush (v := (7 : Int32)) hx hb dX_compare_1 (by decide) ?_
  refine lv_iand hx hb dX_compare_3 ?_
  refine lv_topi (fun x4 e4 => ?_)
  replace hfin := nm_at hfin e4
  refine lv_istore (lv' := [(4, .int x4), (0, .ref o), (1, .int a0), (2, .int a1), (3, .int a2)]) hx hb dX_compare_4 hl (by decide) rfl (fun ls hl => ?_)
  refine lv_aload_n hx hb dX_compare_6 rfl (lv_at hl 1 rfl) ?_
  refine xg_words X hK hI.1 dX_compare_7 ?_
  refine lv_iload_n hx hb dX_compare_10 rfl (lv_at hl 3 rfl) ?_
  obtain ⟨hd11, hfin⟩ := ck_if hfin
  refine xl_words X hK hI.1 hd11 dX_compare_11 ?_
  refine g_callPl [.long (X_words u a1.toNatClampNeg)] [] X (ctx_signed l (X_words u a1.toNatClampNeg)) (cwX_X_signed X.2.2.2.2 ⟨Nat.le_of_ble_eq_true rfl, Nat.le_of_ble_eq_true rfl⟩) rfl hl.1 rfl (Nat.le_of_ble_eq_true rfl) dX_compare_12 ?_
  refine lv_topl (fun x15 e15 => ?_)
  replace hfin := nm_at hfin e15
  refine lv_lstore (lv' := [(5, .long x15), (4, .int x4), (0, .ref o), (1, .int a0), (2, .int a1), (3, .int a2)]) hx hb dX_compare_15 hl (by decide) rfl (fun ls hl => ?_)
  refine lv_iload_n hx hb dX_compare_17 rfl (lv_at hl 3 rfl) ?_
  refine lv_iconst (v := (3 : Int32)) hx hb dX_compare_18 (by decide) ?_
  refine lv_ishr hx hb dX_compare_19 ?_
  refine lv_bipush (v := (7 : Int32)) hx hb dX_compare_20 (by decide) ?_
  refine lv_iand hx hb dX_compare_22 ?_
  by_cases hk23_0 : ((a0 >>> ((3 : Int32) &&& 31)) &&& (7 : Int32)) = (0 : Int32)
  · rw [if_pos hk23_0] at hfin
    refine lv_tableIn hx hb dX_compare_23 (off := 41) (tgt := 64) (by rw [hk23_0]; decide) (by rw [hk23_0]; decide) (by rw [hk23_0]; rfl) (by decide) ?_
    refine lv_aload_n hx hb dX_compare_64 rfl (lv_at hl 2 rfl) ?_
    refine lv_iload hx hb dX_compare_65 (lv_at hl 1 rfl) ?_
    refine lv_lload hx hb dX_compare_67 (lv_at hl 0 rfl) ?_
    refine lv_iload_n hx hb dX_compare_69 rfl (lv_at hl 5 rfl) ?_
    refine lv_i2l hx hb dX_compare_70 rfl ?_
    refine lv_lsub hx hb dX_compare_71 ?_
    refine g_callPi [.int x4, .long (x15 - (a2.toInt64))] [.ref o] X (ctx_holds l x4 (x15 - (a2.toInt64))) (cwX_X_holds X.2.2.2.2 ⟨Nat.le_of_ble_eq_true rfl, Nat.le_of_ble_eq_true rfl⟩) rfl hl.1 rfl (Nat.le_of_ble_eq_true rfl) dX_compare_72 ?_
    obtain ⟨z75, hz75, hfin⟩ := bd_ob hfin
    refine g_callMv [.int (x_holds x4 (x15 - (a2.toInt64)))] [] X hK x_rcv hI (ctx_skipIf l D cA o q hne u (x_holds x4 (x15 - (a2.toInt64))) z75 hz75) (cwX_X_skipIf X.2.2.2.2 ⟨Nat.le_of_ble_eq_true rfl, Nat.le_of_ble_eq_true rfl⟩) rfl hl.1 rfl (Nat.le_of_ble_eq_true rfl) dX_compare_75 (fun H locs hI => ?_)
    exact g_vret X hr hlk hK hI hfin dX_compare_78
  rw [if_neg hk23_0] at hfin
  by_cases hk23_1 : ((a0 >>> ((3 : Int32) &&& 31)) &&& (7 : Int32)) = (1 : Int32)
  · rw [if_pos hk23_1] at hfin
    refine lv_tableIn hx hb dX_compare_23 (off := 56) (tgt := 79) (by rw [hk23_1]; decide) (by rw [hk23_1]; decide) (by rw [hk23_1]; rfl) (by decide) ?_
    refine lv_aload_n hx hb dX_compare_79 rfl (lv_at hl 2 rfl) ?_
    refine lv_iload hx hb dX_compare_80 (lv_at hl 1 rfl) ?_
    refine lv_lload hx hb dX_compare_82 (lv_at hl 0 rfl) ?_
    refine lv_aload_n hx hb dX_compare_84 rfl (lv_at hl 2 rfl) ?_
    refine lv_iload_n hx hb dX_compare_85 rfl (lv_at hl 5 rfl) ?_
    obtain ⟨z86, hz86, hfin⟩ := bd_ob hfin
    refine g_callMl [.int a2] [.long x15, .int x4, .ref o] X hK x_rcv hI (ctx_read l D cA o q hne u a2 z86 hz86) (cwX_X_read X.2.2.2.2 ⟨Nat.le_of_ble_eq_true rfl, Nat.le_of_ble_eq_true rfl⟩) rfl hl.1 rfl (Nat.le_of_ble_eq_true rfl) dX_compare_86 (fun H locs hI => ?_)
    refine g_callPl [.long z86.1] [.long x15, .int x4, .ref o] X (ctx_signed l z86.1) (cwX_X_signed X.2.2.2.2 ⟨Nat.le_of_ble_eq_true rfl, Nat.le_of_ble_eq_true rfl⟩) rfl hl.1 rfl (Nat.le_of_ble_eq_true rfl) dX_compare_89 ?_
    refine lv_lsub hx hb dX_compare_92 ?_
    refine g_callPi [.int x4, .long (x15 - (x_signed z86.1))] [.ref o] X (ctx_holds l x4 (x15 - (x_signed z86.1))) (cwX_X_holds X.2.2.2.2 ⟨Nat.le_of_ble_eq_true rfl, Nat.le_of_ble_eq_true rfl⟩) rfl hl.1 rfl (Nat.le_of_ble_eq_true rfl) dX_compare_93 ?_
    obtain ⟨z96, hz96, hfin⟩ := bd_ob hfin
    refine g_callMv [.int (x_holds x4 (x15 - (x_signed z86.1)))] [] X hK x_rcv hI (ctx_skipIf l D cA o q hne z86.2 (x_holds x4 (x15 - (x_signed z86.1))) z96 hz96) (cwX_X_skipIf X.2.2.2.2 ⟨Nat.le_of_ble_eq_true rfl, Nat.le_of_ble_eq_true rfl⟩) rfl hl.1 rfl (Nat.le_of_ble_eq_true rfl) dX_compare_96 (fun H locs hI => ?_)
    exact g_vret X hr hlk hK hI hfin dX_compare_99
  rw [if_neg hk23_1] at hfin
  by_cases hk23_2 : ((a0 >>> ((3 : Int32) &&& 31)) &&& (7 : Int32)) = (2 : Int32)
  · rw [if_pos hk23_2] at hfin
    refine lv_tableIn hx hb dX_compare_23 (off := 77) (tgt := 100) (by rw [hk23_2]; decide) (by rw [hk23_2]; decide) (by rw [hk23_2]; rfl) (by decide) ?_
    refine lv_aload_n hx hb dX_compare_100 rfl (lv_at hl 2 rfl) ?_
    refine lv_iload hx hb dX_compare_101 (lv_at hl 1 rfl) ?_
    refine lv_lload hx hb dX_compare_103 (lv_at hl 0 rfl) ?_
    refine g_callPi [.int x4, .long x15] [.ref o] X (ctx_holds l x4 x15) (cwX_X_holds X.2.2.2.2 ⟨Nat.le_of_ble_eq_true rfl, Nat.le_of_ble_eq_true rfl⟩) rfl hl.1 rfl (Nat.le_of_ble_eq_true rfl) dX_compare_105 ?_
    refine lv_iload_n hx hb dX_compare_108 rfl (lv_at hl 5 rfl) ?_
    obtain ⟨z109, hz109, hfin⟩ := bd_ob hfin
    refine g_callMv [.int (x_holds x4 x15), .int a2] [] X hK x_rcv hI (ctx_jumpIf l D cA o q hne u (x_holds x4 x15) a2 z109 hz109) (cwX_X_jumpIf X.2.2.2.2 ⟨Nat.le_of_ble_eq_true rfl, Nat.le_of_ble_eq_true rfl⟩) rfl hl.1 rfl (Nat.le_of_ble_eq_true rfl) dX_compare_109 (fun H locs hI => ?_)
    exact g_vret X hr hlk hK hI hfin dX_compare_112
  rw [if_neg hk23_2] at hfin
  by_cases hk23_3 : ((a0 >>> ((3 : Int32) &&& 31)) &&& (7 : Int32)) = (3 : Int32)
  · rw [if_pos hk23_3] at hfin
    refine lv_tableIn hx hb dX_compare_23 (off := 90) (tgt := 113) (by rw [hk23_3]; decide) (by rw [hk23_3]; decide) (by rw [hk23_3]; rfl) (by decide) ?_
    refine lv_aload_n hx hb dX_compare_113 rfl (lv_at hl 2 rfl) ?_
    refine lv_iload hx hb dX_compare_114 (lv_at hl 1 rfl) ?_
    refine lv_iload_n hx hb dX_compare_116 rfl (lv_at hl 4 rfl) ?_
    refine lv_aload_n hx hb dX_compare_117 rfl (lv_at hl 2 rfl) ?_
    refine lv_iload_n hx hb dX_compare_118 rfl (lv_at hl 5 rfl) ?_
    obtain ⟨z119, hz119, hfin⟩ := bd_ob hfin
    refine g_callMl [.int a2] [.int a1, .int x4, .ref o] X hK x_rcv hI (ctx_read l D cA o q hne u a2 z119 hz119) (cwX_X_read X.2.2.2.2 ⟨Nat.le_of_ble_eq_true rfl, Nat.le_of_ble_eq_true rfl⟩) rfl hl.1 rfl (Nat.le_of_ble_eq_true rfl) dX_compare_119 (fun H locs hI => ?_)
    obtain ⟨z122, hz122, hfin⟩ := bd_ob hfin
    refine g_callMv [.int x4, .int a1, .long z119.1] [] X hK x_rcv hI (ctx_skipOnWord l D cA o q hne z119.2 x4 a1 z119.1 z122 hz122) (cwX_X_skipOnWord X.2.2.2.2 ⟨Nat.le_of_ble_eq_true rfl, Nat.le_of_ble_eq_true rfl⟩) rfl hl.1 rfl (Nat.le_of_ble_eq_true rfl) dX_compare_122 (fun H locs hI => ?_)
    exact g_vret X hr hlk hK hI hfin dX_compare_125
  rw [if_neg hk23_3] at hfin
  by_cases hk23_4 : ((a0 >>> ((3 : Int32) &&& 31)) &&& (7 : Int32)) = (4 : Int32)
  · rw [if_pos hk23_4] at hfin
    refine lv_tableIn hx hb dX_compare_23 (off := 103) (tgt := 126) (by rw [hk23_4]; decide) (by rw [hk23_4]; decide) (by rw [hk23_4]; rfl) (by decide) ?_
    refine lv_aload_n hx hb dX_compare_126 rfl (lv_at hl 2 rfl) ?_
    refine lv_iload hx hb dX_compare_127 (lv_at hl 1 rfl) ?_
    refine lv_iload_n hx hb dX_compare_129 rfl (lv_at hl 4 rfl) ?_
    refine lv_iload_n hx hb dX_compare_130 rfl (lv_at hl 5 rfl) ?_
    refine lv_iconst (v := (1 : Int32)) hx hb dX_compare_131 (by decide) ?_
    obtain ⟨z132, hz132, hfin⟩ := bd_ob hfin
    refine g_callMv [.int x4, .int a1, .int a2, .int (1 : Int32)] [] X hK x_rcv hI (ctx_countAndJump l D cA o q hne u x4 a1 a2 (1 : Int32) z132 hz132) (cwX_X_countAndJump X.2.2.2.2 ⟨Nat.le_of_ble_eq_true rfl, Nat.le_of_ble_eq_true rfl⟩) rfl hl.1 rfl (Nat.le_of_ble_eq_true rfl) dX_compare_132 (fun H locs hI => ?_)
    exact g_vret X hr hlk hK hI hfin dX_compare_135
  rw [if_neg hk23_4] at hfin
  by_cases hk23_5 : ((a0 >>> ((3 : Int32) &&& 31)) &&& (7 : Int32)) = (5 : Int32)
  · rw [if_pos hk23_5] at hfin
    refine lv_tableIn hx hb dX_compare_23 (off := 113) (tgt := 136) (by rw [hk23_5]; decide) (by rw [hk23_5]; decide) (by rw [hk23_5]; rfl) (by decide) ?_
    refine lv_aload_n hx hb dX_compare_136 rfl (lv_at hl 2 rfl) ?_
    refine lv_iload hx hb dX_compare_137 (lv_at hl 1 rfl) ?_
    refine lv_iload_n hx hb dX_compare_139 rfl (lv_at hl 4 rfl) ?_
    refine lv_iload_n hx hb dX_compare_140 rfl (lv_at hl 5 rfl) ?_
    refine lv_iconst (v := (1 : Int32)) hx hb dX_compare_141 (by decide) ?_
    obtain ⟨z142, hz142, hfin⟩ := bd_ob hfin
    refine g_callMv [.int x4, .int a1, .int a2, .int (1 : Int32)] [] X hK x_rcv hI (ctx_countAndSkip l D cA o q hne u x4 a1 a2 (1 : Int32) z142 hz142) (cwX_X_countAndSkip X.2.2.2.2 ⟨Nat.le_of_ble_eq_true rfl, Nat.le_of_ble_eq_true rfl⟩) rfl hl.1 rfl (Nat.le_of_ble_eq_true rfl) dX_compare_142 (fun H locs hI => ?_)
    exact g_vret X hr hlk hK hI hfin dX_compare_145
  rw [if_neg hk23_5] at hfin
  by_cases hk23_6 : ((a0 >>> ((3 : Int32) &&& 31)) &&& (7 : Int32)) = (6 : Int32)
  · rw [if_pos hk23_6] at hfin
    refine lv_tableIn hx hb dX_compare_23 (off := 123) (tgt := 146) (by rw [hk23_6]; decide) (by rw [hk23_6]; decide) (by rw [hk23_6]; rfl) (by decide) ?_
    refine lv_aload_n hx hb dX_compare_146 rfl (lv_at hl 2 rfl) ?_
    refine lv_iload hx hb dX_compare_147 (lv_at hl 1 rfl) ?_
    refine lv_iload_n hx hb dX_compare_149 rfl (lv_at hl 4 rfl) ?_
    refine lv_iload_n hx hb dX_compare_150 rfl (lv_at hl 5 rfl) ?_
    refine lv_iconst (v := (-1 : Int32)) hx hb dX_compare_151 (by decide) ?_
    obtain ⟨z152, hz152, hfin⟩ := bd_ob hfin
    refine g_callMv [.int x4, .int a1, .int a2, .int (-1 : Int32)] [] X hK x_rcv hI (ctx_countAndJump l D cA o q hne u x4 a1 a2 (-1 : Int32) z152 hz152) (cwX_X_countAndJump X.2.2.2.2 ⟨Nat.le_of_ble_eq_true rfl, Nat.le_of_ble_eq_true rfl⟩) rfl hl.1 rfl (Nat.le_of_ble_eq_true rfl) dX_compare_152 (fun H locs hI => ?_)
    exact g_vret X hr hlk hK hI hfin dX_compare_155
  rw [if_neg hk23_6] at hfin
  have hn23_0 := i32_ne (0 : Int32) 0 (by decide) hk23_0
  have hn23_1 := i32_ne (1 : Int32) 1 (by decide) hk23_1
  have hn23_2 := i32_ne (2 : Int32) 2 (by decide) hk23_2
  have hn23_3 := i32_ne (3 : Int32) 3 (by decide) hk23_3
  have hn23_4 := i32_ne (4 : Int32) 4 (by decide) hk23_4
  have hn23_5 := i32_ne (5 : Int32) 5 (by decide) hk23_5
  have hn23_6 := i32_ne (6 : Int32) 6 (by decide) hk23_6
  refine lv_tableOut hx hb dX_compare_23 (tgt := 156) (by omega) (by decide) ?_
  refine lv_aload_n hx hb dX_compare_156 rfl (lv_at hl 2 rfl) ?_
  refine lv_iload hx hb dX_compare_157 (lv_at hl 1 rfl) ?_
  refine lv_iload_n hx hb dX_compare_159 rfl (lv_at hl 4 rfl) ?_
  refine lv_iload_n hx hb dX_compare_160 rfl (lv_at hl 5 rfl) ?_
  refine lv_iconst (v := (-1 : Int32)) hx hb dX_compare_161 (by decide) ?_
  obtain ⟨z162, hz162, hfin⟩ := bd_ob hfin
  refine g_callMv [.int x4, .int a1, .int a2, .int (-1 : Int32)] [] X hK x_rcv hI (ctx_countAndSkip l D cA o q hne u x4 a1 a2 (-1 : Int32) z162 hz162) (cwX_X_countAndSkip X.2.2.2.2 ⟨Nat.le_of_ble_eq_true rfl, Nat.le_of_ble_eq_true rfl⟩) rfl hl.1 rfl (Nat.le_of_ble_eq_true rfl) dX_compare_162 (fun H locs hI => ?_)
  exact g_vret X hr hlk hK hI hfin dX_compare_165
set_option maxHeartbeats 4000000 in
set_option maxRecDepth 100000 in
theorem ctx_logic (l : Launch) (D : va_G) (cA : ClassId) (o q : Nat) (hne : va_nd [o, q] = true) (u : XS) (a0 : Int32) (a1 : Int32) (a2 : Int32) (z : XS) (hfin : x_logic u a0 a1 a2 = some z) : gMv l yX_logic wX_logic (rmF 3 71) D [(cA, .long)] (XW cA o q) (XA o q) [.ref o, .int a0, .int a1, .int a2] u z := by
  refine g_start (plainFor_of_name (by decide)) (Nat.le_of_ble_eq_true rfl) ?_
  intro p e s0 m args below meth c ls X hr hlk hB hl
  obtain ⟨hP0, hK⟩ := hB
  have hI : gI D (XW cA o q) (XA o q) s0.heap s0.heap [] u := ⟨hP0, va_S.rf⟩
  have hl : lv_has ls 12 [(0, .ref o), (1, .int a0), (2, .int a1), (3, .int a2)] := hl
  have hx := X.1
  have hb := X.2.1
  have B_118 : ∀ (u : XS) (v4 : Int32) (v10 : Int64) (H : Heap) (locs : List Loc) (ls : Array Slot), lv_has ls 12 [(0, .ref o), (1, .int a0), (2, .int a1), (3, .int a2), (4, .int v4), (10, .long v10)] → gI D (XW cA o q) (XA o q) s0.heap H locs u → x_logic_118 a0 a1 a2 u v4 v10 = some z → W p l e (rmF 3 71) s0 m args below meth c H locs 0 0 (MQ below (va_Qv (fun x => x = z) (gB D [(cA, .long)] (XW cA o q)) (XA o q)) args s0 0 0 (XA o q)) (F0 m 118 ls []) := by
    intro u v4 v10 H locs ls hl hI hfin
    rw [x_logic_118] at hfin
    refine lv_aload_n hx hb dX_logic_118 rfl (lv_at hl 0 rfl) ?_
    refine lv_iload hx hb dX_logic_119 (lv_at hl 4 rfl) ?_
    refine lv_iload_n hx hb dX_logic_121 rfl (lv_at hl 2 rfl) ?_
    refine lv_iload_n hx hb dX_logic_122 rfl (lv_at hl 3 rfl) ?_
    refine lv_lload hx hb dX_logic_123 (lv_at hl 5 rfl) ?_
    refine lv_ldc2 hx hb X.2.2.2.1 (X.2.2.2.2 _ hkX_17) dX_logic_125 ?_
    refine lv_land hx hb dX_logic_128 ?_
    obtain ⟨z129, hz129, hfin⟩ := bd_ob hfin
    refine g_callMv [.int v4, .int a1, .int a2, .long (v10 &&& (68719476735 : Int64))] [] X hK x_rcv hI (ctx_putResult l D cA o q hne u v4 a1 a2 (v10 &&& (68719476735 : Int64)) z129 hz129) (cwX_X_putResult X.2.2.2.2 ⟨Nat.le_of_ble_eq_true rfl, Nat.le_of_ble_eq_true rfl⟩) rfl hl.1 rfl (Nat.le_of_ble_eq_true rfl) dX_logic_129 (fun H locs hI => ?_)
    exact g_vret X hr hlk hK hI hfin dX_logic_132
  have B_101 : ∀ (u : XS) (v4 : Int32) (v5 : Int32) (v6 : Int64) (v8 : Int64) (v10 : Int64) (H : Heap) (locs : List Loc) (ls : Array Slot), lv_has ls 12 [(0, .ref o), (1, .int a0), (2, .int a1), (3, .int a2), (4, .int v4), (5, .int v5), (6, .long v6), (8, .long v8), (10, .long v10)] → gI D (XW cA o q) (XA o q) s0.heap H locs u → x_logic_101 a0 a1 a2 u v4 v5 v6 v8 v10 = some z → W p l e (rmF 3 71) s0 m args below meth c H locs 0 0 (MQ below (va_Qv (fun x => x = z) (gB D [(cA, .long)] (XW cA o q)) (XA o q)) args s0 0 0 (XA o q)) (F0 m 101 ls []) := by
    intro u v4 v5 v6 v8 v10 H locs ls hl hI hfin
    rw [x_logic_101] at hfin
    refine lv_iload hx hb dX_logic_101 (lv_at hl 5 rfl) ?_
    refine lv_iconst (v := (1 : Int32)) hx hb dX_logic_103 (by decide) ?_
    refine lv_iand hx hb dX_logic_104 ?_
    refine lv_if_eq (tgt := 118) hx hb dX_logic_105 (by decide) (fun hc105 => ?_) (fun hc105 => ?_)
    · rw [if_pos hc105] at hfin
      exact B_118 u v4 v10 H locs ls (lv_sub hl [0, 1, 2, 3, 4, 8] rfl) hI hfin
    rw [if_neg hc105] at hfin
    refine lv_lload hx hb dX_logic_108 (lv_at hl 8 rfl) ?_
    refine lv_lload hx hb dX_logic_110 (lv_at hl 6 rfl) ?_
    refine lv_lload hx hb dX_logic_112 (lv_at hl 7 rfl) ?_
    refine lv_land hx hb dX_logic_114 ?_
    refine lv_lor hx hb dX_logic_115 ?_
    refine lv_topl (fun x116 e116 => ?_)
    replace hfin := nm_at hfin e116
    refine lv_lstore (lv' := [(10, .long x116), (0, .ref o), (1, .int a0), (2, .int a1), (3, .int a2), (4, .int v4), (5, .int v5), (6, .long v6), (8, .long v8)]) hx hb dX_logic_116 hl (by decide) rfl (fun ls hl => ?_)
    exact B_118 u v4 x116 H locs ls (lv_sub hl [1, 2, 3, 4, 5, 0] rfl) hI hfin
  have B_80 : ∀ (u : XS) (v4 : Int32) (v5 : Int32) (v6 : Int64) (v8 : Int64) (v10 : Int64) (H : Heap) (locs : List Loc) (ls : Array Slot), lv_has ls 12 [(0, .ref o), (1, .int a0), (2, .int a1), (3, .int a2), (4, .int v4), (5, .int v5), (6, .long v6), (8, .long v8), (10, .long v10)] → gI D (XW cA o q) (XA o q) s0.heap H locs u → x_logic_80 a0 a1 a2 u v4 v5 v6 v8 v10 = some z → W p l e (rmF 3 71) s0 m args below meth c H locs 0 0 (MQ below (va_Qv (fun x => x = z) (gB D [(cA, .long)] (XW cA o q)) (XA o q)) args s0 0 0 (XA o q)) (F0 m 80 ls []) := by
    intro u v4 v5 v6 v8 v10 H locs ls hl hI hfin
    rw [x_logic_80] at hfin
    refine lv_iload hx hb dX_logic_80 (lv_at hl 5 rfl) ?_
    refine lv_iconst (v := (2 : Int32)) hx hb dX_logic_82 (by decide) ?_
    refine lv_iand hx hb dX_logic_83 ?_
    refine lv_if_eq (tgt := 101) hx hb dX_logic_84 (by decide) (fun hc84 => ?_) (fun hc84 => ?_)
    · rw [if_pos hc84] at hfin
      exact B_101 u v4 v5 v6 v8 v10 H locs ls (lv_sub hl [0, 1, 2, 3, 4, 5, 6, 7, 8] rfl) hI hfin
    rw [if_neg hc84] at hfin
    refine lv_lload hx hb dX_logic_87 (lv_at hl 8 rfl) ?_
    refine lv_lload hx hb dX_logic_89 (lv_at hl 6 rfl) ?_
    refine lv_lload hx hb dX_logic_91 (lv_at hl 7 rfl) ?_
    refine lv_ldc2 hx hb X.2.2.2.1 (X.2.2.2.2 _ hkX_19) dX_logic_93 ?_
    refine lv_lxor hx hb dX_logic_96 ?_
    refine lv_land hx hb dX_logic_97 ?_
    refine lv_lor hx hb dX_logic_98 ?_
    refine lv_topl (fun x99 e99 => ?_)
    replace hfin := nm_at hfin e99
    refine lv_lstore (lv' := [(10, .long x99), (0, .ref o), (1, .int a0), (2, .int a1), (3, .int a2), (4, .int v4), (5, .int v5), (6, .long v6), (8, .long v8)]) hx hb dX_logic_99 hl (by decide) rfl (fun ls hl => ?_)
    exact B_101 u v4 v5 v6 v8 x99 H locs ls (lv_sub hl [1, 2, 3, 4, 5, 6, 7, 8, 0] rfl) hI hfin
  have B_59 : ∀ (u : XS) (v4 : Int32) (v5 : Int32) (v6 : Int64) (v8 : Int64) (v10 : Int64) (H : Heap) (locs : List Loc) (ls : Array Slot), lv_has ls 12 [(0, .ref o), (1, .int a0), (2, .int a1), (3, .int a2), (4, .int v4), (5, .int v5), (6, .long v6), (8, .long v8), (10, .long v10)] → gI D (XW cA o q) (XA o q) s0.heap H locs u → x_logic_59 a0 a1 a2 u v4 v5 v6 v8 v10 = some z → W p l e (rmF 3 71) s0 m args below meth c H locs 0 0 (MQ below (va_Qv (fun x => x = z) (gB D [(cA, .long)] (XW cA o q)) (XA o q)) args s0 0 0 (XA o q)) (F0 m 59 ls []) := by
    intro u v4 v5 v6 v8 v10 H locs ls hl hI hfin
    rw [x_logic_59] at hfin
    refine lv_iload hx hb dX_logic_59 (lv_at hl 5 rfl) ?_
    refine lv_iconst (v := (4 : Int32)) hx hb dX_logic_61 (by decide) ?_
    refine lv_iand hx hb dX_logic_62 ?_
    refine lv_if_eq (tgt := 80) hx hb dX_logic_63 (by decide) (fun hc63 => ?_) (fun hc63 => ?_)
    · rw [if_pos hc63] at hfin
      exact B_80 u v4 v5 v6 v8 v10 H locs ls (lv_sub hl [0, 1, 2, 3, 4, 5, 6, 7, 8] rfl) hI hfin
    rw [if_neg hc63] at hfin
    refine lv_lload hx hb dX_logic_66 (lv_at hl 8 rfl) ?_
    refine lv_lload hx hb dX_logic_68 (lv_at hl 6 rfl) ?_
    refine lv_ldc2 hx hb X.2.2.2.1 (X.2.2.2.2 _ hkX_19) dX_logic_70 ?_
    refine lv_lxor hx hb dX_logic_73 ?_
    refine lv_lload hx hb dX_logic_74 (lv_at hl 7 rfl) ?_
    refine lv_land hx hb dX_logic_76 ?_
    refine lv_lor hx hb dX_logic_77 ?_
    refine lv_topl (fun x78 e78 => ?_)
    replace hfin := nm_at hfin e78
    refine lv_lstore (lv' := [(10, .long x78), (0, .ref o), (1, .int a0), (2, .int a1), (3, .int a2), (4, .int v4), (5, .int v5), (6, .long v6), (8, .long v8)]) hx hb dX_logic_78 hl (by decide) rfl (fun ls hl => ?_)
    exact B_80 u v4 v5 v6 v8 x78 H locs ls (lv_sub hl [1, 2, 3, 4, 5, 6, 7, 8, 0] rfl) hI hfin
  rw [x_logic] at hfin
  refine lv_iload_n hx hb dX_logic_0 rfl (lv_at hl 1 rfl) ?_
  refine lv_iconst (v := (3 : Int32)) hx hb dX_logic_1 (by decide) ?_
  refine lv_iand hx hb dX_logic_2 ?_
  refine lv_topi (fun x3 e3 => ?_)
  replace hfin := nm_at hfin e3
  refine lv_istore (lv' := [(4, .int x3), (0, .ref o), (1, .int a0), (2, .int a1), (3, .int a2)]) hx hb dX_logic_3 hl (by decide) rfl (fun ls hl => ?_)
  refine lv_iload_n hx hb dX_logic_5 rfl (lv_at hl 2 rfl) ?_
  refine lv_iconst (v := (2 : Int32)) hx hb dX_logic_6 (by decide) ?_
  refine lv_ishr hx hb dX_logic_7 ?_
  refine lv_bipush (v := (15 : Int32)) hx hb dX_logic_8 (by decide) ?_
  refine lv_iand hx hb dX_logic_10 ?_
  refine lv_topi (fun x11 e11 => ?_)
  replace hfin := nm_at hfin e11
  refine lv_istore (lv' := [(5, .int x11), (4, .int x3), (0, .ref o), (1, .int a0), (2, .int a1), (3, .int a2)]) hx hb dX_logic_11 hl (by decide) rfl (fun ls hl => ?_)
  refine lv_aload_n hx hb dX_logic_13 rfl (lv_at hl 2 rfl) ?_
  refine xg_words X hK hI.1 dX_logic_14 ?_
  refine lv_iload_n hx hb dX_logic_17 rfl (lv_at hl 4 rfl) ?_
  obtain ⟨hd18, hfin⟩ := ck_if hfin
  refine xl_words X hK hI.1 hd18 dX_logic_18 ?_
  refine lv_topl (fun x19 e19 => ?_)
  replace hfin := nm_at hfin e19
  refine lv_lstore (lv' := [(6, .long x19), (5, .int x11), (4, .int x3), (0, .ref o), (1, .int a0), (2, .int a1), (3, .int a2)]) hx hb dX_logic_19 hl (by decide) rfl (fun ls hl => ?_)
  refine lv_aload_n hx hb dX_logic_21 rfl (lv_at hl 3 rfl) ?_
  refine lv_iload hx hb dX_logic_22 (lv_at hl 2 rfl) ?_
  refine lv_iload_n hx hb dX_logic_24 rfl (lv_at hl 6 rfl) ?_
  obtain ⟨z25, hz25, hfin⟩ := bd_ob hfin
  refine g_callMl [.int x3, .int a2] [] X hK x_rcv hI (ctx_source l D cA o q hne u x3 a2 z25 hz25) (cwX_X_source X.2.2.2.2 ⟨Nat.le_of_ble_eq_true rfl, Nat.le_of_ble_eq_true rfl⟩) rfl hl.1 rfl (Nat.le_of_ble_eq_true rfl) dX_logic_25 (fun H locs hI => ?_)
  refine lv_lstore (lv' := [(8, .long z25.1), (6, .long x19), (5, .int x11), (4, .int x3), (0, .ref o), (1, .int a0), (2, .int a1), (3, .int a2)]) hx hb dX_logic_28 hl (by decide) rfl (fun ls hl => ?_)
  refine lv_lconst (v := (0 : Int64)) hx hb dX_logic_30 (by decide) ?_
  refine lv_lstore (lv' := [(10, .long (0 : Int64)), (8, .long z25.1), (6, .long x19), (5, .int x11), (4, .int x3), (0, .ref o), (1, .int a0), (2, .int a1), (3, .int a2)]) hx hb dX_logic_31 hl (by decide) rfl (fun ls hl => ?_)
  refine lv_iload hx hb dX_logic_33 (lv_at hl 3 rfl) ?_
  refine lv_bipush (v := (8 : Int32)) hx hb dX_logic_35 (by decide) ?_
  refine lv_iand hx hb dX_logic_37 ?_
  refine lv_if_eq (tgt := 59) hx hb dX_logic_38 (by decide) (fun hc38 => ?_) (fun hc38 => ?_)
  · rw [if_pos hc38] at hfin
    exact B_59 z25.2 x3 x11 x19 z25.1 (0 : Int64) H locs ls (lv_sub hl [5, 6, 7, 8, 4, 3, 2, 1, 0] rfl) hI hfin
  rw [if_neg hc38] at hfin
  refine lv_lload hx hb dX_logic_41 (lv_at hl 0 rfl) ?_
  refine lv_lload hx hb dX_logic_43 (lv_at hl 2 rfl) ?_
  refine lv_ldc2 hx hb X.2.2.2.1 (X.2.2.2.2 _ hkX_19) dX_logic_45 ?_
  refine lv_lxor hx hb dX_logic_48 ?_
  refine lv_lload hx hb dX_logic_49 (lv_at hl 1 rfl) ?_
  refine lv_ldc2 hx hb X.2.2.2.1 (X.2.2.2.2 _ hkX_19) dX_logic_51 ?_
  refine lv_lxor hx hb dX_logic_54 ?_
  refine lv_land hx hb dX_logic_55 ?_
  refine lv_lor hx hb dX_logic_56 ?_
  refine lv_topl (fun x57 e57 => ?_)
  replace hfin := nm_at hfin e57
  refine lv_lstore (lv' := [(10, .long x57), (8, .long z25.1), (6, .long x19), (5, .int x11), (4, .int x3), (0, .ref o), (1, .int a0), (2, .int a1), (3, .int a2)]) hx hb dX_logic_57 hl (by decide) rfl (fun ls hl => ?_)
  exact B_59 z25.2 x3 x11 x19 z25.1 x57 H locs ls (lv_sub hl [5, 6, 7, 8, 4, 3, 2, 1, 0] rfl) hI hfin
set_option maxHeartbeats 4000000 in
set_option maxRecDepth 100000 in
theorem ctx_otherHalf (l : Launch) (a0 : Int32) (a1 : Int32) (a2 : Int32) : gPi l yX_otherHalf wX_otherHalf (rmF 0 0) [.int a0, .int a1, .int a2] (x_otherHalf a0 a1 a2) := by
  obtain ⟨z, hz⟩ : ∃ z, z = x_otherHalf a0 a1 a2 := ⟨_, rfl⟩
  rw [← hz]
  have hfin := hz.symm
  clear hz
  refine g_start (plainFor_of_name (by decide)) (Nat.le_of_ble_eq_true rfl) ?_
  intro p e s0 m args below meth c ls X hr hlk hB hl
  have hl : lv_has ls 3 [(0, .int a0), (1, .int a1), (2, .int a2)] := hl
  have hx := X.1
  have hb := X.2.1
  rw [x_otherHalf] at hfin
  refine lv_iload_n hx hb dX_otherHalf_0 rfl (lv_at hl 0 rfl) ?_
  by_cases hk1_0 : a0 = (0 : Int32)
  · rw [if_pos hk1_0] at hfin
    refine lv_tableIn hx hb dX_otherHalf_1 (off := 27) (tgt := 28) (by rw [hk1_0]; decide) (by rw [hk1_0]; decide) (by rw [hk1_0]; rfl) (by decide) ?_
    refine lv_iload_n hx hb dX_otherHalf_28 rfl (lv_at hl 2 rfl) ?_
    exact g_iretP X hr hlk hfin dX_otherHalf_29
  rw [if_neg hk1_0] at hfin
  by_cases hk1_1 : a0 = (1 : Int32)
  · rw [if_pos hk1_1] at hfin
    refine lv_tableIn hx hb dX_otherHalf_1 (off := 29) (tgt := 30) (by rw [hk1_1]; decide) (by rw [hk1_1]; decide) (by rw [hk1_1]; rfl) (by decide) ?_
    refine lv_iconst (v := (0 : Int32)) hx hb dX_otherHalf_30 (by decide) ?_
    exact g_iretP X hr hlk hfin dX_otherHalf_31
  rw [if_neg hk1_1] at hfin
  by_cases hk1_2 : a0 = (2 : Int32)
  · rw [if_pos hk1_2] at hfin
    refine lv_tableIn hx hb dX_otherHalf_1 (off := 31) (tgt := 32) (by rw [hk1_2]; decide) (by rw [hk1_2]; decide) (by rw [hk1_2]; rfl) (by decide) ?_
    refine lv_ldc hx hb X.2.2.2.1 (X.2.2.2.2 _ hkX_41) dX_otherHalf_32 ?_
    exact g_iretP X hr hlk hfin dX_otherHalf_34
  rw [if_neg hk1_2] at hfin
  have hn1_0 := i32_ne (0 : Int32) 0 (by decide) hk1_0
  have hn1_1 := i32_ne (1 : Int32) 1 (by decide) hk1_1
  have hn1_2 := i32_ne (2 : Int32) 2 (by decide) hk1_2
  refine lv_tableOut hx hb dX_otherHalf_1 (tgt := 35) (by omega) (by decide) ?_
  refine lv_iload_n hx hb dX_otherHalf_35 rfl (lv_at hl 1 rfl) ?_
  refine lv_ldc hx hb X.2.2.2.1 (X.2.2.2.2 _ hkX_110) dX_otherHalf_36 ?_
  refine lv_iand hx hb dX_otherHalf_38 ?_
  refine lv_if_eq (tgt := 47) hx hb dX_otherHalf_39 (by decide) (fun hc39 => ?_) (fun hc39 => ?_)
  · rw [if_pos hc39] at hfin
    refine lv_iconst (v := (0 : Int32)) hx hb dX_otherHalf_47 (by decide) ?_
    exact g_iretP X hr hlk hfin dX_otherHalf_48
  rw [if_neg hc39] at hfin
  refine lv_ldc hx hb X.2.2.2.1 (X.2.2.2.2 _ hkX_41) dX_otherHalf_42 ?_
  refine lv_goto (tgt := 48) hx hb dX_otherHalf_44 (by decide) ?_
  exact g_iretP X hr hlk hfin dX_otherHalf_48
set_option maxHeartbeats 4000000 in
set_option maxRecDepth 100000 in
theorem ctx_halves (l : Launch) (D : va_G) (cA : ClassId) (o q : Nat) (hne : va_nd [o, q] = true) (u : XS) (a0 : Int32) (a1 : Int32) (a2 : Int32) (z : XS) (hfin : x_halves u a0 a1 a2 = some z) : gMv l yX_halves wX_halves (rmF 4 89) D [(cA, .long)] (XW cA o q) (XA o q) [.ref o, .int a0, .int a1, .int a2] u z := by
  refine g_start (plainFor_of_name (by decide)) (Nat.le_of_ble_eq_true rfl) ?_
  intro p e s0 m args below meth c ls X hr hlk hB hl
  obtain ⟨hP0, hK⟩ := hB
  have hI : gI D (XW cA o q) (XA o q) s0.heap s0.heap [] u := ⟨hP0, va_S.rf⟩
  have hl : lv_has ls 13 [(0, .ref o), (1, .int a0), (2, .int a1), (3, .int a2)] := hl
  have hx := X.1
  have hb := X.2.1
  have B_143 : ∀ (u : XS) (t1 : Int32) (t2 : Int32) (t3 : Int32) (t4 : Int64) (H : Heap) (locs : List Loc) (ls : Array Slot), lv_has ls 13 [(0, .ref o), (1, .int a0), (2, .int a1), (3, .int a2)] → gI D (XW cA o q) (XA o q) s0.heap H locs u → x_halves_143 a0 a1 a2 u t1 t2 t3 t4 = some z → W p l e (rmF 4 89) s0 m args below meth c H locs 0 0 (MQ below (va_Qv (fun x => x = z) (gB D [(cA, .long)] (XW cA o q)) (XA o q)) args s0 0 0 (XA o q)) (F0 m 143 ls [.long t4, .int t3, .int t2, .int t1, .ref o]) := by
    intro u t1 t2 t3 t4 H locs ls hl hI hfin
    rw [x_halves_143] at hfin
    obtain ⟨z143, hz143, hfin⟩ := bd_ob hfin
    refine g_callMv [.int t1, .int t2, .int t3, .long t4] [] X hK x_rcv hI (ctx_putMoved l D cA o q hne u t1 t2 t3 t4 z143 hz143) (cwX_X_putMoved X.2.2.2.2 ⟨Nat.le_of_ble_eq_true rfl, Nat.le_of_ble_eq_true rfl⟩) rfl hl.1 rfl (Nat.le_of_ble_eq_true rfl) dX_halves_143 (fun H locs hI => ?_)
    exact g_vret X hr hlk hK hI hfin dX_halves_146
  have B_111 : ∀ (u : XS) (v4 : Int32) (v5 : Int32) (v11 : Int32) (t0 : Int32) (t1 : Int32) (t2 : Int32) (H : Heap) (locs : List Loc) (ls : Array Slot), lv_has ls 13 [(0, .ref o), (1, .int a0), (2, .int a1), (3, .int a2), (4, .int v4), (5, .int v5), (11, .int v11)] → gI D (XW cA o q) (XA o q) s0.heap H locs u → x_halves_111 a0 a1 a2 u v4 v5 v11 t0 t1 t2 = some z → W p l e (rmF 4 89) s0 m args below meth c H locs 0 0 (MQ below (va_Qv (fun x => x = z) (gB D [(cA, .long)] (XW cA o q)) (XA o q)) args s0 0 0 (XA o q)) (F0 m 111 ls [.int t2, .int t1, .int t0]) := by
    intro u v4 v5 v11 t0 t1 t2 H locs ls hl hI hfin
    rw [x_halves_111] at hfin
    refine g_callPi [.int t0, .int t1, .int t2] [] X (ctx_otherHalf l t0 t1 t2) (cwX_X_otherHalf X.2.2.2.2 ⟨Nat.le_of_ble_eq_true rfl, Nat.le_of_ble_eq_true rfl⟩) rfl hl.1 rfl (Nat.le_of_ble_eq_true rfl) dX_halves_111 ?_
    refine lv_topi (fun x114 e114 => ?_)
    replace hfin := nm_at hfin e114
    refine lv_istore (lv' := [(12, .int x114), (0, .ref o), (1, .int a0), (2, .int a1), (3, .int a2), (4, .int v4), (5, .int v5), (11, .int v11)]) hx hb dX_halves_114 hl (by decide) rfl (fun ls hl => ?_)
    refine lv_aload_n hx hb dX_halves_116 rfl (lv_at hl 1 rfl) ?_
    refine lv_iload hx hb dX_halves_117 (lv_at hl 5 rfl) ?_
    refine lv_iload_n hx hb dX_halves_119 rfl (lv_at hl 3 rfl) ?_
    refine lv_iload_n hx hb dX_halves_120 rfl (lv_at hl 4 rfl) ?_
    refine lv_iload hx hb dX_halves_121 (lv_at hl 6 rfl) ?_
    refine lv_if_eq (tgt := 136) hx hb dX_halves_123 (by decide) (fun hc123 => ?_) (fun hc123 => ?_)
    · rw [if_pos hc123] at hfin
      refine lv_iload hx hb dX_halves_136 (lv_at hl 7 rfl) ?_
      refine lv_iload hx hb dX_halves_138 (lv_at hl 0 rfl) ?_
      refine g_callPl [.int v11, .int x114] [.int a2, .int a1, .int v4, .ref o] X (ctx_joined l v11 x114) (cwX_X_joined X.2.2.2.2 ⟨Nat.le_of_ble_eq_true rfl, Nat.le_of_ble_eq_true rfl⟩) rfl hl.1 rfl (Nat.le_of_ble_eq_true rfl) dX_halves_140 ?_
      exact B_143 u v4 a1 a2 (x_joined v11 x114) H locs ls (lv_sub hl [1, 2, 3, 4] rfl) hI hfin
    rw [if_neg hc123] at hfin
    refine lv_iload hx hb dX_halves_126 (lv_at hl 0 rfl) ?_
    refine lv_iload hx hb dX_halves_128 (lv_at hl 7 rfl) ?_
    refine g_callPl [.int x114, .int v11] [.int a2, .int a1, .int v4, .ref o] X (ctx_joined l x114 v11) (cwX_X_joined X.2.2.2.2 ⟨Nat.le_of_ble_eq_true rfl, Nat.le_of_ble_eq_true rfl⟩) rfl hl.1 rfl (Nat.le_of_ble_eq_true rfl) dX_halves_130 ?_
    refine lv_goto (tgt := 143) hx hb dX_halves_133 (by decide) ?_
    exact B_143 u v4 a1 a2 (x_joined x114 v11) H locs ls (lv_sub hl [1, 2, 3, 4] rfl) hI hfin
  have B_84 : ∀ (u : XS) (v4 : Int32) (v5 : Int32) (v9 : Int64) (t0 : Int32) (H : Heap) (locs : List Loc) (ls : Array Slot), lv_has ls 13 [(0, .ref o), (1, .int a0), (2, .int a1), (3, .int a2), (4, .int v4), (5, .int v5), (9, .long v9)] → gI D (XW cA o q) (XA o q) s0.heap H locs u → x_halves_84 a0 a1 a2 u v4 v5 v9 t0 = some z → W p l e (rmF 4 89) s0 m args below meth c H locs 0 0 (MQ below (va_Qv (fun x => x = z) (gB D [(cA, .long)] (XW cA o q)) (XA o q)) args s0 0 0 (XA o q)) (F0 m 84 ls [.int t0]) := by
    intro u v4 v5 v9 t0 H locs ls hl hI hfin
    rw [x_halves_84] at hfin
    refine lv_istore (lv' := [(11, .int t0), (0, .ref o), (1, .int a0), (2, .int a1), (3, .int a2), (4, .int v4), (5, .int v5), (9, .long v9)]) hx hb dX_halves_84 hl (by decide) rfl (fun ls hl => ?_)
    refine lv_iload_n hx hb dX_halves_86 rfl (lv_at hl 2 rfl) ?_
    refine lv_iconst (v := (3 : Int32)) hx hb dX_halves_87 (by decide) ?_
    refine lv_ishr hx hb dX_halves_88 ?_
    refine lv_iconst (v := (3 : Int32)) hx hb dX_halves_89 (by decide) ?_
    refine lv_iand hx hb dX_halves_90 ?_
    refine lv_iload hx hb dX_halves_91 (lv_at hl 0 rfl) ?_
    refine lv_iload hx hb dX_halves_93 (lv_at hl 6 rfl) ?_
    refine lv_if_eq (tgt := 106) hx hb dX_halves_95 (by decide) (fun hc95 => ?_) (fun hc95 => ?_)
    · rw [if_pos hc95] at hfin
      refine lv_lload hx hb dX_halves_106 (lv_at hl 7 rfl) ?_
      refine g_callPi [.long v9] [.int t0, .int ((a0 >>> ((3 : Int32) &&& 31)) &&& (3 : Int32))] X (ctx_right l v9) (cwX_X_right X.2.2.2.2 ⟨Nat.le_of_ble_eq_true rfl, Nat.le_of_ble_eq_true rfl⟩) rfl hl.1 rfl (Nat.le_of_ble_eq_true rfl) dX_halves_108 ?_
      exact B_111 u v4 v5 t0 ((a0 >>> ((3 : Int32) &&& 31)) &&& (3 : Int32)) t0 (x_right v9) H locs ls (lv_sub hl [1, 2, 3, 4, 5, 6, 0] rfl) hI hfin
    rw [if_neg hc95] at hfin
    refine lv_lload hx hb dX_halves_98 (lv_at hl 7 rfl) ?_
    refine g_callPi [.long v9] [.int t0, .int ((a0 >>> ((3 : Int32) &&& 31)) &&& (3 : Int32))] X (ctx_left l v9) (cwX_X_left X.2.2.2.2 ⟨Nat.le_of_ble_eq_true rfl, Nat.le_of_ble_eq_true rfl⟩) rfl hl.1 rfl (Nat.le_of_ble_eq_true rfl) dX_halves_100 ?_
    refine lv_goto (tgt := 111) hx hb dX_halves_103 (by decide) ?_
    exact B_111 u v4 v5 t0 ((a0 >>> ((3 : Int32) &&& 31)) &&& (3 : Int32)) t0 (x_left v9) H locs ls (lv_sub hl [1, 2, 3, 4, 5, 6, 0] rfl) hI hfin
  have B_62 : ∀ (u : XS) (v4 : Int32) (v5 : Int32) (v6 : Int32) (v7 : Int64) (t0 : Int64) (H : Heap) (locs : List Loc) (ls : Array Slot), lv_has ls 13 [(0, .ref o), (1, .int a0), (2, .int a1), (3, .int a2), (4, .int v4), (5, .int v5), (6, .int v6), (7, .long v7)] → gI D (XW cA o q) (XA o q) s0.heap H locs u → x_halves_62 a0 a1 a2 u v4 v5 v6 v7 t0 = some z → W p l e (rmF 4 89) s0 m args below meth c H locs 0 0 (MQ below (va_Qv (fun x => x = z) (gB D [(cA, .long)] (XW cA o q)) (XA o q)) args s0 0 0 (XA o q)) (F0 m 62 ls [.long t0]) := by
    intro u v4 v5 v6 v7 t0 H locs ls hl hI hfin
    rw [x_halves_62] at hfin
    refine lv_lstore (lv' := [(9, .long t0), (0, .ref o), (1, .int a0), (2, .int a1), (3, .int a2), (4, .int v4), (5, .int v5), (6, .int v6), (7, .long v7)]) hx hb dX_halves_62 hl (by decide) rfl (fun ls hl => ?_)
    refine lv_iload hx hb dX_halves_64 (lv_at hl 6 rfl) ?_
    refine lv_iload hx hb dX_halves_66 (lv_at hl 7 rfl) ?_
    refine lv_icmp_eq (tgt := 79) hx hb dX_halves_68 (by decide) (fun hc68 => ?_) (fun hc68 => ?_)
    · rw [if_pos hc68] at hfin
      refine lv_lload hx hb dX_halves_79 (lv_at hl 8 rfl) ?_
      refine g_callPi [.long v7] [] X (ctx_left l v7) (cwX_X_left X.2.2.2.2 ⟨Nat.le_of_ble_eq_true rfl, Nat.le_of_ble_eq_true rfl⟩) rfl hl.1 rfl (Nat.le_of_ble_eq_true rfl) dX_halves_81 ?_
      exact B_84 u v4 v5 t0 (x_left v7) H locs ls (lv_sub hl [1, 2, 3, 4, 5, 6, 0] rfl) hI hfin
    rw [if_neg hc68] at hfin
    refine lv_lload hx hb dX_halves_71 (lv_at hl 8 rfl) ?_
    refine g_callPi [.long v7] [] X (ctx_right l v7) (cwX_X_right X.2.2.2.2 ⟨Nat.le_of_ble_eq_true rfl, Nat.le_of_ble_eq_true rfl⟩) rfl hl.1 rfl (Nat.le_of_ble_eq_true rfl) dX_halves_73 ?_
    refine lv_goto (tgt := 84) hx hb dX_halves_76 (by decide) ?_
    exact B_84 u v4 v5 t0 (x_right v7) H locs ls (lv_sub hl [1, 2, 3, 4, 5, 6, 0] rfl) hI hfin
  have B_30 : ∀ (u : XS) (v4 : Int32) (v5 : Int32) (t0 : Int32) (H : Heap) (locs : List Loc) (ls : Array Slot), lv_has ls 13 [(0, .ref o), (1, .int a0), (2, .int a1), (3, .int a2), (4, .int v4), (5, .int v5)] → gI D (XW cA o q) (XA o q) s0.heap H locs u → x_halves_30 a0 a1 a2 u v4 v5 t0 = some z → W p l e (rmF 4 89) s0 m args below meth c H locs 0 0 (MQ below (va_Qv (fun x => x = z) (gB D [(cA, .long)] (XW cA o q)) (XA o q)) args s0 0 0 (XA o q)) (F0 m 30 ls [.int t0]) := by
    intro u v4 v5 t0 H locs ls hl hI hfin
    rw [x_halves_30] at hfin
    refine lv_istore (lv' := [(6, .int t0), (0, .ref o), (1, .int a0), (2, .int a1), (3, .int a2), (4, .int v4), (5, .int v5)]) hx hb dX_halves_30 hl (by decide) rfl (fun ls hl => ?_)
    refine lv_aload_n hx hb dX_halves_32 rfl (lv_at hl 1 rfl) ?_
    refine lv_iload hx hb dX_halves_33 (lv_at hl 5 rfl) ?_
    refine lv_iload_n hx hb dX_halves_35 rfl (lv_at hl 3 rfl) ?_
    refine lv_iload_n hx hb dX_halves_36 rfl (lv_at hl 4 rfl) ?_
    obtain ⟨z37, hz37, hfin⟩ := bd_ob hfin
    refine g_callMl [.int v4, .int a1, .int a2] [] X hK x_rcv hI (ctx_movedSource l D cA o q hne u v4 a1 a2 z37 hz37) (cwX_X_movedSource X.2.2.2.2 ⟨Nat.le_of_ble_eq_true rfl, Nat.le_of_ble_eq_true rfl⟩) rfl hl.1 rfl (Nat.le_of_ble_eq_true rfl) dX_halves_37 (fun H locs hI => ?_)
    refine lv_lstore (lv' := [(7, .long z37.1), (6, .int t0), (0, .ref o), (1, .int a0), (2, .int a1), (3, .int a2), (4, .int v4), (5, .int v5)]) hx hb dX_halves_40 hl (by decide) rfl (fun ls hl => ?_)
    refine lv_iload hx hb dX_halves_42 (lv_at hl 6 rfl) ?_
    refine lv_iconst (v := (2 : Int32)) hx hb dX_halves_44 (by decide) ?_
    refine lv_icmp_lt (tgt := 56) hx hb dX_halves_45 (by decide) (fun hc45 => ?_) (fun hc45 => ?_)
    · rw [if_pos hc45] at hfin
      refine lv_aload_n hx hb dX_halves_56 rfl (lv_at hl 2 rfl) ?_
      refine xg_words X hK hI.1 dX_halves_57 ?_
      refine lv_iload_n hx hb dX_halves_60 rfl (lv_at hl 4 rfl) ?_
      obtain ⟨hd61, hfin⟩ := ck_if hfin
      refine xl_words X hK hI.1 hd61 dX_halves_61 ?_
      exact B_62 z37.2 v4 v5 t0 z37.1 (X_words z37.2 a1.toNatClampNeg) H locs ls (lv_sub hl [2, 3, 4, 5, 6, 7, 1, 0] rfl) hI hfin
    rw [if_neg hc45] at hfin
    refine lv_aload_n hx hb dX_halves_48 rfl (lv_at hl 2 rfl) ?_
    refine lv_iload_n hx hb dX_halves_49 rfl (lv_at hl 5 rfl) ?_
    obtain ⟨z50, hz50, hfin⟩ := bd_ob hfin
    refine g_callMl [.int a2] [] X hK x_rcv hI (ctx_read l D cA o q hne z37.2 a2 z50 hz50) (cwX_X_read X.2.2.2.2 ⟨Nat.le_of_ble_eq_true rfl, Nat.le_of_ble_eq_true rfl⟩) rfl hl.1 rfl (Nat.le_of_ble_eq_true rfl) dX_halves_50 (fun H locs hI => ?_)
    refine lv_goto (tgt := 62) hx hb dX_halves_53 (by decide) ?_
    exact B_62 z50.2 v4 v5 t0 z37.1 z50.1 H locs ls (lv_sub hl [2, 3, 4, 5, 6, 7, 1, 0] rfl) hI hfin
  have B_17 : ∀ (u : XS) (v4 : Int32) (t0 : Int32) (H : Heap) (locs : List Loc) (ls : Array Slot), lv_has ls 13 [(0, .ref o), (1, .int a0), (2, .int a1), (3, .int a2), (4, .int v4)] → gI D (XW cA o q) (XA o q) s0.heap H locs u → x_halves_17 a0 a1 a2 u v4 t0 = some z → W p l e (rmF 4 89) s0 m args below meth c H locs 0 0 (MQ below (va_Qv (fun x => x = z) (gB D [(cA, .long)] (XW cA o q)) (XA o q)) args s0 0 0 (XA o q)) (F0 m 17 ls [.int t0]) := by
    intro u v4 t0 H locs ls hl hI hfin
    rw [x_halves_17] at hfin
    refine lv_istore (lv' := [(5, .int t0), (0, .ref o), (1, .int a0), (2, .int a1), (3, .int a2), (4, .int v4)]) hx hb dX_halves_17 hl (by decide) rfl (fun ls hl => ?_)
    refine lv_iload_n hx hb dX_halves_19 rfl (lv_at hl 2 rfl) ?_
    refine lv_iconst (v := (4 : Int32)) hx hb dX_halves_20 (by decide) ?_
    refine lv_iand hx hb dX_halves_21 ?_
    refine lv_if_eq (tgt := 29) hx hb dX_halves_22 (by decide) (fun hc22 => ?_) (fun hc22 => ?_)
    · rw [if_pos hc22] at hfin
      refine lv_iconst (v := (0 : Int32)) hx hb dX_halves_29 (by decide) ?_
      exact B_30 u v4 t0 (0 : Int32) H locs ls (lv_sub hl [1, 2, 3, 4, 5, 0] rfl) hI hfin
    rw [if_neg hc22] at hfin
    refine lv_iconst (v := (1 : Int32)) hx hb dX_halves_25 (by decide) ?_
    refine lv_goto (tgt := 30) hx hb dX_halves_26 (by decide) ?_
    exact B_30 u v4 t0 (1 : Int32) H locs ls (lv_sub hl [1, 2, 3, 4, 5, 0] rfl) hI hfin
  rw [x_halves] at hfin
  refine lv_iload_n hx hb dX_halves_0 rfl (lv_at hl 1 rfl) ?_
  refine lv_iconst (v := (3 : Int32)) hx hb dX_halves_1 (by decide) ?_
  refine lv_iand hx hb dX_halves_2 ?_
  refine lv_topi (fun x3 e3 => ?_)
  replace hfin := nm_at hfin e3
  refine lv_istore (lv' := [(4, .int x3), (0, .ref o), (1, .int a0), (2, .int a1), (3, .int a2)]) hx hb dX_halves_3 hl (by decide) rfl (fun ls hl => ?_)
  refine lv_iload_n hx hb dX_halves_5 rfl (lv_at hl 2 rfl) ?_
  refine lv_bipush (v := (32 : Int32)) hx hb dX_halves_6 (by decide) ?_
  refine lv_iand hx hb dX_halves_8 ?_
  refine lv_if_eq (tgt := 16) hx hb dX_halves_9 (by decide) (fun hc9 => ?_) (fun hc9 => ?_)
  · rw [if_pos hc9] at hfin
    refine lv_iconst (v := (0 : Int32)) hx hb dX_halves_16 (by decide) ?_
    exact B_17 u x3 (0 : Int32) s0.heap [] ls (lv_sub hl [1, 2, 3, 4, 0] rfl) hI hfin
  rw [if_neg hc9] at hfin
  refine lv_iconst (v := (1 : Int32)) hx hb dX_halves_12 (by decide) ?_
  refine lv_goto (tgt := 17) hx hb dX_halves_13 (by decide) ?_
  exact B_17 u x3 (1 : Int32) s0.heap [] ls (lv_sub hl [1, 2, 3, 4, 0] rfl) hI hfin
