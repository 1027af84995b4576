set_option maxHeartbeats 4000000 in
set_option maxRecDepth 100000 in
theorem ctx_run (l : Launch) (D : va_G) (cA : ClassId) (o q : Nat) (hne : va_nd [o, q] = true) (u : XS) (a0 : Int32) (z : Int32 × XS) (hfin : x_run u a0 = some z) : gMi l yX_run wX_run (rmF 7 170) D [(cA, .long)] (XW cA o q) (XA o q) [.ref o, .int a0] u z := by
  refine g_start (plainFor_of_name (by decide)) (Nat.le_of_ble_eq_true rfl) ?_
  intro p e s0 m args below meth c ls X hr hlk hB hl
  obtain ⟨hP0, hK⟩ := hB
  have hI : gI D (XW cA o q) (XA o q) s0.heap s0.heap [] u := ⟨hP0, va_S.rf⟩
  have hl : lv_has ls 3 [(0, .ref o), (1, .int a0)] := hl
  have hx := X.1
  have hb := X.2.1
  have B_15 : ∀ (k : Nat) (u : XS) (v2 : Int32) (H : Heap) (locs : List Loc) (ls : Array Slot), lv_has ls 3 [(0, .ref o), (1, .int a0), (2, .int v2)] → gI D (XW cA o q) (XA o q) s0.heap H locs u → x_run_15 a0 k u v2 = some z → W p l e (rmF 7 170) s0 m args below meth c H locs 0 0 (MQ below (va_Qi (fun r x => (r, x) = z) (gB D [(cA, .long)] (XW cA o q)) (XA o q)) args s0 0 0 (XA o q)) (F0 m 15 ls []) := by
    intro k
    induction k with
    | zero =>
      intro u v2 H locs ls hl hI hfin
      rw [x_run_15] at hfin
      cases hfin
    | succ k IH =>
      intro u v2 H locs ls hl hI hfin
      rw [x_run_15] at hfin
      refine lv_iload_n hx hb dX_run_15 rfl (lv_at hl 2 rfl) ?_
      refine lv_iload_n hx hb dX_run_16 rfl (lv_at hl 1 rfl) ?_
      refine lv_icmp_ge (tgt := 37) hx hb dX_run_17 (by decide) (fun hc17 => ?_) (fun hc17 => ?_)
      · rw [if_pos hc17] at hfin
        refine lv_iload_n hx hb dX_run_37 rfl (lv_at hl 2 rfl) ?_
        exact g_iret X hr hlk hK hI hfin dX_run_38
      rw [if_neg hc17] at hfin
      refine lv_aload_n hx hb dX_run_20 rfl (lv_at hl 0 rfl) ?_
      refine xg_stopped X hK hI.1 dX_run_21 ?_
      refine lv_if_ne (tgt := 37) hx hb dX_run_24 (by decide) (fun hc24 => ?_) (fun hc24 => ?_)
      · rw [if_neg hc24] at hfin
        refine lv_iload_n hx hb dX_run_37 rfl (lv_at hl 2 rfl) ?_
        exact g_iret X hr hlk hK hI hfin dX_run_38
      rw [if_pos hc24] at hfin
      refine lv_aload_n hx hb dX_run_27 rfl (lv_at hl 0 rfl) ?_
      obtain ⟨z28, hz28, hfin⟩ := bd_ob hfin
      refine g_callMv [] [] X hK x_rcv hI (ctx_step l D cA o q hne u z28 hz28) (cwX_X_step X.2.2.2.2 ⟨Nat.le_of_ble_eq_true rfl, Nat.le_of_ble_eq_true rfl⟩) rfl hl.1 rfl (Nat.le_of_ble_eq_true rfl) dX_run_28 (fun H locs hI => ?_)
      refine lv_iinc (lv' := [(2, .int (v2 + Int32.ofInt 1)), (0, .ref o), (1, .int a0)]) (k := 2) hx hb dX_run_31 hl rfl rfl (by decide) rfl (fun ls hl => ?_)
      refine lv_goto (tgt := 15) hx hb dX_run_34 (by decide) ?_
      exact IH z28 (v2 + Int32.ofInt 1) H locs ls (lv_sub hl [1, 2, 0] rfl) hI hfin
  rw [x_run] at hfin
  refine lv_iload_n hx hb dX_run_0 rfl (lv_at hl 1 rfl) ?_
  refine lv_iconst (v := (1 : Int32)) hx hb dX_run_1 (by decide) ?_
  refine lv_icmp_lt (tgt := 11) hx hb dX_run_2 (by decide) (fun hc2 => ?_) (fun hc2 => ?_)
  · rw [if_pos hc2] at hfin
    refine lv_iconst (v := (-1 : Int32)) hx hb dX_run_11 (by decide) ?_
    exact g_iret X hr hlk hK hI hfin dX_run_12
  rw [if_neg hc2] at hfin
  refine lv_iload_n hx hb dX_run_5 rfl (lv_at hl 1 rfl) ?_
  refine lv_bipush (v := (100 : Int32)) hx hb dX_run_6 (by decide) ?_
  refine lv_icmp_le (tgt := 13) hx hb dX_run_8 (by decide) (fun hc8 => ?_) (fun hc8 => ?_)
  · rw [if_pos hc8] at hfin
    refine lv_iconst (v := (0 : Int32)) hx hb dX_run_13 (by decide) ?_
    refine lv_istore_n (lv' := [(2, .int (0 : Int32)), (0, .ref o), (1, .int a0)]) hx hb dX_run_14 rfl hl (by decide) rfl (fun ls hl => ?_)
    exact B_15 101 u (0 : Int32) s0.heap [] ls (lv_sub hl [1, 2, 0] rfl) hI hfin
  rw [if_neg hc8] at hfin
  refine lv_iconst (v := (-1 : Int32)) hx hb dX_run_11 (by decide) ?_
  exact g_iret X hr hlk hK hI hfin dX_run_12
set_option maxHeartbeats 4000000 in
set_option maxRecDepth 100000 in
theorem ctx_look (l : Launch) (D : va_G) (cA : ClassId) (o q : Nat) (u : XS) (a0 : Int32) : gRi l yX_look wX_look (rmF 0 0) D [(cA, .long)] (XW cA o q) [.ref o, .int a0] u (x_look u a0) := by
  obtain ⟨z, hz⟩ : ∃ z, z = x_look u a0 := ⟨_, rfl⟩
  rw [← hz]
  have hfin := hz.symm
  clear hz
  refine g_start (plainFor_of_name (by decide)) (Nat.le_of_ble_eq_true rfl) ?_
  intro p e s0 m args below meth c ls X hr hlk hB hl
  obtain ⟨hP0, hK⟩ := hB
  have hl : lv_has ls 2 [(0, .ref o), (1, .int a0)] := hl
  have hx := X.1
  have hb := X.2.1
  rw [x_look] at hfin
  refine lv_iload_n hx hb dX_look_0 rfl (lv_at hl 1 rfl) ?_
  by_cases hk1_0 : a0 = (0 : Int32)
  · rw [if_pos hk1_0] at hfin
    refine lv_tableIn hx hb dX_look_1 (off := 43) (tgt := 44) (by rw [hk1_0]; decide) (by rw [hk1_0]; decide) (by rw [hk1_0]; rfl) (by decide) ?_
    refine lv_aload_n hx hb dX_look_44 rfl (lv_at hl 0 rfl) ?_
    refine xg_pc X hK hP0 dX_look_45 ?_
    exact g_iretP X hr hlk hfin dX_look_48
  rw [if_neg hk1_0] at hfin
  by_cases hk1_1 : a0 = (1 : Int32)
  · rw [if_pos hk1_1] at hfin
    refine lv_tableIn hx hb dX_look_1 (off := 48) (tgt := 49) (by rw [hk1_1]; decide) (by rw [hk1_1]; decide) (by rw [hk1_1]; rfl) (by decide) ?_
    refine lv_aload_n hx hb dX_look_49 rfl (lv_at hl 0 rfl) ?_
    refine xg_user X hK hP0 dX_look_50 ?_
    refine lv_if_eq (tgt := 60) hx hb dX_look_53 (by decide) (fun hc53 => ?_) (fun hc53 => ?_)
    · rw [if_pos hc53] at hfin
      refine lv_iconst (v := (0 : Int32)) hx hb dX_look_60 (by decide) ?_
      exact g_iretP X hr hlk hfin dX_look_61
    rw [if_neg hc53] at hfin
    refine lv_iconst (v := (1 : Int32)) hx hb dX_look_56 (by decide) ?_
    refine lv_goto (tgt := 61) hx hb dX_look_57 (by decide) ?_
    exact g_iretP X hr hlk hfin dX_look_61
  rw [if_neg hk1_1] at hfin
  by_cases hk1_2 : a0 = (2 : Int32)
  · rw [if_pos hk1_2] at hfin
    refine lv_tableIn hx hb dX_look_1 (off := 61) (tgt := 62) (by rw [hk1_2]; decide) (by rw [hk1_2]; decide) (by rw [hk1_2]; rfl) (by decide) ?_
    refine lv_aload_n hx hb dX_look_62 rfl (lv_at hl 0 rfl) ?_
    refine xg_overflow X hK hP0 dX_look_63 ?_
    refine lv_if_eq (tgt := 73) hx hb dX_look_66 (by decide) (fun hc66 => ?_) (fun hc66 => ?_)
    · rw [if_pos hc66] at hfin
      refine lv_iconst (v := (0 : Int32)) hx hb dX_look_73 (by decide) ?_
      exact g_iretP X hr hlk hfin dX_look_74
    rw [if_neg hc66] at hfin
    refine lv_iconst (v := (1 : Int32)) hx hb dX_look_69 (by decide) ?_
    refine lv_goto (tgt := 74) hx hb dX_look_70 (by decide) ?_
    exact g_iretP X hr hlk hfin dX_look_74
  rw [if_neg hk1_2] at hfin
  by_cases hk1_3 : a0 = (3 : Int32)
  · rw [if_pos hk1_3] at hfin
    refine lv_tableIn hx hb dX_look_1 (off := 74) (tgt := 75) (by rw [hk1_3]; decide) (by rw [hk1_3]; decide) (by rw [hk1_3]; rfl) (by decide) ?_
    refine lv_aload_n hx hb dX_look_75 rfl (lv_at hl 0 rfl) ?_
    refine xg_stopped X hK hP0 dX_look_76 ?_
    refine lv_if_eq (tgt := 86) hx hb dX_look_79 (by decide) (fun hc79 => ?_) (fun hc79 => ?_)
    · rw [if_pos hc79] at hfin
      refine lv_iconst (v := (0 : Int32)) hx hb dX_look_86 (by decide) ?_
      exact g_iretP X hr hlk hfin dX_look_87
    rw [if_neg hc79] at hfin
    refine lv_iconst (v := (1 : Int32)) hx hb dX_look_82 (by decide) ?_
    refine lv_goto (tgt := 87) hx hb dX_look_83 (by decide) ?_
    exact g_iretP X hr hlk hfin dX_look_87
  rw [if_neg hk1_3] at hfin
  by_cases hk1_4 : a0 = (4 : Int32)
  · rw [if_pos hk1_4] at hfin
    refine lv_tableIn hx hb dX_look_1 (off := 87) (tgt := 88) (by rw [hk1_4]; decide) (by rw [hk1_4]; decide) (by rw [hk1_4]; rfl) (by decide) ?_
    refine lv_aload_n hx hb dX_look_88 rfl (lv_at hl 0 rfl) ?_
    refine xg_steps X hK hP0 dX_look_89 ?_
    exact g_iretP X hr hlk hfin dX_look_92
  rw [if_neg hk1_4] at hfin
  by_cases hk1_5 : a0 = (5 : Int32)
  · rw [if_pos hk1_5] at hfin
    refine lv_tableIn hx hb dX_look_1 (off := 92) (tgt := 93) (by rw [hk1_5]; decide) (by rw [hk1_5]; decide) (by rw [hk1_5]; rfl) (by decide) ?_
    refine lv_aload_n hx hb dX_look_93 rfl (lv_at hl 0 rfl) ?_
    refine xg_traps X hK hP0 dX_look_94 ?_
    exact g_iretP X hr hlk hfin dX_look_97
  rw [if_neg hk1_5] at hfin
  by_cases hk1_6 : a0 = (6 : Int32)
  · rw [if_pos hk1_6] at hfin
    refine lv_tableIn hx hb dX_look_1 (off := 97) (tgt := 98) (by rw [hk1_6]; decide) (by rw [hk1_6]; decide) (by rw [hk1_6]; rfl) (by decide) ?_
    refine lv_aload_n hx hb dX_look_98 rfl (lv_at hl 0 rfl) ?_
    refine xg_latestTrap X hK hP0 dX_look_99 ?_
    exact g_iretP X hr hlk hfin dX_look_102
  rw [if_neg hk1_6] at hfin
  have hn1_0 := i32_ne (0 : Int32) 0 (by decide) hk1_0
  have hn1_1 := i32_ne (1 : Int32) 1 (by decide) hk1_1
  have hn1_2 := i32_ne (2 : Int32) 2 (by decide) hk1_2
  have hn1_3 := i32_ne (3 : Int32) 3 (by decide) hk1_3
  have hn1_4 := i32_ne (4 : Int32) 4 (by decide) hk1_4
  have hn1_5 := i32_ne (5 : Int32) 5 (by decide) hk1_5
  have hn1_6 := i32_ne (6 : Int32) 6 (by decide) hk1_6
  refine lv_tableOut hx hb dX_look_1 (tgt := 103) (by omega) (by decide) ?_
  refine lv_iconst (v := (-1 : Int32)) hx hb dX_look_103 (by decide) ?_
  exact g_iretP X hr hlk hfin dX_look_104
