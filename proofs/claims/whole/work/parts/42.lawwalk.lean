/-! THE CLAIM OUT OF ONE WALK OF THE LAW'S BODY. Your part is whole_start (and what it stands on); all else here is the same for every law, but numbers. -/
def R_law : String := "WordMachineLaw"
def lw_P (b : Addr) (xs : List Int32) (args : Array Value) (s : State) : Prop := args = #[.ref b] ∧ s.IntsAt b xs ∧ xs.length ≤ 2048 ∧ (Jvm.Cond.and given_1 narrow_1).before args s = true
def lw_Q (_ : Array Value) (s : State) (o : Outcome) (t : State) : Prop := o = .returned (some (.int 1)) ∧ Framed s o t [] 6 2078
def lw_Z (below : List Frame) (a : Array Value) (s : State) : State → Prop := fun t => ∃ o, t.status = .running ∧ Ended t below o ∧ lw_Q a s o t
/-- the law's own end, with 1 on the stack, nothing written that was there before, its room as the claim has it -/
theorem lw_ret {p : Program} {l : Launch} {e : Env} {s : State} {m : MethodId} {below : List Frame} {meth : Method} {c : Code} {b : Nat} (hx : p.tables.exec = Jvm.exec) (hb : c.code = code) (hr : meth.sig.returnType = ret) (hlocks : meth.locks = false) {pc : Nat} {H : Heap} {ls : Array Slot} (hdg : decode code pc = .ok (.ireturn, 1)) : W p l e room_1 s m #[Value.ref b] below meth c H [] 6 2078 (lw_Z below #[Value.ref b] s) (F0 m pc ls [.int 1]) := by
  intro T hT X
  obtain ⟨fs, hret, hrun, hended, hW, hframe⟩ := X.leave (v := some (.int 1)) (hlocks := hlocks) (fun h => by rw [hr] at h; cases h)
  have hmeth' : T.vm.method? m = some meth := X.method'
  refine ⟨T.setFrames fs, ?_, .returned (some (.int 1)), hrun, hended, rfl, ⟨_, rfl⟩, hW, hframe⟩
  jvm_step X.here [X.here.top, hx, hb, hdg, hmeth', hr, ret, narrow_b1]
  (try refine ⟨rfl, ?_⟩); (try refine ⟨rfl, ?_⟩)
  first | (intro acts; rw [hret _ acts rfl rfl rfl]) | rw [hret _ _ rfl rfl rfl]
  exact Steps.refl _
/-- what holds at the law's entry: the machine, the code, the tables' words (any of lw_tbl by 'hts w (by decide +kernel)'), the script of L ints xs at the cell b, what the Statement gives of the start (any of its parts by flat_of_before) -/
def lw_At (p : Program) (s : State) (m : MethodId) (meth : Method) (c : Code) (b L : Nat) (xs : Nat → Int32) : Prop :=
  p.tables.exec = Jvm.exec ∧ c.code = code ∧ meth.sig.returnType = ret ∧ c.maxLocals = 4 ∧ s.vm.findClass R_law = some m.cls ∧ (∀ w ∈ lw_tbl, w.before #[Value.ref b] s = true) ∧ va_X b L xs s s.heap ∧ b < s.heap.size ∧ meth.locks = false ∧ (Jvm.Cond.and given_1 narrow_1).before #[Value.ref b] s = true
section LCR
variable {p : Program} {l : Launch} {e : Env} {R : Room} {s0 : State} {m : MethodId} {args : Array Value} {below : List Frame} {meth : Method} {c : Code} {H : Heap} {locs : List Loc} {Q : State → Prop} {pc cells slots : Nat} {ls : Array Slot} {st0 : List Value} {cc : ByteArray} {nL : Nat} {Ts : List Cond} {own : String}
variable {S : Type} {D : va_G} {tys : List (ClassId × FieldType)} {wd : S → va_W} {u : S}
variable {y : MethodName} {bytes : ByteArray} {maxL index n : Nat} {ret : Option FieldType} {ws : List Cond} {rm : Room} {C : String} {b : Nat}
theorem lc_Ri (As rest : List Value) {z : Int32} (X : CallFix p m c cc nL s0 args Ts own) (hK : va_K D vwCl tys s0) (hv : g_rcv D tys wd s0 C b) (hP : va_P D vwCl (wd u) H) (hM : gRi l y ws rm D tys wd (.ref b :: As) u z) (cw : CallW R s0 args own C index y bytes maxL ret ws rm 0 0 n) (hn : As.length = n) (hsz : ls.size = nL) (hst : st0 = As.reverse ++ .ref b :: rest) (hW : (rest.map fun v => v.category).sum ≤ 8) (d : decode cc pc = .ok (.invokevirtual index, 3)) (hf : cells ≤ R.cells ∧ slots ≤ R.slots)
    (kk : W p l e R s0 m args below meth c H locs cells slots Q (F0 m (pc + 3) ls (.int z :: rest))) : W p l e R s0 m args below meth c H locs cells slots Q (F0 m pc ls st0) :=
  vp_callSi (W.runV (As := As) (rest := rest) (g := F0 m pc ls st0) X hM cw ⟨g_blind D tys wd _ u, hv u H hK hP, fun U hU hW => ⟨rfl, by rw [hU]; exact hP, va_K.moved hW.alike hK⟩⟩ rfl hn hsz hst (lv_room (pc := pc) (ls := ls) (rest := st0) hW) d hf) (fun r hr => by rw [hr]; exact kk)
end LCR
def lw_run (xs : Nat → Int32) (L : Nat) : Nat → XS → MS → Int32 → Option Int32
  | 0, _, _, _ => none
  | k + 1, u, v, i => if ((Int32.ofNat L) - (4 : Int32)) < i then some 1 else if i < 0 ∨ L ≤ i.toNatClampNeg then none else if ((xs i.toNatClampNeg) &&& (7 : Int32)) = (0 : Int32) then if (i + (1 : Int32)) < 0 ∨ L ≤ (i + (1 : Int32)).toNatClampNeg then none else if (i + (2 : Int32)) < 0 ∨ L ≤ (i + (2 : Int32)).toNatClampNeg then none else if (i + (3 : Int32)) < 0 ∨ L ≤ (i + (3 : Int32)).toNatClampNeg then none else (x_deposit u (xs (i + (1 : Int32)).toNatClampNeg) ((((xs (i + (2 : Int32)).toNatClampNeg).toInt64) <<< ((32 : Int32).toInt64 &&& 63)) ||| (((xs (i + (3 : Int32)).toNatClampNeg).toInt64) &&& (4294967295 : Int64)))).bind (fun z102 => if (i + (1 : Int32)) < 0 ∨ L ≤ (i + (1 : Int32)).toNatClampNeg then none else if (i + (2 : Int32)) < 0 ∨ L ≤ (i + (2 : Int32)).toNatClampNeg then none else if (i + (3 : Int32)) < 0 ∨ L ≤ (i + (3 : Int32)).toNatClampNeg then none else (m_deposit v (xs (i + (1 : Int32)).toNatClampNeg) ((((xs (i + (2 : Int32)).toNatClampNeg).toInt64) <<< ((32 : Int32).toInt64 &&& 63)) ||| (((xs (i + (3 : Int32)).toNatClampNeg).toInt64) &&& (4294967295 : Int64)))).bind (fun z131 => if z102.1 = z131.1 then lw_run xs L k z102.2 z131.2 (i + Int32.ofInt 4) else some 0)) else if ((xs i.toNatClampNeg) &&& (7 : Int32)) = (1 : Int32) then if (i + (1 : Int32)) < 0 ∨ L ≤ (i + (1 : Int32)).toNatClampNeg then none else (x_examine u (xs (i + (1 : Int32)).toNatClampNeg)).bind (fun z145 => if (i + (1 : Int32)) < 0 ∨ L ≤ (i + (1 : Int32)).toNatClampNeg then none else (m_examine v (xs (i + (1 : Int32)).toNatClampNeg)).bind (fun z154 => if (lg_cmp z145.1 z154.1) = 0 then lw_run xs L k z145.2 z154.2 (i + Int32.ofInt 4) else some 0)) else if ((xs i.toNatClampNeg) &&& (7 : Int32)) = (2 : Int32) then if (i + (1 : Int32)) < 0 ∨ L ≤ (i + (1 : Int32)).toNatClampNeg then none else (x_number u (xs (i + (1 : Int32)).toNatClampNeg)).bind (fun z169 => if (i + (1 : Int32)) < 0 ∨ L ≤ (i + (1 : Int32)).toNatClampNeg then none else (m_number v (xs (i + (1 : Int32)).toNatClampNeg)).bind (fun z178 => if (lg_cmp z169.1 z178.1) = 0 then lw_run xs L k z169.2 z178.2 (i + Int32.ofInt 4) else some 0)) else if ((xs i.toNatClampNeg) &&& (7 : Int32)) = (3 : Int32) then if (i + (1 : Int32)) < 0 ∨ L ≤ (i + (1 : Int32)).toNatClampNeg then none else if (i + (2 : Int32)) < 0 ∨ L ≤ (i + (2 : Int32)).toNatClampNeg then none else if (i + (3 : Int32)) < 0 ∨ L ≤ (i + (3 : Int32)).toNatClampNeg then none else (x_segment u (xs (i + (1 : Int32)).toNatClampNeg) (xs (i + (2 : Int32)).toNatClampNeg) (xs (i + (3 : Int32)).toNatClampNeg)).bind (fun z203 => if (i + (1 : Int32)) < 0 ∨ L ≤ (i + (1 : Int32)).toNatClampNeg then none else if (i + (2 : Int32)) < 0 ∨ L ≤ (i + (2 : Int32)).toNatClampNeg then none else if (i + (3 : Int32)) < 0 ∨ L ≤ (i + (3 : Int32)).toNatClampNeg then none else (m_segment v (xs (i + (1 : Int32)).toNatClampNeg) (xs (i + (2 : Int32)).toNatClampNeg) (xs (i + (3 : Int32)).toNatClampNeg)).bind (fun z222 => if z203.1 = z222.1 then lw_run xs L k z203.2 z222.2 (i + Int32.ofInt 4) else some 0)) else if ((xs i.toNatClampNeg) &&& (7 : Int32)) = (4 : Int32) then if (i + (1 : Int32)) < 0 ∨ L ≤ (i + (1 : Int32)).toNatClampNeg then none else if (i + (2 : Int32)) < 0 ∨ L ≤ (i + (2 : Int32)).toNatClampNeg then none else if (xs (i + (2 : Int32)).toNatClampNeg) = 0 then (x_start u (xs (i + (1 : Int32)).toNatClampNeg) (0 : Int32)).bind (fun z249 => if (i + (1 : Int32)) < 0 ∨ L ≤ (i + (1 : Int32)).toNatClampNeg then none else if (i + (2 : Int32)) < 0 ∨ L ≤ (i + (2 : Int32)).toNatClampNeg then none else if (xs (i + (2 : Int32)).toNatClampNeg) = 0 then (m_start v (xs (i + (1 : Int32)).toNatClampNeg) (0 : Int32)).bind (fun z271 => lw_run xs L k z249 z271 (i + Int32.ofInt 4)) else (m_start v (xs (i + (1 : Int32)).toNatClampNeg) (1 : Int32)).bind (fun z271 => lw_run xs L k z249 z271 (i + Int32.ofInt 4))) else (x_start u (xs (i + (1 : Int32)).toNatClampNeg) (1 : Int32)).bind (fun z249 => if (i + (1 : Int32)) < 0 ∨ L ≤ (i + (1 : Int32)).toNatClampNeg then none else if (i + (2 : Int32)) < 0 ∨ L ≤ (i + (2 : Int32)).toNatClampNeg then none else if (xs (i + (2 : Int32)).toNatClampNeg) = 0 then (m_start v (xs (i + (1 : Int32)).toNatClampNeg) (0 : Int32)).bind (fun z271 => lw_run xs L k z249 z271 (i + Int32.ofInt 4)) else (m_start v (xs (i + (1 : Int32)).toNatClampNeg) (1 : Int32)).bind (fun z271 => lw_run xs L k z249 z271 (i + Int32.ofInt 4))) else if ((xs i.toNatClampNeg) &&& (7 : Int32)) = (5 : Int32) then if (i + (1 : Int32)) < 0 ∨ L ≤ (i + (1 : Int32)).toNatClampNeg then none else (x_run u (xs (i + (1 : Int32)).toNatClampNeg)).bind (fun z283 => if (i + (1 : Int32)) < 0 ∨ L ≤ (i + (1 : Int32)).toNatClampNeg then none else (m_run v (xs (i + (1 : Int32)).toNatClampNeg)).bind (fun z292 => if z283.1 = z292.1 then lw_run xs L k z283.2 z292.2 (i + Int32.ofInt 4) else some 0)) else if ((xs i.toNatClampNeg) &&& (7 : Int32)) = (6 : Int32) then if (i + (1 : Int32)) < 0 ∨ L ≤ (i + (1 : Int32)).toNatClampNeg then none else if (i + (1 : Int32)) < 0 ∨ L ≤ (i + (1 : Int32)).toNatClampNeg then none else if (x_look u (xs (i + (1 : Int32)).toNatClampNeg)) = (m_look v (xs (i + (1 : Int32)).toNatClampNeg)) then lw_run xs L k u v (i + Int32.ofInt 4) else some 0 else lw_run xs L k u v (i + Int32.ofInt 4)
set_option maxHeartbeats 4000000 in
set_option maxRecDepth 100000 in
theorem law_walk {p : Program} {e : Env} {s : State} {m : MethodId} {below : List Frame} {meth : Method} {c : Code} (l : Launch) {b L : Nat} {xs : Nat → Int32} {D : va_G} {cA cC cB : ClassId} {o q o2 r r1 r2 : Nat} (X : CallFix p m c code 4 s #[Value.ref b] lw_tbl RL) (hr : meth.sig.returnType = ret) (hlk : meth.locks = false) (hX : va_X b L xs s s.heap) (hbl : b < s.heap.size) (hKx : va_K D vwCl [(cA, .long)] s) (hKm : va_K D vwCl [(cC, .long), (cB, .int)] s) (hnx : va_nd [o, q] = true) (hnm : va_nd [o2, r, r1, r2] = true) : ∀ (k : Nat) (u : XS) (v : MS) (i : Int32) (H : Heap) (locs : List Loc) (ls : Array Slot), lv_has ls 4 [(3, .int i), (2, .ref o2), (1, .ref o), (0, .ref b)] → LI D (XW cA o q) (MW cC cB o2 r r1 r2) (fun a => s.heap.size ≤ a) s.heap H locs u v → lw_run xs L k u v i = some 1 → W p l e room_1 s m #[Value.ref b] below meth c H locs 6 2078 (lw_Z below #[Value.ref b] s) (F0 m 18 ls []) := by
  have hx := X.1
  have hb := X.2.1
  have hbA : ¬ (fun a => s.heap.size ≤ a) b := fun h => absurd h (Nat.not_le.mpr hbl)
  intro k
  induction k with
  | zero =>
    intro u v i H locs ls hl hI hfin
    rw [lw_run] at hfin
    cases hfin
  | succ k IH =>
    intro u v i H locs ls hl hI hfin
    rw [lw_run] at hfin
    refine lv_iload_n hx hb dL_law_18 rfl (lv_at hl 0 rfl) ?_
    refine lv_aload_n hx hb dL_law_19 rfl (lv_at hl 3 rfl) ?_
    refine va_slen hx hb hX hbl hbA hI.2.2 dL_law_20 ?_
    refine lv_iconst (v := (4 : Int32)) hx hb dL_law_21 (by decide) ?_
    refine lv_isub hx hb dL_law_22 ?_
    refine lv_icmp_gt (tgt := 329) hx hb dL_law_23 (by decide) (fun hc23 => ?_) (fun hc23 => ?_)
    · rw [if_pos hc23] at hfin
      refine lv_iconst (v := (1 : Int32)) hx hb dL_law_329 (by decide) ?_
      exact va_forget (fun q hq => hI.2.2.2.2 q hq) (lw_ret hx hb hr hlk dL_law_330)
    rw [if_neg hc23] at hfin
    refine lv_aload_n hx hb dL_law_26 rfl (lv_at hl 3 rfl) ?_
    refine lv_iload_n hx hb dL_law_27 rfl (lv_at hl 0 rfl) ?_
    obtain ⟨hd28, hfin⟩ := ck_if hfin
    refine va_sld hx hb hX hbl hbA hI.2.2 hd28 dL_law_28 ?_
    refine lv_bipush (v := (7 : Int32)) hx hb dL_law_29 (by decide) ?_
    refine lv_iand hx hb dL_law_31 ?_
    by_cases hk32_0 : ((xs i.toNatClampNeg) &&& (7 : Int32)) = (0 : Int32)
    · rw [if_pos hk32_0] at hfin
      refine lv_tableIn hx hb dL_law_32 (off := 44) (tgt := 76) (by rw [hk32_0]; decide) (by rw [hk32_0]; decide) (by rw [hk32_0]; rfl) (by decide) ?_
      refine lv_aload_n hx hb dL_law_76 rfl (lv_at hl 2 rfl) ?_
      refine lv_aload_n hx hb dL_law_77 rfl (lv_at hl 3 rfl) ?_
      refine lv_iload_n hx hb dL_law_78 rfl (lv_at hl 0 rfl) ?_
      refine lv_iconst (v := (1 : Int32)) hx hb dL_law_79 (by decide) ?_
      refine lv_iadd hx hb dL_law_80 ?_
      obtain ⟨hd81, hfin⟩ := ck_if hfin
      refine va_sld hx hb hX hbl hbA hI.2.2 hd81 dL_law_81 ?_
      refine lv_aload_n hx hb dL_law_82 rfl (lv_at hl 3 rfl) ?_
      refine lv_iload_n hx hb dL_law_83 rfl (lv_at hl 0 rfl) ?_
      refine lv_iconst (v := (2 : Int32)) hx hb dL_law_84 (by decide) ?_
      refine lv_iadd hx hb dL_law_85 ?_
      obtain ⟨hd86, hfin⟩ := ck_if hfin
      refine va_sld hx hb hX hbl hbA hI.2.2 hd86 dL_law_86 ?_
      refine lv_i2l hx hb dL_law_87 rfl ?_
      refine lv_bipush (v := (32 : Int32)) hx hb dL_law_88 (by decide) ?_
      refine lv_lshl hx hb dL_law_90 rfl ?_
      refine lv_aload_n hx hb dL_law_91 rfl (lv_at hl 3 rfl) ?_
      refine lv_iload_n hx hb dL_law_92 rfl (lv_at hl 0 rfl) ?_
      refine lv_iconst (v := (3 : Int32)) hx hb dL_law_93 (by decide) ?_
      refine lv_iadd hx hb dL_law_94 ?_
      obtain ⟨hd95, hfin⟩ := ck_if hfin
      refine va_sld hx hb hX hbl hbA hI.2.2 hd95 dL_law_95 ?_
      refine lv_i2l hx hb dL_law_96 rfl ?_
      refine lv_ldc2 hx hb X.2.2.2.1 (X.2.2.2.2 _ hkL_13) dL_law_97 ?_
      refine lv_land hx hb dL_law_100 ?_
      refine lv_lor hx hb dL_law_101 ?_
      obtain ⟨z102, hz102, hfin⟩ := bd_ob hfin
      refine lc_left_i [.int (xs (i + (1 : Int32)).toNatClampNeg), .long ((((xs (i + (2 : Int32)).toNatClampNeg).toInt64) <<< ((32 : Int32).toInt64 &&& 63)) ||| (((xs (i + (3 : Int32)).toNatClampNeg).toInt64) &&& (4294967295 : Int64)))] [] X hKx x_rcv (fun _ _ => Iff.rfl) (fun _ => rfl) hI (ctx_deposit l D cA o q hnx u (xs (i + (1 : Int32)).toNatClampNeg) ((((xs (i + (2 : Int32)).toNatClampNeg).toInt64) <<< ((32 : Int32).toInt64 &&& 63)) ||| (((xs (i + (3 : Int32)).toNatClampNeg).toInt64) &&& (4294967295 : Int64))) z102 hz102) (cwL_X_deposit X.2.2.2.2 ⟨Nat.le_of_ble_eq_true rfl, Nat.le_of_ble_eq_true rfl⟩) rfl hl.1 rfl (Nat.le_of_ble_eq_true rfl) dL_law_102 ⟨Nat.le_of_ble_eq_true rfl, Nat.le_of_ble_eq_true rfl⟩ (fun H locs hI => ?_)
      refine lv_aload_n hx hb dL_law_105 rfl (lv_at hl 1 rfl) ?_
      refine lv_aload_n hx hb dL_law_106 rfl (lv_at hl 3 rfl) ?_
      refine lv_iload_n hx hb dL_law_107 rfl (lv_at hl 0 rfl) ?_
      refine lv_iconst (v := (1 : Int32)) hx hb dL_law_108 (by decide) ?_
      refine lv_iadd hx hb dL_law_109 ?_
      obtain ⟨hd110, hfin⟩ := ck_if hfin
      refine va_sld hx hb hX hbl hbA hI.2.2 hd110 dL_law_110 ?_
      refine lv_aload_n hx hb dL_law_111 rfl (lv_at hl 3 rfl) ?_
      refine lv_iload_n hx hb dL_law_112 rfl (lv_at hl 0 rfl) ?_
      refine lv_iconst (v := (2 : Int32)) hx hb dL_law_113 (by decide) ?_
      refine lv_iadd hx hb dL_law_114 ?_
      obtain ⟨hd115, hfin⟩ := ck_if hfin
      refine va_sld hx hb hX hbl hbA hI.2.2 hd115 dL_law_115 ?_
      refine lv_i2l hx hb dL_law_116 rfl ?_
      refine lv_bipush (v := (32 : Int32)) hx hb dL_law_117 (by decide) ?_
      refine lv_lshl hx hb dL_law_119 rfl ?_
      refine lv_aload_n hx hb dL_law_120 rfl (lv_at hl 3 rfl) ?_
      refine lv_iload_n hx hb dL_law_121 rfl (lv_at hl 0 rfl) ?_
      refine lv_iconst (v := (3 : Int32)) hx hb dL_law_122 (by decide) ?_
      refine lv_iadd hx hb dL_law_123 ?_
      obtain ⟨hd124, hfin⟩ := ck_if hfin
      refine va_sld hx hb hX hbl hbA hI.2.2 hd124 dL_law_124 ?_
      refine lv_i2l hx hb dL_law_125 rfl ?_
      refine lv_ldc2 hx hb X.2.2.2.1 (X.2.2.2.2 _ hkL_13) dL_law_126 ?_
      refine lv_land hx hb dL_law_129 ?_
      refine lv_lor hx hb dL_law_130 ?_
      obtain ⟨z131, hz131, hfin⟩ := bd_ob hfin
      refine lc_right_i [.int (xs (i + (1 : Int32)).toNatClampNeg), .long ((((xs (i + (2 : Int32)).toNatClampNeg).toInt64) <<< ((32 : Int32).toInt64 &&& 63)) ||| (((xs (i + (3 : Int32)).toNatClampNeg).toInt64) &&& (4294967295 : Int64)))] [.int z102.1] X hKm m_rcv (fun _ _ => Iff.rfl) (fun _ => rfl) hI (ctm_deposit l D cC cB o2 r r1 r2 hnm v (xs (i + (1 : Int32)).toNatClampNeg) ((((xs (i + (2 : Int32)).toNatClampNeg).toInt64) <<< ((32 : Int32).toInt64 &&& 63)) ||| (((xs (i + (3 : Int32)).toNatClampNeg).toInt64) &&& (4294967295 : Int64))) z131 hz131) (cwL_M_deposit X.2.2.2.2 ⟨Nat.le_of_ble_eq_true rfl, Nat.le_of_ble_eq_true rfl⟩) rfl hl.1 rfl (Nat.le_of_ble_eq_true rfl) dL_law_131 ⟨Nat.le_of_ble_eq_true rfl, Nat.le_of_ble_eq_true rfl⟩ (fun H locs hI => ?_)
      refine lv_icmp_eq (tgt := 323) hx hb dL_law_134 (by decide) (fun hc134 => ?_) (fun hc134 => ?_)
      · rw [if_pos hc134] at hfin
        refine lv_iinc (lv' := [(3, .int (i + Int32.ofInt 4)), (2, .ref o2), (1, .ref o), (0, .ref b)]) (k := 0) hx hb dL_law_323 hl rfl rfl (by decide) rfl (fun ls hl => ?_)
        refine lv_goto (tgt := 18) hx hb dL_law_326 (by decide) ?_
        exact IH z102.2 z131.2 (i + Int32.ofInt 4) _ _ ls (lv_sub hl [0, 1, 2, 3] rfl) hI hfin
      rw [if_neg hc134] at hfin
      exact absurd hfin (by decide)
    rw [if_neg hk32_0] at hfin
    by_cases hk32_1 : ((xs i.toNatClampNeg) &&& (7 : Int32)) = (1 : Int32)
    · rw [if_pos hk32_1] at hfin
      refine lv_tableIn hx hb dL_law_32 (off := 107) (tgt := 139) (by rw [hk32_1]; decide) (by rw [hk32_1]; decide) (by rw [hk32_1]; rfl) (by decide) ?_
      refine lv_aload_n hx hb dL_law_139 rfl (lv_at hl 2 rfl) ?_
      refine lv_aload_n hx hb dL_law_140 rfl (lv_at hl 3 rfl) ?_
      refine lv_iload_n hx hb dL_law_141 rfl (lv_at hl 0 rfl) ?_
      refine lv_iconst (v := (1 : Int32)) hx hb dL_law_142 (by decide) ?_
      refine lv_iadd hx hb dL_law_143 ?_
      obtain ⟨hd144, hfin⟩ := ck_if hfin
      refine va_sld hx hb hX hbl hbA hI.2.2 hd144 dL_law_144 ?_
      obtain ⟨z145, hz145, hfin⟩ := bd_ob hfin
      refine lc_left_l [.int (xs (i + (1 : Int32)).toNatClampNeg)] [] X hKx x_rcv (fun _ _ => Iff.rfl) (fun _ => rfl) hI (ctx_examine l D cA o q hnx u (xs (i + (1 : Int32)).toNatClampNeg) z145 hz145) (cwL_X_examine X.2.2.2.2 ⟨Nat.le_of_ble_eq_true rfl, Nat.le_of_ble_eq_true rfl⟩) rfl hl.1 rfl (Nat.le_of_ble_eq_true rfl) dL_law_145 ⟨Nat.le_of_ble_eq_true rfl, Nat.le_of_ble_eq_true rfl⟩ (fun H locs hI => ?_)
      refine lv_aload_n hx hb dL_law_148 rfl (lv_at hl 1 rfl) ?_
      refine lv_aload_n hx hb dL_law_149 rfl (lv_at hl 3 rfl) ?_
      refine lv_iload_n hx hb dL_law_150 rfl (lv_at hl 0 rfl) ?_
      refine lv_iconst (v := (1 : Int32)) hx hb dL_law_151 (by decide) ?_
      refine lv_iadd hx hb dL_law_152 ?_
      obtain ⟨hd153, hfin⟩ := ck_if hfin
      refine va_sld hx hb hX hbl hbA hI.2.2 hd153 dL_law_153 ?_
      obtain ⟨z154, hz154, hfin⟩ := bd_ob hfin
      refine lc_right_l [.int (xs (i + (1 : Int32)).toNatClampNeg)] [.long z145.1] X hKm m_rcv (fun _ _ => Iff.rfl) (fun _ => rfl) hI (ctm_examine l D cC cB o2 r r1 r2 hnm v (xs (i + (1 : Int32)).toNatClampNeg) z154 hz154) (cwL_M_examine X.2.2.2.2 ⟨Nat.le_of_ble_eq_true rfl, Nat.le_of_ble_eq_true rfl⟩) rfl hl.1 rfl (Nat.le_of_ble_eq_true rfl) dL_law_154 ⟨Nat.le_of_ble_eq_true rfl, Nat.le_of_ble_eq_true rfl⟩ (fun H locs hI => ?_)
      refine W.lcmp hx hb dL_law_157 ?_
      refine lv_if_eq (tgt := 323) hx hb dL_law_158 (by decide) (fun hc158 => ?_) (fun hc158 => ?_)
      · rw [if_pos hc158] at hfin
        refine lv_iinc (lv' := [(3, .int (i + Int32.ofInt 4)), (2, .ref o2), (1, .ref o), (0, .ref b)]) (k := 0) hx hb dL_law_323 hl rfl rfl (by decide) rfl (fun ls hl => ?_)
        refine lv_goto (tgt := 18) hx hb dL_law_326 (by decide) ?_
        exact IH z145.2 z154.2 (i + Int32.ofInt 4) _ _ ls (lv_sub hl [0, 1, 2, 3] rfl) hI hfin
      rw [if_neg hc158] at hfin
      exact absurd hfin (by decide)
    rw [if_neg hk32_1] at hfin
    by_cases hk32_2 : ((xs i.toNatClampNeg) &&& (7 : Int32)) = (2 : Int32)
    · rw [if_pos hk32_2] at hfin
      refine lv_tableIn hx hb dL_law_32 (off := 131) (tgt := 163) (by rw [hk32_2]; decide) (by rw [hk32_2]; decide) (by rw [hk32_2]; rfl) (by decide) ?_
      refine lv_aload_n hx hb dL_law_163 rfl (lv_at hl 2 rfl) ?_
      refine lv_aload_n hx hb dL_law_164 rfl (lv_at hl 3 rfl) ?_
      refine lv_iload_n hx hb dL_law_165 rfl (lv_at hl 0 rfl) ?_
      refine lv_iconst (v := (1 : Int32)) hx hb dL_law_166 (by decide) ?_
      refine lv_iadd hx hb dL_law_167 ?_
      obtain ⟨hd168, hfin⟩ := ck_if hfin
      refine va_sld hx hb hX hbl hbA hI.2.2 hd168 dL_law_168 ?_
      obtain ⟨z169, hz169, hfin⟩ := bd_ob hfin
      refine lc_left_l [.int (xs (i + (1 : Int32)).toNatClampNeg)] [] X hKx x_rcv (fun _ _ => Iff.rfl) (fun _ => rfl) hI (ctx_number l D cA o q hnx u (xs (i + (1 : Int32)).toNatClampNeg) z169 hz169) (cwL_X_number X.2.2.2.2 ⟨Nat.le_of_ble_eq_true rfl, Nat.le_of_ble_eq_true rfl⟩) rfl hl.1 rfl (Nat.le_of_ble_eq_true rfl) dL_law_169 ⟨Nat.le_of_ble_eq_true rfl, Nat.le_of_ble_eq_true rfl⟩ (fun H locs hI => ?_)
      refine lv_aload_n hx hb dL_law_172 rfl (lv_at hl 1 rfl) ?_
      refine lv_aload_n hx hb dL_law_173 rfl (lv_at hl 3 rfl) ?_
      refine lv_iload_n hx hb dL_law_174 rfl (lv_at hl 0 rfl) ?_
      refine lv_iconst (v := (1 : Int32)) hx hb dL_law_175 (by decide) ?_
      refine lv_iadd hx hb dL_law_176 ?_
      obtain ⟨hd177, hfin⟩ := ck_if hfin
      refine va_sld hx hb hX hbl hbA hI.2.2 hd177 dL_law_177 ?_
      obtain ⟨z178, hz178, hfin⟩ := bd_ob hfin
      refine lc_right_l [.int (xs (i + (1 : Int32)).toNatClampNeg)] [.long z169.1] X hKm m_rcv (fun _ _ => Iff.rfl) (fun _ => rfl) hI (ctm_number l D cC cB o2 r r1 r2 hnm v (xs (i + (1 : Int32)).toNatClampNeg) z178 hz178) (cwL_M_number X.2.2.2.2 ⟨Nat.le_of_ble_eq_true rfl, Nat.le_of_ble_eq_true rfl⟩) rfl hl.1 rfl (Nat.le_of_ble_eq_true rfl) dL_law_178 ⟨Nat.le_of_ble_eq_true rfl, Nat.le_of_ble_eq_true rfl⟩ (fun H locs hI => ?_)
      refine W.lcmp hx hb dL_law_181 ?_
      refine lv_if_eq (tgt := 323) hx hb dL_law_182 (by decide) (fun hc182 => ?_) (fun hc182 => ?_)
      · rw [if_pos hc182] at hfin
        refine lv_iinc (lv' := [(3, .int (i + Int32.ofInt 4)), (2, .ref o2), (1, .ref o), (0, .ref b)]) (k := 0) hx hb dL_law_323 hl rfl rfl (by decide) rfl (fun ls hl => ?_)
        refine lv_goto (tgt := 18) hx hb dL_law_326 (by decide) ?_
        exact IH z169.2 z178.2 (i + Int32.ofInt 4) _ _ ls (lv_sub hl [0, 1, 2, 3] rfl) hI hfin
      rw [if_neg hc182] at hfin
      exact absurd hfin (by decide)
    rw [if_neg hk32_2] at hfin
    by_cases hk32_3 : ((xs i.toNatClampNeg) &&& (7 : Int32)) = (3 : Int32)
    · rw [if_pos hk32_3] at hfin
      refine lv_tableIn hx hb dL_law_32 (off := 155) (tgt := 187) (by rw [hk32_3]; decide) (by rw [hk32_3]; decide) (by rw [hk32_3]; rfl) (by decide) ?_
      refine lv_aload_n hx hb dL_law_187 rfl (lv_at hl 2 rfl) ?_
      refine lv_aload_n hx hb dL_law_188 rfl (lv_at hl 3 rfl) ?_
      refine lv_iload_n hx hb dL_law_189 rfl (lv_at hl 0 rfl) ?_
      refine lv_iconst (v := (1 : Int32)) hx hb dL_law_190 (by decide) ?_
      refine lv_iadd hx hb dL_law_191 ?_
      obtain ⟨hd192, hfin⟩ := ck_if hfin
      refine va_sld hx hb hX hbl hbA hI.2.2 hd192 dL_law_192 ?_
      refine lv_aload_n hx hb dL_law_193 rfl (lv_at hl 3 rfl) ?_
      refine lv_iload_n hx hb dL_law_194 rfl (lv_at hl 0 rfl) ?_
      refine lv_iconst (v := (2 : Int32)) hx hb dL_law_195 (by decide) ?_
      refine lv_iadd hx hb dL_law_196 ?_
      obtain ⟨hd197, hfin⟩ := ck_if hfin
      refine va_sld hx hb hX hbl hbA hI.2.2 hd197 dL_law_197 ?_
      refine lv_aload_n hx hb dL_law_198 rfl (lv_at hl 3 rfl) ?_
      refine lv_iload_n hx hb dL_law_199 rfl (lv_at hl 0 rfl) ?_
      refine lv_iconst (v := (3 : Int32)) hx hb dL_law_200 (by decide) ?_
      refine lv_iadd hx hb dL_law_201 ?_
      obtain ⟨hd202, hfin⟩ := ck_if hfin
      refine va_sld hx hb hX hbl hbA hI.2.2 hd202 dL_law_202 ?_
      obtain ⟨z203, hz203, hfin⟩ := bd_ob hfin
      refine lc_left_i [.int (xs (i + (1 : Int32)).toNatClampNeg), .int (xs (i + (2 : Int32)).toNatClampNeg), .int (xs (i + (3 : Int32)).toNatClampNeg)] [] X hKx x_rcv (fun _ _ => Iff.rfl) (fun _ => rfl) hI (ctx_segment l D cA o q hnx u (xs (i + (1 : Int32)).toNatClampNeg) (xs (i + (2 : Int32)).toNatClampNeg) (xs (i + (3 : Int32)).toNatClampNeg) z203 hz203) (cwL_X_segment X.2.2.2.2 ⟨Nat.le_of_ble_eq_true rfl, Nat.le_of_ble_eq_true rfl⟩) rfl hl.1 rfl (Nat.le_of_ble_eq_true rfl) dL_law_203 ⟨Nat.le_of_ble_eq_true rfl, Nat.le_of_ble_eq_true rfl⟩ (fun H locs hI => ?_)
      refine lv_aload_n hx hb dL_law_206 rfl (lv_at hl 1 rfl) ?_
      refine lv_aload_n hx hb dL_law_207 rfl (lv_at hl 3 rfl) ?_
      refine lv_iload_n hx hb dL_law_208 rfl (lv_at hl 0 rfl) ?_
      refine lv_iconst (v := (1 : Int32)) hx hb dL_law_209 (by decide) ?_
      refine lv_iadd hx hb dL_law_210 ?_
      obtain ⟨hd211, hfin⟩ := ck_if hfin
      refine va_sld hx hb hX hbl hbA hI.2.2 hd211 dL_law_211 ?_
      refine lv_aload_n hx hb dL_law_212 rfl (lv_at hl 3 rfl) ?_
      refine lv_iload_n hx hb dL_law_213 rfl (lv_at hl 0 rfl) ?_
      refine lv_iconst (v := (2 : Int32)) hx hb dL_law_214 (by decide) ?_
      refine lv_iadd hx hb dL_law_215 ?_
      obtain ⟨hd216, hfin⟩ := ck_if hfin
      refine va_sld hx hb hX hbl hbA hI.2.2 hd216 dL_law_216 ?_
      refine lv_aload_n hx hb dL_law_217 rfl (lv_at hl 3 rfl) ?_
      refine lv_iload_n hx hb dL_law_218 rfl (lv_at hl 0 rfl) ?_
      refine lv_iconst (v := (3 : Int32)) hx hb dL_law_219 (by decide) ?_
      refine lv_iadd hx hb dL_law_220 ?_
      obtain ⟨hd221, hfin⟩ := ck_if hfin
      refine va_sld hx hb hX hbl hbA hI.2.2 hd221 dL_law_221 ?_
      obtain ⟨z222, hz222, hfin⟩ := bd_ob hfin
      refine lc_right_i [.int (xs (i + (1 : Int32)).toNatClampNeg), .int (xs (i + (2 : Int32)).toNatClampNeg), .int (xs (i + (3 : Int32)).toNatClampNeg)] [.int z203.1] X hKm m_rcv (fun _ _ => Iff.rfl) (fun _ => rfl) hI (ctm_segment l D cC cB o2 r r1 r2 hnm v (xs (i + (1 : Int32)).toNatClampNeg) (xs (i + (2 : Int32)).toNatClampNeg) (xs (i + (3 : Int32)).toNatClampNeg) z222 hz222) (cwL_M_segment X.2.2.2.2 ⟨Nat.le_of_ble_eq_true rfl, Nat.le_of_ble_eq_true rfl⟩) rfl hl.1 rfl (Nat.le_of_ble_eq_true rfl) dL_law_222 ⟨Nat.le_of_ble_eq_true rfl, Nat.le_of_ble_eq_true rfl⟩ (fun H locs hI => ?_)
      refine lv_icmp_eq (tgt := 323) hx hb dL_law_225 (by decide) (fun hc225 => ?_) (fun hc225 => ?_)
      · rw [if_pos hc225] at hfin
        refine lv_iinc (lv' := [(3, .int (i + Int32.ofInt 4)), (2, .ref o2), (1, .ref o), (0, .ref b)]) (k := 0) hx hb dL_law_323 hl rfl rfl (by decide) rfl (fun ls hl => ?_)
        refine lv_goto (tgt := 18) hx hb dL_law_326 (by decide) ?_
        exact IH z203.2 z222.2 (i + Int32.ofInt 4) _ _ ls (lv_sub hl [0, 1, 2, 3] rfl) hI hfin
      rw [if_neg hc225] at hfin
      exact absurd hfin (by decide)
    rw [if_neg hk32_3] at hfin
    by_cases hk32_4 : ((xs i.toNatClampNeg) &&& (7 : Int32)) = (4 : Int32)
    · rw [if_pos hk32_4] at hfin
      refine lv_tableIn hx hb dL_law_32 (off := 198) (tgt := 230) (by rw [hk32_4]; decide) (by rw [hk32_4]; decide) (by rw [hk32_4]; rfl) (by decide) ?_
      refine lv_aload_n hx hb dL_law_230 rfl (lv_at hl 2 rfl) ?_
      refine lv_aload_n hx hb dL_law_231 rfl (lv_at hl 3 rfl) ?_
      refine lv_iload_n hx hb dL_law_232 rfl (lv_at hl 0 rfl) ?_
      refine lv_iconst (v := (1 : Int32)) hx hb dL_law_233 (by decide) ?_
      refine lv_iadd hx hb dL_law_234 ?_
      obtain ⟨hd235, hfin⟩ := ck_if hfin
      refine va_sld hx hb hX hbl hbA hI.2.2 hd235 dL_law_235 ?_
      refine lv_aload_n hx hb dL_law_236 rfl (lv_at hl 3 rfl) ?_
      refine lv_iload_n hx hb dL_law_237 rfl (lv_at hl 0 rfl) ?_
      refine lv_iconst (v := (2 : Int32)) hx hb dL_law_238 (by decide) ?_
      refine lv_iadd hx hb dL_law_239 ?_
      obtain ⟨hd240, hfin⟩ := ck_if hfin
      refine va_sld hx hb hX hbl hbA hI.2.2 hd240 dL_law_240 ?_
      refine lv_if_eq (tgt := 248) hx hb dL_law_241 (by decide) (fun hc241 => ?_) (fun hc241 => ?_)
      · rw [if_pos hc241] at hfin
        refine lv_iconst (v := (0 : Int32)) hx hb dL_law_248 (by decide) ?_
        obtain ⟨z249, hz249, hfin⟩ := bd_ob hfin
        refine lc_left_v [.int (xs (i + (1 : Int32)).toNatClampNeg), .int (0 : Int32)] [] X hKx x_rcv (fun _ _ => Iff.rfl) (fun _ => rfl) hI (ctx_start l D cA o q hnx u (xs (i + (1 : Int32)).toNatClampNeg) (0 : Int32) z249 hz249) (cwL_X_start X.2.2.2.2 ⟨Nat.le_of_ble_eq_true rfl, Nat.le_of_ble_eq_true rfl⟩) rfl hl.1 rfl (Nat.le_of_ble_eq_true rfl) dL_law_249 ⟨Nat.le_of_ble_eq_true rfl, Nat.le_of_ble_eq_true rfl⟩ (fun H locs hI => ?_)
        refine lv_aload_n hx hb dL_law_252 rfl (lv_at hl 1 rfl) ?_
        refine lv_aload_n hx hb dL_law_253 rfl (lv_at hl 3 rfl) ?_
        refine lv_iload_n hx hb dL_law_254 rfl (lv_at hl 0 rfl) ?_
        refine lv_iconst (v := (1 : Int32)) hx hb dL_law_255 (by decide) ?_
        refine lv_iadd hx hb dL_law_256 ?_
        obtain ⟨hd257, hfin⟩ := ck_if hfin
        refine va_sld hx hb hX hbl hbA hI.2.2 hd257 dL_law_257 ?_
        refine lv_aload_n hx hb dL_law_258 rfl (lv_at hl 3 rfl) ?_
        refine lv_iload_n hx hb dL_law_259 rfl (lv_at hl 0 rfl) ?_
        refine lv_iconst (v := (2 : Int32)) hx hb dL_law_260 (by decide) ?_
        refine lv_iadd hx hb dL_law_261 ?_
        obtain ⟨hd262, hfin⟩ := ck_if hfin
        refine va_sld hx hb hX hbl hbA hI.2.2 hd262 dL_law_262 ?_
        refine lv_if_eq (tgt := 270) hx hb dL_law_263 (by decide) (fun hc263 => ?_) (fun hc263 => ?_)
        · rw [if_pos hc263] at hfin
          refine lv_iconst (v := (0 : Int32)) hx hb dL_law_270 (by decide) ?_
          obtain ⟨z271, hz271, hfin⟩ := bd_ob hfin
          refine lc_right_v [.int (xs (i + (1 : Int32)).toNatClampNeg), .int (0 : Int32)] [] X hKm m_rcv (fun _ _ => Iff.rfl) (fun _ => rfl) hI (ctm_start l D cC cB o2 r r1 r2 hnm v (xs (i + (1 : Int32)).toNatClampNeg) (0 : Int32) z271 hz271) (cwL_M_start X.2.2.2.2 ⟨Nat.le_of_ble_eq_true rfl, Nat.le_of_ble_eq_true rfl⟩) rfl hl.1 rfl (Nat.le_of_ble_eq_true rfl) dL_law_271 ⟨Nat.le_of_ble_eq_true rfl, Nat.le_of_ble_eq_true rfl⟩ (fun H locs hI => ?_)
          refine lv_goto (tgt := 323) hx hb dL_law_274 (by decide) ?_
          refine lv_iinc (lv' := [(3, .int (i + Int32.ofInt 4)), (2, .ref o2), (1, .ref o), (0, .ref b)]) (k := 0) hx hb dL_law_323 hl rfl rfl (by decide) rfl (fun ls hl => ?_)
          refine lv_goto (tgt := 18) hx hb dL_law_326 (by decide) ?_
          exact IH z249 z271 (i + Int32.ofInt 4) _ _ ls (lv_sub hl [0, 1, 2, 3] rfl) hI hfin
        rw [if_neg hc263] at hfin
        refine lv_iconst (v := (1 : Int32)) hx hb dL_law_266 (by decide) ?_
        refine lv_goto (tgt := 271) hx hb dL_law_267 (by decide) ?_
        obtain ⟨z271, hz271, hfin⟩ := bd_ob hfin
        refine lc_right_v [.int (xs (i + (1 : Int32)).toNatClampNeg), .int (1 : Int32)] [] X hKm m_rcv (fun _ _ => Iff.rfl) (fun _ => rfl) hI (ctm_start l D cC cB o2 r r1 r2 hnm v (xs (i + (1 : Int32)).toNatClampNeg) (1 : Int32) z271 hz271) (cwL_M_start X.2.2.2.2 ⟨Nat.le_of_ble_eq_true rfl, Nat.le_of_ble_eq_true rfl⟩) rfl hl.1 rfl (Nat.le_of_ble_eq_true rfl) dL_law_271 ⟨Nat.le_of_ble_eq_true rfl, Nat.le_of_ble_eq_true rfl⟩ (fun H locs hI => ?_)
        refine lv_goto (tgt := 323) hx hb dL_law_274 (by decide) ?_
        refine lv_iinc (lv' := [(3, .int (i + Int32.ofInt 4)), (2, .ref o2), (1, .ref o), (0, .ref b)]) (k := 0) hx hb dL_law_323 hl rfl rfl (by decide) rfl (fun ls hl => ?_)
        refine lv_goto (tgt := 18) hx hb dL_law_326 (by decide) ?_
        exact IH z249 z271 (i + Int32.ofInt 4) _ _ ls (lv_sub hl [0, 1, 2, 3] rfl) hI hfin
      rw [if_neg hc241] at hfin
      refine lv_iconst (v := (1 : Int32)) hx hb dL_law_244 (by decide) ?_
      refine lv_goto (tgt := 249) hx hb dL_law_245 (by decide) ?_
      obtain ⟨z249, hz249, hfin⟩ := bd_ob hfin
      refine lc_left_v [.int (xs (i + (1 : Int32)).toNatClampNeg), .int (1 : Int32)] [] X hKx x_rcv (fun _ _ => Iff.rfl) (fun _ => rfl) hI (ctx_start l D cA o q hnx u (xs (i + (1 : Int32)).toNatClampNeg) (1 : Int32) z249 hz249) (cwL_X_start X.2.2.2.2 ⟨Nat.le_of_ble_eq_true rfl, Nat.le_of_ble_eq_true rfl⟩) rfl hl.1 rfl (Nat.le_of_ble_eq_true rfl) dL_law_249 ⟨Nat.le_of_ble_eq_true rfl, Nat.le_of_ble_eq_true rfl⟩ (fun H locs hI => ?_)
      refine lv_aload_n hx hb dL_law_252 rfl (lv_at hl 1 rfl) ?_
      refine lv_aload_n hx hb dL_law_253 rfl (lv_at hl 3 rfl) ?_
      refine lv_iload_n hx hb dL_law_254 rfl (lv_at hl 0 rfl) ?_
      refine lv_iconst (v := (1 : Int32)) hx hb dL_law_255 (by decide) ?_
      refine lv_iadd hx hb dL_law_256 ?_
      obtain ⟨hd257, hfin⟩ := ck_if hfin
      refine va_sld hx hb hX hbl hbA hI.2.2 hd257 dL_law_257 ?_
      refine lv_aload_n hx hb dL_law_258 rfl (lv_at hl 3 rfl) ?_
      refine lv_iload_n hx hb dL_law_259 rfl (lv_at hl 0 rfl) ?_
      refine lv_iconst (v := (2 : Int32)) hx hb dL_law_260 (by decide) ?_
      refine lv_iadd hx hb dL_law_261 ?_
      obtain ⟨hd262, hfin⟩ := ck_if hfin
      refine va_sld hx hb hX hbl hbA hI.2.2 hd262 dL_law_262 ?_
      refine lv_if_eq (tgt := 270) hx hb dL_law_263 (by decide) (fun hc263 => ?_) (fun hc263 => ?_)
      · rw [if_pos hc263] at hfin
        refine lv_iconst (v := (0 : Int32)) hx hb dL_law_270 (by decide) ?_
        obtain ⟨z271, hz271, hfin⟩ := bd_ob hfin
        refine lc_right_v [.int (xs (i + (1 : Int32)).toNatClampNeg), .int (0 : Int32)] [] X hKm m_rcv (fun _ _ => Iff.rfl) (fun _ => rfl) hI (ctm_start l D cC cB o2 r r1 r2 hnm v (xs (i + (1 : Int32)).toNatClampNeg) (0 : Int32) z271 hz271) (cwL_M_start X.2.2.2.2 ⟨Nat.le_of_ble_eq_true rfl, Nat.le_of_ble_eq_true rfl⟩) rfl hl.1 rfl (Nat.le_of_ble_eq_true rfl) dL_law_271 ⟨Nat.le_of_ble_eq_true rfl, Nat.le_of_ble_eq_true rfl⟩ (fun H locs hI => ?_)
        refine lv_goto (tgt := 323) hx hb dL_law_274 (by decide) ?_
        refine lv_iinc (lv' := [(3, .int (i + Int32.ofInt 4)), (2, .ref o2), (1, .ref o), (0, .ref b)]) (k := 0) hx hb dL_law_323 hl rfl rfl (by decide) rfl (fun ls hl => ?_)
        refine lv_goto (tgt := 18) hx hb dL_law_326 (by decide) ?_
        exact IH z249 z271 (i + Int32.ofInt 4) _ _ ls (lv_sub hl [0, 1, 2, 3] rfl) hI hfin
      rw [if_neg hc263] at hfin
      refine lv_iconst (v := (1 : Int32)) hx hb dL_law_266 (by decide) ?_
      refine lv_goto (tgt := 271) hx hb dL_law_267 (by decide) ?_
      obtain ⟨z271, hz271, hfin⟩ := bd_ob hfin
      refine lc_right_v [.int (xs (i + (1 : Int32)).toNatClampNeg), .int (1 : Int32)] [] X hKm m_rcv (fun _ _ => Iff.rfl) (fun _ => rfl) hI (ctm_start l D cC cB o2 r r1 r2 hnm v (xs (i + (1 : Int32)).toNatClampNeg) (1 : Int32) z271 hz271) (cwL_M_start X.2.2.2.2 ⟨Nat.le_of_ble_eq_true rfl, Nat.le_of_ble_eq_true rfl⟩) rfl hl.1 rfl (Nat.le_of_ble_eq_true rfl) dL_law_271 ⟨Nat.le_of_ble_eq_true rfl, Nat.le_of_ble_eq_true rfl⟩ (fun H locs hI => ?_)
      refine lv_goto (tgt := 323) hx hb dL_law_274 (by decide) ?_
      refine lv_iinc (lv' := [(3, .int (i + Int32.ofInt 4)), (2, .ref o2), (1, .ref o), (0, .ref b)]) (k := 0) hx hb dL_law_323 hl rfl rfl (by decide) rfl (fun ls hl => ?_)
      refine lv_goto (tgt := 18) hx hb dL_law_326 (by decide) ?_
      exact IH z249 z271 (i + Int32.ofInt 4) _ _ ls (lv_sub hl [0, 1, 2, 3] rfl) hI hfin
    rw [if_neg hk32_4] at hfin
    by_cases hk32_5 : ((xs i.toNatClampNeg) &&& (7 : Int32)) = (5 : Int32)
    · rw [if_pos hk32_5] at hfin
      refine lv_tableIn hx hb dL_law_32 (off := 245) (tgt := 277) (by rw [hk32_5]; decide) (by rw [hk32_5]; decide) (by rw [hk32_5]; rfl) (by decide) ?_
      refine lv_aload_n hx hb dL_law_277 rfl (lv_at hl 2 rfl) ?_
      refine lv_aload_n hx hb dL_law_278 rfl (lv_at hl 3 rfl) ?_
      refine lv_iload_n hx hb dL_law_279 rfl (lv_at hl 0 rfl) ?_
      refine lv_iconst (v := (1 : Int32)) hx hb dL_law_280 (by decide) ?_
      refine lv_iadd hx hb dL_law_281 ?_
      obtain ⟨hd282, hfin⟩ := ck_if hfin
      refine va_sld hx hb hX hbl hbA hI.2.2 hd282 dL_law_282 ?_
      obtain ⟨z283, hz283, hfin⟩ := bd_ob hfin
      refine lc_left_i [.int (xs (i + (1 : Int32)).toNatClampNeg)] [] X hKx x_rcv (fun _ _ => Iff.rfl) (fun _ => rfl) hI (ctx_run l D cA o q hnx u (xs (i + (1 : Int32)).toNatClampNeg) z283 hz283) (cwL_X_run X.2.2.2.2 ⟨Nat.le_of_ble_eq_true rfl, Nat.le_of_ble_eq_true rfl⟩) rfl hl.1 rfl (Nat.le_of_ble_eq_true rfl) dL_law_283 ⟨Nat.le_of_ble_eq_true rfl, Nat.le_of_ble_eq_true rfl⟩ (fun H locs hI => ?_)
      refine lv_aload_n hx hb dL_law_286 rfl (lv_at hl 1 rfl) ?_
      refine lv_aload_n hx hb dL_law_287 rfl (lv_at hl 3 rfl) ?_
      refine lv_iload_n hx hb dL_law_288 rfl (lv_at hl 0 rfl) ?_
      refine lv_iconst (v := (1 : Int32)) hx hb dL_law_289 (by decide) ?_
      refine lv_iadd hx hb dL_law_290 ?_
      obtain ⟨hd291, hfin⟩ := ck_if hfin
      refine va_sld hx hb hX hbl hbA hI.2.2 hd291 dL_law_291 ?_
      obtain ⟨z292, hz292, hfin⟩ := bd_ob hfin
      refine lc_right_i [.int (xs (i + (1 : Int32)).toNatClampNeg)] [.int z283.1] X hKm m_rcv (fun _ _ => Iff.rfl) (fun _ => rfl) hI (ctm_run l D cC cB o2 r r1 r2 hnm v (xs (i + (1 : Int32)).toNatClampNeg) z292 hz292) (cwL_M_run X.2.2.2.2 ⟨Nat.le_of_ble_eq_true rfl, Nat.le_of_ble_eq_true rfl⟩) rfl hl.1 rfl (Nat.le_of_ble_eq_true rfl) dL_law_292 ⟨Nat.le_of_ble_eq_true rfl, Nat.le_of_ble_eq_true rfl⟩ (fun H locs hI => ?_)
      refine lv_icmp_eq (tgt := 323) hx hb dL_law_295 (by decide) (fun hc295 => ?_) (fun hc295 => ?_)
      · rw [if_pos hc295] at hfin
        refine lv_iinc (lv' := [(3, .int (i + Int32.ofInt 4)), (2, .ref o2), (1, .ref o), (0, .ref b)]) (k := 0) hx hb dL_law_323 hl rfl rfl (by decide) rfl (fun ls hl => ?_)
        refine lv_goto (tgt := 18) hx hb dL_law_326 (by decide) ?_
        exact IH z283.2 z292.2 (i + Int32.ofInt 4) _ _ ls (lv_sub hl [0, 1, 2, 3] rfl) hI hfin
      rw [if_neg hc295] at hfin
      exact absurd hfin (by decide)
    rw [if_neg hk32_5] at hfin
    by_cases hk32_6 : ((xs i.toNatClampNeg) &&& (7 : Int32)) = (6 : Int32)
    · rw [if_pos hk32_6] at hfin
      refine lv_tableIn hx hb dL_law_32 (off := 268) (tgt := 300) (by rw [hk32_6]; decide) (by rw [hk32_6]; decide) (by rw [hk32_6]; rfl) (by decide) ?_
      refine lv_aload_n hx hb dL_law_300 rfl (lv_at hl 2 rfl) ?_
      refine lv_aload_n hx hb dL_law_301 rfl (lv_at hl 3 rfl) ?_
      refine lv_iload_n hx hb dL_law_302 rfl (lv_at hl 0 rfl) ?_
      refine lv_iconst (v := (1 : Int32)) hx hb dL_law_303 (by decide) ?_
      refine lv_iadd hx hb dL_law_304 ?_
      obtain ⟨hd305, hfin⟩ := ck_if hfin
      refine va_sld hx hb hX hbl hbA hI.2.2 hd305 dL_law_305 ?_
      refine lc_Ri [.int (xs (i + (1 : Int32)).toNatClampNeg)] [] X hKx x_rcv (va_P_left hI.1) (ctx_look l D cA o q u (xs (i + (1 : Int32)).toNatClampNeg)) (cwL_X_look X.2.2.2.2 ⟨Nat.le_of_ble_eq_true rfl, Nat.le_of_ble_eq_true rfl⟩) rfl hl.1 rfl (Nat.le_of_ble_eq_true rfl) dL_law_306 ⟨Nat.le_of_ble_eq_true rfl, Nat.le_of_ble_eq_true rfl⟩ ?_
      refine lv_aload_n hx hb dL_law_309 rfl (lv_at hl 1 rfl) ?_
      refine lv_aload_n hx hb dL_law_310 rfl (lv_at hl 3 rfl) ?_
      refine lv_iload_n hx hb dL_law_311 rfl (lv_at hl 0 rfl) ?_
      refine lv_iconst (v := (1 : Int32)) hx hb dL_law_312 (by decide) ?_
      refine lv_iadd hx hb dL_law_313 ?_
      obtain ⟨hd314, hfin⟩ := ck_if hfin
      refine va_sld hx hb hX hbl hbA hI.2.2 hd314 dL_law_314 ?_
      refine lc_Ri [.int (xs (i + (1 : Int32)).toNatClampNeg)] [.int (x_look u (xs (i + (1 : Int32)).toNatClampNeg))] X hKm m_rcv (va_P_right hI.1) (ctm_look l D cC cB o2 r r1 r2 v (xs (i + (1 : Int32)).toNatClampNeg)) (cwL_M_look X.2.2.2.2 ⟨Nat.le_of_ble_eq_true rfl, Nat.le_of_ble_eq_true rfl⟩) rfl hl.1 rfl (Nat.le_of_ble_eq_true rfl) dL_law_315 ⟨Nat.le_of_ble_eq_true rfl, Nat.le_of_ble_eq_true rfl⟩ ?_
      refine lv_icmp_eq (tgt := 323) hx hb dL_law_318 (by decide) (fun hc318 => ?_) (fun hc318 => ?_)
      · rw [if_pos hc318] at hfin
        refine lv_iinc (lv' := [(3, .int (i + Int32.ofInt 4)), (2, .ref o2), (1, .ref o), (0, .ref b)]) (k := 0) hx hb dL_law_323 hl rfl rfl (by decide) rfl (fun ls hl => ?_)
        refine lv_goto (tgt := 18) hx hb dL_law_326 (by decide) ?_
        exact IH u v (i + Int32.ofInt 4) _ _ ls (lv_sub hl [0, 1, 2, 3] rfl) hI hfin
      rw [if_neg hc318] at hfin
      exact absurd hfin (by decide)
    rw [if_neg hk32_6] at hfin
    have hn32_0 := i32_ne (0 : Int32) 0 (by decide) hk32_0
    have hn32_1 := i32_ne (1 : Int32) 1 (by decide) hk32_1
    have hn32_2 := i32_ne (2 : Int32) 2 (by decide) hk32_2
    have hn32_3 := i32_ne (3 : Int32) 3 (by decide) hk32_3
    have hn32_4 := i32_ne (4 : Int32) 4 (by decide) hk32_4
    have hn32_5 := i32_ne (5 : Int32) 5 (by decide) hk32_5
    have hn32_6 := i32_ne (6 : Int32) 6 (by decide) hk32_6
    refine lv_tableOut hx hb dL_law_32 (tgt := 323) (by omega) (by decide) ?_
    refine lv_iinc (lv' := [(3, .int (i + Int32.ofInt 4)), (2, .ref o2), (1, .ref o), (0, .ref b)]) (k := 0) hx hb dL_law_323 hl rfl rfl (by decide) rfl (fun ls hl => ?_)
    refine lv_goto (tgt := 18) hx hb dL_law_326 (by decide) ?_
    exact IH u v (i + Int32.ofInt 4) _ _ ls (lv_sub hl [0, 1, 2, 3] rfl) hI hfin
