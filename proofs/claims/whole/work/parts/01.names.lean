-- ===== PART A: goes FIRST, ahead of the names: the tables' words, and 'selects' of the private methods out of them =====
/-- a private method of a class that the tables say can be made, by its rows of tables_1 -/
def lw_okq (q : MethodName × Nat) : Prop := (q.1.cls ≠ "java/lang/invoke/MethodHandle" ∧ q.1.cls ≠ "java/lang/invoke/VarHandle") ∧ Cond.instantiable q.1.cls q.2 ∈ tables_1 ∧ Cond.privateMethod q.1 ∈ tables_1 ∧ Cond.instanceMethod q.1 ∈ tables_1
theorem lw_p0 : lw_okq (⟨"WordMachine", "step", "()V"⟩, 14) := ⟨⟨by decide +kernel, by decide +kernel⟩, List.mem_of_getElem? (i := 5) (by decide +kernel), List.mem_of_getElem? (i := 93) (by decide +kernel), List.mem_of_getElem? (i := 94) (by decide +kernel)⟩
theorem lw_p1 : lw_okq (⟨"WordMachine", "read", "(I)J"⟩, 14) := ⟨⟨by decide +kernel, by decide +kernel⟩, List.mem_of_getElem? (i := 5) (by decide +kernel), List.mem_of_getElem? (i := 97) (by decide +kernel), List.mem_of_getElem? (i := 98) (by decide +kernel)⟩
theorem lw_p2 : lw_okq (⟨"WordMachine", "placeOf", "(I)I"⟩, 14) := ⟨⟨by decide +kernel, by decide +kernel⟩, List.mem_of_getElem? (i := 5) (by decide +kernel), List.mem_of_getElem? (i := 101) (by decide +kernel), List.mem_of_getElem? (i := 102) (by decide +kernel)⟩
theorem lw_p3 : lw_okq (⟨"WordMachine", "raise", "(I)V"⟩, 14) := ⟨⟨by decide +kernel, by decide +kernel⟩, List.mem_of_getElem? (i := 5) (by decide +kernel), List.mem_of_getElem? (i := 106) (by decide +kernel), List.mem_of_getElem? (i := 107) (by decide +kernel)⟩
theorem lw_p4 : lw_okq (⟨"WordMachine", "effective", "(J)I"⟩, 14) := ⟨⟨by decide +kernel, by decide +kernel⟩, List.mem_of_getElem? (i := 5) (by decide +kernel), List.mem_of_getElem? (i := 113) (by decide +kernel), List.mem_of_getElem? (i := 114) (by decide +kernel)⟩
theorem lw_p5 : lw_okq (⟨"WordMachine", "indexed", "(J)I"⟩, 14) := ⟨⟨by decide +kernel, by decide +kernel⟩, List.mem_of_getElem? (i := 5) (by decide +kernel), List.mem_of_getElem? (i := 117) (by decide +kernel), List.mem_of_getElem? (i := 118) (by decide +kernel)⟩
theorem lw_p6 : lw_okq (⟨"WordMachine", "take", "(I)J"⟩, 14) := ⟨⟨by decide +kernel, by decide +kernel⟩, List.mem_of_getElem? (i := 5) (by decide +kernel), List.mem_of_getElem? (i := 127) (by decide +kernel), List.mem_of_getElem? (i := 128) (by decide +kernel)⟩
theorem lw_p7 : lw_okq (⟨"WordMachine", "carryOut", "(III)V"⟩, 14) := ⟨⟨by decide +kernel, by decide +kernel⟩, List.mem_of_getElem? (i := 5) (by decide +kernel), List.mem_of_getElem? (i := 137) (by decide +kernel), List.mem_of_getElem? (i := 138) (by decide +kernel)⟩
theorem lw_p8 : lw_okq (⟨"WordMachine", "bytes", "(III)V"⟩, 14) := ⟨⟨by decide +kernel, by decide +kernel⟩, List.mem_of_getElem? (i := 5) (by decide +kernel), List.mem_of_getElem? (i := 141) (by decide +kernel), List.mem_of_getElem? (i := 142) (by decide +kernel)⟩
theorem lw_p9 : lw_okq (⟨"WordMachine", "advancePointer", "(I)V"⟩, 14) := ⟨⟨by decide +kernel, by decide +kernel⟩, List.mem_of_getElem? (i := 5) (by decide +kernel), List.mem_of_getElem? (i := 145) (by decide +kernel), List.mem_of_getElem? (i := 146) (by decide +kernel)⟩
theorem lw_p10 : lw_okq (⟨"WordMachine", "write", "(IJ)V"⟩, 14) := ⟨⟨by decide +kernel, by decide +kernel⟩, List.mem_of_getElem? (i := 5) (by decide +kernel), List.mem_of_getElem? (i := 164) (by decide +kernel), List.mem_of_getElem? (i := 165) (by decide +kernel)⟩
theorem lw_p11 : lw_okq (⟨"WordMachine", "loadByte", "(IJI)V"⟩, 14) := ⟨⟨by decide +kernel, by decide +kernel⟩, List.mem_of_getElem? (i := 5) (by decide +kernel), List.mem_of_getElem? (i := 168) (by decide +kernel), List.mem_of_getElem? (i := 169) (by decide +kernel)⟩
theorem lw_p12 : lw_okq (⟨"WordMachine", "setAccumulator", "(IJ)V"⟩, 14) := ⟨⟨by decide +kernel, by decide +kernel⟩, List.mem_of_getElem? (i := 5) (by decide +kernel), List.mem_of_getElem? (i := 178) (by decide +kernel), List.mem_of_getElem? (i := 179) (by decide +kernel)⟩
theorem lw_p13 : lw_okq (⟨"WordMachine", "depositByte", "(IJI)V"⟩, 14) := ⟨⟨by decide +kernel, by decide +kernel⟩, List.mem_of_getElem? (i := 5) (by decide +kernel), List.mem_of_getElem? (i := 182) (by decide +kernel), List.mem_of_getElem? (i := 183) (by decide +kernel)⟩
theorem lw_p14 : lw_okq (⟨"WordMachine", "move", "(III)V"⟩, 14) := ⟨⟨by decide +kernel, by decide +kernel⟩, List.mem_of_getElem? (i := 5) (by decide +kernel), List.mem_of_getElem? (i := 186) (by decide +kernel), List.mem_of_getElem? (i := 187) (by decide +kernel)⟩
theorem lw_p15 : lw_okq (⟨"WordMachine", "movedSource", "(III)J"⟩, 14) := ⟨⟨by decide +kernel, by decide +kernel⟩, List.mem_of_getElem? (i := 5) (by decide +kernel), List.mem_of_getElem? (i := 190) (by decide +kernel), List.mem_of_getElem? (i := 191) (by decide +kernel)⟩
def lw_privs_1 : List (MethodName × Nat) := [(⟨"WordMachine", "step", "()V"⟩, 14), (⟨"WordMachine", "read", "(I)J"⟩, 14), (⟨"WordMachine", "placeOf", "(I)I"⟩, 14), (⟨"WordMachine", "raise", "(I)V"⟩, 14), (⟨"WordMachine", "effective", "(J)I"⟩, 14), (⟨"WordMachine", "indexed", "(J)I"⟩, 14), (⟨"WordMachine", "take", "(I)J"⟩, 14), (⟨"WordMachine", "carryOut", "(III)V"⟩, 14), (⟨"WordMachine", "bytes", "(III)V"⟩, 14), (⟨"WordMachine", "advancePointer", "(I)V"⟩, 14), (⟨"WordMachine", "write", "(IJ)V"⟩, 14), (⟨"WordMachine", "loadByte", "(IJI)V"⟩, 14), (⟨"WordMachine", "setAccumulator", "(IJ)V"⟩, 14), (⟨"WordMachine", "depositByte", "(IJI)V"⟩, 14), (⟨"WordMachine", "move", "(III)V"⟩, 14), (⟨"WordMachine", "movedSource", "(III)J"⟩, 14)]
theorem lw_r1 : ∀ q ∈ lw_privs_1, lw_okq q := List.forall_mem_cons.mpr ⟨lw_p0, List.forall_mem_cons.mpr ⟨lw_p1, List.forall_mem_cons.mpr ⟨lw_p2, List.forall_mem_cons.mpr ⟨lw_p3, List.forall_mem_cons.mpr ⟨lw_p4, List.forall_mem_cons.mpr ⟨lw_p5, List.forall_mem_cons.mpr ⟨lw_p6, List.forall_mem_cons.mpr ⟨lw_p7, List.forall_mem_cons.mpr ⟨lw_p8, List.forall_mem_cons.mpr ⟨lw_p9, List.forall_mem_cons.mpr ⟨lw_p10, List.forall_mem_cons.mpr ⟨lw_p11, List.forall_mem_cons.mpr ⟨lw_p12, List.forall_mem_cons.mpr ⟨lw_p13, List.forall_mem_cons.mpr ⟨lw_p14, List.forall_mem_cons.mpr ⟨lw_p15, fun _ h => absurd h List.not_mem_nil⟩⟩⟩⟩⟩⟩⟩⟩⟩⟩⟩⟩⟩⟩⟩⟩
theorem lw_p16 : lw_okq (⟨"WordMachine", "source", "(II)J"⟩, 14) := ⟨⟨by decide +kernel, by decide +kernel⟩, List.mem_of_getElem? (i := 5) (by decide +kernel), List.mem_of_getElem? (i := 194) (by decide +kernel), List.mem_of_getElem? (i := 195) (by decide +kernel)⟩
theorem lw_p17 : lw_okq (⟨"WordMachine", "changedToMove", "(IJ)J"⟩, 14) := ⟨⟨by decide +kernel, by decide +kernel⟩, List.mem_of_getElem? (i := 5) (by decide +kernel), List.mem_of_getElem? (i := 198) (by decide +kernel), List.mem_of_getElem? (i := 199) (by decide +kernel)⟩
theorem lw_p18 : lw_okq (⟨"WordMachine", "fitted", "(J)J"⟩, 14) := ⟨⟨by decide +kernel, by decide +kernel⟩, List.mem_of_getElem? (i := 5) (by decide +kernel), List.mem_of_getElem? (i := 205) (by decide +kernel), List.mem_of_getElem? (i := 206) (by decide +kernel)⟩
theorem lw_p19 : lw_okq (⟨"WordMachine", "setOverflow", "()V"⟩, 14) := ⟨⟨by decide +kernel, by decide +kernel⟩, List.mem_of_getElem? (i := 5) (by decide +kernel), List.mem_of_getElem? (i := 209) (by decide +kernel), List.mem_of_getElem? (i := 210) (by decide +kernel)⟩
theorem lw_p20 : lw_okq (⟨"WordMachine", "putMoved", "(IIIJ)V"⟩, 14) := ⟨⟨by decide +kernel, by decide +kernel⟩, List.mem_of_getElem? (i := 5) (by decide +kernel), List.mem_of_getElem? (i := 216) (by decide +kernel), List.mem_of_getElem? (i := 217) (by decide +kernel)⟩
theorem lw_p21 : lw_okq (⟨"WordMachine", "setAccumulatorButZero", "(IJ)V"⟩, 14) := ⟨⟨by decide +kernel, by decide +kernel⟩, List.mem_of_getElem? (i := 5) (by decide +kernel), List.mem_of_getElem? (i := 220) (by decide +kernel), List.mem_of_getElem? (i := 221) (by decide +kernel)⟩
theorem lw_p22 : lw_okq (⟨"WordMachine", "multiply", "(III)V"⟩, 14) := ⟨⟨by decide +kernel, by decide +kernel⟩, List.mem_of_getElem? (i := 5) (by decide +kernel), List.mem_of_getElem? (i := 224) (by decide +kernel), List.mem_of_getElem? (i := 225) (by decide +kernel)⟩
theorem lw_p23 : lw_okq (⟨"WordMachine", "putResult", "(IIIJ)V"⟩, 14) := ⟨⟨by decide +kernel, by decide +kernel⟩, List.mem_of_getElem? (i := 5) (by decide +kernel), List.mem_of_getElem? (i := 234) (by decide +kernel), List.mem_of_getElem? (i := 235) (by decide +kernel)⟩
theorem lw_p24 : lw_okq (⟨"WordMachine", "divide", "(III)V"⟩, 14) := ⟨⟨by decide +kernel, by decide +kernel⟩, List.mem_of_getElem? (i := 5) (by decide +kernel), List.mem_of_getElem? (i := 238) (by decide +kernel), List.mem_of_getElem? (i := 239) (by decide +kernel)⟩
theorem lw_p25 : lw_okq (⟨"WordMachine", "shift", "(III)V"⟩, 14) := ⟨⟨by decide +kernel, by decide +kernel⟩, List.mem_of_getElem? (i := 5) (by decide +kernel), List.mem_of_getElem? (i := 243) (by decide +kernel), List.mem_of_getElem? (i := 244) (by decide +kernel)⟩
theorem lw_p26 : lw_okq (⟨"WordMachine", "shiftedAsNumber", "(JI)J"⟩, 14) := ⟨⟨by decide +kernel, by decide +kernel⟩, List.mem_of_getElem? (i := 5) (by decide +kernel), List.mem_of_getElem? (i := 247) (by decide +kernel), List.mem_of_getElem? (i := 248) (by decide +kernel)⟩
theorem lw_p27 : lw_okq (⟨"WordMachine", "exchangeOrJump", "(III)V"⟩, 14) := ⟨⟨by decide +kernel, by decide +kernel⟩, List.mem_of_getElem? (i := 5) (by decide +kernel), List.mem_of_getElem? (i := 262) (by decide +kernel), List.mem_of_getElem? (i := 263) (by decide +kernel)⟩
theorem lw_p28 : lw_okq (⟨"WordMachine", "exchange", "(II)V"⟩, 14) := ⟨⟨by decide +kernel, by decide +kernel⟩, List.mem_of_getElem? (i := 5) (by decide +kernel), List.mem_of_getElem? (i := 266) (by decide +kernel), List.mem_of_getElem? (i := 267) (by decide +kernel)⟩
theorem lw_p29 : lw_okq (⟨"WordMachine", "block", "(II)V"⟩, 14) := ⟨⟨by decide +kernel, by decide +kernel⟩, List.mem_of_getElem? (i := 5) (by decide +kernel), List.mem_of_getElem? (i := 270) (by decide +kernel), List.mem_of_getElem? (i := 271) (by decide +kernel)⟩
theorem lw_p30 : lw_okq (⟨"WordMachine", "moveHalves", "(II)V"⟩, 14) := ⟨⟨by decide +kernel, by decide +kernel⟩, List.mem_of_getElem? (i := 5) (by decide +kernel), List.mem_of_getElem? (i := 274) (by decide +kernel), List.mem_of_getElem? (i := 275) (by decide +kernel)⟩
theorem lw_p31 : lw_okq (⟨"WordMachine", "jumpIf", "(ZI)V"⟩, 14) := ⟨⟨by decide +kernel, by decide +kernel⟩, List.mem_of_getElem? (i := 5) (by decide +kernel), List.mem_of_getElem? (i := 278) (by decide +kernel), List.mem_of_getElem? (i := 279) (by decide +kernel)⟩
def lw_privs_2 : List (MethodName × Nat) := [(⟨"WordMachine", "source", "(II)J"⟩, 14), (⟨"WordMachine", "changedToMove", "(IJ)J"⟩, 14), (⟨"WordMachine", "fitted", "(J)J"⟩, 14), (⟨"WordMachine", "setOverflow", "()V"⟩, 14), (⟨"WordMachine", "putMoved", "(IIIJ)V"⟩, 14), (⟨"WordMachine", "setAccumulatorButZero", "(IJ)V"⟩, 14), (⟨"WordMachine", "multiply", "(III)V"⟩, 14), (⟨"WordMachine", "putResult", "(IIIJ)V"⟩, 14), (⟨"WordMachine", "divide", "(III)V"⟩, 14), (⟨"WordMachine", "shift", "(III)V"⟩, 14), (⟨"WordMachine", "shiftedAsNumber", "(JI)J"⟩, 14), (⟨"WordMachine", "exchangeOrJump", "(III)V"⟩, 14), (⟨"WordMachine", "exchange", "(II)V"⟩, 14), (⟨"WordMachine", "block", "(II)V"⟩, 14), (⟨"WordMachine", "moveHalves", "(II)V"⟩, 14), (⟨"WordMachine", "jumpIf", "(ZI)V"⟩, 14)]
theorem lw_r2 : ∀ q ∈ lw_privs_2, lw_okq q := List.forall_mem_cons.mpr ⟨lw_p16, List.forall_mem_cons.mpr ⟨lw_p17, List.forall_mem_cons.mpr ⟨lw_p18, List.forall_mem_cons.mpr ⟨lw_p19, List.forall_mem_cons.mpr ⟨lw_p20, List.forall_mem_cons.mpr ⟨lw_p21, List.forall_mem_cons.mpr ⟨lw_p22, List.forall_mem_cons.mpr ⟨lw_p23, List.forall_mem_cons.mpr ⟨lw_p24, List.forall_mem_cons.mpr ⟨lw_p25, List.forall_mem_cons.mpr ⟨lw_p26, List.forall_mem_cons.mpr ⟨lw_p27, List.forall_mem_cons.mpr ⟨lw_p28, List.forall_mem_cons.mpr ⟨lw_p29, List.forall_mem_cons.mpr ⟨lw_p30, List.forall_mem_cons.mpr ⟨lw_p31, fun _ h => absurd h List.not_mem_nil⟩⟩⟩⟩⟩⟩⟩⟩⟩⟩⟩⟩⟩⟩⟩⟩
theorem lw_p32 : lw_okq (⟨"WordMachine", "jumpByAccumulator", "(II)V"⟩, 14) := ⟨⟨by decide +kernel, by decide +kernel⟩, List.mem_of_getElem? (i := 5) (by decide +kernel), List.mem_of_getElem? (i := 282) (by decide +kernel), List.mem_of_getElem? (i := 283) (by decide +kernel)⟩
theorem lw_p33 : lw_okq (⟨"WordMachine", "stack", "(III)V"⟩, 14) := ⟨⟨by decide +kernel, by decide +kernel⟩, List.mem_of_getElem? (i := 5) (by decide +kernel), List.mem_of_getElem? (i := 286) (by decide +kernel), List.mem_of_getElem? (i := 287) (by decide +kernel)⟩
theorem lw_p34 : lw_okq (⟨"WordMachine", "growStack", "(I)V"⟩, 14) := ⟨⟨by decide +kernel, by decide +kernel⟩, List.mem_of_getElem? (i := 5) (by decide +kernel), List.mem_of_getElem? (i := 290) (by decide +kernel), List.mem_of_getElem? (i := 291) (by decide +kernel)⟩
theorem lw_p35 : lw_okq (⟨"WordMachine", "pcWord", "()J"⟩, 14) := ⟨⟨by decide +kernel, by decide +kernel⟩, List.mem_of_getElem? (i := 5) (by decide +kernel), List.mem_of_getElem? (i := 294) (by decide +kernel), List.mem_of_getElem? (i := 295) (by decide +kernel)⟩
theorem lw_p36 : lw_okq (⟨"WordMachine", "flags", "()I"⟩, 14) := ⟨⟨by decide +kernel, by decide +kernel⟩, List.mem_of_getElem? (i := 5) (by decide +kernel), List.mem_of_getElem? (i := 298) (by decide +kernel), List.mem_of_getElem? (i := 299) (by decide +kernel)⟩
theorem lw_p37 : lw_okq (⟨"WordMachine", "shrinkStack", "(I)V"⟩, 14) := ⟨⟨by decide +kernel, by decide +kernel⟩, List.mem_of_getElem? (i := 5) (by decide +kernel), List.mem_of_getElem? (i := 302) (by decide +kernel), List.mem_of_getElem? (i := 303) (by decide +kernel)⟩
theorem lw_p38 : lw_okq (⟨"WordMachine", "sum", "(III)V"⟩, 14) := ⟨⟨by decide +kernel, by decide +kernel⟩, List.mem_of_getElem? (i := 5) (by decide +kernel), List.mem_of_getElem? (i := 306) (by decide +kernel), List.mem_of_getElem? (i := 307) (by decide +kernel)⟩
theorem lw_p39 : lw_okq (⟨"WordMachine", "compare", "(III)V"⟩, 14) := ⟨⟨by decide +kernel, by decide +kernel⟩, List.mem_of_getElem? (i := 5) (by decide +kernel), List.mem_of_getElem? (i := 310) (by decide +kernel), List.mem_of_getElem? (i := 311) (by decide +kernel)⟩
theorem lw_p40 : lw_okq (⟨"WordMachine", "skipIf", "(Z)V"⟩, 14) := ⟨⟨by decide +kernel, by decide +kernel⟩, List.mem_of_getElem? (i := 5) (by decide +kernel), List.mem_of_getElem? (i := 317) (by decide +kernel), List.mem_of_getElem? (i := 318) (by decide +kernel)⟩
theorem lw_p41 : lw_okq (⟨"WordMachine", "skipOnWord", "(IIJ)V"⟩, 14) := ⟨⟨by decide +kernel, by decide +kernel⟩, List.mem_of_getElem? (i := 5) (by decide +kernel), List.mem_of_getElem? (i := 321) (by decide +kernel), List.mem_of_getElem? (i := 322) (by decide +kernel)⟩
theorem lw_p42 : lw_okq (⟨"WordMachine", "countAndJump", "(IIII)V"⟩, 14) := ⟨⟨by decide +kernel, by decide +kernel⟩, List.mem_of_getElem? (i := 5) (by decide +kernel), List.mem_of_getElem? (i := 325) (by decide +kernel), List.mem_of_getElem? (i := 326) (by decide +kernel)⟩
theorem lw_p43 : lw_okq (⟨"WordMachine", "countAndSkip", "(IIII)V"⟩, 14) := ⟨⟨by decide +kernel, by decide +kernel⟩, List.mem_of_getElem? (i := 5) (by decide +kernel), List.mem_of_getElem? (i := 329) (by decide +kernel), List.mem_of_getElem? (i := 330) (by decide +kernel)⟩
theorem lw_p44 : lw_okq (⟨"WordMachine", "logic", "(III)V"⟩, 14) := ⟨⟨by decide +kernel, by decide +kernel⟩, List.mem_of_getElem? (i := 5) (by decide +kernel), List.mem_of_getElem? (i := 333) (by decide +kernel), List.mem_of_getElem? (i := 334) (by decide +kernel)⟩
theorem lw_p45 : lw_okq (⟨"WordMachine", "halves", "(III)V"⟩, 14) := ⟨⟨by decide +kernel, by decide +kernel⟩, List.mem_of_getElem? (i := 5) (by decide +kernel), List.mem_of_getElem? (i := 337) (by decide +kernel), List.mem_of_getElem? (i := 338) (by decide +kernel)⟩
theorem lw_p46 : lw_okq (⟨"WordMachine", "test", "(III)V"⟩, 14) := ⟨⟨by decide +kernel, by decide +kernel⟩, List.mem_of_getElem? (i := 5) (by decide +kernel), List.mem_of_getElem? (i := 344) (by decide +kernel), List.mem_of_getElem? (i := 345) (by decide +kernel)⟩
theorem lw_p47 : lw_okq (⟨"WordMachine", "enterTrap", "(I)V"⟩, 14) := ⟨⟨by decide +kernel, by decide +kernel⟩, List.mem_of_getElem? (i := 5) (by decide +kernel), List.mem_of_getElem? (i := 354) (by decide +kernel), List.mem_of_getElem? (i := 355) (by decide +kernel)⟩
def lw_privs_3 : List (MethodName × Nat) := [(⟨"WordMachine", "jumpByAccumulator", "(II)V"⟩, 14), (⟨"WordMachine", "stack", "(III)V"⟩, 14), (⟨"WordMachine", "growStack", "(I)V"⟩, 14), (⟨"WordMachine", "pcWord", "()J"⟩, 14), (⟨"WordMachine", "flags", "()I"⟩, 14), (⟨"WordMachine", "shrinkStack", "(I)V"⟩, 14), (⟨"WordMachine", "sum", "(III)V"⟩, 14), (⟨"WordMachine", "compare", "(III)V"⟩, 14), (⟨"WordMachine", "skipIf", "(Z)V"⟩, 14), (⟨"WordMachine", "skipOnWord", "(IIJ)V"⟩, 14), (⟨"WordMachine", "countAndJump", "(IIII)V"⟩, 14), (⟨"WordMachine", "countAndSkip", "(IIII)V"⟩, 14), (⟨"WordMachine", "logic", "(III)V"⟩, 14), (⟨"WordMachine", "halves", "(III)V"⟩, 14), (⟨"WordMachine", "test", "(III)V"⟩, 14), (⟨"WordMachine", "enterTrap", "(I)V"⟩, 14)]
theorem lw_r3 : ∀ q ∈ lw_privs_3, lw_okq q := List.forall_mem_cons.mpr ⟨lw_p32, List.forall_mem_cons.mpr ⟨lw_p33, List.forall_mem_cons.mpr ⟨lw_p34, List.forall_mem_cons.mpr ⟨lw_p35, List.forall_mem_cons.mpr ⟨lw_p36, List.forall_mem_cons.mpr ⟨lw_p37, List.forall_mem_cons.mpr ⟨lw_p38, List.forall_mem_cons.mpr ⟨lw_p39, List.forall_mem_cons.mpr ⟨lw_p40, List.forall_mem_cons.mpr ⟨lw_p41, List.forall_mem_cons.mpr ⟨lw_p42, List.forall_mem_cons.mpr ⟨lw_p43, List.forall_mem_cons.mpr ⟨lw_p44, List.forall_mem_cons.mpr ⟨lw_p45, List.forall_mem_cons.mpr ⟨lw_p46, List.forall_mem_cons.mpr ⟨lw_p47, fun _ h => absurd h List.not_mem_nil⟩⟩⟩⟩⟩⟩⟩⟩⟩⟩⟩⟩⟩⟩⟩⟩
theorem lw_p48 : lw_okq (⟨"WordMachineModel", "makeStep", "()V"⟩, 12) := ⟨⟨by decide +kernel, by decide +kernel⟩, List.mem_of_getElem? (i := 362) (by decide +kernel), List.mem_of_getElem? (i := 437) (by decide +kernel), List.mem_of_getElem? (i := 438) (by decide +kernel)⟩
theorem lw_p49 : lw_okq (⟨"WordMachineModel", "get", "(I)J"⟩, 12) := ⟨⟨by decide +kernel, by decide +kernel⟩, List.mem_of_getElem? (i := 362) (by decide +kernel), List.mem_of_getElem? (i := 441) (by decide +kernel), List.mem_of_getElem? (i := 442) (by decide +kernel)⟩
theorem lw_p50 : lw_okq (⟨"WordMachineModel", "where", "(I)I"⟩, 12) := ⟨⟨by decide +kernel, by decide +kernel⟩, List.mem_of_getElem? (i := 362) (by decide +kernel), List.mem_of_getElem? (i := 445) (by decide +kernel), List.mem_of_getElem? (i := 446) (by decide +kernel)⟩
theorem lw_p51 : lw_okq (⟨"WordMachineModel", "fail", "(I)V"⟩, 12) := ⟨⟨by decide +kernel, by decide +kernel⟩, List.mem_of_getElem? (i := 362) (by decide +kernel), List.mem_of_getElem? (i := 450) (by decide +kernel), List.mem_of_getElem? (i := 451) (by decide +kernel)⟩
theorem lw_p52 : lw_okq (⟨"WordMachineModel", "go", "(I)V"⟩, 12) := ⟨⟨by decide +kernel, by decide +kernel⟩, List.mem_of_getElem? (i := 362) (by decide +kernel), List.mem_of_getElem? (i := 454) (by decide +kernel), List.mem_of_getElem? (i := 455) (by decide +kernel)⟩
theorem lw_p53 : lw_okq (⟨"WordMachineModel", "effective", "(J)I"⟩, 12) := ⟨⟨by decide +kernel, by decide +kernel⟩, List.mem_of_getElem? (i := 362) (by decide +kernel), List.mem_of_getElem? (i := 458) (by decide +kernel), List.mem_of_getElem? (i := 459) (by decide +kernel)⟩
theorem lw_p54 : lw_okq (⟨"WordMachineModel", "count", "()V"⟩, 12) := ⟨⟨by decide +kernel, by decide +kernel⟩, List.mem_of_getElem? (i := 362) (by decide +kernel), List.mem_of_getElem? (i := 470) (by decide +kernel), List.mem_of_getElem? (i := 471) (by decide +kernel)⟩
theorem lw_p55 : lw_okq (⟨"WordMachineModel", "obey", "(III)V"⟩, 12) := ⟨⟨by decide +kernel, by decide +kernel⟩, List.mem_of_getElem? (i := 362) (by decide +kernel), List.mem_of_getElem? (i := 475) (by decide +kernel), List.mem_of_getElem? (i := 476) (by decide +kernel)⟩
theorem lw_p56 : lw_okq (⟨"WordMachineModel", "compare", "(III)V"⟩, 12) := ⟨⟨by decide +kernel, by decide +kernel⟩, List.mem_of_getElem? (i := 362) (by decide +kernel), List.mem_of_getElem? (i := 479) (by decide +kernel), List.mem_of_getElem? (i := 480) (by decide +kernel)⟩
theorem lw_p57 : lw_okq (⟨"WordMachineModel", "skipIf", "(Z)V"⟩, 12) := ⟨⟨by decide +kernel, by decide +kernel⟩, List.mem_of_getElem? (i := 362) (by decide +kernel), List.mem_of_getElem? (i := 489) (by decide +kernel), List.mem_of_getElem? (i := 490) (by decide +kernel)⟩
theorem lw_p58 : lw_okq (⟨"WordMachineModel", "over", "(Z)V"⟩, 12) := ⟨⟨by decide +kernel, by decide +kernel⟩, List.mem_of_getElem? (i := 362) (by decide +kernel), List.mem_of_getElem? (i := 495) (by decide +kernel), List.mem_of_getElem? (i := 496) (by decide +kernel)⟩
theorem lw_p59 : lw_okq (⟨"WordMachineModel", "setAc", "(IJ)V"⟩, 12) := ⟨⟨by decide +kernel, by decide +kernel⟩, List.mem_of_getElem? (i := 362) (by decide +kernel), List.mem_of_getElem? (i := 499) (by decide +kernel), List.mem_of_getElem? (i := 500) (by decide +kernel)⟩
theorem lw_p60 : lw_okq (⟨"WordMachineModel", "goIf", "(ZI)V"⟩, 12) := ⟨⟨by decide +kernel, by decide +kernel⟩, List.mem_of_getElem? (i := 362) (by decide +kernel), List.mem_of_getElem? (i := 503) (by decide +kernel), List.mem_of_getElem? (i := 504) (by decide +kernel)⟩
theorem lw_p61 : lw_okq (⟨"WordMachineModel", "set", "(IJ)V"⟩, 12) := ⟨⟨by decide +kernel, by decide +kernel⟩, List.mem_of_getElem? (i := 362) (by decide +kernel), List.mem_of_getElem? (i := 507) (by decide +kernel), List.mem_of_getElem? (i := 508) (by decide +kernel)⟩
theorem lw_p62 : lw_okq (⟨"WordMachineModel", "logic", "(III)V"⟩, 12) := ⟨⟨by decide +kernel, by decide +kernel⟩, List.mem_of_getElem? (i := 362) (by decide +kernel), List.mem_of_getElem? (i := 511) (by decide +kernel), List.mem_of_getElem? (i := 512) (by decide +kernel)⟩
theorem lw_p63 : lw_okq (⟨"WordMachineModel", "source", "(II)J"⟩, 12) := ⟨⟨by decide +kernel, by decide +kernel⟩, List.mem_of_getElem? (i := 362) (by decide +kernel), List.mem_of_getElem? (i := 515) (by decide +kernel), List.mem_of_getElem? (i := 516) (by decide +kernel)⟩
def lw_privs_4 : List (MethodName × Nat) := [(⟨"WordMachineModel", "makeStep", "()V"⟩, 12), (⟨"WordMachineModel", "get", "(I)J"⟩, 12), (⟨"WordMachineModel", "where", "(I)I"⟩, 12), (⟨"WordMachineModel", "fail", "(I)V"⟩, 12), (⟨"WordMachineModel", "go", "(I)V"⟩, 12), (⟨"WordMachineModel", "effective", "(J)I"⟩, 12), (⟨"WordMachineModel", "count", "()V"⟩, 12), (⟨"WordMachineModel", "obey", "(III)V"⟩, 12), (⟨"WordMachineModel", "compare", "(III)V"⟩, 12), (⟨"WordMachineModel", "skipIf", "(Z)V"⟩, 12), (⟨"WordMachineModel", "over", "(Z)V"⟩, 12), (⟨"WordMachineModel", "setAc", "(IJ)V"⟩, 12), (⟨"WordMachineModel", "goIf", "(ZI)V"⟩, 12), (⟨"WordMachineModel", "set", "(IJ)V"⟩, 12), (⟨"WordMachineModel", "logic", "(III)V"⟩, 12), (⟨"WordMachineModel", "source", "(II)J"⟩, 12)]
theorem lw_r4 : ∀ q ∈ lw_privs_4, lw_okq q := List.forall_mem_cons.mpr ⟨lw_p48, List.forall_mem_cons.mpr ⟨lw_p49, List.forall_mem_cons.mpr ⟨lw_p50, List.forall_mem_cons.mpr ⟨lw_p51, List.forall_mem_cons.mpr ⟨lw_p52, List.forall_mem_cons.mpr ⟨lw_p53, List.forall_mem_cons.mpr ⟨lw_p54, List.forall_mem_cons.mpr ⟨lw_p55, List.forall_mem_cons.mpr ⟨lw_p56, List.forall_mem_cons.mpr ⟨lw_p57, List.forall_mem_cons.mpr ⟨lw_p58, List.forall_mem_cons.mpr ⟨lw_p59, List.forall_mem_cons.mpr ⟨lw_p60, List.forall_mem_cons.mpr ⟨lw_p61, List.forall_mem_cons.mpr ⟨lw_p62, List.forall_mem_cons.mpr ⟨lw_p63, fun _ h => absurd h List.not_mem_nil⟩⟩⟩⟩⟩⟩⟩⟩⟩⟩⟩⟩⟩⟩⟩⟩
theorem lw_p64 : lw_okq (⟨"WordMachineModel", "keep", "(IIIJ)V"⟩, 12) := ⟨⟨by decide +kernel, by decide +kernel⟩, List.mem_of_getElem? (i := 362) (by decide +kernel), List.mem_of_getElem? (i := 519) (by decide +kernel), List.mem_of_getElem? (i := 520) (by decide +kernel)⟩
theorem lw_p65 : lw_okq (⟨"WordMachineModel", "halves", "(III)V"⟩, 12) := ⟨⟨by decide +kernel, by decide +kernel⟩, List.mem_of_getElem? (i := 362) (by decide +kernel), List.mem_of_getElem? (i := 523) (by decide +kernel), List.mem_of_getElem? (i := 524) (by decide +kernel)⟩
theorem lw_p66 : lw_okq (⟨"WordMachineModel", "place", "(IIIJ)V"⟩, 12) := ⟨⟨by decide +kernel, by decide +kernel⟩, List.mem_of_getElem? (i := 362) (by decide +kernel), List.mem_of_getElem? (i := 534) (by decide +kernel), List.mem_of_getElem? (i := 535) (by decide +kernel)⟩
theorem lw_p67 : lw_okq (⟨"WordMachineModel", "test", "(III)V"⟩, 12) := ⟨⟨by decide +kernel, by decide +kernel⟩, List.mem_of_getElem? (i := 362) (by decide +kernel), List.mem_of_getElem? (i := 538) (by decide +kernel), List.mem_of_getElem? (i := 539) (by decide +kernel)⟩
theorem lw_p68 : lw_okq (⟨"WordMachineModel", "bytes", "(III)V"⟩, 12) := ⟨⟨by decide +kernel, by decide +kernel⟩, List.mem_of_getElem? (i := 362) (by decide +kernel), List.mem_of_getElem? (i := 542) (by decide +kernel), List.mem_of_getElem? (i := 543) (by decide +kernel)⟩
theorem lw_p69 : lw_okq (⟨"WordMachineModel", "move", "(III)V"⟩, 12) := ⟨⟨by decide +kernel, by decide +kernel⟩, List.mem_of_getElem? (i := 362) (by decide +kernel), List.mem_of_getElem? (i := 549) (by decide +kernel), List.mem_of_getElem? (i := 550) (by decide +kernel)⟩
theorem lw_p70 : lw_okq (⟨"WordMachineModel", "sum", "(III)V"⟩, 12) := ⟨⟨by decide +kernel, by decide +kernel⟩, List.mem_of_getElem? (i := 362) (by decide +kernel), List.mem_of_getElem? (i := 554) (by decide +kernel), List.mem_of_getElem? (i := 555) (by decide +kernel)⟩
theorem lw_p71 : lw_okq (⟨"WordMachineModel", "multiply", "(IIIJJ)V"⟩, 12) := ⟨⟨by decide +kernel, by decide +kernel⟩, List.mem_of_getElem? (i := 362) (by decide +kernel), List.mem_of_getElem? (i := 558) (by decide +kernel), List.mem_of_getElem? (i := 559) (by decide +kernel)⟩
theorem lw_p72 : lw_okq (⟨"WordMachineModel", "flow", "(III)V"⟩, 12) := ⟨⟨by decide +kernel, by decide +kernel⟩, List.mem_of_getElem? (i := 362) (by decide +kernel), List.mem_of_getElem? (i := 563) (by decide +kernel), List.mem_of_getElem? (i := 564) (by decide +kernel)⟩
theorem lw_p73 : lw_okq (⟨"WordMachineModel", "shift", "(III)V"⟩, 12) := ⟨⟨by decide +kernel, by decide +kernel⟩, List.mem_of_getElem? (i := 362) (by decide +kernel), List.mem_of_getElem? (i := 567) (by decide +kernel), List.mem_of_getElem? (i := 568) (by decide +kernel)⟩
theorem lw_p74 : lw_okq (⟨"WordMachineModel", "block", "(III)V"⟩, 12) := ⟨⟨by decide +kernel, by decide +kernel⟩, List.mem_of_getElem? (i := 362) (by decide +kernel), List.mem_of_getElem? (i := 571) (by decide +kernel), List.mem_of_getElem? (i := 572) (by decide +kernel)⟩
theorem lw_p75 : lw_okq (⟨"WordMachineModel", "jump", "(II)V"⟩, 12) := ⟨⟨by decide +kernel, by decide +kernel⟩, List.mem_of_getElem? (i := 362) (by decide +kernel), List.mem_of_getElem? (i := 575) (by decide +kernel), List.mem_of_getElem? (i := 576) (by decide +kernel)⟩
theorem lw_p76 : lw_okq (⟨"WordMachineModel", "push", "(III)V"⟩, 12) := ⟨⟨by decide +kernel, by decide +kernel⟩, List.mem_of_getElem? (i := 362) (by decide +kernel), List.mem_of_getElem? (i := 579) (by decide +kernel), List.mem_of_getElem? (i := 580) (by decide +kernel)⟩
theorem lw_p77 : lw_okq (⟨"WordMachineModel", "flags", "()J"⟩, 12) := ⟨⟨by decide +kernel, by decide +kernel⟩, List.mem_of_getElem? (i := 362) (by decide +kernel), List.mem_of_getElem? (i := 583) (by decide +kernel), List.mem_of_getElem? (i := 584) (by decide +kernel)⟩
theorem lw_p78 : lw_okq (⟨"WordMachineModel", "pop", "(III)V"⟩, 12) := ⟨⟨by decide +kernel, by decide +kernel⟩, List.mem_of_getElem? (i := 362) (by decide +kernel), List.mem_of_getElem? (i := 587) (by decide +kernel), List.mem_of_getElem? (i := 588) (by decide +kernel)⟩
def lw_privs_5 : List (MethodName × Nat) := [(⟨"WordMachineModel", "keep", "(IIIJ)V"⟩, 12), (⟨"WordMachineModel", "halves", "(III)V"⟩, 12), (⟨"WordMachineModel", "place", "(IIIJ)V"⟩, 12), (⟨"WordMachineModel", "test", "(III)V"⟩, 12), (⟨"WordMachineModel", "bytes", "(III)V"⟩, 12), (⟨"WordMachineModel", "move", "(III)V"⟩, 12), (⟨"WordMachineModel", "sum", "(III)V"⟩, 12), (⟨"WordMachineModel", "multiply", "(IIIJJ)V"⟩, 12), (⟨"WordMachineModel", "flow", "(III)V"⟩, 12), (⟨"WordMachineModel", "shift", "(III)V"⟩, 12), (⟨"WordMachineModel", "block", "(III)V"⟩, 12), (⟨"WordMachineModel", "jump", "(II)V"⟩, 12), (⟨"WordMachineModel", "push", "(III)V"⟩, 12), (⟨"WordMachineModel", "flags", "()J"⟩, 12), (⟨"WordMachineModel", "pop", "(III)V"⟩, 12)]
theorem lw_r5 : ∀ q ∈ lw_privs_5, lw_okq q := List.forall_mem_cons.mpr ⟨lw_p64, List.forall_mem_cons.mpr ⟨lw_p65, List.forall_mem_cons.mpr ⟨lw_p66, List.forall_mem_cons.mpr ⟨lw_p67, List.forall_mem_cons.mpr ⟨lw_p68, List.forall_mem_cons.mpr ⟨lw_p69, List.forall_mem_cons.mpr ⟨lw_p70, List.forall_mem_cons.mpr ⟨lw_p71, List.forall_mem_cons.mpr ⟨lw_p72, List.forall_mem_cons.mpr ⟨lw_p73, List.forall_mem_cons.mpr ⟨lw_p74, List.forall_mem_cons.mpr ⟨lw_p75, List.forall_mem_cons.mpr ⟨lw_p76, List.forall_mem_cons.mpr ⟨lw_p77, List.forall_mem_cons.mpr ⟨lw_p78, fun _ h => absurd h List.not_mem_nil⟩⟩⟩⟩⟩⟩⟩⟩⟩⟩⟩⟩⟩⟩⟩
def lw_privs : List (MethodName × Nat) := lw_privs_1 ++ (lw_privs_2 ++ (lw_privs_3 ++ (lw_privs_4 ++ (lw_privs_5))))
def lw_tbl : List Cond := k2_sels lw_privs ++ tables_1
theorem lw_privs_ok : ∀ q ∈ lw_privs, lw_okq q := by
  show ∀ q ∈ lw_privs_1 ++ (lw_privs_2 ++ (lw_privs_3 ++ (lw_privs_4 ++ (lw_privs_5)))), lw_okq q
  exact List.forall_mem_append.mpr ⟨lw_r1, List.forall_mem_append.mpr ⟨lw_r2, List.forall_mem_append.mpr ⟨lw_r3, List.forall_mem_append.mpr ⟨lw_r4, lw_r5⟩⟩⟩⟩

theorem goodIn_sub {big ws : List Cond} (hm : ∀ w ∈ ws, w ∈ big) (h : ws.all goodWord = true) : GoodIn big ws := fun w hw => ⟨hm w hw, good_of_word (List.all_eq_true.mp h w hw)⟩
def RX : String := "WordMachine"
def RM : String := "WordMachineModel"
def RJ : String := "java/lang/Math"
def RL : String := "WordMachineLaw"
abbrev cX_init : ByteArray := prog_1_method_1_code
def yX_init : MethodName := ⟨RX, "<init>", "()V"⟩
abbrev cX_deposit : ByteArray := prog_1_method_2_code
def yX_deposit : MethodName := ⟨RX, "deposit", "(IJ)Z"⟩
abbrev cX_examine : ByteArray := prog_1_method_3_code
def yX_examine : MethodName := ⟨RX, "examine", "(I)J"⟩
abbrev cX_number : ByteArray := prog_1_method_4_code
def yX_number : MethodName := ⟨RX, "number", "(I)J"⟩
abbrev cX_segment : ByteArray := prog_1_method_5_code
def yX_segment : MethodName := ⟨RX, "segment", "(III)Z"⟩
abbrev cX_start : ByteArray := prog_1_method_6_code
def yX_start : MethodName := ⟨RX, "start", "(IZ)V"⟩
abbrev cX_run : ByteArray := prog_1_method_7_code
def yX_run : MethodName := ⟨RX, "run", "(I)I"⟩
abbrev cX_look : ByteArray := prog_1_method_8_code
def yX_look : MethodName := ⟨RX, "look", "(I)I"⟩
abbrev cX_step : ByteArray := prog_1_method_9_code
def yX_step : MethodName := ⟨RX, "step", "()V"⟩
abbrev cX_enterTrap : ByteArray := prog_1_method_10_code
def yX_enterTrap : MethodName := ⟨RX, "enterTrap", "(I)V"⟩
abbrev cX_raise : ByteArray := prog_1_method_11_code
def yX_raise : MethodName := ⟨RX, "raise", "(I)V"⟩
abbrev cX_flags : ByteArray := prog_1_method_12_code
def yX_flags : MethodName := ⟨RX, "flags", "()I"⟩
abbrev cX_pcWord : ByteArray := prog_1_method_13_code
def yX_pcWord : MethodName := ⟨RX, "pcWord", "()J"⟩
abbrev cX_carryOut : ByteArray := prog_1_method_14_code
def yX_carryOut : MethodName := ⟨RX, "carryOut", "(III)V"⟩
abbrev cX_isPlace : ByteArray := prog_1_method_15_code
def yX_isPlace : MethodName := ⟨RX, "isPlace", "(I)Z"⟩
abbrev cX_isExtent : ByteArray := prog_1_method_16_code
def yX_isExtent : MethodName := ⟨RX, "isExtent", "(I)Z"⟩
abbrev cX_placeOf : ByteArray := prog_1_method_17_code
def yX_placeOf : MethodName := ⟨RX, "placeOf", "(I)I"⟩
abbrev cX_read : ByteArray := prog_1_method_18_code
def yX_read : MethodName := ⟨RX, "read", "(I)J"⟩
abbrev cX_write : ByteArray := prog_1_method_19_code
def yX_write : MethodName := ⟨RX, "write", "(IJ)V"⟩
abbrev cX_setAccumulator : ByteArray := prog_1_method_20_code
def yX_setAccumulator : MethodName := ⟨RX, "setAccumulator", "(IJ)V"⟩
abbrev cX_setAccumulatorButZero : ByteArray := prog_1_method_21_code
def yX_setAccumulatorButZero : MethodName := ⟨RX, "setAccumulatorButZero", "(IJ)V"⟩
abbrev cX_setOverflow : ByteArray := prog_1_method_22_code
def yX_setOverflow : MethodName := ⟨RX, "setOverflow", "()V"⟩
abbrev cX_effective : ByteArray := prog_1_method_23_code
def yX_effective : MethodName := ⟨RX, "effective", "(J)I"⟩
abbrev cX_take : ByteArray := prog_1_method_24_code
def yX_take : MethodName := ⟨RX, "take", "(I)J"⟩
abbrev cX_indexed : ByteArray := prog_1_method_25_code
def yX_indexed : MethodName := ⟨RX, "indexed", "(J)I"⟩
abbrev cX_isIndirect : ByteArray := prog_1_method_26_code
def yX_isIndirect : MethodName := ⟨RX, "isIndirect", "(J)Z"⟩
abbrev cX_operation : ByteArray := prog_1_method_27_code
def yX_operation : MethodName := ⟨RX, "operation", "(J)I"⟩
abbrev cX_accumulator : ByteArray := prog_1_method_28_code
def yX_accumulator : MethodName := ⟨RX, "accumulator", "(J)I"⟩
abbrev cX_wrapped : ByteArray := prog_1_method_29_code
def yX_wrapped : MethodName := ⟨RX, "wrapped", "(I)I"⟩
abbrev cX_skipIf : ByteArray := prog_1_method_30_code
def yX_skipIf : MethodName := ⟨RX, "skipIf", "(Z)V"⟩
abbrev cX_jumpIf : ByteArray := prog_1_method_31_code
def yX_jumpIf : MethodName := ⟨RX, "jumpIf", "(ZI)V"⟩
abbrev cX_left : ByteArray := prog_1_method_32_code
def yX_left : MethodName := ⟨RX, "left", "(J)I"⟩
abbrev cX_right : ByteArray := prog_1_method_33_code
def yX_right : MethodName := ⟨RX, "right", "(J)I"⟩
abbrev cX_joined : ByteArray := prog_1_method_34_code
def yX_joined : MethodName := ⟨RX, "joined", "(II)J"⟩
abbrev cX_swapped : ByteArray := prog_1_method_35_code
def yX_swapped : MethodName := ⟨RX, "swapped", "(J)J"⟩
abbrev cX_signed : ByteArray := prog_1_method_36_code
def yX_signed : MethodName := ⟨RX, "signed", "(J)J"⟩
abbrev cX_fitted : ByteArray := prog_1_method_37_code
def yX_fitted : MethodName := ⟨RX, "fitted", "(J)J"⟩
abbrev cX_source : ByteArray := prog_1_method_38_code
def yX_source : MethodName := ⟨RX, "source", "(II)J"⟩
abbrev cX_movedSource : ByteArray := prog_1_method_39_code
def yX_movedSource : MethodName := ⟨RX, "movedSource", "(III)J"⟩
abbrev cX_putMoved : ByteArray := prog_1_method_40_code
def yX_putMoved : MethodName := ⟨RX, "putMoved", "(IIIJ)V"⟩
abbrev cX_putResult : ByteArray := prog_1_method_41_code
def yX_putResult : MethodName := ⟨RX, "putResult", "(IIIJ)V"⟩
abbrev cX_move : ByteArray := prog_1_method_42_code
def yX_move : MethodName := ⟨RX, "move", "(III)V"⟩
abbrev cX_changedToMove : ByteArray := prog_1_method_43_code
def yX_changedToMove : MethodName := ⟨RX, "changedToMove", "(IJ)J"⟩
abbrev cX_sum : ByteArray := prog_1_method_44_code
def yX_sum : MethodName := ⟨RX, "sum", "(III)V"⟩
abbrev cX_multiply : ByteArray := prog_1_method_45_code
def yX_multiply : MethodName := ⟨RX, "multiply", "(III)V"⟩
abbrev cX_productFits : ByteArray := prog_1_method_46_code
def yX_productFits : MethodName := ⟨RX, "productFits", "(JJ)Z"⟩
abbrev cX_divide : ByteArray := prog_1_method_47_code
def yX_divide : MethodName := ⟨RX, "divide", "(III)V"⟩
abbrev cX_logic : ByteArray := prog_1_method_48_code
def yX_logic : MethodName := ⟨RX, "logic", "(III)V"⟩
abbrev cX_halves : ByteArray := prog_1_method_49_code
def yX_halves : MethodName := ⟨RX, "halves", "(III)V"⟩
abbrev cX_otherHalf : ByteArray := prog_1_method_50_code
def yX_otherHalf : MethodName := ⟨RX, "otherHalf", "(III)I"⟩
abbrev cX_test : ByteArray := prog_1_method_51_code
def yX_test : MethodName := ⟨RX, "test", "(III)V"⟩
abbrev cX_testSkips : ByteArray := prog_1_method_52_code
def yX_testSkips : MethodName := ⟨RX, "testSkips", "(IJ)Z"⟩
abbrev cX_maskedChange : ByteArray := prog_1_method_53_code
def yX_maskedChange : MethodName := ⟨RX, "maskedChange", "(IJJ)J"⟩
abbrev cX_holds : ByteArray := prog_1_method_54_code
def yX_holds : MethodName := ⟨RX, "holds", "(IJ)Z"⟩
abbrev cX_compare : ByteArray := prog_1_method_55_code
def yX_compare : MethodName := ⟨RX, "compare", "(III)V"⟩
abbrev cX_skipOnWord : ByteArray := prog_1_method_56_code
def yX_skipOnWord : MethodName := ⟨RX, "skipOnWord", "(IIJ)V"⟩
abbrev cX_countAndJump : ByteArray := prog_1_method_57_code
def yX_countAndJump : MethodName := ⟨RX, "countAndJump", "(IIII)V"⟩
abbrev cX_countAndSkip : ByteArray := prog_1_method_58_code
def yX_countAndSkip : MethodName := ⟨RX, "countAndSkip", "(IIII)V"⟩
abbrev cX_shift : ByteArray := prog_1_method_59_code
def yX_shift : MethodName := ⟨RX, "shift", "(III)V"⟩
abbrev cX_shiftedAsNumber : ByteArray := prog_1_method_60_code
def yX_shiftedAsNumber : MethodName := ⟨RX, "shiftedAsNumber", "(JI)J"⟩
abbrev cX_rotated : ByteArray := prog_1_method_61_code
def yX_rotated : MethodName := ⟨RX, "rotated", "(JI)J"⟩
abbrev cX_shiftedAsBits : ByteArray := prog_1_method_62_code
def yX_shiftedAsBits : MethodName := ⟨RX, "shiftedAsBits", "(JI)J"⟩
abbrev cX_exchangeOrJump : ByteArray := prog_1_method_63_code
def yX_exchangeOrJump : MethodName := ⟨RX, "exchangeOrJump", "(III)V"⟩
abbrev cX_exchange : ByteArray := prog_1_method_64_code
def yX_exchange : MethodName := ⟨RX, "exchange", "(II)V"⟩
abbrev cX_block : ByteArray := prog_1_method_65_code
def yX_block : MethodName := ⟨RX, "block", "(II)V"⟩
abbrev cX_jumpByAccumulator : ByteArray := prog_1_method_66_code
def yX_jumpByAccumulator : MethodName := ⟨RX, "jumpByAccumulator", "(II)V"⟩
abbrev cX_moveHalves : ByteArray := prog_1_method_67_code
def yX_moveHalves : MethodName := ⟨RX, "moveHalves", "(II)V"⟩
abbrev cX_growStack : ByteArray := prog_1_method_68_code
def yX_growStack : MethodName := ⟨RX, "growStack", "(I)V"⟩
abbrev cX_shrinkStack : ByteArray := prog_1_method_69_code
def yX_shrinkStack : MethodName := ⟨RX, "shrinkStack", "(I)V"⟩
abbrev cX_stack : ByteArray := prog_1_method_70_code
def yX_stack : MethodName := ⟨RX, "stack", "(III)V"⟩
abbrev cX_bytes : ByteArray := prog_1_method_71_code
def yX_bytes : MethodName := ⟨RX, "bytes", "(III)V"⟩
abbrev cX_position : ByteArray := prog_1_method_72_code
def yX_position : MethodName := ⟨RX, "position", "(J)I"⟩
abbrev cX_size : ByteArray := prog_1_method_73_code
def yX_size : MethodName := ⟨RX, "size", "(J)I"⟩
abbrev cX_byteMask : ByteArray := prog_1_method_74_code
def yX_byteMask : MethodName := ⟨RX, "byteMask", "(J)J"⟩
abbrev cX_advancePointer : ByteArray := prog_1_method_75_code
def yX_advancePointer : MethodName := ⟨RX, "advancePointer", "(I)V"⟩
abbrev cX_loadByte : ByteArray := prog_1_method_76_code
def yX_loadByte : MethodName := ⟨RX, "loadByte", "(IJI)V"⟩
abbrev cX_depositByte : ByteArray := prog_1_method_77_code
def yX_depositByte : MethodName := ⟨RX, "depositByte", "(IJI)V"⟩
abbrev cM_init : ByteArray := prog_3_method_1_code
def yM_init : MethodName := ⟨RM, "<init>", "()V"⟩
abbrev cM_num : ByteArray := prog_3_method_2_code
def yM_num : MethodName := ⟨RM, "num", "(J)J"⟩
abbrev cM_left : ByteArray := prog_3_method_3_code
def yM_left : MethodName := ⟨RM, "left", "(J)I"⟩
abbrev cM_right : ByteArray := prog_3_method_4_code
def yM_right : MethodName := ⟨RM, "right", "(J)I"⟩
abbrev cM_joined : ByteArray := prog_3_method_5_code
def yM_joined : MethodName := ⟨RM, "joined", "(II)J"⟩
abbrev cM_bit : ByteArray := prog_3_method_6_code
def yM_bit : MethodName := ⟨RM, "bit", "(JI)I"⟩
abbrev cM_fail : ByteArray := prog_3_method_7_code
def yM_fail : MethodName := ⟨RM, "fail", "(I)V"⟩
abbrev cM_where : ByteArray := prog_3_method_8_code
def yM_where : MethodName := ⟨RM, "where", "(I)I"⟩
abbrev cM_get : ByteArray := prog_3_method_9_code
def yM_get : MethodName := ⟨RM, "get", "(I)J"⟩
abbrev cM_set : ByteArray := prog_3_method_10_code
def yM_set : MethodName := ⟨RM, "set", "(IJ)V"⟩
abbrev cM_setAc : ByteArray := prog_3_method_11_code
def yM_setAc : MethodName := ⟨RM, "setAc", "(IJ)V"⟩
abbrev cM_over : ByteArray := prog_3_method_12_code
def yM_over : MethodName := ⟨RM, "over", "(Z)V"⟩
abbrev cM_go : ByteArray := prog_3_method_13_code
def yM_go : MethodName := ⟨RM, "go", "(I)V"⟩
abbrev cM_skipIf : ByteArray := prog_3_method_14_code
def yM_skipIf : MethodName := ⟨RM, "skipIf", "(Z)V"⟩
abbrev cM_goIf : ByteArray := prog_3_method_15_code
def yM_goIf : MethodName := ⟨RM, "goIf", "(ZI)V"⟩
abbrev cM_count : ByteArray := prog_3_method_16_code
def yM_count : MethodName := ⟨RM, "count", "()V"⟩
abbrev cM_effective : ByteArray := prog_3_method_17_code
def yM_effective : MethodName := ⟨RM, "effective", "(J)I"⟩
abbrev cM_flags : ByteArray := prog_3_method_18_code
def yM_flags : MethodName := ⟨RM, "flags", "()J"⟩
abbrev cM_holds : ByteArray := prog_3_method_19_code
def yM_holds : MethodName := ⟨RM, "holds", "(IJ)Z"⟩
abbrev cM_holds0 : ByteArray := prog_3_method_20_code
def yM_holds0 : MethodName := ⟨RM, "holds0", "(IJ)Z"⟩
abbrev cM_makeStep : ByteArray := prog_3_method_21_code
def yM_makeStep : MethodName := ⟨RM, "makeStep", "()V"⟩
abbrev cM_obey : ByteArray := prog_3_method_22_code
def yM_obey : MethodName := ⟨RM, "obey", "(III)V"⟩
abbrev cM_source : ByteArray := prog_3_method_23_code
def yM_source : MethodName := ⟨RM, "source", "(II)J"⟩
abbrev cM_place : ByteArray := prog_3_method_24_code
def yM_place : MethodName := ⟨RM, "place", "(IIIJ)V"⟩
abbrev cM_keep : ByteArray := prog_3_method_25_code
def yM_keep : MethodName := ⟨RM, "keep", "(IIIJ)V"⟩
abbrev cM_move : ByteArray := prog_3_method_26_code
def yM_move : MethodName := ⟨RM, "move", "(III)V"⟩
abbrev cM_sum : ByteArray := prog_3_method_27_code
def yM_sum : MethodName := ⟨RM, "sum", "(III)V"⟩
abbrev cM_multiply : ByteArray := prog_3_method_28_code
def yM_multiply : MethodName := ⟨RM, "multiply", "(IIIJJ)V"⟩
abbrev cM_logic : ByteArray := prog_3_method_29_code
def yM_logic : MethodName := ⟨RM, "logic", "(III)V"⟩
abbrev cM_halves : ByteArray := prog_3_method_30_code
def yM_halves : MethodName := ⟨RM, "halves", "(III)V"⟩
abbrev cM_compare : ByteArray := prog_3_method_31_code
def yM_compare : MethodName := ⟨RM, "compare", "(III)V"⟩
abbrev cM_test : ByteArray := prog_3_method_32_code
def yM_test : MethodName := ⟨RM, "test", "(III)V"⟩
abbrev cM_bytes : ByteArray := prog_3_method_33_code
def yM_bytes : MethodName := ⟨RM, "bytes", "(III)V"⟩
abbrev cM_flow : ByteArray := prog_3_method_34_code
def yM_flow : MethodName := ⟨RM, "flow", "(III)V"⟩
abbrev cM_jump : ByteArray := prog_3_method_35_code
def yM_jump : MethodName := ⟨RM, "jump", "(II)V"⟩
abbrev cM_shift : ByteArray := prog_3_method_36_code
def yM_shift : MethodName := ⟨RM, "shift", "(III)V"⟩
abbrev cM_block : ByteArray := prog_3_method_37_code
def yM_block : MethodName := ⟨RM, "block", "(III)V"⟩
abbrev cM_push : ByteArray := prog_3_method_38_code
def yM_push : MethodName := ⟨RM, "push", "(III)V"⟩
abbrev cM_pop : ByteArray := prog_3_method_39_code
def yM_pop : MethodName := ⟨RM, "pop", "(III)V"⟩
abbrev cM_deposit : ByteArray := prog_3_method_40_code
def yM_deposit : MethodName := ⟨RM, "deposit", "(IJ)Z"⟩
abbrev cM_examine : ByteArray := prog_3_method_41_code
def yM_examine : MethodName := ⟨RM, "examine", "(I)J"⟩
abbrev cM_number : ByteArray := prog_3_method_42_code
def yM_number : MethodName := ⟨RM, "number", "(I)J"⟩
abbrev cM_segment : ByteArray := prog_3_method_43_code
def yM_segment : MethodName := ⟨RM, "segment", "(III)Z"⟩
abbrev cM_start : ByteArray := prog_3_method_44_code
def yM_start : MethodName := ⟨RM, "start", "(IZ)V"⟩
abbrev cM_run : ByteArray := prog_3_method_45_code
def yM_run : MethodName := ⟨RM, "run", "(I)I"⟩
abbrev cM_look : ByteArray := prog_3_method_46_code
def yM_look : MethodName := ⟨RM, "look", "(I)I"⟩
abbrev cJ_abs : ByteArray := prog_4_method_61_code
def yJ_abs : MethodName := ⟨RJ, "abs", "(J)J"⟩
abbrev cJ_floorMod : ByteArray := prog_4_method_50_code
def yJ_floorMod : MethodName := ⟨RJ, "floorMod", "(II)I"⟩
abbrev cJ_max : ByteArray := prog_4_method_65_code
def yJ_max : MethodName := ⟨RJ, "max", "(II)I"⟩
abbrev cJ_min : ByteArray := prog_4_method_69_code
def yJ_min : MethodName := ⟨RJ, "min", "(II)I"⟩
def TX : u_T := fun k => match k with
  | 0 => (RX, "words", "[J", true)
  | 1 => (RX, "lowBase", "I", false)
  | 2 => (RX, "lowBound", "I", false)
  | 3 => (RX, "highBase", "I", false)
  | 4 => (RX, "highBound", "I", false)
  | 5 => (RX, "pc", "I", false)
  | 6 => (RX, "user", "Z", false)
  | 7 => (RX, "overflow", "Z", false)
  | 8 => (RX, "stopped", "Z", false)
  | 9 => (RX, "steps", "I", false)
  | 10 => (RX, "traps", "I", false)
  | 11 => (RX, "latestTrap", "I", false)
  | 12 => (RX, "trap", "I", false)
  | _ => (RX, "taken", "I", false)
def tyX : Nat → FieldType := fun k => match k with
  | 0 => .array .long
  | 1 => .int
  | 2 => .int
  | 3 => .int
  | 4 => .int
  | 5 => .int
  | 6 => .boolean
  | 7 => .boolean
  | 8 => .boolean
  | 9 => .int
  | 10 => .int
  | 11 => .int
  | 12 => .int
  | _ => .int
theorem nmX : ∀ a, a < 14 → ∀ b, b < 14 → a ≠ b → (TX a).2.1 ≠ (TX b).2.1 := by decide +kernel
theorem tyX_ok : ∀ k, k < 14 → parseFieldDescriptor (TX k).2.2.1 = some (tyX k) := by decide +kernel
def TM : u_T := fun k => match k with
  | 0 => (RM, "store", "[J", true)
  | 1 => (RM, "base", "[I", true)
  | 2 => (RM, "bound", "[I", true)
  | 3 => (RM, "user", "Z", false)
  | 4 => (RM, "overflow", "Z", false)
  | 5 => (RM, "stopped", "Z", false)
  | 6 => (RM, "pc", "I", false)
  | 7 => (RM, "steps", "I", false)
  | 8 => (RM, "traps", "I", false)
  | 9 => (RM, "latest", "I", false)
  | 10 => (RM, "wrong", "I", false)
  | _ => (RM, "taken", "I", false)
def tyM : Nat → FieldType := fun k => match k with
  | 0 => .array .long
  | 1 => .array .int
  | 2 => .array .int
  | 3 => .boolean
  | 4 => .boolean
  | 5 => .boolean
  | 6 => .int
  | 7 => .int
  | 8 => .int
  | 9 => .int
  | 10 => .int
  | _ => .int
theorem nmM : ∀ a, a < 12 → ∀ b, b < 12 → a ≠ b → (TM a).2.1 ≠ (TM b).2.1 := by decide +kernel
theorem tyM_ok : ∀ k, k < 12 → parseFieldDescriptor (TM k).2.2.1 = some (tyM k) := by decide +kernel
abbrev vwCl : List vw_C := [(RX, TX, 14), (RM, TM, 12)]
def WX : List Cond := [.initialized RX,
  .initialized RJ,
  .instanceMethod yX_init,
  .code yX_init cX_init 1 none,
  .methodLink RX 1 objectInit,
  .instanceMethod objectInit,
  .code objectInit ⟨#[0xb1]⟩ 1 none,
  .fieldLink RX 9 RX "words" "[J",
  .fieldLink RX 28 RX "lowBase" "I",
  .fieldLink RX 32 RX "lowBound" "I",
  .fieldLink RX 35 RX "highBase" "I",
  .fieldLink RX 38 RX "highBound" "I",
  .fieldLink RX 42 RX "pc" "I",
  .fieldLink RX 45 RX "user" "Z",
  .fieldLink RX 52 RX "overflow" "Z",
  .fieldLink RX 49 RX "stopped" "Z",
  .fieldLink RX 58 RX "steps" "I",
  .fieldLink RX 61 RX "traps" "I",
  .fieldLink RX 64 RX "latestTrap" "I",
  .fieldLink RX 67 RX "trap" "I",
  .fieldLink RX 70 RX "taken" "I",
  .laysFinal RX RX "words" "[J",
  .lays RX RX "lowBase" "I",
  .lays RX RX "lowBound" "I",
  .lays RX RX "highBase" "I",
  .lays RX RX "highBound" "I",
  .lays RX RX "pc" "I",
  .lays RX RX "user" "Z",
  .lays RX RX "overflow" "Z",
  .lays RX RX "stopped" "Z",
  .lays RX RX "steps" "I",
  .lays RX RX "traps" "I",
  .lays RX RX "latestTrap" "I",
  .lays RX RX "trap" "I",
  .lays RX RX "taken" "I",
  .arrayClass .long,
  .instanceMethod yX_deposit,
  .code yX_deposit cX_deposit 4 (some .boolean),
  .methodLink RX 13 yX_isPlace,
  .static yX_isPlace,
  .code yX_isPlace cX_isPlace 1 (some .boolean),
  .constantLong RX 17 68719476735,
  .instanceMethod yX_examine,
  .code yX_examine cX_examine 2 (some .long),
  .constantLong RX 19 (-1),
  .instanceMethod yX_number,
  .code yX_number cX_number 2 (some .long),
  .methodLink RX 21 yX_signed,
  .static yX_signed,
  .code yX_signed cX_signed 2 (some .long),
  .instanceMethod yX_segment,
  .code yX_segment cX_segment 4 (some .boolean),
  .methodLink RX 25 yX_isExtent,
  .static yX_isExtent,
  .code yX_isExtent cX_isExtent 1 (some .boolean),
  .instanceMethod yX_start,
  .code yX_start cX_start 3 none,
  .constant RX 41 262143,
  .instanceMethod yX_run,
  .code yX_run cX_run 3 (some .int),
  .methodLink RX 55 yX_step,
  .instanceMethod yX_step,
  .code yX_step cX_step 6 none,
  .methodLink RX 73 yX_read,
  .instanceMethod yX_read,
  .code yX_read cX_read 3 (some .long),
  .methodLink RX 150 yX_placeOf,
  .instanceMethod yX_placeOf,
  .code yX_placeOf cX_placeOf 3 (some .int),
  .constant RX 110 131072,
  .methodLink RX 147 yX_raise,
  .instanceMethod yX_raise,
  .code yX_raise cX_raise 2 none,
  .methodLink RX 77 yX_wrapped,
  .static yX_wrapped,
  .code yX_wrapped cX_wrapped 1 (some .int),
  .methodLink RX 81 yX_effective,
  .instanceMethod yX_effective,
  .code yX_effective cX_effective 7 (some .int),
  .methodLink RX 157 yX_indexed,
  .instanceMethod yX_indexed,
  .code yX_indexed cX_indexed 5 (some .int),
  .methodLink RX 164 yX_right,
  .static yX_right,
  .code yX_right cX_right 2 (some .int),
  .methodLink RX 160 yX_isIndirect,
  .static yX_isIndirect,
  .code yX_isIndirect cX_isIndirect 2 (some .boolean),
  .methodLink RX 88 yX_take,
  .instanceMethod yX_take,
  .code yX_take cX_take 2 (some .long),
  .methodLink RX 85 yX_operation,
  .static yX_operation,
  .code yX_operation cX_operation 2 (some .int),
  .methodLink RX 91 yX_accumulator,
  .static yX_accumulator,
  .code yX_accumulator cX_accumulator 2 (some .int),
  .methodLink RX 94 yX_carryOut,
  .instanceMethod yX_carryOut,
  .code yX_carryOut cX_carryOut 4 none,
  .methodLink RX 111 yX_bytes,
  .instanceMethod yX_bytes,
  .code yX_bytes cX_bytes 7 none,
  .methodLink RX 301 yX_advancePointer,
  .instanceMethod yX_advancePointer,
  .code yX_advancePointer cX_advancePointer 7 none,
  .methodLink RX 314 yX_position,
  .static yX_position,
  .code yX_position cX_position 2 (some .int),
  .methodLink RX 311 yX_size,
  .static yX_size,
  .code yX_size cX_size 2 (some .int),
  .methodLink RX 288 yJ_max,
  .static yJ_max,
  .code yJ_max cJ_max 2 (some .int),
  .methodLink RX 167 yX_left,
  .static yX_left,
  .code yX_left cX_left 2 (some .int),
  .methodLink RX 106 yX_joined,
  .static yX_joined,
  .code yX_joined cX_joined 2 (some .long),
  .methodLink RX 176 yX_write,
  .instanceMethod yX_write,
  .code yX_write cX_write 5 none,
  .methodLink RX 304 yX_loadByte,
  .instanceMethod yX_loadByte,
  .code yX_loadByte cX_loadByte 7 none,
  .methodLink RX 317 yX_byteMask,
  .static yX_byteMask,
  .code yX_byteMask cX_byteMask 2 (some .long),
  .methodLink RX 264 yJ_min,
  .static yJ_min,
  .code yJ_min cJ_min 2 (some .int),
  .methodLink RX 153 yX_setAccumulator,
  .instanceMethod yX_setAccumulator,
  .code yX_setAccumulator cX_setAccumulator 4 none,
  .methodLink RX 308 yX_depositByte,
  .instanceMethod yX_depositByte,
  .code yX_depositByte cX_depositByte 9 none,
  .methodLink RX 114 yX_move,
  .instanceMethod yX_move,
  .code yX_move cX_move 7 none,
  .methodLink RX 182 yX_movedSource,
  .instanceMethod yX_movedSource,
  .code yX_movedSource cX_movedSource 4 (some .long),
  .methodLink RX 173 yX_source,
  .instanceMethod yX_source,
  .code yX_source cX_source 3 (some .long),
  .methodLink RX 186 yX_changedToMove,
  .instanceMethod yX_changedToMove,
  .code yX_changedToMove cX_changedToMove 4 (some .long),
  .methodLink RX 194 yX_swapped,
  .static yX_swapped,
  .code yX_swapped cX_swapped 2 (some .long),
  .methodLink RX 197 yX_fitted,
  .instanceMethod yX_fitted,
  .code yX_fitted cX_fitted 5 (some .long),
  .methodLink RX 170 yX_setOverflow,
  .instanceMethod yX_setOverflow,
  .code yX_setOverflow cX_setOverflow 1 none,
  .methodLink RX 200 yJ_abs,
  .static yJ_abs,
  .code yJ_abs cJ_abs 2 (some .long),
  .methodLink RX 190 yX_putMoved,
  .instanceMethod yX_putMoved,
  .code yX_putMoved cX_putMoved 6 none,
  .methodLink RX 179 yX_setAccumulatorButZero,
  .instanceMethod yX_setAccumulatorButZero,
  .code yX_setAccumulatorButZero cX_setAccumulatorButZero 4 none,
  .methodLink RX 117 yX_multiply,
  .instanceMethod yX_multiply,
  .code yX_multiply cX_multiply 9 none,
  .methodLink RX 208 yX_productFits,
  .static yX_productFits,
  .code yX_productFits cX_productFits 6 (some .boolean),
  .constantLong RX 212 262143,
  .constantLong RX 214 (-131072),
  .constantLong RX 216 131072,
  .methodLink RX 205 yX_putResult,
  .instanceMethod yX_putResult,
  .code yX_putResult cX_putResult 6 none,
  .methodLink RX 120 yX_divide,
  .instanceMethod yX_divide,
  .code yX_divide cX_divide 9 none,
  .constantLong RX 218 (-34359738368),
  .methodLink RX 123 yX_shift,
  .instanceMethod yX_shift,
  .code yX_shift cX_shift 5 none,
  .methodLink RX 254 yX_shiftedAsNumber,
  .instanceMethod yX_shiftedAsNumber,
  .code yX_shiftedAsNumber cX_shiftedAsNumber 7 (some .long),
  .constantLong RX 268 34359738368,
  .methodLink RX 261 yX_shiftedAsBits,
  .static yX_shiftedAsBits,
  .code yX_shiftedAsBits cX_shiftedAsBits 3 (some .long),
  .constantLong RX 270 (-34359738369),
  .methodLink RX 258 yX_rotated,
  .static yX_rotated,
  .code yX_rotated cX_rotated 4 (some .long),
  .methodLink RX 272 yJ_floorMod,
  .static yJ_floorMod,
  .code yJ_floorMod cJ_floorMod 3 (some .int),
  .methodLink RX 126 yX_exchangeOrJump,
  .instanceMethod yX_exchangeOrJump,
  .code yX_exchangeOrJump cX_exchangeOrJump 4 none,
  .methodLink RX 275 yX_exchange,
  .instanceMethod yX_exchange,
  .code yX_exchange cX_exchange 5 none,
  .methodLink RX 279 yX_block,
  .instanceMethod yX_block,
  .code yX_block cX_block 7 none,
  .methodLink RX 282 yX_moveHalves,
  .instanceMethod yX_moveHalves,
  .code yX_moveHalves cX_moveHalves 5 none,
  .methodLink RX 239 yX_jumpIf,
  .instanceMethod yX_jumpIf,
  .code yX_jumpIf cX_jumpIf 3 none,
  .methodLink RX 285 yX_jumpByAccumulator,
  .instanceMethod yX_jumpByAccumulator,
  .code yX_jumpByAccumulator cX_jumpByAccumulator 3 none,
  .methodLink RX 129 yX_stack,
  .instanceMethod yX_stack,
  .code yX_stack cX_stack 4 none,
  .methodLink RX 291 yX_growStack,
  .instanceMethod yX_growStack,
  .code yX_growStack cX_growStack 2 none,
  .methodLink RX 294 yX_pcWord,
  .instanceMethod yX_pcWord,
  .code yX_pcWord cX_pcWord 1 (some .long),
  .methodLink RX 102 yX_flags,
  .instanceMethod yX_flags,
  .code yX_flags cX_flags 1 (some .int),
  .methodLink RX 298 yX_shrinkStack,
  .instanceMethod yX_shrinkStack,
  .code yX_shrinkStack cX_shrinkStack 2 none,
  .methodLink RX 132 yX_sum,
  .instanceMethod yX_sum,
  .code yX_sum cX_sum 10 none,
  .methodLink RX 135 yX_compare,
  .instanceMethod yX_compare,
  .code yX_compare cX_compare 7 none,
  .methodLink RX 236 yX_holds,
  .static yX_holds,
  .code yX_holds cX_holds 3 (some .boolean),
  .methodLink RX 228 yX_skipIf,
  .instanceMethod yX_skipIf,
  .code yX_skipIf cX_skipIf 2 none,
  .methodLink RX 243 yX_skipOnWord,
  .instanceMethod yX_skipOnWord,
  .code yX_skipOnWord cX_skipOnWord 5 none,
  .methodLink RX 247 yX_countAndJump,
  .instanceMethod yX_countAndJump,
  .code yX_countAndJump cX_countAndJump 7 none,
  .methodLink RX 251 yX_countAndSkip,
  .instanceMethod yX_countAndSkip,
  .code yX_countAndSkip cX_countAndSkip 7 none,
  .methodLink RX 138 yX_logic,
  .instanceMethod yX_logic,
  .code yX_logic cX_logic 12 none,
  .methodLink RX 141 yX_halves,
  .instanceMethod yX_halves,
  .code yX_halves cX_halves 13 none,
  .methodLink RX 220 yX_otherHalf,
  .static yX_otherHalf,
  .code yX_otherHalf cX_otherHalf 3 (some .int),
  .methodLink RX 144 yX_test,
  .instanceMethod yX_test,
  .code yX_test cX_test 8 none,
  .methodLink RX 224 yX_testSkips,
  .static yX_testSkips,
  .code yX_testSkips cX_testSkips 3 (some .boolean),
  .methodLink RX 232 yX_maskedChange,
  .static yX_maskedChange,
  .code yX_maskedChange cX_maskedChange 5 (some .long),
  .methodLink RX 98 yX_enterTrap,
  .instanceMethod yX_enterTrap,
  .code yX_enterTrap cX_enterTrap 2 none,
  .instanceMethod yX_look,
  .code yX_look cX_look 2 (some .int),
  .selects RX yX_deposit yX_deposit,
  .selects RX yX_examine yX_examine,
  .selects RX yX_number yX_number,
  .selects RX yX_segment yX_segment,
  .selects RX yX_start yX_start,
  .selects RX yX_run yX_run,
  .selects RX yX_look yX_look,
  .selects RX yX_step yX_step,
  .selects RX yX_enterTrap yX_enterTrap,
  .selects RX yX_raise yX_raise,
  .selects RX yX_flags yX_flags,
  .selects RX yX_pcWord yX_pcWord,
  .selects RX yX_carryOut yX_carryOut,
  .selects RX yX_placeOf yX_placeOf,
  .selects RX yX_read yX_read,
  .selects RX yX_write yX_write,
  .selects RX yX_setAccumulator yX_setAccumulator,
  .selects RX yX_setAccumulatorButZero yX_setAccumulatorButZero,
  .selects RX yX_setOverflow yX_setOverflow,
  .selects RX yX_effective yX_effective,
  .selects RX yX_take yX_take,
  .selects RX yX_indexed yX_indexed,
  .selects RX yX_skipIf yX_skipIf,
  .selects RX yX_jumpIf yX_jumpIf,
  .selects RX yX_fitted yX_fitted,
  .selects RX yX_source yX_source,
  .selects RX yX_movedSource yX_movedSource,
  .selects RX yX_putMoved yX_putMoved,
  .selects RX yX_putResult yX_putResult,
  .selects RX yX_move yX_move,
  .selects RX yX_changedToMove yX_changedToMove,
  .selects RX yX_sum yX_sum,
  .selects RX yX_multiply yX_multiply,
  .selects RX yX_divide yX_divide,
  .selects RX yX_logic yX_logic,
  .selects RX yX_halves yX_halves,
  .selects RX yX_test yX_test,
  .selects RX yX_compare yX_compare,
  .selects RX yX_skipOnWord yX_skipOnWord,
  .selects RX yX_countAndJump yX_countAndJump,
  .selects RX yX_countAndSkip yX_countAndSkip,
  .selects RX yX_shift yX_shift,
  .selects RX yX_shiftedAsNumber yX_shiftedAsNumber,
  .selects RX yX_exchangeOrJump yX_exchangeOrJump,
  .selects RX yX_exchange yX_exchange,
  .selects RX yX_block yX_block,
  .selects RX yX_jumpByAccumulator yX_jumpByAccumulator,
  .selects RX yX_moveHalves yX_moveHalves,
  .selects RX yX_growStack yX_growStack,
  .selects RX yX_shrinkStack yX_shrinkStack,
  .selects RX yX_stack yX_stack,
  .selects RX yX_bytes yX_bytes,
  .selects RX yX_advancePointer yX_advancePointer,
  .selects RX yX_loadByte yX_loadByte,
  .selects RX yX_depositByte yX_depositByte]
theorem hiX : (.initialized RX : Cond) ∈ WX := List.mem_of_getElem? (i := 0) rfl
theorem hiJ : (.initialized RJ : Cond) ∈ WX := List.mem_of_getElem? (i := 1) rfl
theorem hnX_init : (.instanceMethod yX_init : Cond) ∈ WX := List.mem_of_getElem? (i := 2) rfl
theorem hoX_init : (.code yX_init cX_init 1 none : Cond) ∈ WX := List.mem_of_getElem? (i := 3) rfl
theorem hmX_1 : (.methodLink RX 1 objectInit : Cond) ∈ WX := List.mem_of_getElem? (i := 4) rfl
theorem hnO_init_X : (.instanceMethod objectInit : Cond) ∈ WX := List.mem_of_getElem? (i := 5) rfl
theorem hoO_init_X : (.code objectInit ⟨#[0xb1]⟩ 1 none : Cond) ∈ WX := List.mem_of_getElem? (i := 6) rfl
theorem hfX_words : (.fieldLink RX 9 RX "words" "[J" : Cond) ∈ WX := List.mem_of_getElem? (i := 7) rfl
theorem hfX_lowBase : (.fieldLink RX 28 RX "lowBase" "I" : Cond) ∈ WX := List.mem_of_getElem? (i := 8) rfl
theorem hfX_lowBound : (.fieldLink RX 32 RX "lowBound" "I" : Cond) ∈ WX := List.mem_of_getElem? (i := 9) rfl
theorem hfX_highBase : (.fieldLink RX 35 RX "highBase" "I" : Cond) ∈ WX := List.mem_of_getElem? (i := 10) rfl
theorem hfX_highBound : (.fieldLink RX 38 RX "highBound" "I" : Cond) ∈ WX := List.mem_of_getElem? (i := 11) rfl
theorem hfX_pc : (.fieldLink RX 42 RX "pc" "I" : Cond) ∈ WX := List.mem_of_getElem? (i := 12) rfl
theorem hfX_user : (.fieldLink RX 45 RX "user" "Z" : Cond) ∈ WX := List.mem_of_getElem? (i := 13) rfl
theorem hfX_overflow : (.fieldLink RX 52 RX "overflow" "Z" : Cond) ∈ WX := List.mem_of_getElem? (i := 14) rfl
theorem hfX_stopped : (.fieldLink RX 49 RX "stopped" "Z" : Cond) ∈ WX := List.mem_of_getElem? (i := 15) rfl
theorem hfX_steps : (.fieldLink RX 58 RX "steps" "I" : Cond) ∈ WX := List.mem_of_getElem? (i := 16) rfl
theorem hfX_traps : (.fieldLink RX 61 RX "traps" "I" : Cond) ∈ WX := List.mem_of_getElem? (i := 17) rfl
theorem hfX_latestTrap : (.fieldLink RX 64 RX "latestTrap" "I" : Cond) ∈ WX := List.mem_of_getElem? (i := 18) rfl
theorem hfX_trap : (.fieldLink RX 67 RX "trap" "I" : Cond) ∈ WX := List.mem_of_getElem? (i := 19) rfl
theorem hfX_taken : (.fieldLink RX 70 RX "taken" "I" : Cond) ∈ WX := List.mem_of_getElem? (i := 20) rfl
theorem hlX_words : (.laysFinal RX RX "words" "[J" : Cond) ∈ WX := List.mem_of_getElem? (i := 21) rfl
theorem hlX_lowBase : (.lays RX RX "lowBase" "I" : Cond) ∈ WX := List.mem_of_getElem? (i := 22) rfl
theorem hlX_lowBound : (.lays RX RX "lowBound" "I" : Cond) ∈ WX := List.mem_of_getElem? (i := 23) rfl
theorem hlX_highBase : (.lays RX RX "highBase" "I" : Cond) ∈ WX := List.mem_of_getElem? (i := 24) rfl
theorem hlX_highBound : (.lays RX RX "highBound" "I" : Cond) ∈ WX := List.mem_of_getElem? (i := 25) rfl
theorem hlX_pc : (.lays RX RX "pc" "I" : Cond) ∈ WX := List.mem_of_getElem? (i := 26) rfl
theorem hlX_user : (.lays RX RX "user" "Z" : Cond) ∈ WX := List.mem_of_getElem? (i := 27) rfl
theorem hlX_overflow : (.lays RX RX "overflow" "Z" : Cond) ∈ WX := List.mem_of_getElem? (i := 28) rfl
theorem hlX_stopped : (.lays RX RX "stopped" "Z" : Cond) ∈ WX := List.mem_of_getElem? (i := 29) rfl
theorem hlX_steps : (.lays RX RX "steps" "I" : Cond) ∈ WX := List.mem_of_getElem? (i := 30) rfl
theorem hlX_traps : (.lays RX RX "traps" "I" : Cond) ∈ WX := List.mem_of_getElem? (i := 31) rfl
theorem hlX_latestTrap : (.lays RX RX "latestTrap" "I" : Cond) ∈ WX := List.mem_of_getElem? (i := 32) rfl
theorem hlX_trap : (.lays RX RX "trap" "I" : Cond) ∈ WX := List.mem_of_getElem? (i := 33) rfl
theorem hlX_taken : (.lays RX RX "taken" "I" : Cond) ∈ WX := List.mem_of_getElem? (i := 34) rfl
theorem haX_long : (.arrayClass .long : Cond) ∈ WX := List.mem_of_getElem? (i := 35) rfl
theorem hnX_deposit : (.instanceMethod yX_deposit : Cond) ∈ WX := List.mem_of_getElem? (i := 36) rfl
theorem hoX_deposit : (.code yX_deposit cX_deposit 4 (some .boolean) : Cond) ∈ WX := List.mem_of_getElem? (i := 37) rfl
theorem hmX_13 : (.methodLink RX 13 yX_isPlace : Cond) ∈ WX := List.mem_of_getElem? (i := 38) rfl
theorem hsX_isPlace : (.static yX_isPlace : Cond) ∈ WX := List.mem_of_getElem? (i := 39) rfl
theorem hoX_isPlace : (.code yX_isPlace cX_isPlace 1 (some .boolean) : Cond) ∈ WX := List.mem_of_getElem? (i := 40) rfl
theorem hkX_17 : (.constantLong RX 17 68719476735 : Cond) ∈ WX := List.mem_of_getElem? (i := 41) rfl
theorem hnX_examine : (.instanceMethod yX_examine : Cond) ∈ WX := List.mem_of_getElem? (i := 42) rfl
theorem hoX_examine : (.code yX_examine cX_examine 2 (some .long) : Cond) ∈ WX := List.mem_of_getElem? (i := 43) rfl
theorem hkX_19 : (.constantLong RX 19 (-1) : Cond) ∈ WX := List.mem_of_getElem? (i := 44) rfl
theorem hnX_number : (.instanceMethod yX_number : Cond) ∈ WX := List.mem_of_getElem? (i := 45) rfl
theorem hoX_number : (.code yX_number cX_number 2 (some .long) : Cond) ∈ WX := List.mem_of_getElem? (i := 46) rfl
theorem hmX_21 : (.methodLink RX 21 yX_signed : Cond) ∈ WX := List.mem_of_getElem? (i := 47) rfl
theorem hsX_signed : (.static yX_signed : Cond) ∈ WX := List.mem_of_getElem? (i := 48) rfl
theorem hoX_signed : (.code yX_signed cX_signed 2 (some .long) : Cond) ∈ WX := List.mem_of_getElem? (i := 49) rfl
theorem hnX_segment : (.instanceMethod yX_segment : Cond) ∈ WX := List.mem_of_getElem? (i := 50) rfl
theorem hoX_segment : (.code yX_segment cX_segment 4 (some .boolean) : Cond) ∈ WX := List.mem_of_getElem? (i := 51) rfl
theorem hmX_25 : (.methodLink RX 25 yX_isExtent : Cond) ∈ WX := List.mem_of_getElem? (i := 52) rfl
theorem hsX_isExtent : (.static yX_isExtent : Cond) ∈ WX := List.mem_of_getElem? (i := 53) rfl
theorem hoX_isExtent : (.code yX_isExtent cX_isExtent 1 (some .boolean) : Cond) ∈ WX := List.mem_of_getElem? (i := 54) rfl
theorem hnX_start : (.instanceMethod yX_start : Cond) ∈ WX := List.mem_of_getElem? (i := 55) rfl
theorem hoX_start : (.code yX_start cX_start 3 none : Cond) ∈ WX := List.mem_of_getElem? (i := 56) rfl
theorem hkX_41 : (.constant RX 41 262143 : Cond) ∈ WX := List.mem_of_getElem? (i := 57) rfl
theorem hnX_run : (.instanceMethod yX_run : Cond) ∈ WX := List.mem_of_getElem? (i := 58) rfl
theorem hoX_run : (.code yX_run cX_run 3 (some .int) : Cond) ∈ WX := List.mem_of_getElem? (i := 59) rfl
theorem hmX_55 : (.methodLink RX 55 yX_step : Cond) ∈ WX := List.mem_of_getElem? (i := 60) rfl
theorem hnX_step : (.instanceMethod yX_step : Cond) ∈ WX := List.mem_of_getElem? (i := 61) rfl
theorem hoX_step : (.code yX_step cX_step 6 none : Cond) ∈ WX := List.mem_of_getElem? (i := 62) rfl
theorem hmX_73 : (.methodLink RX 73 yX_read : Cond) ∈ WX := List.mem_of_getElem? (i := 63) rfl
theorem hnX_read : (.instanceMethod yX_read : Cond) ∈ WX := List.mem_of_getElem? (i := 64) rfl
theorem hoX_read : (.code yX_read cX_read 3 (some .long) : Cond) ∈ WX := List.mem_of_getElem? (i := 65) rfl
theorem hmX_150 : (.methodLink RX 150 yX_placeOf : Cond) ∈ WX := List.mem_of_getElem? (i := 66) rfl
theorem hnX_placeOf : (.instanceMethod yX_placeOf : Cond) ∈ WX := List.mem_of_getElem? (i := 67) rfl
theorem hoX_placeOf : (.code yX_placeOf cX_placeOf 3 (some .int) : Cond) ∈ WX := List.mem_of_getElem? (i := 68) rfl
theorem hkX_110 : (.constant RX 110 131072 : Cond) ∈ WX := List.mem_of_getElem? (i := 69) rfl
theorem hmX_147 : (.methodLink RX 147 yX_raise : Cond) ∈ WX := List.mem_of_getElem? (i := 70) rfl
theorem hnX_raise : (.instanceMethod yX_raise : Cond) ∈ WX := List.mem_of_getElem? (i := 71) rfl
theorem hoX_raise : (.code yX_raise cX_raise 2 none : Cond) ∈ WX := List.mem_of_getElem? (i := 72) rfl
theorem hmX_77 : (.methodLink RX 77 yX_wrapped : Cond) ∈ WX := List.mem_of_getElem? (i := 73) rfl
theorem hsX_wrapped : (.static yX_wrapped : Cond) ∈ WX := List.mem_of_getElem? (i := 74) rfl
theorem hoX_wrapped : (.code yX_wrapped cX_wrapped 1 (some .int) : Cond) ∈ WX := List.mem_of_getElem? (i := 75) rfl
theorem hmX_81 : (.methodLink RX 81 yX_effective : Cond) ∈ WX := List.mem_of_getElem? (i := 76) rfl
theorem hnX_effective : (.instanceMethod yX_effective : Cond) ∈ WX := List.mem_of_getElem? (i := 77) rfl
theorem hoX_effective : (.code yX_effective cX_effective 7 (some .int) : Cond) ∈ WX := List.mem_of_getElem? (i := 78) rfl
theorem hmX_157 : (.methodLink RX 157 yX_indexed : Cond) ∈ WX := List.mem_of_getElem? (i := 79) rfl
theorem hnX_indexed : (.instanceMethod yX_indexed : Cond) ∈ WX := List.mem_of_getElem? (i := 80) rfl
theorem hoX_indexed : (.code yX_indexed cX_indexed 5 (some .int) : Cond) ∈ WX := List.mem_of_getElem? (i := 81) rfl
theorem hmX_164 : (.methodLink RX 164 yX_right : Cond) ∈ WX := List.mem_of_getElem? (i := 82) rfl
theorem hsX_right : (.static yX_right : Cond) ∈ WX := List.mem_of_getElem? (i := 83) rfl
theorem hoX_right : (.code yX_right cX_right 2 (some .int) : Cond) ∈ WX := List.mem_of_getElem? (i := 84) rfl
theorem hmX_160 : (.methodLink RX 160 yX_isIndirect : Cond) ∈ WX := List.mem_of_getElem? (i := 85) rfl
theorem hsX_isIndirect : (.static yX_isIndirect : Cond) ∈ WX := List.mem_of_getElem? (i := 86) rfl
theorem hoX_isIndirect : (.code yX_isIndirect cX_isIndirect 2 (some .boolean) : Cond) ∈ WX := List.mem_of_getElem? (i := 87) rfl
theorem hmX_88 : (.methodLink RX 88 yX_take : Cond) ∈ WX := List.mem_of_getElem? (i := 88) rfl
theorem hnX_take : (.instanceMethod yX_take : Cond) ∈ WX := List.mem_of_getElem? (i := 89) rfl
theorem hoX_take : (.code yX_take cX_take 2 (some .long) : Cond) ∈ WX := List.mem_of_getElem? (i := 90) rfl
theorem hmX_85 : (.methodLink RX 85 yX_operation : Cond) ∈ WX := List.mem_of_getElem? (i := 91) rfl
theorem hsX_operation : (.static yX_operation : Cond) ∈ WX := List.mem_of_getElem? (i := 92) rfl
theorem hoX_operation : (.code yX_operation cX_operation 2 (some .int) : Cond) ∈ WX := List.mem_of_getElem? (i := 93) rfl
theorem hmX_91 : (.methodLink RX 91 yX_accumulator : Cond) ∈ WX := List.mem_of_getElem? (i := 94) rfl
theorem hsX_accumulator : (.static yX_accumulator : Cond) ∈ WX := List.mem_of_getElem? (i := 95) rfl
theorem hoX_accumulator : (.code yX_accumulator cX_accumulator 2 (some .int) : Cond) ∈ WX := List.mem_of_getElem? (i := 96) rfl
theorem hmX_94 : (.methodLink RX 94 yX_carryOut : Cond) ∈ WX := List.mem_of_getElem? (i := 97) rfl
theorem hnX_carryOut : (.instanceMethod yX_carryOut : Cond) ∈ WX := List.mem_of_getElem? (i := 98) rfl
theorem hoX_carryOut : (.code yX_carryOut cX_carryOut 4 none : Cond) ∈ WX := List.mem_of_getElem? (i := 99) rfl
theorem hmX_111 : (.methodLink RX 111 yX_bytes : Cond) ∈ WX := List.mem_of_getElem? (i := 100) rfl
theorem hnX_bytes : (.instanceMethod yX_bytes : Cond) ∈ WX := List.mem_of_getElem? (i := 101) rfl
theorem hoX_bytes : (.code yX_bytes cX_bytes 7 none : Cond) ∈ WX := List.mem_of_getElem? (i := 102) rfl
theorem hmX_301 : (.methodLink RX 301 yX_advancePointer : Cond) ∈ WX := List.mem_of_getElem? (i := 103) rfl
theorem hnX_advancePointer : (.instanceMethod yX_advancePointer : Cond) ∈ WX := List.mem_of_getElem? (i := 104) rfl
theorem hoX_advancePointer : (.code yX_advancePointer cX_advancePointer 7 none : Cond) ∈ WX := List.mem_of_getElem? (i := 105) rfl
theorem hmX_314 : (.methodLink RX 314 yX_position : Cond) ∈ WX := List.mem_of_getElem? (i := 106) rfl
theorem hsX_position : (.static yX_position : Cond) ∈ WX := List.mem_of_getElem? (i := 107) rfl
theorem hoX_position : (.code yX_position cX_position 2 (some .int) : Cond) ∈ WX := List.mem_of_getElem? (i := 108) rfl
theorem hmX_311 : (.methodLink RX 311 yX_size : Cond) ∈ WX := List.mem_of_getElem? (i := 109) rfl
theorem hsX_size : (.static yX_size : Cond) ∈ WX := List.mem_of_getElem? (i := 110) rfl
theorem hoX_size : (.code yX_size cX_size 2 (some .int) : Cond) ∈ WX := List.mem_of_getElem? (i := 111) rfl
theorem hmX_288 : (.methodLink RX 288 yJ_max : Cond) ∈ WX := List.mem_of_getElem? (i := 112) rfl
theorem hsJ_max : (.static yJ_max : Cond) ∈ WX := List.mem_of_getElem? (i := 113) rfl
theorem hoJ_max : (.code yJ_max cJ_max 2 (some .int) : Cond) ∈ WX := List.mem_of_getElem? (i := 114) rfl
theorem hmX_167 : (.methodLink RX 167 yX_left : Cond) ∈ WX := List.mem_of_getElem? (i := 115) rfl
theorem hsX_left : (.static yX_left : Cond) ∈ WX := List.mem_of_getElem? (i := 116) rfl
theorem hoX_left : (.code yX_left cX_left 2 (some .int) : Cond) ∈ WX := List.mem_of_getElem? (i := 117) rfl
theorem hmX_106 : (.methodLink RX 106 yX_joined : Cond) ∈ WX := List.mem_of_getElem? (i := 118) rfl
theorem hsX_joined : (.static yX_joined : Cond) ∈ WX := List.mem_of_getElem? (i := 119) rfl
theorem hoX_joined : (.code yX_joined cX_joined 2 (some .long) : Cond) ∈ WX := List.mem_of_getElem? (i := 120) rfl
theorem hmX_176 : (.methodLink RX 176 yX_write : Cond) ∈ WX := List.mem_of_getElem? (i := 121) rfl
theorem hnX_write : (.instanceMethod yX_write : Cond) ∈ WX := List.mem_of_getElem? (i := 122) rfl
theorem hoX_write : (.code yX_write cX_write 5 none : Cond) ∈ WX := List.mem_of_getElem? (i := 123) rfl
theorem hmX_304 : (.methodLink RX 304 yX_loadByte : Cond) ∈ WX := List.mem_of_getElem? (i := 124) rfl
theorem hnX_loadByte : (.instanceMethod yX_loadByte : Cond) ∈ WX := List.mem_of_getElem? (i := 125) rfl
theorem hoX_loadByte : (.code yX_loadByte cX_loadByte 7 none : Cond) ∈ WX := List.mem_of_getElem? (i := 126) rfl
theorem hmX_317 : (.methodLink RX 317 yX_byteMask : Cond) ∈ WX := List.mem_of_getElem? (i := 127) rfl
theorem hsX_byteMask : (.static yX_byteMask : Cond) ∈ WX := List.mem_of_getElem? (i := 128) rfl
theorem hoX_byteMask : (.code yX_byteMask cX_byteMask 2 (some .long) : Cond) ∈ WX := List.mem_of_getElem? (i := 129) rfl
theorem hmX_264 : (.methodLink RX 264 yJ_min : Cond) ∈ WX := List.mem_of_getElem? (i := 130) rfl
theorem hsJ_min : (.static yJ_min : Cond) ∈ WX := List.mem_of_getElem? (i := 131) rfl
theorem hoJ_min : (.code yJ_min cJ_min 2 (some .int) : Cond) ∈ WX := List.mem_of_getElem? (i := 132) rfl
theorem hmX_153 : (.methodLink RX 153 yX_setAccumulator : Cond) ∈ WX := List.mem_of_getElem? (i := 133) rfl
theorem hnX_setAccumulator : (.instanceMethod yX_setAccumulator : Cond) ∈ WX := List.mem_of_getElem? (i := 134) rfl
theorem hoX_setAccumulator : (.code yX_setAccumulator cX_setAccumulator 4 none : Cond) ∈ WX := List.mem_of_getElem? (i := 135) rfl
theorem hmX_308 : (.methodLink RX 308 yX_depositByte : Cond) ∈ WX := List.mem_of_getElem? (i := 136) rfl
theorem hnX_depositByte : (.instanceMethod yX_depositByte : Cond) ∈ WX := List.mem_of_getElem? (i := 137) rfl
theorem hoX_depositByte : (.code yX_depositByte cX_depositByte 9 none : Cond) ∈ WX := List.mem_of_getElem? (i := 138) rfl
theorem hmX_114 : (.methodLink RX 114 yX_move : Cond) ∈ WX := List.mem_of_getElem? (i := 139) rfl
theorem hnX_move : (.instanceMethod yX_move : Cond) ∈ WX := List.mem_of_getElem? (i := 140) rfl
theorem hoX_move : (.code yX_move cX_move 7 none : Cond) ∈ WX := List.mem_of_getElem? (i := 141) rfl
theorem hmX_182 : (.methodLink RX 182 yX_movedSource : Cond) ∈ WX := List.mem_of_getElem? (i := 142) rfl
theorem hnX_movedSource : (.instanceMethod yX_movedSource : Cond) ∈ WX := List.mem_of_getElem? (i := 143) rfl
theorem hoX_movedSource : (.code yX_movedSource cX_movedSource 4 (some .long) : Cond) ∈ WX := List.mem_of_getElem? (i := 144) rfl
theorem hmX_173 : (.methodLink RX 173 yX_source : Cond) ∈ WX := List.mem_of_getElem? (i := 145) rfl
theorem hnX_source : (.instanceMethod yX_source : Cond) ∈ WX := List.mem_of_getElem? (i := 146) rfl
theorem hoX_source : (.code yX_source cX_source 3 (some .long) : Cond) ∈ WX := List.mem_of_getElem? (i := 147) rfl
theorem hmX_186 : (.methodLink RX 186 yX_changedToMove : Cond) ∈ WX := List.mem_of_getElem? (i := 148) rfl
theorem hnX_changedToMove : (.instanceMethod yX_changedToMove : Cond) ∈ WX := List.mem_of_getElem? (i := 149) rfl
theorem hoX_changedToMove : (.code yX_changedToMove cX_changedToMove 4 (some .long) : Cond) ∈ WX := List.mem_of_getElem? (i := 150) rfl
theorem hmX_194 : (.methodLink RX 194 yX_swapped : Cond) ∈ WX := List.mem_of_getElem? (i := 151) rfl
theorem hsX_swapped : (.static yX_swapped : Cond) ∈ WX := List.mem_of_getElem? (i := 152) rfl
theorem hoX_swapped : (.code yX_swapped cX_swapped 2 (some .long) : Cond) ∈ WX := List.mem_of_getElem? (i := 153) rfl
theorem hmX_197 : (.methodLink RX 197 yX_fitted : Cond) ∈ WX := List.mem_of_getElem? (i := 154) rfl
theorem hnX_fitted : (.instanceMethod yX_fitted : Cond) ∈ WX := List.mem_of_getElem? (i := 155) rfl
theorem hoX_fitted : (.code yX_fitted cX_fitted 5 (some .long) : Cond) ∈ WX := List.mem_of_getElem? (i := 156) rfl
theorem hmX_170 : (.methodLink RX 170 yX_setOverflow : Cond) ∈ WX := List.mem_of_getElem? (i := 157) rfl
theorem hnX_setOverflow : (.instanceMethod yX_setOverflow : Cond) ∈ WX := List.mem_of_getElem? (i := 158) rfl
theorem hoX_setOverflow : (.code yX_setOverflow cX_setOverflow 1 none : Cond) ∈ WX := List.mem_of_getElem? (i := 159) rfl
theorem hmX_200 : (.methodLink RX 200 yJ_abs : Cond) ∈ WX := List.mem_of_getElem? (i := 160) rfl
theorem hsJ_abs : (.static yJ_abs : Cond) ∈ WX := List.mem_of_getElem? (i := 161) rfl
theorem hoJ_abs : (.code yJ_abs cJ_abs 2 (some .long) : Cond) ∈ WX := List.mem_of_getElem? (i := 162) rfl
theorem hmX_190 : (.methodLink RX 190 yX_putMoved : Cond) ∈ WX := List.mem_of_getElem? (i := 163) rfl
theorem hnX_putMoved : (.instanceMethod yX_putMoved : Cond) ∈ WX := List.mem_of_getElem? (i := 164) rfl
theorem hoX_putMoved : (.code yX_putMoved cX_putMoved 6 none : Cond) ∈ WX := List.mem_of_getElem? (i := 165) rfl
theorem hmX_179 : (.methodLink RX 179 yX_setAccumulatorButZero : Cond) ∈ WX := List.mem_of_getElem? (i := 166) rfl
theorem hnX_setAccumulatorButZero : (.instanceMethod yX_setAccumulatorButZero : Cond) ∈ WX := List.mem_of_getElem? (i := 167) rfl
theorem hoX_setAccumulatorButZero : (.code yX_setAccumulatorButZero cX_setAccumulatorButZero 4 none : Cond) ∈ WX := List.mem_of_getElem? (i := 168) rfl
theorem hmX_117 : (.methodLink RX 117 yX_multiply : Cond) ∈ WX := List.mem_of_getElem? (i := 169) rfl
theorem hnX_multiply : (.instanceMethod yX_multiply : Cond) ∈ WX := List.mem_of_getElem? (i := 170) rfl
theorem hoX_multiply : (.code yX_multiply cX_multiply 9 none : Cond) ∈ WX := List.mem_of_getElem? (i := 171) rfl
theorem hmX_208 : (.methodLink RX 208 yX_productFits : Cond) ∈ WX := List.mem_of_getElem? (i := 172) rfl
theorem hsX_productFits : (.static yX_productFits : Cond) ∈ WX := List.mem_of_getElem? (i := 173) rfl
theorem hoX_productFits : (.code yX_productFits cX_productFits 6 (some .boolean) : Cond) ∈ WX := List.mem_of_getElem? (i := 174) rfl
theorem hkX_212 : (.constantLong RX 212 262143 : Cond) ∈ WX := List.mem_of_getElem? (i := 175) rfl
theorem hkX_214 : (.constantLong RX 214 (-131072) : Cond) ∈ WX := List.mem_of_getElem? (i := 176) rfl
theorem hkX_216 : (.constantLong RX 216 131072 : Cond) ∈ WX := List.mem_of_getElem? (i := 177) rfl
theorem hmX_205 : (.methodLink RX 205 yX_putResult : Cond) ∈ WX := List.mem_of_getElem? (i := 178) rfl
theorem hnX_putResult : (.instanceMethod yX_putResult : Cond) ∈ WX := List.mem_of_getElem? (i := 179) rfl
theorem hoX_putResult : (.code yX_putResult cX_putResult 6 none : Cond) ∈ WX := List.mem_of_getElem? (i := 180) rfl
theorem hmX_120 : (.methodLink RX 120 yX_divide : Cond) ∈ WX := List.mem_of_getElem? (i := 181) rfl
theorem hnX_divide : (.instanceMethod yX_divide : Cond) ∈ WX := List.mem_of_getElem? (i := 182) rfl
theorem hoX_divide : (.code yX_divide cX_divide 9 none : Cond) ∈ WX := List.mem_of_getElem? (i := 183) rfl
theorem hkX_218 : (.constantLong RX 218 (-34359738368) : Cond) ∈ WX := List.mem_of_getElem? (i := 184) rfl
theorem hmX_123 : (.methodLink RX 123 yX_shift : Cond) ∈ WX := List.mem_of_getElem? (i := 185) rfl
theorem hnX_shift : (.instanceMethod yX_shift : Cond) ∈ WX := List.mem_of_getElem? (i := 186) rfl
theorem hoX_shift : (.code yX_shift cX_shift 5 none : Cond) ∈ WX := List.mem_of_getElem? (i := 187) rfl
theorem hmX_254 : (.methodLink RX 254 yX_shiftedAsNumber : Cond) ∈ WX := List.mem_of_getElem? (i := 188) rfl
theorem hnX_shiftedAsNumber : (.instanceMethod yX_shiftedAsNumber : Cond) ∈ WX := List.mem_of_getElem? (i := 189) rfl
theorem hoX_shiftedAsNumber : (.code yX_shiftedAsNumber cX_shiftedAsNumber 7 (some .long) : Cond) ∈ WX := List.mem_of_getElem? (i := 190) rfl
theorem hkX_268 : (.constantLong RX 268 34359738368 : Cond) ∈ WX := List.mem_of_getElem? (i := 191) rfl
theorem hmX_261 : (.methodLink RX 261 yX_shiftedAsBits : Cond) ∈ WX := List.mem_of_getElem? (i := 192) rfl
theorem hsX_shiftedAsBits : (.static yX_shiftedAsBits : Cond) ∈ WX := List.mem_of_getElem? (i := 193) rfl
theorem hoX_shiftedAsBits : (.code yX_shiftedAsBits cX_shiftedAsBits 3 (some .long) : Cond) ∈ WX := List.mem_of_getElem? (i := 194) rfl
theorem hkX_270 : (.constantLong RX 270 (-34359738369) : Cond) ∈ WX := List.mem_of_getElem? (i := 195) rfl
theorem hmX_258 : (.methodLink RX 258 yX_rotated : Cond) ∈ WX := List.mem_of_getElem? (i := 196) rfl
theorem hsX_rotated : (.static yX_rotated : Cond) ∈ WX := List.mem_of_getElem? (i := 197) rfl
theorem hoX_rotated : (.code yX_rotated cX_rotated 4 (some .long) : Cond) ∈ WX := List.mem_of_getElem? (i := 198) rfl
theorem hmX_272 : (.methodLink RX 272 yJ_floorMod : Cond) ∈ WX := List.mem_of_getElem? (i := 199) rfl
theorem hsJ_floorMod : (.static yJ_floorMod : Cond) ∈ WX := List.mem_of_getElem? (i := 200) rfl
theorem hoJ_floorMod : (.code yJ_floorMod cJ_floorMod 3 (some .int) : Cond) ∈ WX := List.mem_of_getElem? (i := 201) rfl
theorem hmX_126 : (.methodLink RX 126 yX_exchangeOrJump : Cond) ∈ WX := List.mem_of_getElem? (i := 202) rfl
theorem hnX_exchangeOrJump : (.instanceMethod yX_exchangeOrJump : Cond) ∈ WX := List.mem_of_getElem? (i := 203) rfl
theorem hoX_exchangeOrJump : (.code yX_exchangeOrJump cX_exchangeOrJump 4 none : Cond) ∈ WX := List.mem_of_getElem? (i := 204) rfl
theorem hmX_275 : (.methodLink RX 275 yX_exchange : Cond) ∈ WX := List.mem_of_getElem? (i := 205) rfl
theorem hnX_exchange : (.instanceMethod yX_exchange : Cond) ∈ WX := List.mem_of_getElem? (i := 206) rfl
theorem hoX_exchange : (.code yX_exchange cX_exchange 5 none : Cond) ∈ WX := List.mem_of_getElem? (i := 207) rfl
theorem hmX_279 : (.methodLink RX 279 yX_block : Cond) ∈ WX := List.mem_of_getElem? (i := 208) rfl
theorem hnX_block : (.instanceMethod yX_block : Cond) ∈ WX := List.mem_of_getElem? (i := 209) rfl
theorem hoX_block : (.code yX_block cX_block 7 none : Cond) ∈ WX := List.mem_of_getElem? (i := 210) rfl
theorem hmX_282 : (.methodLink RX 282 yX_moveHalves : Cond) ∈ WX := List.mem_of_getElem? (i := 211) rfl
theorem hnX_moveHalves : (.instanceMethod yX_moveHalves : Cond) ∈ WX := List.mem_of_getElem? (i := 212) rfl
theorem hoX_moveHalves : (.code yX_moveHalves cX_moveHalves 5 none : Cond) ∈ WX := List.mem_of_getElem? (i := 213) rfl
theorem hmX_239 : (.methodLink RX 239 yX_jumpIf : Cond) ∈ WX := List.mem_of_getElem? (i := 214) rfl
theorem hnX_jumpIf : (.instanceMethod yX_jumpIf : Cond) ∈ WX := List.mem_of_getElem? (i := 215) rfl
theorem hoX_jumpIf : (.code yX_jumpIf cX_jumpIf 3 none : Cond) ∈ WX := List.mem_of_getElem? (i := 216) rfl
theorem hmX_285 : (.methodLink RX 285 yX_jumpByAccumulator : Cond) ∈ WX := List.mem_of_getElem? (i := 217) rfl
theorem hnX_jumpByAccumulator : (.instanceMethod yX_jumpByAccumulator : Cond) ∈ WX := List.mem_of_getElem? (i := 218) rfl
theorem hoX_jumpByAccumulator : (.code yX_jumpByAccumulator cX_jumpByAccumulator 3 none : Cond) ∈ WX := List.mem_of_getElem? (i := 219) rfl
theorem hmX_129 : (.methodLink RX 129 yX_stack : Cond) ∈ WX := List.mem_of_getElem? (i := 220) rfl
theorem hnX_stack : (.instanceMethod yX_stack : Cond) ∈ WX := List.mem_of_getElem? (i := 221) rfl
theorem hoX_stack : (.code yX_stack cX_stack 4 none : Cond) ∈ WX := List.mem_of_getElem? (i := 222) rfl
theorem hmX_291 : (.methodLink RX 291 yX_growStack : Cond) ∈ WX := List.mem_of_getElem? (i := 223) rfl
theorem hnX_growStack : (.instanceMethod yX_growStack : Cond) ∈ WX := List.mem_of_getElem? (i := 224) rfl
theorem hoX_growStack : (.code yX_growStack cX_growStack 2 none : Cond) ∈ WX := List.mem_of_getElem? (i := 225) rfl
theorem hmX_294 : (.methodLink RX 294 yX_pcWord : Cond) ∈ WX := List.mem_of_getElem? (i := 226) rfl
theorem hnX_pcWord : (.instanceMethod yX_pcWord : Cond) ∈ WX := List.mem_of_getElem? (i := 227) rfl
theorem hoX_pcWord : (.code yX_pcWord cX_pcWord 1 (some .long) : Cond) ∈ WX := List.mem_of_getElem? (i := 228) rfl
theorem hmX_102 : (.methodLink RX 102 yX_flags : Cond) ∈ WX := List.mem_of_getElem? (i := 229) rfl
theorem hnX_flags : (.instanceMethod yX_flags : Cond) ∈ WX := List.mem_of_getElem? (i := 230) rfl
theorem hoX_flags : (.code yX_flags cX_flags 1 (some .int) : Cond) ∈ WX := List.mem_of_getElem? (i := 231) rfl
theorem hmX_298 : (.methodLink RX 298 yX_shrinkStack : Cond) ∈ WX := List.mem_of_getElem? (i := 232) rfl
theorem hnX_shrinkStack : (.instanceMethod yX_shrinkStack : Cond) ∈ WX := List.mem_of_getElem? (i := 233) rfl
theorem hoX_shrinkStack : (.code yX_shrinkStack cX_shrinkStack 2 none : Cond) ∈ WX := List.mem_of_getElem? (i := 234) rfl
theorem hmX_132 : (.methodLink RX 132 yX_sum : Cond) ∈ WX := List.mem_of_getElem? (i := 235) rfl
theorem hnX_sum : (.instanceMethod yX_sum : Cond) ∈ WX := List.mem_of_getElem? (i := 236) rfl
theorem hoX_sum : (.code yX_sum cX_sum 10 none : Cond) ∈ WX := List.mem_of_getElem? (i := 237) rfl
theorem hmX_135 : (.methodLink RX 135 yX_compare : Cond) ∈ WX := List.mem_of_getElem? (i := 238) rfl
theorem hnX_compare : (.instanceMethod yX_compare : Cond) ∈ WX := List.mem_of_getElem? (i := 239) rfl
theorem hoX_compare : (.code yX_compare cX_compare 7 none : Cond) ∈ WX := List.mem_of_getElem? (i := 240) rfl
theorem hmX_236 : (.methodLink RX 236 yX_holds : Cond) ∈ WX := List.mem_of_getElem? (i := 241) rfl
theorem hsX_holds : (.static yX_holds : Cond) ∈ WX := List.mem_of_getElem? (i := 242) rfl
theorem hoX_holds : (.code yX_holds cX_holds 3 (some .boolean) : Cond) ∈ WX := List.mem_of_getElem? (i := 243) rfl
theorem hmX_228 : (.methodLink RX 228 yX_skipIf : Cond) ∈ WX := List.mem_of_getElem? (i := 244) rfl
theorem hnX_skipIf : (.instanceMethod yX_skipIf : Cond) ∈ WX := List.mem_of_getElem? (i := 245) rfl
theorem hoX_skipIf : (.code yX_skipIf cX_skipIf 2 none : Cond) ∈ WX := List.mem_of_getElem? (i := 246) rfl
theorem hmX_243 : (.methodLink RX 243 yX_skipOnWord : Cond) ∈ WX := List.mem_of_getElem? (i := 247) rfl
theorem hnX_skipOnWord : (.instanceMethod yX_skipOnWord : Cond) ∈ WX := List.mem_of_getElem? (i := 248) rfl
theorem hoX_skipOnWord : (.code yX_skipOnWord cX_skipOnWord 5 none : Cond) ∈ WX := List.mem_of_getElem? (i := 249) rfl
theorem hmX_247 : (.methodLink RX 247 yX_countAndJump : Cond) ∈ WX := List.mem_of_getElem? (i := 250) rfl
theorem hnX_countAndJump : (.instanceMethod yX_countAndJump : Cond) ∈ WX := List.mem_of_getElem? (i := 251) rfl
theorem hoX_countAndJump : (.code yX_countAndJump cX_countAndJump 7 none : Cond) ∈ WX := List.mem_of_getElem? (i := 252) rfl
theorem hmX_251 : (.methodLink RX 251 yX_countAndSkip : Cond) ∈ WX := List.mem_of_getElem? (i := 253) rfl
theorem hnX_countAndSkip : (.instanceMethod yX_countAndSkip : Cond) ∈ WX := List.mem_of_getElem? (i := 254) rfl
theorem hoX_countAndSkip : (.code yX_countAndSkip cX_countAndSkip 7 none : Cond) ∈ WX := List.mem_of_getElem? (i := 255) rfl
theorem hmX_138 : (.methodLink RX 138 yX_logic : Cond) ∈ WX := List.mem_of_getElem? (i := 256) rfl
theorem hnX_logic : (.instanceMethod yX_logic : Cond) ∈ WX := List.mem_of_getElem? (i := 257) rfl
theorem hoX_logic : (.code yX_logic cX_logic 12 none : Cond) ∈ WX := List.mem_of_getElem? (i := 258) rfl
theorem hmX_141 : (.methodLink RX 141 yX_halves : Cond) ∈ WX := List.mem_of_getElem? (i := 259) rfl
theorem hnX_halves : (.instanceMethod yX_halves : Cond) ∈ WX := List.mem_of_getElem? (i := 260) rfl
theorem hoX_halves : (.code yX_halves cX_halves 13 none : Cond) ∈ WX := List.mem_of_getElem? (i := 261) rfl
theorem hmX_220 : (.methodLink RX 220 yX_otherHalf : Cond) ∈ WX := List.mem_of_getElem? (i := 262) rfl
theorem hsX_otherHalf : (.static yX_otherHalf : Cond) ∈ WX := List.mem_of_getElem? (i := 263) rfl
theorem hoX_otherHalf : (.code yX_otherHalf cX_otherHalf 3 (some .int) : Cond) ∈ WX := List.mem_of_getElem? (i := 264) rfl
theorem hmX_144 : (.methodLink RX 144 yX_test : Cond) ∈ WX := List.mem_of_getElem? (i := 265) rfl
theorem hnX_test : (.instanceMethod yX_test : Cond) ∈ WX := List.mem_of_getElem? (i := 266) rfl
theorem hoX_test : (.code yX_test cX_test 8 none : Cond) ∈ WX := List.mem_of_getElem? (i := 267) rfl
theorem hmX_224 : (.methodLink RX 224 yX_testSkips : Cond) ∈ WX := List.mem_of_getElem? (i := 268) rfl
theorem hsX_testSkips : (.static yX_testSkips : Cond) ∈ WX := List.mem_of_getElem? (i := 269) rfl
theorem hoX_testSkips : (.code yX_testSkips cX_testSkips 3 (some .boolean) : Cond) ∈ WX := List.mem_of_getElem? (i := 270) rfl
theorem hmX_232 : (.methodLink RX 232 yX_maskedChange : Cond) ∈ WX := List.mem_of_getElem? (i := 271) rfl
theorem hsX_maskedChange : (.static yX_maskedChange : Cond) ∈ WX := List.mem_of_getElem? (i := 272) rfl
theorem hoX_maskedChange : (.code yX_maskedChange cX_maskedChange 5 (some .long) : Cond) ∈ WX := List.mem_of_getElem? (i := 273) rfl
theorem hmX_98 : (.methodLink RX 98 yX_enterTrap : Cond) ∈ WX := List.mem_of_getElem? (i := 274) rfl
theorem hnX_enterTrap : (.instanceMethod yX_enterTrap : Cond) ∈ WX := List.mem_of_getElem? (i := 275) rfl
theorem hoX_enterTrap : (.code yX_enterTrap cX_enterTrap 2 none : Cond) ∈ WX := List.mem_of_getElem? (i := 276) rfl
theorem hnX_look : (.instanceMethod yX_look : Cond) ∈ WX := List.mem_of_getElem? (i := 277) rfl
theorem hoX_look : (.code yX_look cX_look 2 (some .int) : Cond) ∈ WX := List.mem_of_getElem? (i := 278) rfl
theorem hvX_deposit : (.selects RX yX_deposit yX_deposit : Cond) ∈ WX := List.mem_of_getElem? (i := 279) rfl
theorem hvX_examine : (.selects RX yX_examine yX_examine : Cond) ∈ WX := List.mem_of_getElem? (i := 280) rfl
theorem hvX_number : (.selects RX yX_number yX_number : Cond) ∈ WX := List.mem_of_getElem? (i := 281) rfl
theorem hvX_segment : (.selects RX yX_segment yX_segment : Cond) ∈ WX := List.mem_of_getElem? (i := 282) rfl
theorem hvX_start : (.selects RX yX_start yX_start : Cond) ∈ WX := List.mem_of_getElem? (i := 283) rfl
theorem hvX_run : (.selects RX yX_run yX_run : Cond) ∈ WX := List.mem_of_getElem? (i := 284) rfl
theorem hvX_look : (.selects RX yX_look yX_look : Cond) ∈ WX := List.mem_of_getElem? (i := 285) rfl
theorem hvX_step : (.selects RX yX_step yX_step : Cond) ∈ WX := List.mem_of_getElem? (i := 286) rfl
theorem hvX_enterTrap : (.selects RX yX_enterTrap yX_enterTrap : Cond) ∈ WX := List.mem_of_getElem? (i := 287) rfl
theorem hvX_raise : (.selects RX yX_raise yX_raise : Cond) ∈ WX := List.mem_of_getElem? (i := 288) rfl
theorem hvX_flags : (.selects RX yX_flags yX_flags : Cond) ∈ WX := List.mem_of_getElem? (i := 289) rfl
theorem hvX_pcWord : (.selects RX yX_pcWord yX_pcWord : Cond) ∈ WX := List.mem_of_getElem? (i := 290) rfl
theorem hvX_carryOut : (.selects RX yX_carryOut yX_carryOut : Cond) ∈ WX := List.mem_of_getElem? (i := 291) rfl
theorem hvX_placeOf : (.selects RX yX_placeOf yX_placeOf : Cond) ∈ WX := List.mem_of_getElem? (i := 292) rfl
theorem hvX_read : (.selects RX yX_read yX_read : Cond) ∈ WX := List.mem_of_getElem? (i := 293) rfl
theorem hvX_write : (.selects RX yX_write yX_write : Cond) ∈ WX := List.mem_of_getElem? (i := 294) rfl
theorem hvX_setAccumulator : (.selects RX yX_setAccumulator yX_setAccumulator : Cond) ∈ WX := List.mem_of_getElem? (i := 295) rfl
theorem hvX_setAccumulatorButZero : (.selects RX yX_setAccumulatorButZero yX_setAccumulatorButZero : Cond) ∈ WX := List.mem_of_getElem? (i := 296) rfl
theorem hvX_setOverflow : (.selects RX yX_setOverflow yX_setOverflow : Cond) ∈ WX := List.mem_of_getElem? (i := 297) rfl
theorem hvX_effective : (.selects RX yX_effective yX_effective : Cond) ∈ WX := List.mem_of_getElem? (i := 298) rfl
theorem hvX_take : (.selects RX yX_take yX_take : Cond) ∈ WX := List.mem_of_getElem? (i := 299) rfl
theorem hvX_indexed : (.selects RX yX_indexed yX_indexed : Cond) ∈ WX := List.mem_of_getElem? (i := 300) rfl
theorem hvX_skipIf : (.selects RX yX_skipIf yX_skipIf : Cond) ∈ WX := List.mem_of_getElem? (i := 301) rfl
theorem hvX_jumpIf : (.selects RX yX_jumpIf yX_jumpIf : Cond) ∈ WX := List.mem_of_getElem? (i := 302) rfl
theorem hvX_fitted : (.selects RX yX_fitted yX_fitted : Cond) ∈ WX := List.mem_of_getElem? (i := 303) rfl
theorem hvX_source : (.selects RX yX_source yX_source : Cond) ∈ WX := List.mem_of_getElem? (i := 304) rfl
theorem hvX_movedSource : (.selects RX yX_movedSource yX_movedSource : Cond) ∈ WX := List.mem_of_getElem? (i := 305) rfl
theorem hvX_putMoved : (.selects RX yX_putMoved yX_putMoved : Cond) ∈ WX := List.mem_of_getElem? (i := 306) rfl
theorem hvX_putResult : (.selects RX yX_putResult yX_putResult : Cond) ∈ WX := List.mem_of_getElem? (i := 307) rfl
theorem hvX_move : (.selects RX yX_move yX_move : Cond) ∈ WX := List.mem_of_getElem? (i := 308) rfl
theorem hvX_changedToMove : (.selects RX yX_changedToMove yX_changedToMove : Cond) ∈ WX := List.mem_of_getElem? (i := 309) rfl
theorem hvX_sum : (.selects RX yX_sum yX_sum : Cond) ∈ WX := List.mem_of_getElem? (i := 310) rfl
theorem hvX_multiply : (.selects RX yX_multiply yX_multiply : Cond) ∈ WX := List.mem_of_getElem? (i := 311) rfl
theorem hvX_divide : (.selects RX yX_divide yX_divide : Cond) ∈ WX := List.mem_of_getElem? (i := 312) rfl
theorem hvX_logic : (.selects RX yX_logic yX_logic : Cond) ∈ WX := List.mem_of_getElem? (i := 313) rfl
theorem hvX_halves : (.selects RX yX_halves yX_halves : Cond) ∈ WX := List.mem_of_getElem? (i := 314) rfl
theorem hvX_test : (.selects RX yX_test yX_test : Cond) ∈ WX := List.mem_of_getElem? (i := 315) rfl
theorem hvX_compare : (.selects RX yX_compare yX_compare : Cond) ∈ WX := List.mem_of_getElem? (i := 316) rfl
theorem hvX_skipOnWord : (.selects RX yX_skipOnWord yX_skipOnWord : Cond) ∈ WX := List.mem_of_getElem? (i := 317) rfl
theorem hvX_countAndJump : (.selects RX yX_countAndJump yX_countAndJump : Cond) ∈ WX := List.mem_of_getElem? (i := 318) rfl
theorem hvX_countAndSkip : (.selects RX yX_countAndSkip yX_countAndSkip : Cond) ∈ WX := List.mem_of_getElem? (i := 319) rfl
theorem hvX_shift : (.selects RX yX_shift yX_shift : Cond) ∈ WX := List.mem_of_getElem? (i := 320) rfl
theorem hvX_shiftedAsNumber : (.selects RX yX_shiftedAsNumber yX_shiftedAsNumber : Cond) ∈ WX := List.mem_of_getElem? (i := 321) rfl
theorem hvX_exchangeOrJump : (.selects RX yX_exchangeOrJump yX_exchangeOrJump : Cond) ∈ WX := List.mem_of_getElem? (i := 322) rfl
theorem hvX_exchange : (.selects RX yX_exchange yX_exchange : Cond) ∈ WX := List.mem_of_getElem? (i := 323) rfl
theorem hvX_block : (.selects RX yX_block yX_block : Cond) ∈ WX := List.mem_of_getElem? (i := 324) rfl
theorem hvX_jumpByAccumulator : (.selects RX yX_jumpByAccumulator yX_jumpByAccumulator : Cond) ∈ WX := List.mem_of_getElem? (i := 325) rfl
theorem hvX_moveHalves : (.selects RX yX_moveHalves yX_moveHalves : Cond) ∈ WX := List.mem_of_getElem? (i := 326) rfl
theorem hvX_growStack : (.selects RX yX_growStack yX_growStack : Cond) ∈ WX := List.mem_of_getElem? (i := 327) rfl
theorem hvX_shrinkStack : (.selects RX yX_shrinkStack yX_shrinkStack : Cond) ∈ WX := List.mem_of_getElem? (i := 328) rfl
theorem hvX_stack : (.selects RX yX_stack yX_stack : Cond) ∈ WX := List.mem_of_getElem? (i := 329) rfl
theorem hvX_bytes : (.selects RX yX_bytes yX_bytes : Cond) ∈ WX := List.mem_of_getElem? (i := 330) rfl
theorem hvX_advancePointer : (.selects RX yX_advancePointer yX_advancePointer : Cond) ∈ WX := List.mem_of_getElem? (i := 331) rfl
theorem hvX_loadByte : (.selects RX yX_loadByte yX_loadByte : Cond) ∈ WX := List.mem_of_getElem? (i := 332) rfl
theorem hvX_depositByte : (.selects RX yX_depositByte yX_depositByte : Cond) ∈ WX := List.mem_of_getElem? (i := 333) rfl
set_option maxRecDepth 100000 in
theorem goodX : GoodIn WX WX := goodIn_sub (fun _ h => h) (by decide +kernel)
set_option maxRecDepth 100000 in
theorem inX : ∀ w ∈ u_ws RX TX 14, w ∈ WX := by decide +kernel
def WM : List Cond := [.initialized RM,
  .instanceMethod objectInit,
  .code objectInit ⟨#[0xb1]⟩ 1 none,
  .arrayClass .long,
  .instanceMethod yM_init,
  .code yM_init cM_init 1 none,
  .methodLink RM 1 objectInit,
  .fieldLink RM 7 RM "store" "[J",
  .fieldLink RM 13 RM "base" "[I",
  .fieldLink RM 17 RM "bound" "[I",
  .fieldLink RM 31 RM "user" "Z",
  .fieldLink RM 44 RM "overflow" "Z",
  .fieldLink RM 202 RM "stopped" "Z",
  .fieldLink RM 47 RM "pc" "I",
  .fieldLink RM 81 RM "steps" "I",
  .fieldLink RM 93 RM "traps" "I",
  .fieldLink RM 96 RM "latest" "I",
  .fieldLink RM 27 RM "wrong" "I",
  .fieldLink RM 53 RM "taken" "I",
  .laysFinal RM RM "store" "[J",
  .laysFinal RM RM "base" "[I",
  .laysFinal RM RM "bound" "[I",
  .lays RM RM "user" "Z",
  .lays RM RM "overflow" "Z",
  .lays RM RM "stopped" "Z",
  .lays RM RM "pc" "I",
  .lays RM RM "steps" "I",
  .lays RM RM "traps" "I",
  .lays RM RM "latest" "I",
  .lays RM RM "wrong" "I",
  .lays RM RM "taken" "I",
  .arrayClass .int,
  .instanceMethod yM_deposit,
  .code yM_deposit cM_deposit 4 (some .boolean),
  .constantLong RM 22 68719476735,
  .instanceMethod yM_examine,
  .code yM_examine cM_examine 2 (some .long),
  .constantLong RM 150 (-1),
  .instanceMethod yM_number,
  .code yM_number cM_number 2 (some .long),
  .methodLink RM 146 yM_num,
  .static yM_num,
  .code yM_num cM_num 2 (some .long),
  .constantLong RM 20 34359738368,
  .instanceMethod yM_segment,
  .code yM_segment cM_segment 4 (some .boolean),
  .instanceMethod yM_start,
  .code yM_start cM_start 3 none,
  .constant RM 26 262143,
  .instanceMethod yM_run,
  .code yM_run cM_run 3 (some .int),
  .methodLink RM 205 yM_makeStep,
  .instanceMethod yM_makeStep,
  .code yM_makeStep cM_makeStep 5 none,
  .methodLink RM 58 yM_get,
  .instanceMethod yM_get,
  .code yM_get cM_get 3 (some .long),
  .methodLink RM 40 yM_where,
  .instanceMethod yM_where,
  .code yM_where cM_where 5 (some .int),
  .constant RM 35 131072,
  .methodLink RM 36 yM_fail,
  .instanceMethod yM_fail,
  .code yM_fail cM_fail 2 none,
  .methodLink RM 50 yM_go,
  .instanceMethod yM_go,
  .code yM_go cM_go 2 none,
  .methodLink RM 84 yM_effective,
  .instanceMethod yM_effective,
  .code yM_effective cM_effective 9 (some .int),
  .constantLong RM 56 15,
  .methodLink RM 62 yM_right,
  .static yM_right,
  .code yM_right cM_right 2 (some .int),
  .constantLong RM 24 262144,
  .methodLink RM 66 yM_bit,
  .static yM_bit,
  .code yM_bit cM_bit 3 (some .int),
  .methodLink RM 70 yM_count,
  .instanceMethod yM_count,
  .code yM_count cM_count 1 none,
  .constantLong RM 87 174,
  .methodLink RM 89 yM_obey,
  .instanceMethod yM_obey,
  .code yM_obey cM_obey 5 none,
  .methodLink RM 99 yM_compare,
  .instanceMethod yM_compare,
  .code yM_compare cM_compare 12 none,
  .methodLink RM 166 yM_holds,
  .static yM_holds,
  .code yM_holds cM_holds 3 (some .boolean),
  .methodLink RM 77 yM_holds0,
  .static yM_holds0,
  .code yM_holds0 cM_holds0 3 (some .boolean),
  .methodLink RM 169 yM_skipIf,
  .instanceMethod yM_skipIf,
  .code yM_skipIf cM_skipIf 2 none,
  .constantLong RM 152 (-34359738368),
  .constantLong RM 172 34359738367,
  .methodLink RM 133 yM_over,
  .instanceMethod yM_over,
  .code yM_over cM_over 2 none,
  .methodLink RM 123 yM_setAc,
  .instanceMethod yM_setAc,
  .code yM_setAc cM_setAc 4 none,
  .methodLink RM 174 yM_goIf,
  .instanceMethod yM_goIf,
  .code yM_goIf cM_goIf 3 none,
  .methodLink RM 127 yM_set,
  .instanceMethod yM_set,
  .code yM_set cM_set 5 none,
  .methodLink RM 102 yM_logic,
  .instanceMethod yM_logic,
  .code yM_logic cM_logic 13 none,
  .methodLink RM 130 yM_source,
  .instanceMethod yM_source,
  .code yM_source cM_source 3 (some .long),
  .methodLink RM 154 yM_keep,
  .instanceMethod yM_keep,
  .code yM_keep cM_keep 6 none,
  .methodLink RM 105 yM_halves,
  .instanceMethod yM_halves,
  .code yM_halves cM_halves 15 none,
  .methodLink RM 137 yM_left,
  .static yM_left,
  .code yM_left cM_left 2 (some .int),
  .constant RM 165 131071,
  .methodLink RM 73 yM_joined,
  .static yM_joined,
  .code yM_joined cM_joined 2 (some .long),
  .methodLink RM 142 yM_place,
  .instanceMethod yM_place,
  .code yM_place cM_place 6 none,
  .methodLink RM 108 yM_test,
  .instanceMethod yM_test,
  .code yM_test cM_test 17 none,
  .methodLink RM 111 yM_bytes,
  .instanceMethod yM_bytes,
  .code yM_bytes cM_bytes 16 none,
  .constantLong RM 178 63,
  .constantLong RM 180 4095,
  .constantLong RM 161 262143,
  .methodLink RM 114 yM_move,
  .instanceMethod yM_move,
  .code yM_move cM_move 11 none,
  .constantLong RM 140 68719476736,
  .methodLink RM 117 yM_sum,
  .instanceMethod yM_sum,
  .code yM_sum cM_sum 12 none,
  .methodLink RM 157 yM_multiply,
  .instanceMethod yM_multiply,
  .code yM_multiply cM_multiply 28 none,
  .constantLong RM 163 (-262144),
  .methodLink RM 120 yM_flow,
  .instanceMethod yM_flow,
  .code yM_flow cM_flow 8 none,
  .methodLink RM 182 yM_shift,
  .instanceMethod yM_shift,
  .code yM_shift cM_shift 13 none,
  .methodLink RM 185 yM_block,
  .instanceMethod yM_block,
  .code yM_block cM_block 6 none,
  .methodLink RM 188 yM_jump,
  .instanceMethod yM_jump,
  .code yM_jump cM_jump 3 none,
  .methodLink RM 192 yM_push,
  .instanceMethod yM_push,
  .code yM_push cM_push 7 none,
  .methodLink RM 198 yM_flags,
  .instanceMethod yM_flags,
  .code yM_flags cM_flags 1 (some .long),
  .methodLink RM 195 yM_pop,
  .instanceMethod yM_pop,
  .code yM_pop cM_pop 6 none,
  .instanceMethod yM_look,
  .code yM_look cM_look 2 (some .int),
  .selects RM yM_fail yM_fail,
  .selects RM yM_where yM_where,
  .selects RM yM_get yM_get,
  .selects RM yM_set yM_set,
  .selects RM yM_setAc yM_setAc,
  .selects RM yM_over yM_over,
  .selects RM yM_go yM_go,
  .selects RM yM_skipIf yM_skipIf,
  .selects RM yM_goIf yM_goIf,
  .selects RM yM_count yM_count,
  .selects RM yM_effective yM_effective,
  .selects RM yM_flags yM_flags,
  .selects RM yM_makeStep yM_makeStep,
  .selects RM yM_obey yM_obey,
  .selects RM yM_source yM_source,
  .selects RM yM_place yM_place,
  .selects RM yM_keep yM_keep,
  .selects RM yM_move yM_move,
  .selects RM yM_sum yM_sum,
  .selects RM yM_multiply yM_multiply,
  .selects RM yM_logic yM_logic,
  .selects RM yM_halves yM_halves,
  .selects RM yM_compare yM_compare,
  .selects RM yM_test yM_test,
  .selects RM yM_bytes yM_bytes,
  .selects RM yM_flow yM_flow,
  .selects RM yM_jump yM_jump,
  .selects RM yM_shift yM_shift,
  .selects RM yM_block yM_block,
  .selects RM yM_push yM_push,
  .selects RM yM_pop yM_pop,
  .selects RM yM_deposit yM_deposit,
  .selects RM yM_examine yM_examine,
  .selects RM yM_number yM_number,
  .selects RM yM_segment yM_segment,
  .selects RM yM_start yM_start,
  .selects RM yM_run yM_run,
  .selects RM yM_look yM_look]
theorem hiM : (.initialized RM : Cond) ∈ WM := List.mem_of_getElem? (i := 0) rfl
theorem hnO_init_M : (.instanceMethod objectInit : Cond) ∈ WM := List.mem_of_getElem? (i := 1) rfl
theorem hoO_init_M : (.code objectInit ⟨#[0xb1]⟩ 1 none : Cond) ∈ WM := List.mem_of_getElem? (i := 2) rfl
theorem haM_long : (.arrayClass .long : Cond) ∈ WM := List.mem_of_getElem? (i := 3) rfl
theorem hnM_init : (.instanceMethod yM_init : Cond) ∈ WM := List.mem_of_getElem? (i := 4) rfl
theorem hoM_init : (.code yM_init cM_init 1 none : Cond) ∈ WM := List.mem_of_getElem? (i := 5) rfl
theorem hmM_1 : (.methodLink RM 1 objectInit : Cond) ∈ WM := List.mem_of_getElem? (i := 6) rfl
theorem hfM_store : (.fieldLink RM 7 RM "store" "[J" : Cond) ∈ WM := List.mem_of_getElem? (i := 7) rfl
theorem hfM_base : (.fieldLink RM 13 RM "base" "[I" : Cond) ∈ WM := List.mem_of_getElem? (i := 8) rfl
theorem hfM_bound : (.fieldLink RM 17 RM "bound" "[I" : Cond) ∈ WM := List.mem_of_getElem? (i := 9) rfl
theorem hfM_user : (.fieldLink RM 31 RM "user" "Z" : Cond) ∈ WM := List.mem_of_getElem? (i := 10) rfl
theorem hfM_overflow : (.fieldLink RM 44 RM "overflow" "Z" : Cond) ∈ WM := List.mem_of_getElem? (i := 11) rfl
theorem hfM_stopped : (.fieldLink RM 202 RM "stopped" "Z" : Cond) ∈ WM := List.mem_of_getElem? (i := 12) rfl
theorem hfM_pc : (.fieldLink RM 47 RM "pc" "I" : Cond) ∈ WM := List.mem_of_getElem? (i := 13) rfl
theorem hfM_steps : (.fieldLink RM 81 RM "steps" "I" : Cond) ∈ WM := List.mem_of_getElem? (i := 14) rfl
theorem hfM_traps : (.fieldLink RM 93 RM "traps" "I" : Cond) ∈ WM := List.mem_of_getElem? (i := 15) rfl
theorem hfM_latest : (.fieldLink RM 96 RM "latest" "I" : Cond) ∈ WM := List.mem_of_getElem? (i := 16) rfl
theorem hfM_wrong : (.fieldLink RM 27 RM "wrong" "I" : Cond) ∈ WM := List.mem_of_getElem? (i := 17) rfl
theorem hfM_taken : (.fieldLink RM 53 RM "taken" "I" : Cond) ∈ WM := List.mem_of_getElem? (i := 18) rfl
theorem hlM_store : (.laysFinal RM RM "store" "[J" : Cond) ∈ WM := List.mem_of_getElem? (i := 19) rfl
theorem hlM_base : (.laysFinal RM RM "base" "[I" : Cond) ∈ WM := List.mem_of_getElem? (i := 20) rfl
theorem hlM_bound : (.laysFinal RM RM "bound" "[I" : Cond) ∈ WM := List.mem_of_getElem? (i := 21) rfl
theorem hlM_user : (.lays RM RM "user" "Z" : Cond) ∈ WM := List.mem_of_getElem? (i := 22) rfl
theorem hlM_overflow : (.lays RM RM "overflow" "Z" : Cond) ∈ WM := List.mem_of_getElem? (i := 23) rfl
theorem hlM_stopped : (.lays RM RM "stopped" "Z" : Cond) ∈ WM := List.mem_of_getElem? (i := 24) rfl
theorem hlM_pc : (.lays RM RM "pc" "I" : Cond) ∈ WM := List.mem_of_getElem? (i := 25) rfl
theorem hlM_steps : (.lays RM RM "steps" "I" : Cond) ∈ WM := List.mem_of_getElem? (i := 26) rfl
theorem hlM_traps : (.lays RM RM "traps" "I" : Cond) ∈ WM := List.mem_of_getElem? (i := 27) rfl
theorem hlM_latest : (.lays RM RM "latest" "I" : Cond) ∈ WM := List.mem_of_getElem? (i := 28) rfl
theorem hlM_wrong : (.lays RM RM "wrong" "I" : Cond) ∈ WM := List.mem_of_getElem? (i := 29) rfl
theorem hlM_taken : (.lays RM RM "taken" "I" : Cond) ∈ WM := List.mem_of_getElem? (i := 30) rfl
theorem haM_int : (.arrayClass .int : Cond) ∈ WM := List.mem_of_getElem? (i := 31) rfl
theorem hnM_deposit : (.instanceMethod yM_deposit : Cond) ∈ WM := List.mem_of_getElem? (i := 32) rfl
theorem hoM_deposit : (.code yM_deposit cM_deposit 4 (some .boolean) : Cond) ∈ WM := List.mem_of_getElem? (i := 33) rfl
theorem hkM_22 : (.constantLong RM 22 68719476735 : Cond) ∈ WM := List.mem_of_getElem? (i := 34) rfl
theorem hnM_examine : (.instanceMethod yM_examine : Cond) ∈ WM := List.mem_of_getElem? (i := 35) rfl
theorem hoM_examine : (.code yM_examine cM_examine 2 (some .long) : Cond) ∈ WM := List.mem_of_getElem? (i := 36) rfl
theorem hkM_150 : (.constantLong RM 150 (-1) : Cond) ∈ WM := List.mem_of_getElem? (i := 37) rfl
theorem hnM_number : (.instanceMethod yM_number : Cond) ∈ WM := List.mem_of_getElem? (i := 38) rfl
theorem hoM_number : (.code yM_number cM_number 2 (some .long) : Cond) ∈ WM := List.mem_of_getElem? (i := 39) rfl
theorem hmM_146 : (.methodLink RM 146 yM_num : Cond) ∈ WM := List.mem_of_getElem? (i := 40) rfl
theorem hsM_num : (.static yM_num : Cond) ∈ WM := List.mem_of_getElem? (i := 41) rfl
theorem hoM_num : (.code yM_num cM_num 2 (some .long) : Cond) ∈ WM := List.mem_of_getElem? (i := 42) rfl
theorem hkM_20 : (.constantLong RM 20 34359738368 : Cond) ∈ WM := List.mem_of_getElem? (i := 43) rfl
theorem hnM_segment : (.instanceMethod yM_segment : Cond) ∈ WM := List.mem_of_getElem? (i := 44) rfl
theorem hoM_segment : (.code yM_segment cM_segment 4 (some .boolean) : Cond) ∈ WM := List.mem_of_getElem? (i := 45) rfl
theorem hnM_start : (.instanceMethod yM_start : Cond) ∈ WM := List.mem_of_getElem? (i := 46) rfl
theorem hoM_start : (.code yM_start cM_start 3 none : Cond) ∈ WM := List.mem_of_getElem? (i := 47) rfl
theorem hkM_26 : (.constant RM 26 262143 : Cond) ∈ WM := List.mem_of_getElem? (i := 48) rfl
theorem hnM_run : (.instanceMethod yM_run : Cond) ∈ WM := List.mem_of_getElem? (i := 49) rfl
theorem hoM_run : (.code yM_run cM_run 3 (some .int) : Cond) ∈ WM := List.mem_of_getElem? (i := 50) rfl
theorem hmM_205 : (.methodLink RM 205 yM_makeStep : Cond) ∈ WM := List.mem_of_getElem? (i := 51) rfl
theorem hnM_makeStep : (.instanceMethod yM_makeStep : Cond) ∈ WM := List.mem_of_getElem? (i := 52) rfl
theorem hoM_makeStep : (.code yM_makeStep cM_makeStep 5 none : Cond) ∈ WM := List.mem_of_getElem? (i := 53) rfl
theorem hmM_58 : (.methodLink RM 58 yM_get : Cond) ∈ WM := List.mem_of_getElem? (i := 54) rfl
theorem hnM_get : (.instanceMethod yM_get : Cond) ∈ WM := List.mem_of_getElem? (i := 55) rfl
theorem hoM_get : (.code yM_get cM_get 3 (some .long) : Cond) ∈ WM := List.mem_of_getElem? (i := 56) rfl
theorem hmM_40 : (.methodLink RM 40 yM_where : Cond) ∈ WM := List.mem_of_getElem? (i := 57) rfl
theorem hnM_where : (.instanceMethod yM_where : Cond) ∈ WM := List.mem_of_getElem? (i := 58) rfl
theorem hoM_where : (.code yM_where cM_where 5 (some .int) : Cond) ∈ WM := List.mem_of_getElem? (i := 59) rfl
theorem hkM_35 : (.constant RM 35 131072 : Cond) ∈ WM := List.mem_of_getElem? (i := 60) rfl
theorem hmM_36 : (.methodLink RM 36 yM_fail : Cond) ∈ WM := List.mem_of_getElem? (i := 61) rfl
theorem hnM_fail : (.instanceMethod yM_fail : Cond) ∈ WM := List.mem_of_getElem? (i := 62) rfl
theorem hoM_fail : (.code yM_fail cM_fail 2 none : Cond) ∈ WM := List.mem_of_getElem? (i := 63) rfl
theorem hmM_50 : (.methodLink RM 50 yM_go : Cond) ∈ WM := List.mem_of_getElem? (i := 64) rfl
theorem hnM_go : (.instanceMethod yM_go : Cond) ∈ WM := List.mem_of_getElem? (i := 65) rfl
theorem hoM_go : (.code yM_go cM_go 2 none : Cond) ∈ WM := List.mem_of_getElem? (i := 66) rfl
theorem hmM_84 : (.methodLink RM 84 yM_effective : Cond) ∈ WM := List.mem_of_getElem? (i := 67) rfl
theorem hnM_effective : (.instanceMethod yM_effective : Cond) ∈ WM := List.mem_of_getElem? (i := 68) rfl
theorem hoM_effective : (.code yM_effective cM_effective 9 (some .int) : Cond) ∈ WM := List.mem_of_getElem? (i := 69) rfl
theorem hkM_56 : (.constantLong RM 56 15 : Cond) ∈ WM := List.mem_of_getElem? (i := 70) rfl
theorem hmM_62 : (.methodLink RM 62 yM_right : Cond) ∈ WM := List.mem_of_getElem? (i := 71) rfl
theorem hsM_right : (.static yM_right : Cond) ∈ WM := List.mem_of_getElem? (i := 72) rfl
theorem hoM_right : (.code yM_right cM_right 2 (some .int) : Cond) ∈ WM := List.mem_of_getElem? (i := 73) rfl
theorem hkM_24 : (.constantLong RM 24 262144 : Cond) ∈ WM := List.mem_of_getElem? (i := 74) rfl
theorem hmM_66 : (.methodLink RM 66 yM_bit : Cond) ∈ WM := List.mem_of_getElem? (i := 75) rfl
theorem hsM_bit : (.static yM_bit : Cond) ∈ WM := List.mem_of_getElem? (i := 76) rfl
theorem hoM_bit : (.code yM_bit cM_bit 3 (some .int) : Cond) ∈ WM := List.mem_of_getElem? (i := 77) rfl
theorem hmM_70 : (.methodLink RM 70 yM_count : Cond) ∈ WM := List.mem_of_getElem? (i := 78) rfl
theorem hnM_count : (.instanceMethod yM_count : Cond) ∈ WM := List.mem_of_getElem? (i := 79) rfl
theorem hoM_count : (.code yM_count cM_count 1 none : Cond) ∈ WM := List.mem_of_getElem? (i := 80) rfl
theorem hkM_87 : (.constantLong RM 87 174 : Cond) ∈ WM := List.mem_of_getElem? (i := 81) rfl
theorem hmM_89 : (.methodLink RM 89 yM_obey : Cond) ∈ WM := List.mem_of_getElem? (i := 82) rfl
theorem hnM_obey : (.instanceMethod yM_obey : Cond) ∈ WM := List.mem_of_getElem? (i := 83) rfl
theorem hoM_obey : (.code yM_obey cM_obey 5 none : Cond) ∈ WM := List.mem_of_getElem? (i := 84) rfl
theorem hmM_99 : (.methodLink RM 99 yM_compare : Cond) ∈ WM := List.mem_of_getElem? (i := 85) rfl
theorem hnM_compare : (.instanceMethod yM_compare : Cond) ∈ WM := List.mem_of_getElem? (i := 86) rfl
theorem hoM_compare : (.code yM_compare cM_compare 12 none : Cond) ∈ WM := List.mem_of_getElem? (i := 87) rfl
theorem hmM_166 : (.methodLink RM 166 yM_holds : Cond) ∈ WM := List.mem_of_getElem? (i := 88) rfl
theorem hsM_holds : (.static yM_holds : Cond) ∈ WM := List.mem_of_getElem? (i := 89) rfl
theorem hoM_holds : (.code yM_holds cM_holds 3 (some .boolean) : Cond) ∈ WM := List.mem_of_getElem? (i := 90) rfl
theorem hmM_77 : (.methodLink RM 77 yM_holds0 : Cond) ∈ WM := List.mem_of_getElem? (i := 91) rfl
theorem hsM_holds0 : (.static yM_holds0 : Cond) ∈ WM := List.mem_of_getElem? (i := 92) rfl
theorem hoM_holds0 : (.code yM_holds0 cM_holds0 3 (some .boolean) : Cond) ∈ WM := List.mem_of_getElem? (i := 93) rfl
theorem hmM_169 : (.methodLink RM 169 yM_skipIf : Cond) ∈ WM := List.mem_of_getElem? (i := 94) rfl
theorem hnM_skipIf : (.instanceMethod yM_skipIf : Cond) ∈ WM := List.mem_of_getElem? (i := 95) rfl
theorem hoM_skipIf : (.code yM_skipIf cM_skipIf 2 none : Cond) ∈ WM := List.mem_of_getElem? (i := 96) rfl
theorem hkM_152 : (.constantLong RM 152 (-34359738368) : Cond) ∈ WM := List.mem_of_getElem? (i := 97) rfl
theorem hkM_172 : (.constantLong RM 172 34359738367 : Cond) ∈ WM := List.mem_of_getElem? (i := 98) rfl
theorem hmM_133 : (.methodLink RM 133 yM_over : Cond) ∈ WM := List.mem_of_getElem? (i := 99) rfl
theorem hnM_over : (.instanceMethod yM_over : Cond) ∈ WM := List.mem_of_getElem? (i := 100) rfl
theorem hoM_over : (.code yM_over cM_over 2 none : Cond) ∈ WM := List.mem_of_getElem? (i := 101) rfl
theorem hmM_123 : (.methodLink RM 123 yM_setAc : Cond) ∈ WM := List.mem_of_getElem? (i := 102) rfl
theorem hnM_setAc : (.instanceMethod yM_setAc : Cond) ∈ WM := List.mem_of_getElem? (i := 103) rfl
theorem hoM_setAc : (.code yM_setAc cM_setAc 4 none : Cond) ∈ WM := List.mem_of_getElem? (i := 104) rfl
theorem hmM_174 : (.methodLink RM 174 yM_goIf : Cond) ∈ WM := List.mem_of_getElem? (i := 105) rfl
theorem hnM_goIf : (.instanceMethod yM_goIf : Cond) ∈ WM := List.mem_of_getElem? (i := 106) rfl
theorem hoM_goIf : (.code yM_goIf cM_goIf 3 none : Cond) ∈ WM := List.mem_of_getElem? (i := 107) rfl
theorem hmM_127 : (.methodLink RM 127 yM_set : Cond) ∈ WM := List.mem_of_getElem? (i := 108) rfl
theorem hnM_set : (.instanceMethod yM_set : Cond) ∈ WM := List.mem_of_getElem? (i := 109) rfl
theorem hoM_set : (.code yM_set cM_set 5 none : Cond) ∈ WM := List.mem_of_getElem? (i := 110) rfl
theorem hmM_102 : (.methodLink RM 102 yM_logic : Cond) ∈ WM := List.mem_of_getElem? (i := 111) rfl
theorem hnM_logic : (.instanceMethod yM_logic : Cond) ∈ WM := List.mem_of_getElem? (i := 112) rfl
theorem hoM_logic : (.code yM_logic cM_logic 13 none : Cond) ∈ WM := List.mem_of_getElem? (i := 113) rfl
theorem hmM_130 : (.methodLink RM 130 yM_source : Cond) ∈ WM := List.mem_of_getElem? (i := 114) rfl
theorem hnM_source : (.instanceMethod yM_source : Cond) ∈ WM := List.mem_of_getElem? (i := 115) rfl
theorem hoM_source : (.code yM_source cM_source 3 (some .long) : Cond) ∈ WM := List.mem_of_getElem? (i := 116) rfl
theorem hmM_154 : (.methodLink RM 154 yM_keep : Cond) ∈ WM := List.mem_of_getElem? (i := 117) rfl
theorem hnM_keep : (.instanceMethod yM_keep : Cond) ∈ WM := List.mem_of_getElem? (i := 118) rfl
theorem hoM_keep : (.code yM_keep cM_keep 6 none : Cond) ∈ WM := List.mem_of_getElem? (i := 119) rfl
theorem hmM_105 : (.methodLink RM 105 yM_halves : Cond) ∈ WM := List.mem_of_getElem? (i := 120) rfl
theorem hnM_halves : (.instanceMethod yM_halves : Cond) ∈ WM := List.mem_of_getElem? (i := 121) rfl
theorem hoM_halves : (.code yM_halves cM_halves 15 none : Cond) ∈ WM := List.mem_of_getElem? (i := 122) rfl
theorem hmM_137 : (.methodLink RM 137 yM_left : Cond) ∈ WM := List.mem_of_getElem? (i := 123) rfl
theorem hsM_left : (.static yM_left : Cond) ∈ WM := List.mem_of_getElem? (i := 124) rfl
theorem hoM_left : (.code yM_left cM_left 2 (some .int) : Cond) ∈ WM := List.mem_of_getElem? (i := 125) rfl
theorem hkM_165 : (.constant RM 165 131071 : Cond) ∈ WM := List.mem_of_getElem? (i := 126) rfl
theorem hmM_73 : (.methodLink RM 73 yM_joined : Cond) ∈ WM := List.mem_of_getElem? (i := 127) rfl
theorem hsM_joined : (.static yM_joined : Cond) ∈ WM := List.mem_of_getElem? (i := 128) rfl
theorem hoM_joined : (.code yM_joined cM_joined 2 (some .long) : Cond) ∈ WM := List.mem_of_getElem? (i := 129) rfl
theorem hmM_142 : (.methodLink RM 142 yM_place : Cond) ∈ WM := List.mem_of_getElem? (i := 130) rfl
theorem hnM_place : (.instanceMethod yM_place : Cond) ∈ WM := List.mem_of_getElem? (i := 131) rfl
theorem hoM_place : (.code yM_place cM_place 6 none : Cond) ∈ WM := List.mem_of_getElem? (i := 132) rfl
theorem hmM_108 : (.methodLink RM 108 yM_test : Cond) ∈ WM := List.mem_of_getElem? (i := 133) rfl
theorem hnM_test : (.instanceMethod yM_test : Cond) ∈ WM := List.mem_of_getElem? (i := 134) rfl
theorem hoM_test : (.code yM_test cM_test 17 none : Cond) ∈ WM := List.mem_of_getElem? (i := 135) rfl
theorem hmM_111 : (.methodLink RM 111 yM_bytes : Cond) ∈ WM := List.mem_of_getElem? (i := 136) rfl
theorem hnM_bytes : (.instanceMethod yM_bytes : Cond) ∈ WM := List.mem_of_getElem? (i := 137) rfl
theorem hoM_bytes : (.code yM_bytes cM_bytes 16 none : Cond) ∈ WM := List.mem_of_getElem? (i := 138) rfl
theorem hkM_178 : (.constantLong RM 178 63 : Cond) ∈ WM := List.mem_of_getElem? (i := 139) rfl
theorem hkM_180 : (.constantLong RM 180 4095 : Cond) ∈ WM := List.mem_of_getElem? (i := 140) rfl
theorem hkM_161 : (.constantLong RM 161 262143 : Cond) ∈ WM := List.mem_of_getElem? (i := 141) rfl
theorem hmM_114 : (.methodLink RM 114 yM_move : Cond) ∈ WM := List.mem_of_getElem? (i := 142) rfl
theorem hnM_move : (.instanceMethod yM_move : Cond) ∈ WM := List.mem_of_getElem? (i := 143) rfl
theorem hoM_move : (.code yM_move cM_move 11 none : Cond) ∈ WM := List.mem_of_getElem? (i := 144) rfl
theorem hkM_140 : (.constantLong RM 140 68719476736 : Cond) ∈ WM := List.mem_of_getElem? (i := 145) rfl
theorem hmM_117 : (.methodLink RM 117 yM_sum : Cond) ∈ WM := List.mem_of_getElem? (i := 146) rfl
theorem hnM_sum : (.instanceMethod yM_sum : Cond) ∈ WM := List.mem_of_getElem? (i := 147) rfl
theorem hoM_sum : (.code yM_sum cM_sum 12 none : Cond) ∈ WM := List.mem_of_getElem? (i := 148) rfl
theorem hmM_157 : (.methodLink RM 157 yM_multiply : Cond) ∈ WM := List.mem_of_getElem? (i := 149) rfl
theorem hnM_multiply : (.instanceMethod yM_multiply : Cond) ∈ WM := List.mem_of_getElem? (i := 150) rfl
theorem hoM_multiply : (.code yM_multiply cM_multiply 28 none : Cond) ∈ WM := List.mem_of_getElem? (i := 151) rfl
theorem hkM_163 : (.constantLong RM 163 (-262144) : Cond) ∈ WM := List.mem_of_getElem? (i := 152) rfl
theorem hmM_120 : (.methodLink RM 120 yM_flow : Cond) ∈ WM := List.mem_of_getElem? (i := 153) rfl
theorem hnM_flow : (.instanceMethod yM_flow : Cond) ∈ WM := List.mem_of_getElem? (i := 154) rfl
theorem hoM_flow : (.code yM_flow cM_flow 8 none : Cond) ∈ WM := List.mem_of_getElem? (i := 155) rfl
theorem hmM_182 : (.methodLink RM 182 yM_shift : Cond) ∈ WM := List.mem_of_getElem? (i := 156) rfl
theorem hnM_shift : (.instanceMethod yM_shift : Cond) ∈ WM := List.mem_of_getElem? (i := 157) rfl
theorem hoM_shift : (.code yM_shift cM_shift 13 none : Cond) ∈ WM := List.mem_of_getElem? (i := 158) rfl
theorem hmM_185 : (.methodLink RM 185 yM_block : Cond) ∈ WM := List.mem_of_getElem? (i := 159) rfl
theorem hnM_block : (.instanceMethod yM_block : Cond) ∈ WM := List.mem_of_getElem? (i := 160) rfl
theorem hoM_block : (.code yM_block cM_block 6 none : Cond) ∈ WM := List.mem_of_getElem? (i := 161) rfl
theorem hmM_188 : (.methodLink RM 188 yM_jump : Cond) ∈ WM := List.mem_of_getElem? (i := 162) rfl
theorem hnM_jump : (.instanceMethod yM_jump : Cond) ∈ WM := List.mem_of_getElem? (i := 163) rfl
theorem hoM_jump : (.code yM_jump cM_jump 3 none : Cond) ∈ WM := List.mem_of_getElem? (i := 164) rfl
theorem hmM_192 : (.methodLink RM 192 yM_push : Cond) ∈ WM := List.mem_of_getElem? (i := 165) rfl
theorem hnM_push : (.instanceMethod yM_push : Cond) ∈ WM := List.mem_of_getElem? (i := 166) rfl
theorem hoM_push : (.code yM_push cM_push 7 none : Cond) ∈ WM := List.mem_of_getElem? (i := 167) rfl
theorem hmM_198 : (.methodLink RM 198 yM_flags : Cond) ∈ WM := List.mem_of_getElem? (i := 168) rfl
theorem hnM_flags : (.instanceMethod yM_flags : Cond) ∈ WM := List.mem_of_getElem? (i := 169) rfl
theorem hoM_flags : (.code yM_flags cM_flags 1 (some .long) : Cond) ∈ WM := List.mem_of_getElem? (i := 170) rfl
theorem hmM_195 : (.methodLink RM 195 yM_pop : Cond) ∈ WM := List.mem_of_getElem? (i := 171) rfl
theorem hnM_pop : (.instanceMethod yM_pop : Cond) ∈ WM := List.mem_of_getElem? (i := 172) rfl
theorem hoM_pop : (.code yM_pop cM_pop 6 none : Cond) ∈ WM := List.mem_of_getElem? (i := 173) rfl
theorem hnM_look : (.instanceMethod yM_look : Cond) ∈ WM := List.mem_of_getElem? (i := 174) rfl
theorem hoM_look : (.code yM_look cM_look 2 (some .int) : Cond) ∈ WM := List.mem_of_getElem? (i := 175) rfl
theorem hvM_fail : (.selects RM yM_fail yM_fail : Cond) ∈ WM := List.mem_of_getElem? (i := 176) rfl
theorem hvM_where : (.selects RM yM_where yM_where : Cond) ∈ WM := List.mem_of_getElem? (i := 177) rfl
theorem hvM_get : (.selects RM yM_get yM_get : Cond) ∈ WM := List.mem_of_getElem? (i := 178) rfl
theorem hvM_set : (.selects RM yM_set yM_set : Cond) ∈ WM := List.mem_of_getElem? (i := 179) rfl
theorem hvM_setAc : (.selects RM yM_setAc yM_setAc : Cond) ∈ WM := List.mem_of_getElem? (i := 180) rfl
theorem hvM_over : (.selects RM yM_over yM_over : Cond) ∈ WM := List.mem_of_getElem? (i := 181) rfl
theorem hvM_go : (.selects RM yM_go yM_go : Cond) ∈ WM := List.mem_of_getElem? (i := 182) rfl
theorem hvM_skipIf : (.selects RM yM_skipIf yM_skipIf : Cond) ∈ WM := List.mem_of_getElem? (i := 183) rfl
theorem hvM_goIf : (.selects RM yM_goIf yM_goIf : Cond) ∈ WM := List.mem_of_getElem? (i := 184) rfl
theorem hvM_count : (.selects RM yM_count yM_count : Cond) ∈ WM := List.mem_of_getElem? (i := 185) rfl
theorem hvM_effective : (.selects RM yM_effective yM_effective : Cond) ∈ WM := List.mem_of_getElem? (i := 186) rfl
theorem hvM_flags : (.selects RM yM_flags yM_flags : Cond) ∈ WM := List.mem_of_getElem? (i := 187) rfl
theorem hvM_makeStep : (.selects RM yM_makeStep yM_makeStep : Cond) ∈ WM := List.mem_of_getElem? (i := 188) rfl
theorem hvM_obey : (.selects RM yM_obey yM_obey : Cond) ∈ WM := List.mem_of_getElem? (i := 189) rfl
theorem hvM_source : (.selects RM yM_source yM_source : Cond) ∈ WM := List.mem_of_getElem? (i := 190) rfl
theorem hvM_place : (.selects RM yM_place yM_place : Cond) ∈ WM := List.mem_of_getElem? (i := 191) rfl
theorem hvM_keep : (.selects RM yM_keep yM_keep : Cond) ∈ WM := List.mem_of_getElem? (i := 192) rfl
theorem hvM_move : (.selects RM yM_move yM_move : Cond) ∈ WM := List.mem_of_getElem? (i := 193) rfl
theorem hvM_sum : (.selects RM yM_sum yM_sum : Cond) ∈ WM := List.mem_of_getElem? (i := 194) rfl
theorem hvM_multiply : (.selects RM yM_multiply yM_multiply : Cond) ∈ WM := List.mem_of_getElem? (i := 195) rfl
theorem hvM_logic : (.selects RM yM_logic yM_logic : Cond) ∈ WM := List.mem_of_getElem? (i := 196) rfl
theorem hvM_halves : (.selects RM yM_halves yM_halves : Cond) ∈ WM := List.mem_of_getElem? (i := 197) rfl
theorem hvM_compare : (.selects RM yM_compare yM_compare : Cond) ∈ WM := List.mem_of_getElem? (i := 198) rfl
theorem hvM_test : (.selects RM yM_test yM_test : Cond) ∈ WM := List.mem_of_getElem? (i := 199) rfl
theorem hvM_bytes : (.selects RM yM_bytes yM_bytes : Cond) ∈ WM := List.mem_of_getElem? (i := 200) rfl
theorem hvM_flow : (.selects RM yM_flow yM_flow : Cond) ∈ WM := List.mem_of_getElem? (i := 201) rfl
theorem hvM_jump : (.selects RM yM_jump yM_jump : Cond) ∈ WM := List.mem_of_getElem? (i := 202) rfl
theorem hvM_shift : (.selects RM yM_shift yM_shift : Cond) ∈ WM := List.mem_of_getElem? (i := 203) rfl
theorem hvM_block : (.selects RM yM_block yM_block : Cond) ∈ WM := List.mem_of_getElem? (i := 204) rfl
theorem hvM_push : (.selects RM yM_push yM_push : Cond) ∈ WM := List.mem_of_getElem? (i := 205) rfl
theorem hvM_pop : (.selects RM yM_pop yM_pop : Cond) ∈ WM := List.mem_of_getElem? (i := 206) rfl
theorem hvM_deposit : (.selects RM yM_deposit yM_deposit : Cond) ∈ WM := List.mem_of_getElem? (i := 207) rfl
theorem hvM_examine : (.selects RM yM_examine yM_examine : Cond) ∈ WM := List.mem_of_getElem? (i := 208) rfl
theorem hvM_number : (.selects RM yM_number yM_number : Cond) ∈ WM := List.mem_of_getElem? (i := 209) rfl
theorem hvM_segment : (.selects RM yM_segment yM_segment : Cond) ∈ WM := List.mem_of_getElem? (i := 210) rfl
theorem hvM_start : (.selects RM yM_start yM_start : Cond) ∈ WM := List.mem_of_getElem? (i := 211) rfl
theorem hvM_run : (.selects RM yM_run yM_run : Cond) ∈ WM := List.mem_of_getElem? (i := 212) rfl
theorem hvM_look : (.selects RM yM_look yM_look : Cond) ∈ WM := List.mem_of_getElem? (i := 213) rfl
set_option maxRecDepth 100000 in
theorem goodM : GoodIn WM WM := goodIn_sub (fun _ h => h) (by decide +kernel)
set_option maxRecDepth 100000 in
theorem inM : ∀ w ∈ u_ws RM TM 12, w ∈ WM := by decide +kernel
abbrev wX_init : List Cond := Cond.code yX_init cX_init 1 none :: WX
abbrev wX_deposit : List Cond := Cond.code yX_deposit cX_deposit 4 (some .boolean) :: WX
abbrev wX_examine : List Cond := Cond.code yX_examine cX_examine 2 (some .long) :: WX
abbrev wX_number : List Cond := Cond.code yX_number cX_number 2 (some .long) :: WX
abbrev wX_segment : List Cond := Cond.code yX_segment cX_segment 4 (some .boolean) :: WX
abbrev wX_start : List Cond := Cond.code yX_start cX_start 3 none :: WX
abbrev wX_run : List Cond := Cond.code yX_run cX_run 3 (some .int) :: WX
abbrev wX_look : List Cond := Cond.code yX_look cX_look 2 (some .int) :: WX
abbrev wX_step : List Cond := Cond.code yX_step cX_step 6 none :: WX
abbrev wX_enterTrap : List Cond := Cond.code yX_enterTrap cX_enterTrap 2 none :: WX
abbrev wX_raise : List Cond := Cond.code yX_raise cX_raise 2 none :: WX
abbrev wX_flags : List Cond := Cond.code yX_flags cX_flags 1 (some .int) :: WX
abbrev wX_pcWord : List Cond := Cond.code yX_pcWord cX_pcWord 1 (some .long) :: WX
abbrev wX_carryOut : List Cond := Cond.code yX_carryOut cX_carryOut 4 none :: WX
abbrev wX_isPlace : List Cond := Cond.code yX_isPlace cX_isPlace 1 (some .boolean) :: WX
abbrev wX_isExtent : List Cond := Cond.code yX_isExtent cX_isExtent 1 (some .boolean) :: WX
abbrev wX_placeOf : List Cond := Cond.code yX_placeOf cX_placeOf 3 (some .int) :: WX
abbrev wX_read : List Cond := Cond.code yX_read cX_read 3 (some .long) :: WX
abbrev wX_write : List Cond := Cond.code yX_write cX_write 5 none :: WX
abbrev wX_setAccumulator : List Cond := Cond.code yX_setAccumulator cX_setAccumulator 4 none :: WX
abbrev wX_setAccumulatorButZero : List Cond := Cond.code yX_setAccumulatorButZero cX_setAccumulatorButZero 4 none :: WX
abbrev wX_setOverflow : List Cond := Cond.code yX_setOverflow cX_setOverflow 1 none :: WX
abbrev wX_effective : List Cond := Cond.code yX_effective cX_effective 7 (some .int) :: WX
abbrev wX_take : List Cond := Cond.code yX_take cX_take 2 (some .long) :: WX
abbrev wX_indexed : List Cond := Cond.code yX_indexed cX_indexed 5 (some .int) :: WX
abbrev wX_isIndirect : List Cond := Cond.code yX_isIndirect cX_isIndirect 2 (some .boolean) :: WX
abbrev wX_operation : List Cond := Cond.code yX_operation cX_operation 2 (some .int) :: WX
abbrev wX_accumulator : List Cond := Cond.code yX_accumulator cX_accumulator 2 (some .int) :: WX
abbrev wX_wrapped : List Cond := Cond.code yX_wrapped cX_wrapped 1 (some .int) :: WX
abbrev wX_skipIf : List Cond := Cond.code yX_skipIf cX_skipIf 2 none :: WX
abbrev wX_jumpIf : List Cond := Cond.code yX_jumpIf cX_jumpIf 3 none :: WX
abbrev wX_left : List Cond := Cond.code yX_left cX_left 2 (some .int) :: WX
abbrev wX_right : List Cond := Cond.code yX_right cX_right 2 (some .int) :: WX
abbrev wX_joined : List Cond := Cond.code yX_joined cX_joined 2 (some .long) :: WX
abbrev wX_swapped : List Cond := Cond.code yX_swapped cX_swapped 2 (some .long) :: WX
abbrev wX_signed : List Cond := Cond.code yX_signed cX_signed 2 (some .long) :: WX
abbrev wX_fitted : List Cond := Cond.code yX_fitted cX_fitted 5 (some .long) :: WX
abbrev wX_source : List Cond := Cond.code yX_source cX_source 3 (some .long) :: WX
abbrev wX_movedSource : List Cond := Cond.code yX_movedSource cX_movedSource 4 (some .long) :: WX
abbrev wX_putMoved : List Cond := Cond.code yX_putMoved cX_putMoved 6 none :: WX
abbrev wX_putResult : List Cond := Cond.code yX_putResult cX_putResult 6 none :: WX
abbrev wX_move : List Cond := Cond.code yX_move cX_move 7 none :: WX
abbrev wX_changedToMove : List Cond := Cond.code yX_changedToMove cX_changedToMove 4 (some .long) :: WX
abbrev wX_sum : List Cond := Cond.code yX_sum cX_sum 10 none :: WX
abbrev wX_multiply : List Cond := Cond.code yX_multiply cX_multiply 9 none :: WX
abbrev wX_productFits : List Cond := Cond.code yX_productFits cX_productFits 6 (some .boolean) :: WX
abbrev wX_divide : List Cond := Cond.code yX_divide cX_divide 9 none :: WX
abbrev wX_logic : List Cond := Cond.code yX_logic cX_logic 12 none :: WX
abbrev wX_halves : List Cond := Cond.code yX_halves cX_halves 13 none :: WX
abbrev wX_otherHalf : List Cond := Cond.code yX_otherHalf cX_otherHalf 3 (some .int) :: WX
abbrev wX_test : List Cond := Cond.code yX_test cX_test 8 none :: WX
abbrev wX_testSkips : List Cond := Cond.code yX_testSkips cX_testSkips 3 (some .boolean) :: WX
abbrev wX_maskedChange : List Cond := Cond.code yX_maskedChange cX_maskedChange 5 (some .long) :: WX
abbrev wX_holds : List Cond := Cond.code yX_holds cX_holds 3 (some .boolean) :: WX
abbrev wX_compare : List Cond := Cond.code yX_compare cX_compare 7 none :: WX
abbrev wX_skipOnWord : List Cond := Cond.code yX_skipOnWord cX_skipOnWord 5 none :: WX
abbrev wX_countAndJump : List Cond := Cond.code yX_countAndJump cX_countAndJump 7 none :: WX
abbrev wX_countAndSkip : List Cond := Cond.code yX_countAndSkip cX_countAndSkip 7 none :: WX
abbrev wX_shift : List Cond := Cond.code yX_shift cX_shift 5 none :: WX
abbrev wX_shiftedAsNumber : List Cond := Cond.code yX_shiftedAsNumber cX_shiftedAsNumber 7 (some .long) :: WX
abbrev wX_rotated : List Cond := Cond.code yX_rotated cX_rotated 4 (some .long) :: WX
abbrev wX_shiftedAsBits : List Cond := Cond.code yX_shiftedAsBits cX_shiftedAsBits 3 (some .long) :: WX
abbrev wX_exchangeOrJump : List Cond := Cond.code yX_exchangeOrJump cX_exchangeOrJump 4 none :: WX
abbrev wX_exchange : List Cond := Cond.code yX_exchange cX_exchange 5 none :: WX
abbrev wX_block : List Cond := Cond.code yX_block cX_block 7 none :: WX
abbrev wX_jumpByAccumulator : List Cond := Cond.code yX_jumpByAccumulator cX_jumpByAccumulator 3 none :: WX
abbrev wX_moveHalves : List Cond := Cond.code yX_moveHalves cX_moveHalves 5 none :: WX
abbrev wX_growStack : List Cond := Cond.code yX_growStack cX_growStack 2 none :: WX
abbrev wX_shrinkStack : List Cond := Cond.code yX_shrinkStack cX_shrinkStack 2 none :: WX
abbrev wX_stack : List Cond := Cond.code yX_stack cX_stack 4 none :: WX
abbrev wX_bytes : List Cond := Cond.code yX_bytes cX_bytes 7 none :: WX
abbrev wX_position : List Cond := Cond.code yX_position cX_position 2 (some .int) :: WX
abbrev wX_size : List Cond := Cond.code yX_size cX_size 2 (some .int) :: WX
abbrev wX_byteMask : List Cond := Cond.code yX_byteMask cX_byteMask 2 (some .long) :: WX
abbrev wX_advancePointer : List Cond := Cond.code yX_advancePointer cX_advancePointer 7 none :: WX
abbrev wX_loadByte : List Cond := Cond.code yX_loadByte cX_loadByte 7 none :: WX
abbrev wX_depositByte : List Cond := Cond.code yX_depositByte cX_depositByte 9 none :: WX
abbrev wM_init : List Cond := Cond.code yM_init cM_init 1 none :: WM
abbrev wM_num : List Cond := Cond.code yM_num cM_num 2 (some .long) :: WM
abbrev wM_left : List Cond := Cond.code yM_left cM_left 2 (some .int) :: WM
abbrev wM_right : List Cond := Cond.code yM_right cM_right 2 (some .int) :: WM
abbrev wM_joined : List Cond := Cond.code yM_joined cM_joined 2 (some .long) :: WM
abbrev wM_bit : List Cond := Cond.code yM_bit cM_bit 3 (some .int) :: WM
abbrev wM_fail : List Cond := Cond.code yM_fail cM_fail 2 none :: WM
abbrev wM_where : List Cond := Cond.code yM_where cM_where 5 (some .int) :: WM
abbrev wM_get : List Cond := Cond.code yM_get cM_get 3 (some .long) :: WM
abbrev wM_set : List Cond := Cond.code yM_set cM_set 5 none :: WM
abbrev wM_setAc : List Cond := Cond.code yM_setAc cM_setAc 4 none :: WM
abbrev wM_over : List Cond := Cond.code yM_over cM_over 2 none :: WM
abbrev wM_go : List Cond := Cond.code yM_go cM_go 2 none :: WM
abbrev wM_skipIf : List Cond := Cond.code yM_skipIf cM_skipIf 2 none :: WM
abbrev wM_goIf : List Cond := Cond.code yM_goIf cM_goIf 3 none :: WM
abbrev wM_count : List Cond := Cond.code yM_count cM_count 1 none :: WM
abbrev wM_effective : List Cond := Cond.code yM_effective cM_effective 9 (some .int) :: WM
abbrev wM_flags : List Cond := Cond.code yM_flags cM_flags 1 (some .long) :: WM
abbrev wM_holds : List Cond := Cond.code yM_holds cM_holds 3 (some .boolean) :: WM
abbrev wM_holds0 : List Cond := Cond.code yM_holds0 cM_holds0 3 (some .boolean) :: WM
abbrev wM_makeStep : List Cond := Cond.code yM_makeStep cM_makeStep 5 none :: WM
abbrev wM_obey : List Cond := Cond.code yM_obey cM_obey 5 none :: WM
abbrev wM_source : List Cond := Cond.code yM_source cM_source 3 (some .long) :: WM
abbrev wM_place : List Cond := Cond.code yM_place cM_place 6 none :: WM
abbrev wM_keep : List Cond := Cond.code yM_keep cM_keep 6 none :: WM
abbrev wM_move : List Cond := Cond.code yM_move cM_move 11 none :: WM
abbrev wM_sum : List Cond := Cond.code yM_sum cM_sum 12 none :: WM
abbrev wM_multiply : List Cond := Cond.code yM_multiply cM_multiply 28 none :: WM
abbrev wM_logic : List Cond := Cond.code yM_logic cM_logic 13 none :: WM
abbrev wM_halves : List Cond := Cond.code yM_halves cM_halves 15 none :: WM
abbrev wM_compare : List Cond := Cond.code yM_compare cM_compare 12 none :: WM
abbrev wM_test : List Cond := Cond.code yM_test cM_test 17 none :: WM
abbrev wM_bytes : List Cond := Cond.code yM_bytes cM_bytes 16 none :: WM
abbrev wM_flow : List Cond := Cond.code yM_flow cM_flow 8 none :: WM
abbrev wM_jump : List Cond := Cond.code yM_jump cM_jump 3 none :: WM
abbrev wM_shift : List Cond := Cond.code yM_shift cM_shift 13 none :: WM
abbrev wM_block : List Cond := Cond.code yM_block cM_block 6 none :: WM
abbrev wM_push : List Cond := Cond.code yM_push cM_push 7 none :: WM
abbrev wM_pop : List Cond := Cond.code yM_pop cM_pop 6 none :: WM
abbrev wM_deposit : List Cond := Cond.code yM_deposit cM_deposit 4 (some .boolean) :: WM
abbrev wM_examine : List Cond := Cond.code yM_examine cM_examine 2 (some .long) :: WM
abbrev wM_number : List Cond := Cond.code yM_number cM_number 2 (some .long) :: WM
abbrev wM_segment : List Cond := Cond.code yM_segment cM_segment 4 (some .boolean) :: WM
abbrev wM_start : List Cond := Cond.code yM_start cM_start 3 none :: WM
abbrev wM_run : List Cond := Cond.code yM_run cM_run 3 (some .int) :: WM
abbrev wM_look : List Cond := Cond.code yM_look cM_look 2 (some .int) :: WM
abbrev wJ_abs : List Cond := Cond.code yJ_abs cJ_abs 2 (some .long) :: []
abbrev wJ_floorMod : List Cond := Cond.code yJ_floorMod cJ_floorMod 3 (some .int) :: []
abbrev wJ_max : List Cond := Cond.code yJ_max cJ_max 2 (some .int) :: []
abbrev wJ_min : List Cond := Cond.code yJ_min cJ_min 2 (some .int) :: []
